/-! the ice ahead, the free way, and all told in one number -/
def fIc (d : Nat) (I : jj_I) (i k : Nat) (J : jj_I) : Prop := (∀ a, offA a → J a = I a) ∧ (∀ l, l < i → ∀ q, q < 187 → J (aAh l) q = f_ice l d I q) ∧ ∀ q, q < k → J (aAh i) q = f_ice i d I q
theorem fIc_0 {d : Nat} {I : jj_I} : fIc d I 0 0 I := ⟨fun _ _ => rfl, fun l h => absurd h (Nat.not_lt_zero l), fun q h => absurd h (Nat.not_lt_zero q)⟩
theorem fIc_s {d i k : Nat} {I J : jj_I} {v : Int32} (hi : i < 7) (h : fIc d I i k J) (hv : v = f_ice i d I k) : fIc d I i (k + 1) (jj_u J (aAh i) k v) := by
  obtain ⟨h1, h2, h3⟩ := h
  refine ⟨fun a ha => (jj_u_ne (by unfold offA at ha; unfold aAh; omega)).trans (h1 a ha), fun l hl q hq => by rw [jj_u_ne (by unfold aAh; omega)]; exact h2 l hl q hq, fun q hq => ?_⟩
  by_cases e : q = k
  · subst e; rw [jj_u_eq, hv]
  · rw [jj_u_nk e]; exact h3 q (by omega)
theorem fIc_n {d i : Nat} {I J : jj_I} (h : fIc d I i 187 J) : fIc d I (i + 1) 0 J :=
  ⟨h.1, fun l hl q hq => by
    by_cases e : l = i
    · subst e; exact h.2.2 q hq
    · exact h.2.1 l (by omega) q hq, fun q hq => absurd hq (Nat.not_lt_zero q)⟩
set_option maxHeartbeats 4000000 in
set_option maxRecDepth 100000 in
theorem c_foretellIce {l : Launch} (hfl : l.stackTraces = false) {D : jj_D} {n : Nat} {K : jj_K} {I : jj_I} {P : jj_P} {G : jj_G} (hly : ly K P) {H M B N d : Nat} (hs : sf 0 H M B N I) (hd : I (aR 0) 0 = nI d) (hd2 : d < 2000000000) :
    jj_Met l D yX5_foretellIce (jj_ws yX5_foretellIce cX5_foretellIce 5 none) { frames := 2, cells := 0, slots := 0, locals := 43 } [.ref 1] n K I P G (jj_RS (fun r J => r = none ∧ fIc d I (H - 1) 0 J) n K P G) jj_noX := by
  refine jj_of hfl (by decide +kernel) [some (.ref 1), none, none, none, none] rfl rfl ?_
  intro X hXl hX hSt
  have hH := hs.1.1
  have hH2 := hs.1.2
  have hM := hs.2.1.1
  have hM2 := hs.2.1.2
  have hB := hs.2.2.1.1
  have hB2 := hs.2.2.1.2
  have hN := hs.2.2.2.1.1
  have hN2 := hs.2.2.2.1.2
  refine jr_aload_n hX dX5_foretellIce_0 rfl ?_
  refine jr_getr hX kF_X5_20 rfl (ly_kI hly) (ly_p5_1 hly) dX5_foretellIce_1 ?_
  refine jr_ret (jr_runV hX hSt kM_X5_298 (c_X3_legs (jj_fl hX) hly (by omega) hH hH2) rfl rfl (ly_kR hly (by first | assumption | omega)) ⟨_, _, rfl, by decide⟩ dX5_foretellIce_4 rfl ⟨jj_b1 rfl, jj_b1 rfl⟩ rfl) ?_
  refine jr_istore_n hX dX5_foretellIce_7 rfl ?_
  refine jr_iconst (v := 0) hX dX5_foretellIce_8 (by decide) ?_
  refine jr_istore_n hX dX5_foretellIce_9 rfl ?_
  have hloop : ∀ k, k ≤ H - 1 → ∀ J : jj_I, fIc d I k 0 J → jj_J X D 5 0 0 (jj_MQ X D { frames := 2, cells := 0, slots := 0, locals := 43 } (jj_RS (fun r J => r = none ∧ fIc d I (H - 1) 0 J) n K P G) jj_noX) (n) (K) (J) (P) (G) 10 [some (.ref 1), some (.int (nI (H - 1))), some (.int (nI k)), none, none] [] := by
    refine jj_for (H - 1) _ ?_ (fun k hk ih => ?_)
    · intro J o
      refine jr_iload_n hX dX5_foretellIce_10 rfl ?_
      refine jr_iload_n hX dX5_foretellIce_11 rfl ?_
      refine jr_icmp_ge (tgt := 88) hX dX5_foretellIce_12 (by decide) (fun c_12 => ?_) (fun c_12 => absurd (nI_le (Nat.le_refl _) (by omega)) c_12)
      exact jr_vret hX dX5_foretellIce_88 rfl rfl ⟨⟨rfl, o⟩, rfl, rfl, rfl, rfl⟩
    · intro J o
      refine jr_iload_n hX dX5_foretellIce_10 rfl ?_
      refine jr_iload_n hX dX5_foretellIce_11 rfl ?_
      refine jr_icmp_ge (tgt := 88) hX dX5_foretellIce_12 (by decide) (fun c_12 => absurd c_12 (nI_ge (by assumption) (by omega))) (fun c_12 => ?_)
      refine jr_aload_n hX dX5_foretellIce_15 rfl ?_
      refine jr_getr hX kF_X5_26 rfl (ly_kI hly) (ly_p5_3 hly) dX5_foretellIce_16 ?_
      refine jr_iload_n hX dX5_foretellIce_19 rfl ?_
      refine jr_aAs hX hly (by first | with_reducible rfl | with_reducible assumption | rfl) (by first | assumption | omega) dX5_foretellIce_20 ?_
      refine jr_astore_n hX dX5_foretellIce_21 rfl ?_
      refine jr_aload_n hX dX5_foretellIce_22 rfl ?_
      refine jr_iconst (v := 0) hX dX5_foretellIce_23 (by decide) ?_
      refine jr_aload_n hX dX5_foretellIce_24 rfl ?_
      refine jr_getr hX kF_X5_20 rfl (ly_kI hly) (ly_p5_1 hly) dX5_foretellIce_25 ?_
      refine jr_getr hX kF_X5_230 rfl (ly_kR hly (by first | assumption | omega)) (ly_p3_4 hly (by first | assumption | omega)) dX5_foretellIce_28 ?_
      refine jr_iload_n hX dX5_foretellIce_31 rfl ?_
      refine jr_iald hX (by first | with_reducible assumption | with_reducible exact ly_kWm hly (by first | assumption | omega) | with_reducible exact ly_kLd hly (by first | assumption | omega) | with_reducible exact ly_kIc hly (by first | assumption | omega) | with_reducible exact ly_kBe hly (by first | assumption | omega) | with_reducible exact ly_kPr hly (by first | assumption | omega) | with_reducible exact ly_kMt hly (by first | assumption | omega) (by first | assumption | omega) | with_reducible exact ly_kBc hly (by first | assumption | omega) (by first | assumption | omega) | with_reducible exact ly_k151 hly | with_reducible exact ly_k152 hly | with_reducible exact ly_k153 hly | with_reducible exact ly_k154 hly | with_reducible exact ly_k155 hly | with_reducible exact ly_k156 hly | with_reducible exact ly_k157 hly | with_reducible exact ly_k158 hly | with_reducible exact ly_k159 hly | with_reducible exact ly_k160 hly | with_reducible exact ly_kAh hly (by first | assumption | omega)) (by first | with_reducible rfl | with_reducible assumption | rfl) (by omega) dX5_foretellIce_32 ?_
      refine jr_iast hX (by first | with_reducible assumption | with_reducible exact ly_kWm hly (by first | assumption | omega) | with_reducible exact ly_kLd hly (by first | assumption | omega) | with_reducible exact ly_kIc hly (by first | assumption | omega) | with_reducible exact ly_kBe hly (by first | assumption | omega) | with_reducible exact ly_kPr hly (by first | assumption | omega) | with_reducible exact ly_kMt hly (by first | assumption | omega) (by first | assumption | omega) | with_reducible exact ly_kBc hly (by first | assumption | omega) (by first | assumption | omega) | with_reducible exact ly_k151 hly | with_reducible exact ly_k152 hly | with_reducible exact ly_k153 hly | with_reducible exact ly_k154 hly | with_reducible exact ly_k155 hly | with_reducible exact ly_k156 hly | with_reducible exact ly_k157 hly | with_reducible exact ly_k158 hly | with_reducible exact ly_k159 hly | with_reducible exact ly_k160 hly | with_reducible exact ly_kAh hly (by first | assumption | omega)) (by first | assumption | with_reducible exact aMt_0 | with_reducible exact aBc_0 | with_reducible exact aWm_0 | with_reducible exact aLd_0 | with_reducible exact aIc_0 | with_reducible exact aBe_0 | with_reducible exact aPr_0 | with_reducible exact aAh_0 | decide | omega) nI_0.symm (by omega) dX5_foretellIce_33 ?_
      refine jr_iconst (v := 1) hX dX5_foretellIce_34 (by decide) ?_
      refine jr_istore hX dX5_foretellIce_35 rfl ?_
      have hin : ∀ j, j ≤ 186 → ∀ J2 : jj_I, fIc d I k (j + 1) J2 → jj_J X D 5 0 0 (jj_MQ X D { frames := 2, cells := 0, slots := 0, locals := 43 } (jj_RS (fun r J => r = none ∧ fIc d I (H - 1) 0 J) n K P G) jj_noX) (n) (K) (J2) (P) (G) 37 [some (.ref 1), some (.int (nI (H - 1))), some (.int (nI k)), some (.ref (aAh k)), some (.int (nI (j + 1)))] [] := by
        refine jj_for (186) _ ?_ (fun j hj ih => ?_)
        · intro J2 q
          refine jr_iload hX dX5_foretellIce_37 rfl ?_
          refine jr_aload_n hX dX5_foretellIce_39 rfl ?_
          refine jr_alen (t := 10) hX (by decide) (by first | with_reducible assumption | with_reducible exact ly_kWm hly (by first | assumption | omega) | with_reducible exact ly_kLd hly (by first | assumption | omega) | with_reducible exact ly_kIc hly (by first | assumption | omega) | with_reducible exact ly_kBe hly (by first | assumption | omega) | with_reducible exact ly_kPr hly (by first | assumption | omega) | with_reducible exact ly_kMt hly (by first | assumption | omega) (by first | assumption | omega) | with_reducible exact ly_kBc hly (by first | assumption | omega) (by first | assumption | omega) | with_reducible exact ly_k151 hly | with_reducible exact ly_k152 hly | with_reducible exact ly_k153 hly | with_reducible exact ly_k154 hly | with_reducible exact ly_k155 hly | with_reducible exact ly_k156 hly | with_reducible exact ly_k157 hly | with_reducible exact ly_k158 hly | with_reducible exact ly_k159 hly | with_reducible exact ly_k160 hly | with_reducible exact ly_kAh hly (by first | assumption | omega)) dX5_foretellIce_40 ?_
          refine jr_icmp_ge (tgt := 82) hX dX5_foretellIce_41 (by decide) (fun c_41 => ?_) (fun c_41 => absurd (nI_le (Nat.le_refl _) (by omega)) c_41)
          refine jr_iinc hX dX5_foretellIce_82 rfl (by first | with_reducible exact jj_inc _ | with_reducible exact jj_inc1 _) rfl ?_
          refine jr_goto (tgt := 10) hX dX5_foretellIce_85 (by decide) ?_
          exact jr_forget (fun _ _ h => h) (fun i v h => by rcases i with _ | _ | _ | _ | _ | i <;> first | exact h | exact absurd h (by simp)) (ih _ (fIc_n q))
        · intro J2 q
          refine jr_iload hX dX5_foretellIce_37 rfl ?_
          refine jr_aload_n hX dX5_foretellIce_39 rfl ?_
          refine jr_alen (t := 10) hX (by decide) (by first | with_reducible assumption | with_reducible exact ly_kWm hly (by first | assumption | omega) | with_reducible exact ly_kLd hly (by first | assumption | omega) | with_reducible exact ly_kIc hly (by first | assumption | omega) | with_reducible exact ly_kBe hly (by first | assumption | omega) | with_reducible exact ly_kPr hly (by first | assumption | omega) | with_reducible exact ly_kMt hly (by first | assumption | omega) (by first | assumption | omega) | with_reducible exact ly_kBc hly (by first | assumption | omega) (by first | assumption | omega) | with_reducible exact ly_k151 hly | with_reducible exact ly_k152 hly | with_reducible exact ly_k153 hly | with_reducible exact ly_k154 hly | with_reducible exact ly_k155 hly | with_reducible exact ly_k156 hly | with_reducible exact ly_k157 hly | with_reducible exact ly_k158 hly | with_reducible exact ly_k159 hly | with_reducible exact ly_k160 hly | with_reducible exact ly_kAh hly (by first | assumption | omega)) dX5_foretellIce_40 ?_
          refine jr_icmp_ge (tgt := 82) hX dX5_foretellIce_41 (by decide) (fun c_41 => absurd c_41 (nI_ge (by omega) (by omega))) (fun c_41 => ?_)
          refine jr_aload_n hX dX5_foretellIce_44 rfl ?_
          refine jr_iload hX dX5_foretellIce_45 rfl ?_
          refine jr_aload_n hX dX5_foretellIce_47 rfl ?_
          refine jr_iload hX dX5_foretellIce_48 rfl ?_
          refine jr_iconst (v := 1) hX dX5_foretellIce_50 (by decide) ?_
          refine jr_isub hX dX5_foretellIce_51 ?_
          rw [nI_pred]
          refine jr_iald hX (by first | with_reducible assumption | with_reducible exact ly_kWm hly (by first | assumption | omega) | with_reducible exact ly_kLd hly (by first | assumption | omega) | with_reducible exact ly_kIc hly (by first | assumption | omega) | with_reducible exact ly_kBe hly (by first | assumption | omega) | with_reducible exact ly_kPr hly (by first | assumption | omega) | with_reducible exact ly_kMt hly (by first | assumption | omega) (by first | assumption | omega) | with_reducible exact ly_kBc hly (by first | assumption | omega) (by first | assumption | omega) | with_reducible exact ly_k151 hly | with_reducible exact ly_k152 hly | with_reducible exact ly_k153 hly | with_reducible exact ly_k154 hly | with_reducible exact ly_k155 hly | with_reducible exact ly_k156 hly | with_reducible exact ly_k157 hly | with_reducible exact ly_k158 hly | with_reducible exact ly_k159 hly | with_reducible exact ly_k160 hly | with_reducible exact ly_kAh hly (by first | assumption | omega)) (by first | with_reducible rfl | with_reducible assumption | rfl) (by omega) dX5_foretellIce_52 ?_
          refine jr_aload_n hX dX5_foretellIce_53 rfl ?_
          refine jr_getr hX kF_X5_20 rfl (ly_kI hly) (ly_p5_1 hly) dX5_foretellIce_54 ?_
          refine jr_aload_n hX dX5_foretellIce_57 rfl ?_
          refine jr_getr hX kF_X5_20 rfl (ly_kI hly) (ly_p5_1 hly) dX5_foretellIce_58 ?_
          refine jr_geti hX kF_X5_180 rfl (ly_kR hly (by first | assumption | omega)) dX5_foretellIce_61 ?_
          refine jr_iload hX dX5_foretellIce_64 rfl ?_
          refine jr_iadd hX dX5_foretellIce_66 ?_
          rw [q.1 _ (Or.inl (by decide)), hd, nI_add]
          refine jr_iconst (v := 1) hX dX5_foretellIce_67 (by decide) ?_
          refine jr_isub hX dX5_foretellIce_68 ?_
          rw [show d + (j + 1) = (d + j) + 1 from rfl, nI_pred]
          refine jr_ret (jr_runV hX hSt kM_X5_233 (c_X3_warmOn (jj_fl hX) hly (by omega) (by omega)) rfl rfl (ly_kR hly (by first | assumption | omega)) ⟨_, _, rfl, by decide⟩ dX5_foretellIce_69 rfl ⟨jj_b1 rfl, jj_b1 rfl⟩ rfl) ?_
          refine jr_ret (jr_runS hX hSt kM_X5_236 (c_X5_iceBehind (jj_fl hX)) rfl rfl dX5_foretellIce_72 rfl ⟨jj_b1 rfl, jj_b1 rfl⟩ rfl) ?_
          refine jr_iast hX (by first | with_reducible assumption | with_reducible exact ly_kWm hly (by first | assumption | omega) | with_reducible exact ly_kLd hly (by first | assumption | omega) | with_reducible exact ly_kIc hly (by first | assumption | omega) | with_reducible exact ly_kBe hly (by first | assumption | omega) | with_reducible exact ly_kPr hly (by first | assumption | omega) | with_reducible exact ly_kMt hly (by first | assumption | omega) (by first | assumption | omega) | with_reducible exact ly_kBc hly (by first | assumption | omega) (by first | assumption | omega) | with_reducible exact ly_k151 hly | with_reducible exact ly_k152 hly | with_reducible exact ly_k153 hly | with_reducible exact ly_k154 hly | with_reducible exact ly_k155 hly | with_reducible exact ly_k156 hly | with_reducible exact ly_k157 hly | with_reducible exact ly_k158 hly | with_reducible exact ly_k159 hly | with_reducible exact ly_k160 hly | with_reducible exact ly_kAh hly (by first | assumption | omega)) (by first | assumption | with_reducible exact aMt_0 | with_reducible exact aBc_0 | with_reducible exact aWm_0 | with_reducible exact aLd_0 | with_reducible exact aIc_0 | with_reducible exact aBe_0 | with_reducible exact aPr_0 | with_reducible exact aAh_0 | decide | omega) (by first | with_reducible rfl | with_reducible assumption | rfl) (by omega) dX5_foretellIce_75 ?_
          refine jr_iinc hX dX5_foretellIce_76 rfl (by first | with_reducible exact jj_inc _ | with_reducible exact jj_inc1 _) rfl ?_
          refine jr_goto (tgt := 37) hX dX5_foretellIce_79 (by decide) ?_
          exact ih _ (fIc_s (by omega) q (by rw [show j + 1 = j + 1 from rfl]; show _ = f_ib (f_ice k d I j) (I (aWm 0) ((d + j) % 40)); rw [q.2.2 j (by omega), q.1 _ (Or.inl (by decide))]))
      exact hin 0 (Nat.zero_le _) _ (fIc_s (by omega) o (by rw [o.1 _ (Or.inl (by decide))]; rfl))
  exact hloop 0 (Nat.zero_le _) I fIc_0
set_option maxHeartbeats 4000000 in
set_option maxRecDepth 100000 in
theorem c_isFreeWay {l : Launch} (hfl : l.stackTraces = false) {D : jj_D} {n : Nat} {K : jj_K} {I : jj_I} {P : jj_P} {G : jj_G} (hly : ly K P) {H a b wt : Nat} (hL : sfL 0 H I) (ha : a < H) (hb : b < H) (hH2 : H ≤ 8) (hwt : wt ≤ 60) :
    jj_Met l D yX5_isFreeWay (jj_ws yX5_isFreeWay cX5_isFreeWay 10 (some .boolean)) { frames := 1, cells := 0, slots := 0, locals := 22 } [.ref 1, .int (nI a), .int (nI b), .int (nI wt)] n K I P G (jj_R (some (.int (if f_fwb a b wt I then 1 else 0))) (n) (K) (I) (P) (G)) jj_noX := by
  refine jj_of hfl (by decide +kernel) [some (.ref 1), some (.int (nI a)), some (.int (nI b)), some (.int (nI wt)), none, none, none, none, none, none] rfl rfl ?_
  intro X hXl hX hSt
  have c10 : jj_J X D 10 0 0 (jj_MQ X D { frames := 1, cells := 0, slots := 0, locals := 22 } (jj_R (some (.int (if f_fwb a b wt I then 1 else 0))) (n) (K) (I) (P) (G)) jj_noX) (n) (K) (I) (P) (G) 10 [some (.ref 1), some (.int (nI a)), some (.int (nI b)), some (.int (nI wt)), none, none, none, none, none, none] [.int (if a < b then 1 else 0)] := by
    skip
    refine jr_istore hX dX5_isFreeWay_10 rfl ?_
    refine jr_iload_n hX dX5_isFreeWay_12 rfl ?_
    refine jr_iload_n hX dX5_isFreeWay_13 rfl ?_
    refine jr_isub hX dX5_isFreeWay_14 ?_
    refine jr_mabs (y := 0) hX kM_X5_135 dX5_isFreeWay_15 rfl ⟨jj_b1 rfl, jj_b1 rfl⟩ ?_
    rw [jl_abs (by omega) (by omega)]
    refine jr_istore hX dX5_isFreeWay_18 rfl ?_
    refine jr_iload_n hX dX5_isFreeWay_20 rfl ?_
    refine jr_istore hX dX5_isFreeWay_21 rfl ?_
    refine jr_iconst (v := 0) hX dX5_isFreeWay_23 (by decide) ?_
    refine jr_istore hX dX5_isFreeWay_24 rfl ?_
    have hloop : ∀ k, k ≤ f_lw a b → ∀ day, day ≤ wt + 18 * k → f_fwb a b wt I = f_fw (f_opn I) (f_lg a b) (f_du a b I) (f_lw a b - k) k day → jj_J X D 10 0 0 (jj_MQ X D { frames := 1, cells := 0, slots := 0, locals := 22 } (jj_R (some (.int (if f_fwb a b wt I then 1 else 0))) (n) (K) (I) (P) (G)) jj_noX) (n) (K) (I) (P) (G) 26 [some (.ref 1), some (.int (nI a)), some (.int (nI b)), some (.int (nI wt)), some (.int (if a < b then 1 else 0)), some (.int (nI (f_lw a b))), some (.int (nI day)), some (.int (nI k)), none, none] [] := by
      refine jj_for (f_lw a b) _ ?_ (fun k hk ih => ?_)
      · intro day hday hv
        have hlw : f_lw a b < 8 := by unfold f_lw; split <;> omega
        refine jr_iload hX dX5_isFreeWay_26 rfl ?_
        refine jr_iload hX dX5_isFreeWay_28 rfl ?_
        refine jr_icmp_ge (tgt := 102) hX dX5_isFreeWay_30 (by decide) (fun c_30 => ?_) (fun c_30 => absurd (nI_le (Nat.le_refl _) (by omega)) c_30)
        refine jr_iconst (v := 1) hX dX5_isFreeWay_102 (by decide) ?_
        exact jr_zret hX (by simp) dX5_isFreeWay_103 rfl rfl ⟨jj_ri (by rw [hv, Nat.sub_self]; rfl), rfl, rfl, rfl, rfl, rfl⟩
      · intro day hday hv
        have hlw : f_lw a b < 8 := by unfold f_lw; split <;> omega
        have hlg : f_lg a b k + 1 < H := by unfold f_lg; unfold f_lw at hk; split <;> split at hk <;> omega
        have edu : f_do 0 (f_lg a b k) (if a < b then 1 else 0) I = nI (f_du a b I k) ∧ f_du a b I k ≤ 18 := by
          obtain ⟨t, h1, h2, h3⟩ := hL _ hlg
          have e : f_do 0 (f_lg a b k) (if a < b then 1 else 0) I = nI (if a < b then t else 2 * t) := by
            unfold f_do
            by_cases h : a < b
            · rw [if_pos h, if_pos h, if_neg (by decide), h3]
            · rw [if_neg h, if_neg h, if_pos rfl, h3, show (2 : Int32) = nI 2 from rfl, pk_mul]
          unfold f_du
          rw [e, nv_nI (by split <;> omega)]
          exact ⟨rfl, by split <;> omega⟩
        refine jr_iload hX dX5_isFreeWay_26 rfl ?_
        refine jr_iload hX dX5_isFreeWay_28 rfl ?_
        refine jr_icmp_ge (tgt := 102) hX dX5_isFreeWay_30 (by decide) (fun c_30 => absurd c_30 (nI_ge (by assumption) (by omega))) (fun c_30 => ?_)
        refine jr_iload hX dX5_isFreeWay_33 rfl ?_
        refine jr_if_eq (tgt := 45) hX dX5_isFreeWay_35 (by decide) (fun c_35 => ?_) (fun c_35 => ?_)
        · have hab : ¬ a < b := fun h => absurd c_35 (by rw [if_pos h]; decide)
          have hka : k + 1 ≤ a := by unfold f_lw at hk; rw [if_neg hab] at hk; omega
          refine jr_iload_n hX dX5_isFreeWay_45 rfl ?_
          refine jr_iconst (v := 1) hX dX5_isFreeWay_46 (by decide) ?_
          refine jr_isub hX dX5_isFreeWay_47 ?_
          rw [show nI a - 1 = nI (a - 1) by rw [show a = (a - 1) + 1 by omega, nI_pred]; rfl]
          refine jr_iload hX dX5_isFreeWay_48 rfl ?_
          refine jr_isub hX dX5_isFreeWay_50 ?_
          rw [pk_sub (by omega), show a - 1 - k = f_lg a b k by unfold f_lg; rw [if_neg hab]]
          refine jr_istore hX dX5_isFreeWay_51 rfl ?_
          refine jr_iload hX dX5_isFreeWay_53 rfl ?_
          refine jr_aload_n hX dX5_isFreeWay_55 rfl ?_
          refine jr_getr hX kF_X5_20 rfl (ly_kI hly) (ly_p5_1 hly) dX5_isFreeWay_56 ?_
          refine jr_iload hX dX5_isFreeWay_59 rfl ?_
          refine jr_iload hX dX5_isFreeWay_61 rfl ?_
          refine jr_ret (jr_runV hX hSt kM_X5_348 (c_X3_daysOver (jj_fl hX) hly (by omega) rfl (by omega)) rfl rfl (ly_kR hly (by first | assumption | omega)) ⟨_, _, rfl, by decide⟩ dX5_isFreeWay_63 rfl ⟨jj_b1 rfl, jj_b1 rfl⟩ rfl) ?_
          rw [edu.1]
          refine jr_iadd hX dX5_isFreeWay_66 ?_
          rw [nI_add]
          refine jr_istore hX dX5_isFreeWay_67 rfl ?_
          have hin : ∀ j, j ≤ f_du a b I k → f_ao (f_opn I (f_lg a b k)) day j = true → jj_J X D 10 0 0 (jj_MQ X D { frames := 1, cells := 0, slots := 0, locals := 22 } (jj_R (some (.int (if f_fwb a b wt I then 1 else 0))) (n) (K) (I) (P) (G)) jj_noX) (n) (K) (I) (P) (G) 69 [some (.ref 1), some (.int (nI a)), some (.int (nI b)), some (.int (nI wt)), some (.int (if a < b then 1 else 0)), some (.int (nI (f_lw a b))), some (.int (nI (day + j))), some (.int (nI k)), some (.int (nI (f_lg a b k))), some (.int (nI (day + f_du a b I k)))] [] := by
            refine jj_for (f_du a b I k) _ ?_ (fun j hj ih => ?_)
            · intro q
              refine jr_iload hX dX5_isFreeWay_69 rfl ?_
              refine jr_iload hX dX5_isFreeWay_71 rfl ?_
              refine jr_icmp_ge (tgt := 96) hX dX5_isFreeWay_73 (by decide) (fun c_73 => ?_) (fun c_73 => absurd (nI_le (Nat.le_refl _) (by omega)) c_73)
              refine jr_iinc hX dX5_isFreeWay_96 rfl (by first | with_reducible exact jj_inc _ | with_reducible exact jj_inc1 _) rfl ?_
              refine jr_goto (tgt := 26) hX dX5_isFreeWay_99 (by decide) ?_
              exact jr_forget (fun _ _ h => h) (fun i v h => by rcases i with _ | _ | _ | _ | _ | _ | _ | _ | _ | _ | i <;> first | exact h | exact absurd h (by simp)) (ih (day + f_du a b I k) (by omega) (by rw [hv, show f_lw a b - k = (f_lw a b - (k + 1)) + 1 by omega]; simp only [f_fw, q, Bool.true_and]))
            · intro q
              refine jr_iload hX dX5_isFreeWay_69 rfl ?_
              refine jr_iload hX dX5_isFreeWay_71 rfl ?_
              refine jr_icmp_ge (tgt := 96) hX dX5_isFreeWay_73 (by decide) (fun c_73 => absurd c_73 (nI_ge (by omega) (by omega))) (fun c_73 => ?_)
              refine jr_iinc hX dX5_isFreeWay_76 rfl (by first | with_reducible exact jj_inc _ | with_reducible exact jj_inc1 _) rfl ?_
              refine jr_aload_n hX dX5_isFreeWay_79 rfl ?_
              refine jr_getr hX kF_X5_26 rfl (ly_kI hly) (ly_p5_3 hly) dX5_isFreeWay_80 ?_
              refine jr_iload hX dX5_isFreeWay_83 rfl ?_
              refine jr_aAs hX hly (by first | with_reducible rfl | with_reducible assumption | rfl) (by first | assumption | omega) dX5_isFreeWay_85 ?_
              refine jr_iload hX dX5_isFreeWay_86 rfl ?_
              refine jr_iald hX (by first | with_reducible assumption | with_reducible exact ly_kWm hly (by first | assumption | omega) | with_reducible exact ly_kLd hly (by first | assumption | omega) | with_reducible exact ly_kIc hly (by first | assumption | omega) | with_reducible exact ly_kBe hly (by first | assumption | omega) | with_reducible exact ly_kPr hly (by first | assumption | omega) | with_reducible exact ly_kMt hly (by first | assumption | omega) (by first | assumption | omega) | with_reducible exact ly_kBc hly (by first | assumption | omega) (by first | assumption | omega) | with_reducible exact ly_k151 hly | with_reducible exact ly_k152 hly | with_reducible exact ly_k153 hly | with_reducible exact ly_k154 hly | with_reducible exact ly_k155 hly | with_reducible exact ly_k156 hly | with_reducible exact ly_k157 hly | with_reducible exact ly_k158 hly | with_reducible exact ly_k159 hly | with_reducible exact ly_k160 hly | with_reducible exact ly_kAh hly (by first | assumption | omega)) (by first | with_reducible rfl | with_reducible assumption | rfl) (by omega) dX5_isFreeWay_88 ?_
              refine jr_bipush (v := 10) hX dX5_isFreeWay_89 (by decide) ?_
              refine jr_icmp_le (tgt := 69) hX dX5_isFreeWay_91 (by decide) (fun c_91 => ?_) (fun c_91 => ?_)
              · exact ih (by simp only [f_ao, q, Bool.true_and]; exact decide_eq_true c_91)
              · refine jr_iconst (v := 0) hX dX5_isFreeWay_94 (by decide) ?_
                exact jr_zret hX (by simp) dX5_isFreeWay_95 rfl rfl ⟨jj_ri (by rw [show f_fwb a b wt I = false by rw [hv, show f_lw a b - k = (f_lw a b - (k + 1)) + 1 by omega]; simp only [f_fw]; rw [f_ao_f (show f_opn I (f_lg a b k) (day + j + 1) = false from decide_eq_false c_91) hj, Bool.false_and]]; rfl), rfl, rfl, rfl, rfl, rfl⟩
          exact hin 0 (Nat.zero_le _) rfl
        · have hab : a < b := Decidable.byContradiction (fun h => c_35 (if_neg h))
          refine jr_iload_n hX dX5_isFreeWay_38 rfl ?_
          refine jr_iload hX dX5_isFreeWay_39 rfl ?_
          refine jr_iadd hX dX5_isFreeWay_41 ?_
          rw [nI_add, show a + k = f_lg a b k by unfold f_lg; rw [if_pos hab]]
          refine jr_goto (tgt := 51) hX dX5_isFreeWay_42 (by decide) ?_
          refine jr_istore hX dX5_isFreeWay_51 rfl ?_
          refine jr_iload hX dX5_isFreeWay_53 rfl ?_
          refine jr_aload_n hX dX5_isFreeWay_55 rfl ?_
          refine jr_getr hX kF_X5_20 rfl (ly_kI hly) (ly_p5_1 hly) dX5_isFreeWay_56 ?_
          refine jr_iload hX dX5_isFreeWay_59 rfl ?_
          refine jr_iload hX dX5_isFreeWay_61 rfl ?_
          refine jr_ret (jr_runV hX hSt kM_X5_348 (c_X3_daysOver (jj_fl hX) hly (by omega) rfl (by omega)) rfl rfl (ly_kR hly (by first | assumption | omega)) ⟨_, _, rfl, by decide⟩ dX5_isFreeWay_63 rfl ⟨jj_b1 rfl, jj_b1 rfl⟩ rfl) ?_
          rw [edu.1]
          refine jr_iadd hX dX5_isFreeWay_66 ?_
          rw [nI_add]
          refine jr_istore hX dX5_isFreeWay_67 rfl ?_
          have hin : ∀ j, j ≤ f_du a b I k → f_ao (f_opn I (f_lg a b k)) day j = true → jj_J X D 10 0 0 (jj_MQ X D { frames := 1, cells := 0, slots := 0, locals := 22 } (jj_R (some (.int (if f_fwb a b wt I then 1 else 0))) (n) (K) (I) (P) (G)) jj_noX) (n) (K) (I) (P) (G) 69 [some (.ref 1), some (.int (nI a)), some (.int (nI b)), some (.int (nI wt)), some (.int (if a < b then 1 else 0)), some (.int (nI (f_lw a b))), some (.int (nI (day + j))), some (.int (nI k)), some (.int (nI (f_lg a b k))), some (.int (nI (day + f_du a b I k)))] [] := by
            refine jj_for (f_du a b I k) _ ?_ (fun j hj ih => ?_)
            · intro q
              refine jr_iload hX dX5_isFreeWay_69 rfl ?_
              refine jr_iload hX dX5_isFreeWay_71 rfl ?_
              refine jr_icmp_ge (tgt := 96) hX dX5_isFreeWay_73 (by decide) (fun c_73 => ?_) (fun c_73 => absurd (nI_le (Nat.le_refl _) (by omega)) c_73)
              refine jr_iinc hX dX5_isFreeWay_96 rfl (by first | with_reducible exact jj_inc _ | with_reducible exact jj_inc1 _) rfl ?_
              refine jr_goto (tgt := 26) hX dX5_isFreeWay_99 (by decide) ?_
              exact jr_forget (fun _ _ h => h) (fun i v h => by rcases i with _ | _ | _ | _ | _ | _ | _ | _ | _ | _ | i <;> first | exact h | exact absurd h (by simp)) (ih (day + f_du a b I k) (by omega) (by rw [hv, show f_lw a b - k = (f_lw a b - (k + 1)) + 1 by omega]; simp only [f_fw, q, Bool.true_and]))
            · intro q
              refine jr_iload hX dX5_isFreeWay_69 rfl ?_
              refine jr_iload hX dX5_isFreeWay_71 rfl ?_
              refine jr_icmp_ge (tgt := 96) hX dX5_isFreeWay_73 (by decide) (fun c_73 => absurd c_73 (nI_ge (by omega) (by omega))) (fun c_73 => ?_)
              refine jr_iinc hX dX5_isFreeWay_76 rfl (by first | with_reducible exact jj_inc _ | with_reducible exact jj_inc1 _) rfl ?_
              refine jr_aload_n hX dX5_isFreeWay_79 rfl ?_
              refine jr_getr hX kF_X5_26 rfl (ly_kI hly) (ly_p5_3 hly) dX5_isFreeWay_80 ?_
              refine jr_iload hX dX5_isFreeWay_83 rfl ?_
              refine jr_aAs hX hly (by first | with_reducible rfl | with_reducible assumption | rfl) (by first | assumption | omega) dX5_isFreeWay_85 ?_
              refine jr_iload hX dX5_isFreeWay_86 rfl ?_
              refine jr_iald hX (by first | with_reducible assumption | with_reducible exact ly_kWm hly (by first | assumption | omega) | with_reducible exact ly_kLd hly (by first | assumption | omega) | with_reducible exact ly_kIc hly (by first | assumption | omega) | with_reducible exact ly_kBe hly (by first | assumption | omega) | with_reducible exact ly_kPr hly (by first | assumption | omega) | with_reducible exact ly_kMt hly (by first | assumption | omega) (by first | assumption | omega) | with_reducible exact ly_kBc hly (by first | assumption | omega) (by first | assumption | omega) | with_reducible exact ly_k151 hly | with_reducible exact ly_k152 hly | with_reducible exact ly_k153 hly | with_reducible exact ly_k154 hly | with_reducible exact ly_k155 hly | with_reducible exact ly_k156 hly | with_reducible exact ly_k157 hly | with_reducible exact ly_k158 hly | with_reducible exact ly_k159 hly | with_reducible exact ly_k160 hly | with_reducible exact ly_kAh hly (by first | assumption | omega)) (by first | with_reducible rfl | with_reducible assumption | rfl) (by omega) dX5_isFreeWay_88 ?_
              refine jr_bipush (v := 10) hX dX5_isFreeWay_89 (by decide) ?_
              refine jr_icmp_le (tgt := 69) hX dX5_isFreeWay_91 (by decide) (fun c_91 => ?_) (fun c_91 => ?_)
              · exact ih (by simp only [f_ao, q, Bool.true_and]; exact decide_eq_true c_91)
              · refine jr_iconst (v := 0) hX dX5_isFreeWay_94 (by decide) ?_
                exact jr_zret hX (by simp) dX5_isFreeWay_95 rfl rfl ⟨jj_ri (by rw [show f_fwb a b wt I = false by rw [hv, show f_lw a b - k = (f_lw a b - (k + 1)) + 1 by omega]; simp only [f_fw]; rw [f_ao_f (show f_opn I (f_lg a b k) (day + j + 1) = false from decide_eq_false c_91) hj, Bool.false_and]]; rfl), rfl, rfl, rfl, rfl, rfl⟩
          exact hin 0 (Nat.zero_le _) rfl
    exact hloop 0 (Nat.zero_le _) wt (by omega) (by unfold f_fwb; rfl)
  refine jr_iload_n hX dX5_isFreeWay_0 rfl ?_
  refine jr_iload_n hX dX5_isFreeWay_1 rfl ?_
  refine jr_icmp_ge (tgt := 9) hX dX5_isFreeWay_2 (by decide) (fun c_2 => ?_) (fun c_2 => ?_)
  · refine jr_iconst (v := 0) hX dX5_isFreeWay_9 (by decide) ?_
    rw [if_neg (fun h => absurd (nI_lt h (by omega)) (Int32.not_lt.mpr c_2))] at c10
    exact c10
  · refine jr_iconst (v := 1) hX dX5_isFreeWay_5 (by decide) ?_
    refine jr_goto (tgt := 10) hX dX5_isFreeWay_6 (by decide) ?_
    rw [if_pos (Nat.lt_of_not_le (fun h => c_2 (nI_le h (by omega))))] at c10
    exact c10
set_option maxHeartbeats 4000000 in
set_option maxRecDepth 100000 in
theorem c_latest_x1 {l : Launch} (hfl : l.stackTraces = false) {D : jj_D} {n : Nat} {K : jj_K} {I : jj_I} {P : jj_P} {G : jj_G} (hly : ly K P) {H M B N d : Nat} {a : Int32} {b : Int32} (hs : sf 0 H M B N I) (hd : I (aR 0) 0 = nI d) (hd2 : d < 2000000000) (h_a : a < 0 ∨ nI H ≤ a) :
    jj_Met l D yX5_latest (jj_ws yX5_latest cX5_latest 4 (some .int)) { frames := 8, cells := 1, slots := 6, locals := 132 } [.ref 1, .int a, .int b] n K I P G jj_noR (jj_E "java/lang/IndexOutOfBoundsException" n K I P G) := by
  refine jj_of hfl (by decide +kernel) [some (.ref 1), some (.int a), some (.int b), none] rfl rfl ?_
  intro X hXl hX hSt
  have hH := hs.1.1
  have hH2 := hs.1.2
  have hM := hs.2.1.1
  have hM2 := hs.2.1.2
  have hB := hs.2.2.1.1
  have hB2 := hs.2.2.1.2
  have hN := hs.2.2.2.1.1
  have hN2 := hs.2.2.2.1.2
  refine jr_aload_n hX dX5_latest_0 rfl ?_
  refine jr_iload_n hX dX5_latest_1 rfl ?_
  exact jr_thr hX (jr_runV hX hSt kM_X5_54 (c_needHarbour_x (jj_fl hX) hly h_a hH) rfl rfl (ly_kI hly) ⟨_, _, rfl, by decide⟩ dX5_latest_2 rfl ⟨jj_b1 rfl, jj_b1 rfl⟩ rfl) rfl rfl (fun n1 hn => ⟨rfl, hn, rfl, rfl, rfl, rfl⟩)
set_option maxHeartbeats 4000000 in
set_option maxRecDepth 100000 in
theorem c_latest_x2 {l : Launch} (hfl : l.stackTraces = false) {D : jj_D} {n : Nat} {K : jj_K} {I : jj_I} {P : jj_P} {G : jj_G} (hly : ly K P) {H M B N d : Nat} {a : Nat} {b : Int32} (hs : sf 0 H M B N I) (hd : I (aR 0) 0 = nI d) (hd2 : d < 2000000000) (h_a : a < H) (h_b : b < 0 ∨ nI H ≤ b) :
    jj_Met l D yX5_latest (jj_ws yX5_latest cX5_latest 4 (some .int)) { frames := 8, cells := 1, slots := 6, locals := 132 } [.ref 1, .int (nI a), .int b] n K I P G jj_noR (jj_E "java/lang/IndexOutOfBoundsException" n K I P G) := by
  refine jj_of hfl (by decide +kernel) [some (.ref 1), some (.int (nI a)), some (.int b), none] rfl rfl ?_
  intro X hXl hX hSt
  have hH := hs.1.1
  have hH2 := hs.1.2
  have hM := hs.2.1.1
  have hM2 := hs.2.1.2
  have hB := hs.2.2.1.1
  have hB2 := hs.2.2.1.2
  have hN := hs.2.2.2.1.1
  have hN2 := hs.2.2.2.1.2
  refine jr_aload_n hX dX5_latest_0 rfl ?_
  refine jr_iload_n hX dX5_latest_1 rfl ?_
  refine jr_void (jr_runV hX hSt kM_X5_54 (c_needHarbour_ok (jj_fl hX) hly h_a hH (by omega)) rfl rfl (ly_kI hly) ⟨_, _, rfl, by decide⟩ dX5_latest_2 rfl ⟨jj_b1 rfl, jj_b1 rfl⟩ rfl) ?_
  refine jr_aload_n hX dX5_latest_5 rfl ?_
  refine jr_iload_n hX dX5_latest_6 rfl ?_
  exact jr_thr hX (jr_runV hX hSt kM_X5_54 (c_needHarbour_x (jj_fl hX) hly h_b hH) rfl rfl (ly_kI hly) ⟨_, _, rfl, by decide⟩ dX5_latest_7 rfl ⟨jj_b1 rfl, jj_b1 rfl⟩ rfl) rfl rfl (fun n1 hn => ⟨rfl, hn, rfl, rfl, rfl, rfl⟩)
set_option maxHeartbeats 4000000 in
set_option maxRecDepth 100000 in
theorem c_latest_ok {l : Launch} (hfl : l.stackTraces = false) {D : jj_D} {n : Nat} {K : jj_K} {I : jj_I} {P : jj_P} {G : jj_G} (hly : ly K P) {H M B N d : Nat} {a b : Nat} (hs : sf 0 H M B N I) (hd : I (aR 0) 0 = nI d) (hd2 : d < 2000000000) (hL : sfL 0 H I) (h_a : a < H) (h_b : b < H) :
    jj_Met l D yX5_latest (jj_ws yX5_latest cX5_latest 4 (some .int)) { frames := 8, cells := 0, slots := 0, locals := 132 } [.ref 1, .int (nI a), .int (nI b)] n K I P G (jj_RS (fun r J => r = some (.int (f_lt (fun wt => f_fwb a b wt J) 61)) ∧ fIc d I (H - 1) 0 J) n K P G) jj_noX := by
  refine jj_of hfl (by decide +kernel) [some (.ref 1), some (.int (nI a)), some (.int (nI b)), none] rfl rfl ?_
  intro X hXl hX hSt
  have hH := hs.1.1
  have hH2 := hs.1.2
  have hM := hs.2.1.1
  have hM2 := hs.2.1.2
  have hB := hs.2.2.1.1
  have hB2 := hs.2.2.1.2
  have hN := hs.2.2.2.1.1
  have hN2 := hs.2.2.2.1.2
  refine jr_aload_n hX dX5_latest_0 rfl ?_
  refine jr_iload_n hX dX5_latest_1 rfl ?_
  refine jr_void (jr_runV hX hSt kM_X5_54 (c_needHarbour_ok (jj_fl hX) hly h_a hH (by omega)) rfl rfl (ly_kI hly) ⟨_, _, rfl, by decide⟩ dX5_latest_2 rfl ⟨jj_b1 rfl, jj_b1 rfl⟩ rfl) ?_
  refine jr_aload_n hX dX5_latest_5 rfl ?_
  refine jr_iload_n hX dX5_latest_6 rfl ?_
  refine jr_void (jr_runV hX hSt kM_X5_54 (c_needHarbour_ok (jj_fl hX) hly h_b hH (by omega)) rfl rfl (ly_kI hly) ⟨_, _, rfl, by decide⟩ dX5_latest_7 rfl ⟨jj_b1 rfl, jj_b1 rfl⟩ rfl) ?_
  refine jr_aload_n hX dX5_latest_10 rfl ?_
  refine jr_rel (jr_runV hX hSt kM_X5_247 (c_foretellIce (jj_fl hX) hly hs hd hd2) rfl rfl (ly_kI hly) ⟨_, _, rfl, by decide⟩ dX5_latest_11 rfl ⟨jj_b1 rfl, jj_b1 rfl⟩ rfl) ?_
  rintro r J ⟨rfl, o⟩
  simp only [Option.toList, List.nil_append]
  have hL1 : sfL 0 H J := fun l hl => by rw [o.1 _ (Or.inl (by decide))]; exact hL l hl
  refine jr_bipush (v := 60) hX dX5_latest_14 (by decide) ?_
  refine jr_istore_n hX dX5_latest_16 rfl ?_
  have hloop : ∀ k, k ≤ 61 → f_lt (fun wt => f_fwb a b wt J) 61 = f_lt (fun wt => f_fwb a b wt J) (61 - k) → jj_J X D 4 0 0 (jj_MQ X D { frames := 8, cells := 0, slots := 0, locals := 132 } (jj_RS (fun r J => r = some (.int (f_lt (fun wt => f_fwb a b wt J) 61)) ∧ fIc d I (H - 1) 0 J) n K P G) jj_noX) (n) (K) (J) (P) (G) 17 [some (.ref 1), some (.int (nI a)), some (.int (nI b)), some (.int (nI (61 - k) - 1))] [] := by
    refine jj_for (61) _ ?_ (fun k hk ih => ?_)
    · intro hv
      refine jr_iload_n hX dX5_latest_17 rfl ?_
      refine jr_if_lt (tgt := 39) hX dX5_latest_18 (by decide) (fun c_18 => ?_) (fun c_18 => absurd (by decide) c_18)
      refine jr_iconst (v := -1) hX dX5_latest_39 (by decide) ?_
      exact jr_iret hX dX5_latest_40 rfl rfl ⟨⟨by rw [hv]; rfl, o⟩, rfl, rfl, rfl, rfl⟩
    · intro hv
      have e0 : nI (61 - k) - 1 = nI (60 - k) := by rw [show 61 - k = (60 - k) + 1 by omega, nI_pred]
      rw [e0]
      refine jr_iload_n hX dX5_latest_17 rfl ?_
      refine jr_if_lt (tgt := 39) hX dX5_latest_18 (by decide) (fun c_18 => absurd c_18 (nI_pos (by omega))) (fun c_18 => ?_)
      refine jr_aload_n hX dX5_latest_21 rfl ?_
      refine jr_iload_n hX dX5_latest_22 rfl ?_
      refine jr_iload_n hX dX5_latest_23 rfl ?_
      refine jr_iload_n hX dX5_latest_24 rfl ?_
      refine jr_ret (jr_runV hX hSt kM_X5_250 (c_isFreeWay (jj_fl hX) hly hL1 h_a h_b hH2 (show 60 - k ≤ 60 by omega)) rfl rfl (ly_kI hly) ⟨_, _, rfl, by decide⟩ dX5_latest_25 rfl ⟨jj_b1 rfl, jj_b1 rfl⟩ rfl) ?_
      refine jr_if_eq (tgt := 33) hX dX5_latest_28 (by decide) (fun c_28 => ?_) (fun c_28 => ?_)
      · refine jr_iinc hX dX5_latest_33 rfl (by first | with_reducible assumption | with_reducible exact jj_dec1 _) rfl ?_
        refine jr_goto (tgt := 17) hX dX5_latest_36 (by decide) ?_
        rw [show 61 - (k + 1) = 60 - k by omega] at ih
        exact ih (by rw [hv, show 61 - k = (60 - k) + 1 by omega]; simp only [f_lt]; rw [if_neg (fun h => absurd c_28 (by rw [if_pos h]; decide))])
      · refine jr_iload_n hX dX5_latest_31 rfl ?_
        exact jr_iret hX dX5_latest_32 rfl rfl ⟨⟨by rw [hv, show 61 - k = (60 - k) + 1 by omega]; simp only [f_lt]; rw [if_pos (Decidable.byContradiction (fun h => c_28 (if_neg h)))], o⟩, rfl, rfl, rfl, rfl⟩
  exact hloop 0 (Nat.zero_le _) rfl
