/-! the world: counts, and how a day goes by -/
def f_py (w k : Nat) (I : jj_I) : jj_I := if I (aB w k) 3 = 1 then (if 0 < I (aM w (nv (I (aB w k) 0))) 0 then jj_u I (aM w (nv (I (aB w k) 0))) 0 (I (aM w (nv (I (aB w k) 0))) 0 - 1) else jj_u I (aB w k) 3 0) else I
def f_so (w k : Nat) (I : jj_I) : jj_I :=
  if I (aB w k) 4 < I (aB w k) 6 then
    if q_ol w I (nv (I (aB w k) 4)) = 0 then I else
      let J := jj_u (jj_u I (aB w k) 3 2) (aB w k) 5 (I (aB w k) 4)
      let M := jj_u J (aB w k) 4 (J (aB w k) 4 + 1)
      jj_u M (aB w k) 7 (f_do w (nv (I (aB w k) 4)) 1 M - 1)
  else
    if q_ol w I (nv (I (aB w k) 4 - 1)) = 0 then I else
      let J := jj_u (jj_u I (aB w k) 3 2) (aB w k) 5 (I (aB w k) 4 - 1)
      let M := jj_u J (aB w k) 4 (J (aB w k) 4 - 1)
      jj_u M (aB w k) 7 (f_do w (nv (I (aB w k) 4 - 1)) 0 M - 1)
def f_g1 (w k : Nat) (I : jj_I) : jj_I :=
  if (I (aB w k) 3 = 0 ∨ I (aB w k) 3 = 1) ∧ ¬ I (aB w k) 4 = I (aB w k) 6 then f_so w k I
  else if I (aB w k) 3 = 2 ∧ ¬ q_ol w I (nv (I (aB w k) 5)) = 0 then jj_u I (aB w k) 7 (I (aB w k) 7 - 1) else I
def f_g2 (w k : Nat) (I : jj_I) : jj_I := if I (aB w k) 3 = 2 ∧ ¬ 0 < I (aB w k) 7 then jj_u I (aB w k) 3 0 else I
def f_go (w k : Nat) (I : jj_I) : jj_I := f_g2 w k (f_g1 w k I)
def f_bi (w k H : Nat) (I : jj_I) : jj_I := if I (aB w k) 3 = 2 ∧ ¬ I (aIc w) (nv (I (aB w k) 5)) ≤ 20 then f_lh w k I else if I (aB w k) 3 = 0 ∧ ¬ f_ia w (nv (I (aB w k) 4)) H I ≤ 20 then f_lh w k I else I
def f_ce (w k : Nat) (I : jj_I) : Nat := nv (I (aD w k) 2) * 4 + nv (I (aD w k) 3)
def f_se (w k : Nat) (I : jj_I) : jj_I :=
  if I (aD w k) 6 = 0 ∧ I (aD w k) 5 ≤ I (aR w) 0 then
    let a := nv (I (aD w k) 1)
    let b := nv (I (aD w k) 0)
    let c := f_ce w k I
    let x := I (aD w k) 4 * I (aPr w) c
    if I (aMt w a) c < I (aD w k) 4 then
      if I (aM w a) 0 < x then jj_u I (aD w k) 6 2
      else
        let J := jj_u I (aM w a) 0 (I (aM w a) 0 - x)
        jj_u (jj_u J (aM w b) 0 (J (aM w b) 0 + x)) (aD w k) 6 1
    else jj_u (f_hd w a b c (I (aD w k) 4) I) (aD w k) 6 1
  else I
def f_pd (w H B N d : Nat) (I : jj_I) : jj_I :=
  let J := it (f_se w) (it (fun k M => f_bi w k H (f_go w k M)) (it (f_py w) (f_fr w H d I) B) B) N
  jj_u J (aR w) 0 (J (aR w) 0 + 1)
def f_cpW (M B N : Nat) (I : jj_I) : jj_I := it f_cpD (it f_cpB (it f_cpM (f_cf (aW 0) (aW 1) 3 (f_cf (aW 0) (aW 1) 2 (f_cf (aW 0) (aW 1) 1 (f_cpR I)))) M) B) N
/-- what a boat's places keep to -/
def sfB (w H : Nat) (I : jj_I) (b : Nat) : Prop := (∃ o, o < 5 ∧ I (aB w b) 0 = nI o) ∧ (I (aB w b) 3 = 0 ∨ I (aB w b) 3 = 1 ∨ I (aB w b) 3 = 2 ∨ I (aB w b) 3 = 3) ∧ (¬ I (aB w b) 3 = 3 → ∃ h, h < H ∧ I (aB w b) 4 = nI h) ∧ (I (aB w b) 3 = 2 → ∃ l, l + 1 < H ∧ I (aB w b) 5 = nI l) ∧ ∃ g, g < H ∧ I (aB w b) 6 = nI g
def sfD (w H : Nat) (I : jj_I) (d : Nat) : Prop := (∃ a, a < 5 ∧ I (aD w d) 0 = nI a) ∧ (∃ b, b < 5 ∧ I (aD w d) 1 = nI b) ∧ (∃ h, h < H ∧ I (aD w d) 2 = nI h) ∧ ∃ g, g < 4 ∧ I (aD w d) 3 = nI g
theorem nv_of {x : Int32} {n N : Nat} (h : n < N ∧ x = nI n) (hN : N ≤ 2147483648) : x = nI (nv x) ∧ nv x < N := by
  obtain ⟨h1, rfl⟩ := h
  rw [nv_nI (by omega)]
  exact ⟨rfl, h1⟩
theorem jl_01 {c : Prop} {hd : Decidable c} (h : ¬ (if c then (1 : Int32) else 0) = 0) : c := by
  by_cases hc : c
  · exact hc
  · exact absurd (if_neg hc) h
theorem jl_00 {c : Prop} {hd : Decidable c} (h : (if c then (1 : Int32) else 0) = 0) : ¬ c := fun hc => by rw [if_pos hc] at h; exact absurd h (by decide)
set_option maxHeartbeats 4000000 in
set_option maxRecDepth 100000 in
theorem c_X4_boatsIn {l : Launch} (hfl : l.stackTraces = false) {D : jj_D} {n : Nat} {K : jj_K} {I : jj_I} {P : jj_P} {G : jj_G} (hly : ly K P) {w B : Nat} {p : Int32} (hw : w < 2) (hB : I (aW w) 2 = nI B) (hB2 : B ≤ 10) :
    jj_Met l D yX4_boatsIn (jj_ws yX4_boatsIn cX4_boatsIn 4 (some .int)) { frames := 0, cells := 0, slots := 0, locals := 0 } [.ref (aW w), .int p] n K I P G (jj_R (some (.int (sm (q_bi w p I) B))) (n) (K) (I) (P) (G)) jj_noX := by
  refine jj_of hfl (by decide +kernel) [some (.ref (aW w)), some (.int p), none, none] rfl rfl ?_
  intro X hXl hX hSt
  refine jr_iconst (v := 0) hX dX4_boatsIn_0 (by decide) ?_
  refine jr_istore_n hX dX4_boatsIn_1 rfl ?_
  refine jr_iconst (v := 0) hX dX4_boatsIn_2 (by decide) ?_
  refine jr_istore_n hX dX4_boatsIn_3 rfl ?_
  have hloop : ∀ k, k ≤ B → jj_J X D 4 0 0 (jj_MQ X D { frames := 0, cells := 0, slots := 0, locals := 0 } (jj_R (some (.int (sm (q_bi w p I) B))) (n) (K) (I) (P) (G)) jj_noX) (n) (K) (I) (P) (G) 4 [some (.ref (aW w)), some (.int p), some (.int (sm (q_bi w p I) k)), some (.int (nI k))] [] := by
    refine jj_for (B) _ ?_ (fun k hk ih => ?_)
    · refine jr_iload_n hX dX4_boatsIn_4 rfl ?_
      refine jr_aload_n hX dX4_boatsIn_5 rfl ?_
      refine jr_geti hX kF_X4_47 rfl (ly_kW hly (by first | assumption | omega)) dX4_boatsIn_6 ?_
      refine jr_icmp_ge (tgt := 34) hX dX4_boatsIn_9 (by decide) (fun c_9 => ?_) (fun c_9 => absurd (by rw [hB]; exact nI_le (Nat.le_refl _) (by omega)) c_9)
      refine jr_iload_n hX dX4_boatsIn_34 rfl ?_
      exact jr_iret hX dX4_boatsIn_35 rfl rfl ⟨rfl, rfl, rfl, rfl, rfl, rfl⟩
    · refine jr_iload_n hX dX4_boatsIn_4 rfl ?_
      refine jr_aload_n hX dX4_boatsIn_5 rfl ?_
      refine jr_geti hX kF_X4_47 rfl (ly_kW hly (by first | assumption | omega)) dX4_boatsIn_6 ?_
      refine jr_icmp_ge (tgt := 34) hX dX4_boatsIn_9 (by decide) (fun c_9 => absurd c_9 (by rw [hB]; exact nI_ge (by assumption) (by omega))) (fun c_9 => ?_)
      refine jr_aload_n hX dX4_boatsIn_12 rfl ?_
      refine jr_getr hX kF_X4_26 rfl (ly_kW hly (by first | assumption | omega)) (ly_p4_5 hly (by first | assumption | omega)) dX4_boatsIn_13 ?_
      refine jr_iload_n hX dX4_boatsIn_16 rfl ?_
      refine jr_aBs hX hly (by first | assumption | omega) (by first | with_reducible rfl | with_reducible assumption | rfl) (by first | assumption | omega) dX4_boatsIn_17 ?_
      refine jr_geti hX kF_X4_62 rfl (ly_kB hly (by first | assumption | omega) (by first | assumption | omega)) dX4_boatsIn_18 ?_
      refine jr_iload_n hX dX4_boatsIn_21 rfl ?_
      refine jr_icmp_ne (tgt := 28) hX dX4_boatsIn_22 (by decide) (fun c_22 => ?_) (fun c_22 => ?_)
      · refine jr_iinc hX dX4_boatsIn_28 rfl (by first | with_reducible exact jj_inc _ | with_reducible exact jj_inc1 _) rfl ?_
        refine jr_goto (tgt := 4) hX dX4_boatsIn_31 (by decide) ?_
        rw [sm_0 (show q_bi w p I k = 0 from if_neg c_22)] at ih
        exact ih
      · refine jr_iinc hX dX4_boatsIn_25 rfl (by first | with_reducible exact jj_inc _ | with_reducible exact jj_inc1 _) rfl ?_
        refine jr_iinc hX dX4_boatsIn_28 rfl (by first | with_reducible exact jj_inc _ | with_reducible exact jj_inc1 _) rfl ?_
        refine jr_goto (tgt := 4) hX dX4_boatsIn_31 (by decide) ?_
        rw [sm_1 (show q_bi w p I k = 1 from if_pos c_22)] at ih
        exact ih
  exact hloop 0 (Nat.zero_le _)
set_option maxHeartbeats 4000000 in
set_option maxRecDepth 100000 in
theorem c_X4_boatsLying {l : Launch} (hfl : l.stackTraces = false) {D : jj_D} {n : Nat} {K : jj_K} {I : jj_I} {P : jj_P} {G : jj_G} (hly : ly K P) {w B : Nat} {h p : Int32} (hw : w < 2) (hB : I (aW w) 2 = nI B) (hB2 : B ≤ 10) :
    jj_Met l D yX4_boatsLying (jj_ws yX4_boatsLying cX4_boatsLying 5 (some .int)) { frames := 0, cells := 0, slots := 0, locals := 0 } [.ref (aW w), .int h, .int p] n K I P G (jj_R (some (.int (sm (q_bl w h p I) B))) (n) (K) (I) (P) (G)) jj_noX := by
  refine jj_of hfl (by decide +kernel) [some (.ref (aW w)), some (.int h), some (.int p), none, none] rfl rfl ?_
  intro X hXl hX hSt
  refine jr_iconst (v := 0) hX dX4_boatsLying_0 (by decide) ?_
  refine jr_istore_n hX dX4_boatsLying_1 rfl ?_
  refine jr_iconst (v := 0) hX dX4_boatsLying_2 (by decide) ?_
  refine jr_istore hX dX4_boatsLying_3 rfl ?_
  have hloop : ∀ k, k ≤ B → jj_J X D 5 0 0 (jj_MQ X D { frames := 0, cells := 0, slots := 0, locals := 0 } (jj_R (some (.int (sm (q_bl w h p I) B))) (n) (K) (I) (P) (G)) jj_noX) (n) (K) (I) (P) (G) 5 [some (.ref (aW w)), some (.int h), some (.int p), some (.int (sm (q_bl w h p I) k)), some (.int (nI k))] [] := by
    refine jj_for (B) _ ?_ (fun k hk ih => ?_)
    · refine jr_iload hX dX4_boatsLying_5 rfl ?_
      refine jr_aload_n hX dX4_boatsLying_7 rfl ?_
      refine jr_geti hX kF_X4_47 rfl (ly_kW hly (by first | assumption | omega)) dX4_boatsLying_8 ?_
      refine jr_icmp_ge (tgt := 51) hX dX4_boatsLying_11 (by decide) (fun c_11 => ?_) (fun c_11 => absurd (by rw [hB]; exact nI_le (Nat.le_refl _) (by omega)) c_11)
      refine jr_iload_n hX dX4_boatsLying_51 rfl ?_
      exact jr_iret hX dX4_boatsLying_52 rfl rfl ⟨rfl, rfl, rfl, rfl, rfl, rfl⟩
    · refine jr_iload hX dX4_boatsLying_5 rfl ?_
      refine jr_aload_n hX dX4_boatsLying_7 rfl ?_
      refine jr_geti hX kF_X4_47 rfl (ly_kW hly (by first | assumption | omega)) dX4_boatsLying_8 ?_
      refine jr_icmp_ge (tgt := 51) hX dX4_boatsLying_11 (by decide) (fun c_11 => absurd c_11 (by rw [hB]; exact nI_ge (by assumption) (by omega))) (fun c_11 => ?_)
      refine jr_aload_n hX dX4_boatsLying_14 rfl ?_
      refine jr_getr hX kF_X4_26 rfl (ly_kW hly (by first | assumption | omega)) (ly_p4_5 hly (by first | assumption | omega)) dX4_boatsLying_15 ?_
      refine jr_iload hX dX4_boatsLying_18 rfl ?_
      refine jr_aBs hX hly (by first | assumption | omega) (by first | with_reducible rfl | with_reducible assumption | rfl) (by first | assumption | omega) dX4_boatsLying_20 ?_
      refine jr_geti hX kF_X4_62 rfl (ly_kB hly (by first | assumption | omega) (by first | assumption | omega)) dX4_boatsLying_21 ?_
      refine jr_iload_n hX dX4_boatsLying_24 rfl ?_
      refine jr_icmp_ne (tgt := 45) hX dX4_boatsLying_25 (by decide) (fun c_25 => ?_) (fun c_25 => ?_)
      · refine jr_iinc hX dX4_boatsLying_45 rfl (by first | with_reducible exact jj_inc _ | with_reducible exact jj_inc1 _) rfl ?_
        refine jr_goto (tgt := 5) hX dX4_boatsLying_48 (by decide) ?_
        rw [sm_0 (show q_bl w h p I k = 0 from if_neg (fun e => c_25 e.1))] at ih
        exact ih
      · refine jr_aload_n hX dX4_boatsLying_28 rfl ?_
        refine jr_getr hX kF_X4_26 rfl (ly_kW hly (by first | assumption | omega)) (ly_p4_5 hly (by first | assumption | omega)) dX4_boatsLying_29 ?_
        refine jr_iload hX dX4_boatsLying_32 rfl ?_
        refine jr_aBs hX hly (by first | assumption | omega) (by first | with_reducible rfl | with_reducible assumption | rfl) (by first | assumption | omega) dX4_boatsLying_34 ?_
        refine jr_geti hX kF_X4_65 rfl (ly_kB hly (by first | assumption | omega) (by first | assumption | omega)) dX4_boatsLying_35 ?_
        refine jr_iload_n hX dX4_boatsLying_38 rfl ?_
        refine jr_icmp_ne (tgt := 45) hX dX4_boatsLying_39 (by decide) (fun c_39 => ?_) (fun c_39 => ?_)
        · refine jr_iinc hX dX4_boatsLying_45 rfl (by first | with_reducible exact jj_inc _ | with_reducible exact jj_inc1 _) rfl ?_
          refine jr_goto (tgt := 5) hX dX4_boatsLying_48 (by decide) ?_
          rw [sm_0 (show q_bl w h p I k = 0 from if_neg (fun e => c_39 e.2))] at ih
          exact ih
        · refine jr_iinc hX dX4_boatsLying_42 rfl (by first | with_reducible exact jj_inc _ | with_reducible exact jj_inc1 _) rfl ?_
          refine jr_iinc hX dX4_boatsLying_45 rfl (by first | with_reducible exact jj_inc _ | with_reducible exact jj_inc1 _) rfl ?_
          refine jr_goto (tgt := 5) hX dX4_boatsLying_48 (by decide) ?_
          rw [sm_1 (show q_bl w h p I k = 1 from if_pos ⟨c_25, c_39⟩)] at ih
          exact ih
  exact hloop 0 (Nat.zero_le _)
set_option maxHeartbeats 4000000 in
set_option maxRecDepth 100000 in
theorem c_X4_boatsOnLeg {l : Launch} (hfl : l.stackTraces = false) {D : jj_D} {n : Nat} {K : jj_K} {I : jj_I} {P : jj_P} {G : jj_G} (hly : ly K P) {w B : Nat} {p : Int32} (hw : w < 2) (hB : I (aW w) 2 = nI B) (hB2 : B ≤ 10) :
    jj_Met l D yX4_boatsOnLeg (jj_ws yX4_boatsOnLeg cX4_boatsOnLeg 4 (some .int)) { frames := 0, cells := 0, slots := 0, locals := 0 } [.ref (aW w), .int p] n K I P G (jj_R (some (.int (sm (q_bo w p I) B))) (n) (K) (I) (P) (G)) jj_noX := by
  refine jj_of hfl (by decide +kernel) [some (.ref (aW w)), some (.int p), none, none] rfl rfl ?_
  intro X hXl hX hSt
  refine jr_iconst (v := 0) hX dX4_boatsOnLeg_0 (by decide) ?_
  refine jr_istore_n hX dX4_boatsOnLeg_1 rfl ?_
  refine jr_iconst (v := 0) hX dX4_boatsOnLeg_2 (by decide) ?_
  refine jr_istore_n hX dX4_boatsOnLeg_3 rfl ?_
  have hloop : ∀ k, k ≤ B → jj_J X D 4 0 0 (jj_MQ X D { frames := 0, cells := 0, slots := 0, locals := 0 } (jj_R (some (.int (sm (q_bo w p I) B))) (n) (K) (I) (P) (G)) jj_noX) (n) (K) (I) (P) (G) 4 [some (.ref (aW w)), some (.int p), some (.int (sm (q_bo w p I) k)), some (.int (nI k))] [] := by
    refine jj_for (B) _ ?_ (fun k hk ih => ?_)
    · refine jr_iload_n hX dX4_boatsOnLeg_4 rfl ?_
      refine jr_aload_n hX dX4_boatsOnLeg_5 rfl ?_
      refine jr_geti hX kF_X4_47 rfl (ly_kW hly (by first | assumption | omega)) dX4_boatsOnLeg_6 ?_
      refine jr_icmp_ge (tgt := 47) hX dX4_boatsOnLeg_9 (by decide) (fun c_9 => ?_) (fun c_9 => absurd (by rw [hB]; exact nI_le (Nat.le_refl _) (by omega)) c_9)
      refine jr_iload_n hX dX4_boatsOnLeg_47 rfl ?_
      exact jr_iret hX dX4_boatsOnLeg_48 rfl rfl ⟨rfl, rfl, rfl, rfl, rfl, rfl⟩
    · refine jr_iload_n hX dX4_boatsOnLeg_4 rfl ?_
      refine jr_aload_n hX dX4_boatsOnLeg_5 rfl ?_
      refine jr_geti hX kF_X4_47 rfl (ly_kW hly (by first | assumption | omega)) dX4_boatsOnLeg_6 ?_
      refine jr_icmp_ge (tgt := 47) hX dX4_boatsOnLeg_9 (by decide) (fun c_9 => absurd c_9 (by rw [hB]; exact nI_ge (by assumption) (by omega))) (fun c_9 => ?_)
      refine jr_aload_n hX dX4_boatsOnLeg_12 rfl ?_
      refine jr_getr hX kF_X4_26 rfl (ly_kW hly (by first | assumption | omega)) (ly_p4_5 hly (by first | assumption | omega)) dX4_boatsOnLeg_13 ?_
      refine jr_iload_n hX dX4_boatsOnLeg_16 rfl ?_
      refine jr_aBs hX hly (by first | assumption | omega) (by first | with_reducible rfl | with_reducible assumption | rfl) (by first | assumption | omega) dX4_boatsOnLeg_17 ?_
      refine jr_geti hX kF_X4_62 rfl (ly_kB hly (by first | assumption | omega) (by first | assumption | omega)) dX4_boatsOnLeg_18 ?_
      refine jr_iconst (v := 2) hX dX4_boatsOnLeg_21 (by decide) ?_
      refine jr_icmp_ne (tgt := 41) hX dX4_boatsOnLeg_22 (by decide) (fun c_22 => ?_) (fun c_22 => ?_)
      · refine jr_iinc hX dX4_boatsOnLeg_41 rfl (by first | with_reducible exact jj_inc _ | with_reducible exact jj_inc1 _) rfl ?_
        refine jr_goto (tgt := 4) hX dX4_boatsOnLeg_44 (by decide) ?_
        rw [sm_0 (show q_bo w p I k = 0 from if_neg (fun e => c_22 e.1))] at ih
        exact ih
      · refine jr_aload_n hX dX4_boatsOnLeg_25 rfl ?_
        refine jr_getr hX kF_X4_26 rfl (ly_kW hly (by first | assumption | omega)) (ly_p4_5 hly (by first | assumption | omega)) dX4_boatsOnLeg_26 ?_
        refine jr_iload_n hX dX4_boatsOnLeg_29 rfl ?_
        refine jr_aBs hX hly (by first | assumption | omega) (by first | with_reducible rfl | with_reducible assumption | rfl) (by first | assumption | omega) dX4_boatsOnLeg_30 ?_
        refine jr_geti hX kF_X4_68 rfl (ly_kB hly (by first | assumption | omega) (by first | assumption | omega)) dX4_boatsOnLeg_31 ?_
        refine jr_iload_n hX dX4_boatsOnLeg_34 rfl ?_
        refine jr_icmp_ne (tgt := 41) hX dX4_boatsOnLeg_35 (by decide) (fun c_35 => ?_) (fun c_35 => ?_)
        · refine jr_iinc hX dX4_boatsOnLeg_41 rfl (by first | with_reducible exact jj_inc _ | with_reducible exact jj_inc1 _) rfl ?_
          refine jr_goto (tgt := 4) hX dX4_boatsOnLeg_44 (by decide) ?_
          rw [sm_0 (show q_bo w p I k = 0 from if_neg (fun e => c_35 e.2))] at ih
          exact ih
        · refine jr_iinc hX dX4_boatsOnLeg_38 rfl (by first | with_reducible exact jj_inc _ | with_reducible exact jj_inc1 _) rfl ?_
          refine jr_iinc hX dX4_boatsOnLeg_41 rfl (by first | with_reducible exact jj_inc _ | with_reducible exact jj_inc1 _) rfl ?_
          refine jr_goto (tgt := 4) hX dX4_boatsOnLeg_44 (by decide) ?_
          rw [sm_1 (show q_bo w p I k = 1 from if_pos ⟨c_22, c_35⟩)] at ih
          exact ih
  exact hloop 0 (Nat.zero_le _)
set_option maxHeartbeats 4000000 in
set_option maxRecDepth 100000 in
theorem c_X4_boatsAfloatOf {l : Launch} (hfl : l.stackTraces = false) {D : jj_D} {n : Nat} {K : jj_K} {I : jj_I} {P : jj_P} {G : jj_G} (hly : ly K P) {w B : Nat} {p : Int32} (hw : w < 2) (hB : I (aW w) 2 = nI B) (hB2 : B ≤ 10) :
    jj_Met l D yX4_boatsAfloatOf (jj_ws yX4_boatsAfloatOf cX4_boatsAfloatOf 4 (some .int)) { frames := 0, cells := 0, slots := 0, locals := 0 } [.ref (aW w), .int p] n K I P G (jj_R (some (.int (sm (q_ba w p I) B))) (n) (K) (I) (P) (G)) jj_noX := by
  refine jj_of hfl (by decide +kernel) [some (.ref (aW w)), some (.int p), none, none] rfl rfl ?_
  intro X hXl hX hSt
  refine jr_iconst (v := 0) hX dX4_boatsAfloatOf_0 (by decide) ?_
  refine jr_istore_n hX dX4_boatsAfloatOf_1 rfl ?_
  refine jr_iconst (v := 0) hX dX4_boatsAfloatOf_2 (by decide) ?_
  refine jr_istore_n hX dX4_boatsAfloatOf_3 rfl ?_
  have hloop : ∀ k, k ≤ B → jj_J X D 4 0 0 (jj_MQ X D { frames := 0, cells := 0, slots := 0, locals := 0 } (jj_R (some (.int (sm (q_ba w p I) B))) (n) (K) (I) (P) (G)) jj_noX) (n) (K) (I) (P) (G) 4 [some (.ref (aW w)), some (.int p), some (.int (sm (q_ba w p I) k)), some (.int (nI k))] [] := by
    refine jj_for (B) _ ?_ (fun k hk ih => ?_)
    · refine jr_iload_n hX dX4_boatsAfloatOf_4 rfl ?_
      refine jr_aload_n hX dX4_boatsAfloatOf_5 rfl ?_
      refine jr_geti hX kF_X4_47 rfl (ly_kW hly (by first | assumption | omega)) dX4_boatsAfloatOf_6 ?_
      refine jr_icmp_ge (tgt := 47) hX dX4_boatsAfloatOf_9 (by decide) (fun c_9 => ?_) (fun c_9 => absurd (by rw [hB]; exact nI_le (Nat.le_refl _) (by omega)) c_9)
      refine jr_iload_n hX dX4_boatsAfloatOf_47 rfl ?_
      exact jr_iret hX dX4_boatsAfloatOf_48 rfl rfl ⟨rfl, rfl, rfl, rfl, rfl, rfl⟩
    · refine jr_iload_n hX dX4_boatsAfloatOf_4 rfl ?_
      refine jr_aload_n hX dX4_boatsAfloatOf_5 rfl ?_
      refine jr_geti hX kF_X4_47 rfl (ly_kW hly (by first | assumption | omega)) dX4_boatsAfloatOf_6 ?_
      refine jr_icmp_ge (tgt := 47) hX dX4_boatsAfloatOf_9 (by decide) (fun c_9 => absurd c_9 (by rw [hB]; exact nI_ge (by assumption) (by omega))) (fun c_9 => ?_)
      refine jr_aload_n hX dX4_boatsAfloatOf_12 rfl ?_
      refine jr_getr hX kF_X4_26 rfl (ly_kW hly (by first | assumption | omega)) (ly_p4_5 hly (by first | assumption | omega)) dX4_boatsAfloatOf_13 ?_
      refine jr_iload_n hX dX4_boatsAfloatOf_16 rfl ?_
      refine jr_aBs hX hly (by first | assumption | omega) (by first | with_reducible rfl | with_reducible assumption | rfl) (by first | assumption | omega) dX4_boatsAfloatOf_17 ?_
      refine jr_geti hX kF_X4_71 rfl (ly_kB hly (by first | assumption | omega) (by first | assumption | omega)) dX4_boatsAfloatOf_18 ?_
      refine jr_iload_n hX dX4_boatsAfloatOf_21 rfl ?_
      refine jr_icmp_ne (tgt := 41) hX dX4_boatsAfloatOf_22 (by decide) (fun c_22 => ?_) (fun c_22 => ?_)
      · refine jr_iinc hX dX4_boatsAfloatOf_41 rfl (by first | with_reducible exact jj_inc _ | with_reducible exact jj_inc1 _) rfl ?_
        refine jr_goto (tgt := 4) hX dX4_boatsAfloatOf_44 (by decide) ?_
        rw [sm_0 (show q_ba w p I k = 0 from if_neg (fun e => c_22 e.1))] at ih
        exact ih
      · refine jr_aload_n hX dX4_boatsAfloatOf_25 rfl ?_
        refine jr_getr hX kF_X4_26 rfl (ly_kW hly (by first | assumption | omega)) (ly_p4_5 hly (by first | assumption | omega)) dX4_boatsAfloatOf_26 ?_
        refine jr_iload_n hX dX4_boatsAfloatOf_29 rfl ?_
        refine jr_aBs hX hly (by first | assumption | omega) (by first | with_reducible rfl | with_reducible assumption | rfl) (by first | assumption | omega) dX4_boatsAfloatOf_30 ?_
        refine jr_geti hX kF_X4_62 rfl (ly_kB hly (by first | assumption | omega) (by first | assumption | omega)) dX4_boatsAfloatOf_31 ?_
        refine jr_iconst (v := 3) hX dX4_boatsAfloatOf_34 (by decide) ?_
        refine jr_icmp_eq (tgt := 41) hX dX4_boatsAfloatOf_35 (by decide) (fun c_35 => ?_) (fun c_35 => ?_)
        · refine jr_iinc hX dX4_boatsAfloatOf_41 rfl (by first | with_reducible exact jj_inc _ | with_reducible exact jj_inc1 _) rfl ?_
          refine jr_goto (tgt := 4) hX dX4_boatsAfloatOf_44 (by decide) ?_
          rw [sm_0 (show q_ba w p I k = 0 from if_neg (fun e => e.2 c_35))] at ih
          exact ih
        · refine jr_iinc hX dX4_boatsAfloatOf_38 rfl (by first | with_reducible exact jj_inc _ | with_reducible exact jj_inc1 _) rfl ?_
          refine jr_iinc hX dX4_boatsAfloatOf_41 rfl (by first | with_reducible exact jj_inc _ | with_reducible exact jj_inc1 _) rfl ?_
          refine jr_goto (tgt := 4) hX dX4_boatsAfloatOf_44 (by decide) ?_
          rw [sm_1 (show q_ba w p I k = 1 from if_pos ⟨c_22, c_35⟩)] at ih
          exact ih
  exact hloop 0 (Nat.zero_le _)
set_option maxHeartbeats 4000000 in
set_option maxRecDepth 100000 in
theorem c_X4_cargoOf {l : Launch} (hfl : l.stackTraces = false) {D : jj_D} {n : Nat} {K : jj_K} {I : jj_I} {P : jj_P} {G : jj_G} (hly : ly K P) {w B : Nat} {p : Int32} (hw : w < 2) (hB : I (aW w) 2 = nI B) (hB2 : B ≤ 10) :
    jj_Met l D yX4_cargoOf (jj_ws yX4_cargoOf cX4_cargoOf 4 (some .int)) { frames := 2, cells := 0, slots := 0, locals := 42 } [.ref (aW w), .int p] n K I P G (jj_R (some (.int (sm (q_co w p I) B))) (n) (K) (I) (P) (G)) jj_noX := by
  refine jj_of hfl (by decide +kernel) [some (.ref (aW w)), some (.int p), none, none] rfl rfl ?_
  intro X hXl hX hSt
  refine jr_iconst (v := 0) hX dX4_cargoOf_0 (by decide) ?_
  refine jr_istore_n hX dX4_cargoOf_1 rfl ?_
  refine jr_iconst (v := 0) hX dX4_cargoOf_2 (by decide) ?_
  refine jr_istore_n hX dX4_cargoOf_3 rfl ?_
  have hloop : ∀ k, k ≤ B → jj_J X D 4 0 0 (jj_MQ X D { frames := 2, cells := 0, slots := 0, locals := 42 } (jj_R (some (.int (sm (q_co w p I) B))) (n) (K) (I) (P) (G)) jj_noX) (n) (K) (I) (P) (G) 4 [some (.ref (aW w)), some (.int p), some (.int (sm (q_co w p I) k)), some (.int (nI k))] [] := by
    refine jj_for (B) _ ?_ (fun k hk ih => ?_)
    · refine jr_iload_n hX dX4_cargoOf_4 rfl ?_
      refine jr_aload_n hX dX4_cargoOf_5 rfl ?_
      refine jr_geti hX kF_X4_47 rfl (ly_kW hly (by first | assumption | omega)) dX4_cargoOf_6 ?_
      refine jr_icmp_ge (tgt := 43) hX dX4_cargoOf_9 (by decide) (fun c_9 => ?_) (fun c_9 => absurd (by rw [hB]; exact nI_le (Nat.le_refl _) (by omega)) c_9)
      refine jr_iload_n hX dX4_cargoOf_43 rfl ?_
      exact jr_iret hX dX4_cargoOf_44 rfl rfl ⟨rfl, rfl, rfl, rfl, rfl, rfl⟩
    · refine jr_iload_n hX dX4_cargoOf_4 rfl ?_
      refine jr_aload_n hX dX4_cargoOf_5 rfl ?_
      refine jr_geti hX kF_X4_47 rfl (ly_kW hly (by first | assumption | omega)) dX4_cargoOf_6 ?_
      refine jr_icmp_ge (tgt := 43) hX dX4_cargoOf_9 (by decide) (fun c_9 => absurd c_9 (by rw [hB]; exact nI_ge (by assumption) (by omega))) (fun c_9 => ?_)
      refine jr_aload_n hX dX4_cargoOf_12 rfl ?_
      refine jr_getr hX kF_X4_26 rfl (ly_kW hly (by first | assumption | omega)) (ly_p4_5 hly (by first | assumption | omega)) dX4_cargoOf_13 ?_
      refine jr_iload_n hX dX4_cargoOf_16 rfl ?_
      refine jr_aBs hX hly (by first | assumption | omega) (by first | with_reducible rfl | with_reducible assumption | rfl) (by first | assumption | omega) dX4_cargoOf_17 ?_
      refine jr_geti hX kF_X4_71 rfl (ly_kB hly (by first | assumption | omega) (by first | assumption | omega)) dX4_cargoOf_18 ?_
      refine jr_iload_n hX dX4_cargoOf_21 rfl ?_
      refine jr_icmp_ne (tgt := 37) hX dX4_cargoOf_22 (by decide) (fun c_22 => ?_) (fun c_22 => ?_)
      · refine jr_iinc hX dX4_cargoOf_37 rfl (by first | with_reducible exact jj_inc _ | with_reducible exact jj_inc1 _) rfl ?_
        refine jr_goto (tgt := 4) hX dX4_cargoOf_40 (by decide) ?_
        rw [sm_0 (show q_co w p I k = 0 from if_neg c_22)] at ih
        exact ih
      · refine jr_iload_n hX dX4_cargoOf_25 rfl ?_
        refine jr_aload_n hX dX4_cargoOf_26 rfl ?_
        refine jr_getr hX kF_X4_26 rfl (ly_kW hly (by first | assumption | omega)) (ly_p4_5 hly (by first | assumption | omega)) dX4_cargoOf_27 ?_
        refine jr_iload_n hX dX4_cargoOf_30 rfl ?_
        refine jr_aBs hX hly (by first | assumption | omega) (by first | with_reducible rfl | with_reducible assumption | rfl) (by first | assumption | omega) dX4_cargoOf_31 ?_
        refine jr_ret (jr_runV hX hSt kM_X4_74 (c_X0_allCargo (jj_fl hX) hly hw (by omega)) rfl rfl (ly_kB hly (by first | assumption | omega) (by first | assumption | omega)) ⟨_, _, rfl, by decide⟩ dX4_cargoOf_32 rfl ⟨jj_b1 rfl, jj_b1 rfl⟩ rfl) ?_
        refine jr_iadd hX dX4_cargoOf_35 ?_
        refine jr_istore_n hX dX4_cargoOf_36 rfl ?_
        refine jr_iinc hX dX4_cargoOf_37 rfl (by first | with_reducible exact jj_inc _ | with_reducible exact jj_inc1 _) rfl ?_
        refine jr_goto (tgt := 4) hX dX4_cargoOf_40 (by decide) ?_
        rw [sm_1 (show q_co w p I k = sm (I (aBc w k)) 4 from if_pos c_22)] at ih
        exact ih
  exact hloop 0 (Nat.zero_le _)
set_option maxHeartbeats 4000000 in
set_option maxRecDepth 100000 in
theorem c_X4_debtsOf {l : Launch} (hfl : l.stackTraces = false) {D : jj_D} {n : Nat} {K : jj_K} {I : jj_I} {P : jj_P} {G : jj_G} (hly : ly K P) {w N : Nat} {m s : Int32} (hw : w < 2) (hN : I (aW w) 3 = nI N) (hN2 : N ≤ 30) :
    jj_Met l D yX4_debtsOf (jj_ws yX4_debtsOf cX4_debtsOf 5 (some .int)) { frames := 0, cells := 0, slots := 0, locals := 0 } [.ref (aW w), .int m, .int s] n K I P G (jj_R (some (.int (sm (q_do w m s I) N))) (n) (K) (I) (P) (G)) jj_noX := by
  refine jj_of hfl (by decide +kernel) [some (.ref (aW w)), some (.int m), some (.int s), none, none] rfl rfl ?_
  intro X hXl hX hSt
  refine jr_iconst (v := 0) hX dX4_debtsOf_0 (by decide) ?_
  refine jr_istore_n hX dX4_debtsOf_1 rfl ?_
  refine jr_iconst (v := 0) hX dX4_debtsOf_2 (by decide) ?_
  refine jr_istore hX dX4_debtsOf_3 rfl ?_
  have hloop : ∀ k, k ≤ N → jj_J X D 5 0 0 (jj_MQ X D { frames := 0, cells := 0, slots := 0, locals := 0 } (jj_R (some (.int (sm (q_do w m s I) N))) (n) (K) (I) (P) (G)) jj_noX) (n) (K) (I) (P) (G) 5 [some (.ref (aW w)), some (.int m), some (.int s), some (.int (sm (q_do w m s I) k)), some (.int (nI k))] [] := by
    refine jj_for (N) _ ?_ (fun k hk ih => ?_)
    · refine jr_iload hX dX4_debtsOf_5 rfl ?_
      refine jr_aload_n hX dX4_debtsOf_7 rfl ?_
      refine jr_geti hX kF_X4_50 rfl (ly_kW hly (by first | assumption | omega)) dX4_debtsOf_8 ?_
      refine jr_icmp_ge (tgt := 51) hX dX4_debtsOf_11 (by decide) (fun c_11 => ?_) (fun c_11 => absurd (by rw [hN]; exact nI_le (Nat.le_refl _) (by omega)) c_11)
      refine jr_iload_n hX dX4_debtsOf_51 rfl ?_
      exact jr_iret hX dX4_debtsOf_52 rfl rfl ⟨rfl, rfl, rfl, rfl, rfl, rfl⟩
    · refine jr_iload hX dX4_debtsOf_5 rfl ?_
      refine jr_aload_n hX dX4_debtsOf_7 rfl ?_
      refine jr_geti hX kF_X4_50 rfl (ly_kW hly (by first | assumption | omega)) dX4_debtsOf_8 ?_
      refine jr_icmp_ge (tgt := 51) hX dX4_debtsOf_11 (by decide) (fun c_11 => absurd c_11 (by rw [hN]; exact nI_ge (by assumption) (by omega))) (fun c_11 => ?_)
      refine jr_aload_n hX dX4_debtsOf_14 rfl ?_
      refine jr_getr hX kF_X4_32 rfl (ly_kW hly (by first | assumption | omega)) (ly_p4_6 hly (by first | assumption | omega)) dX4_debtsOf_15 ?_
      refine jr_iload hX dX4_debtsOf_18 rfl ?_
      refine jr_aDs hX hly (by first | assumption | omega) (by first | with_reducible rfl | with_reducible assumption | rfl) (by first | assumption | omega) dX4_debtsOf_20 ?_
      refine jr_geti hX kF_X4_82 rfl (ly_kD hly (by first | assumption | omega) (by first | assumption | omega)) dX4_debtsOf_21 ?_
      refine jr_iload_n hX dX4_debtsOf_24 rfl ?_
      refine jr_icmp_ne (tgt := 45) hX dX4_debtsOf_25 (by decide) (fun c_25 => ?_) (fun c_25 => ?_)
      · refine jr_iinc hX dX4_debtsOf_45 rfl (by first | with_reducible exact jj_inc _ | with_reducible exact jj_inc1 _) rfl ?_
        refine jr_goto (tgt := 5) hX dX4_debtsOf_48 (by decide) ?_
        rw [sm_0 (show q_do w m s I k = 0 from if_neg (fun e => c_25 e.1))] at ih
        exact ih
      · refine jr_aload_n hX dX4_debtsOf_28 rfl ?_
        refine jr_getr hX kF_X4_32 rfl (ly_kW hly (by first | assumption | omega)) (ly_p4_6 hly (by first | assumption | omega)) dX4_debtsOf_29 ?_
        refine jr_iload hX dX4_debtsOf_32 rfl ?_
        refine jr_aDs hX hly (by first | assumption | omega) (by first | with_reducible rfl | with_reducible assumption | rfl) (by first | assumption | omega) dX4_debtsOf_34 ?_
        refine jr_geti hX kF_X4_85 rfl (ly_kD hly (by first | assumption | omega) (by first | assumption | omega)) dX4_debtsOf_35 ?_
        refine jr_iload_n hX dX4_debtsOf_38 rfl ?_
        refine jr_icmp_ne (tgt := 45) hX dX4_debtsOf_39 (by decide) (fun c_39 => ?_) (fun c_39 => ?_)
        · refine jr_iinc hX dX4_debtsOf_45 rfl (by first | with_reducible exact jj_inc _ | with_reducible exact jj_inc1 _) rfl ?_
          refine jr_goto (tgt := 5) hX dX4_debtsOf_48 (by decide) ?_
          rw [sm_0 (show q_do w m s I k = 0 from if_neg (fun e => c_39 e.2))] at ih
          exact ih
        · refine jr_iinc hX dX4_debtsOf_42 rfl (by first | with_reducible exact jj_inc _ | with_reducible exact jj_inc1 _) rfl ?_
          refine jr_iinc hX dX4_debtsOf_45 rfl (by first | with_reducible exact jj_inc _ | with_reducible exact jj_inc1 _) rfl ?_
          refine jr_goto (tgt := 5) hX dX4_debtsOf_48 (by decide) ?_
          rw [sm_1 (show q_do w m s I k = 1 from if_pos ⟨c_25, c_39⟩)] at ih
          exact ih
  exact hloop 0 (Nat.zero_le _)
set_option maxHeartbeats 4000000 in
set_option maxRecDepth 100000 in
theorem c_X4_openDebts {l : Launch} (hfl : l.stackTraces = false) {D : jj_D} {n : Nat} {K : jj_K} {I : jj_I} {P : jj_P} {G : jj_G} (hly : ly K P) {w M N : Nat} (hw : w < 2) (hM : I (aW w) 1 = nI M) (hM2 : M ≤ 5) (hN : I (aW w) 3 = nI N) (hN2 : N ≤ 30) :
    jj_Met l D yX4_openDebts (jj_ws yX4_openDebts cX4_openDebts 3 (some .int)) { frames := 1, cells := 0, slots := 0, locals := 24 } [.ref (aW w)] n K I P G (jj_R (some (.int (sm (fun m => sm (q_do w (nI m) 0 I) N) M))) (n) (K) (I) (P) (G)) jj_noX := by
  refine jj_of hfl (by decide +kernel) [some (.ref (aW w)), none, none] rfl rfl ?_
  intro X hXl hX hSt
  refine jr_iconst (v := 0) hX dX4_openDebts_0 (by decide) ?_
  refine jr_istore_n hX dX4_openDebts_1 rfl ?_
  refine jr_iconst (v := 0) hX dX4_openDebts_2 (by decide) ?_
  refine jr_istore_n hX dX4_openDebts_3 rfl ?_
  have hloop : ∀ k, k ≤ M → jj_J X D 3 0 0 (jj_MQ X D { frames := 1, cells := 0, slots := 0, locals := 24 } (jj_R (some (.int (sm (fun m => sm (q_do w (nI m) 0 I) N) M))) (n) (K) (I) (P) (G)) jj_noX) (n) (K) (I) (P) (G) 4 [some (.ref (aW w)), some (.int (sm (fun m => sm (q_do w (nI m) 0 I) N) k)), some (.int (nI k))] [] := by
    refine jj_for (M) _ ?_ (fun k hk ih => ?_)
    · refine jr_iload_n hX dX4_openDebts_4 rfl ?_
      refine jr_aload_n hX dX4_openDebts_5 rfl ?_
      refine jr_geti hX kF_X4_43 rfl (ly_kW hly (by first | assumption | omega)) dX4_openDebts_6 ?_
      refine jr_icmp_ge (tgt := 27) hX dX4_openDebts_9 (by decide) (fun c_9 => ?_) (fun c_9 => absurd (by rw [hM]; exact nI_le (Nat.le_refl _) (by omega)) c_9)
      refine jr_iload_n hX dX4_openDebts_27 rfl ?_
      exact jr_iret hX dX4_openDebts_28 rfl rfl ⟨rfl, rfl, rfl, rfl, rfl, rfl⟩
    · refine jr_iload_n hX dX4_openDebts_4 rfl ?_
      refine jr_aload_n hX dX4_openDebts_5 rfl ?_
      refine jr_geti hX kF_X4_43 rfl (ly_kW hly (by first | assumption | omega)) dX4_openDebts_6 ?_
      refine jr_icmp_ge (tgt := 27) hX dX4_openDebts_9 (by decide) (fun c_9 => absurd c_9 (by rw [hM]; exact nI_ge (by assumption) (by omega))) (fun c_9 => ?_)
      refine jr_iload_n hX dX4_openDebts_12 rfl ?_
      refine jr_aload_n hX dX4_openDebts_13 rfl ?_
      refine jr_iload_n hX dX4_openDebts_14 rfl ?_
      refine jr_iconst (v := 0) hX dX4_openDebts_15 (by decide) ?_
      refine jr_ret (jr_runV hX hSt kM_X4_78 (c_X4_debtsOf (jj_fl hX) hly hw hN hN2) rfl rfl (ly_kW hly (by first | assumption | omega)) ⟨_, _, rfl, by decide⟩ dX4_openDebts_16 rfl ⟨jj_b1 rfl, jj_b1 rfl⟩ rfl) ?_
      refine jr_iadd hX dX4_openDebts_19 ?_
      refine jr_istore_n hX dX4_openDebts_20 rfl ?_
      refine jr_iinc hX dX4_openDebts_21 rfl (by first | with_reducible exact jj_inc _ | with_reducible exact jj_inc1 _) rfl ?_
      refine jr_goto (tgt := 4) hX dX4_openDebts_24 (by decide) ?_
      exact ih
  exact hloop 0 (Nat.zero_le _)
set_option maxHeartbeats 4000000 in
set_option maxRecDepth 100000 in
theorem c_X4_allCoins {l : Launch} (hfl : l.stackTraces = false) {D : jj_D} {n : Nat} {K : jj_K} {I : jj_I} {P : jj_P} {G : jj_G} (hly : ly K P) {w M : Nat} (hw : w < 2) (hM : I (aW w) 1 = nI M) (hM2 : M ≤ 5) :
    jj_Met l D yX4_allCoins (jj_ws yX4_allCoins cX4_allCoins 3 (some .int)) { frames := 0, cells := 0, slots := 0, locals := 0 } [.ref (aW w)] n K I P G (jj_R (some (.int (sm (fun m => I (aM w m) 0) M))) (n) (K) (I) (P) (G)) jj_noX := by
  refine jj_of hfl (by decide +kernel) [some (.ref (aW w)), none, none] rfl rfl ?_
  intro X hXl hX hSt
  refine jr_iconst (v := 0) hX dX4_allCoins_0 (by decide) ?_
  refine jr_istore_n hX dX4_allCoins_1 rfl ?_
  refine jr_iconst (v := 0) hX dX4_allCoins_2 (by decide) ?_
  refine jr_istore_n hX dX4_allCoins_3 rfl ?_
  have hloop : ∀ k, k ≤ M → jj_J X D 3 0 0 (jj_MQ X D { frames := 0, cells := 0, slots := 0, locals := 0 } (jj_R (some (.int (sm (fun m => I (aM w m) 0) M))) (n) (K) (I) (P) (G)) jj_noX) (n) (K) (I) (P) (G) 4 [some (.ref (aW w)), some (.int (sm (fun m => I (aM w m) 0) k)), some (.int (nI k))] [] := by
    refine jj_for (M) _ ?_ (fun k hk ih => ?_)
    · refine jr_iload_n hX dX4_allCoins_4 rfl ?_
      refine jr_aload_n hX dX4_allCoins_5 rfl ?_
      refine jr_geti hX kF_X4_43 rfl (ly_kW hly (by first | assumption | omega)) dX4_allCoins_6 ?_
      refine jr_icmp_ge (tgt := 30) hX dX4_allCoins_9 (by decide) (fun c_9 => ?_) (fun c_9 => absurd (by rw [hM]; exact nI_le (Nat.le_refl _) (by omega)) c_9)
      refine jr_iload_n hX dX4_allCoins_30 rfl ?_
      exact jr_iret hX dX4_allCoins_31 rfl rfl ⟨rfl, rfl, rfl, rfl, rfl, rfl⟩
    · refine jr_iload_n hX dX4_allCoins_4 rfl ?_
      refine jr_aload_n hX dX4_allCoins_5 rfl ?_
      refine jr_geti hX kF_X4_43 rfl (ly_kW hly (by first | assumption | omega)) dX4_allCoins_6 ?_
      refine jr_icmp_ge (tgt := 30) hX dX4_allCoins_9 (by decide) (fun c_9 => absurd c_9 (by rw [hM]; exact nI_ge (by assumption) (by omega))) (fun c_9 => ?_)
      refine jr_iload_n hX dX4_allCoins_12 rfl ?_
      refine jr_aload_n hX dX4_allCoins_13 rfl ?_
      refine jr_getr hX kF_X4_20 rfl (ly_kW hly (by first | assumption | omega)) (ly_p4_4 hly (by first | assumption | omega)) dX4_allCoins_14 ?_
      refine jr_iload_n hX dX4_allCoins_17 rfl ?_
      refine jr_aMs hX hly (by first | assumption | omega) (by first | with_reducible rfl | with_reducible assumption | rfl) (by first | assumption | omega) dX4_allCoins_18 ?_
      refine jr_geti hX kF_X4_88 rfl (ly_kM hly (by first | assumption | omega) (by first | assumption | omega)) dX4_allCoins_19 ?_
      refine jr_iadd hX dX4_allCoins_22 ?_
      refine jr_istore_n hX dX4_allCoins_23 rfl ?_
      refine jr_iinc hX dX4_allCoins_24 rfl (by first | with_reducible exact jj_inc _ | with_reducible exact jj_inc1 _) rfl ?_
      refine jr_goto (tgt := 4) hX dX4_allCoins_27 (by decide) ?_
      exact ih
  exact hloop 0 (Nat.zero_le _)
set_option maxHeartbeats 4000000 in
set_option maxRecDepth 100000 in
theorem c_X4_freeBerths {l : Launch} (hfl : l.stackTraces = false) {D : jj_D} {n : Nat} {K : jj_K} {I : jj_I} {P : jj_P} {G : jj_G} (hly : ly K P) {w B h : Nat} {x : Int32} (hw : w < 2) (hB : I (aW w) 2 = nI B) (hB2 : B ≤ 10) (hx : x = nI h) (hh : h < 8) :
    jj_Met l D yX4_freeBerths (jj_ws yX4_freeBerths cX4_freeBerths 2 (some .int)) { frames := 1, cells := 0, slots := 0, locals := 24 } [.ref (aW w), .int x] n K I P G (jj_R (some (.int (I (aBe w) h - sm (q_bl w x 1 I) B))) (n) (K) (I) (P) (G)) jj_noX := by
  refine jj_of hfl (by decide +kernel) [some (.ref (aW w)), some (.int x)] rfl rfl ?_
  intro X hXl hX hSt
  refine jr_aload_n hX dX4_freeBerths_0 rfl ?_
  refine jr_getr hX kF_X4_12 rfl (ly_kW hly (by first | assumption | omega)) (ly_p4_0 hly (by first | assumption | omega)) dX4_freeBerths_1 ?_
  refine jr_getr hX kF_X4_91 rfl (ly_kR hly (by first | assumption | omega)) (ly_p3_5 hly (by first | assumption | omega)) dX4_freeBerths_4 ?_
  refine jr_iload_n hX dX4_freeBerths_7 rfl ?_
  refine jr_iald hX (by first | with_reducible assumption | with_reducible exact ly_kWm hly (by first | assumption | omega) | with_reducible exact ly_kLd hly (by first | assumption | omega) | with_reducible exact ly_kIc hly (by first | assumption | omega) | with_reducible exact ly_kBe hly (by first | assumption | omega) | with_reducible exact ly_kPr hly (by first | assumption | omega) | with_reducible exact ly_kMt hly (by first | assumption | omega) (by first | assumption | omega) | with_reducible exact ly_kBc hly (by first | assumption | omega) (by first | assumption | omega) | with_reducible exact ly_kAh hly (by first | assumption | omega)) (by first | with_reducible rfl | with_reducible assumption | rfl) (by omega) dX4_freeBerths_8 ?_
  refine jr_aload_n hX dX4_freeBerths_9 rfl ?_
  refine jr_iload_n hX dX4_freeBerths_10 rfl ?_
  refine jr_iconst (v := 1) hX dX4_freeBerths_11 (by decide) ?_
  refine jr_ret (jr_runV hX hSt kM_X4_95 (c_X4_boatsLying (jj_fl hX) hly hw hB hB2) rfl rfl (ly_kW hly (by first | assumption | omega)) ⟨_, _, rfl, by decide⟩ dX4_freeBerths_12 rfl ⟨jj_b1 rfl, jj_b1 rfl⟩ rfl) ?_
  refine jr_isub hX dX4_freeBerths_15 ?_
  exact jr_iret hX dX4_freeBerths_16 rfl rfl ⟨rfl, rfl, rfl, rfl, rfl, rfl⟩
set_option maxHeartbeats 4000000 in
set_option maxRecDepth 100000 in
theorem c_X4_hand {l : Launch} (hfl : l.stackTraces = false) {D : jj_D} {n : Nat} {K : jj_K} {I : jj_I} {P : jj_P} {G : jj_G} (hly : ly K P) {w a b c : Nat} {x y z m : Int32} (hw : w < 2) (hx : x = nI a) (hy : y = nI b) (hz : z = nI c) (ha : a < 5) (hb : b < 5) (hc : c < 32) :
    jj_Met l D yX4_hand (jj_ws yX4_hand cX4_hand 5 none) { frames := 0, cells := 0, slots := 0, locals := 0 } [.ref (aW w), .int x, .int y, .int z, .int m] n K I P G (jj_R (none) (n) (K) (f_hd w a b c m I) (P) (G)) jj_noX := by
  refine jj_of hfl (by decide +kernel) [some (.ref (aW w)), some (.int x), some (.int y), some (.int z), some (.int m)] rfl rfl ?_
  intro X hXl hX hSt
  refine jr_aload_n hX dX4_hand_0 rfl ?_
  refine jr_getr hX kF_X4_20 rfl (ly_kW hly (by first | assumption | omega)) (ly_p4_4 hly (by first | assumption | omega)) dX4_hand_1 ?_
  refine jr_iload_n hX dX4_hand_4 rfl ?_
  refine jr_aMs hX hly (by first | assumption | omega) (by first | with_reducible rfl | with_reducible assumption | rfl) (by first | assumption | omega) dX4_hand_5 ?_
  refine jr_getr hX kF_X4_105 rfl (ly_kM hly (by first | assumption | omega) (by first | assumption | omega)) (ly_p2_1 hly (by first | assumption | omega) (by first | assumption | omega)) dX4_hand_6 ?_
  refine jr_iload_n hX dX4_hand_9 rfl ?_
  refine jr_dup2 hX dX4_hand_10 rfl rfl ?_
  refine jr_iald hX (by first | with_reducible assumption | with_reducible exact ly_kWm hly (by first | assumption | omega) | with_reducible exact ly_kLd hly (by first | assumption | omega) | with_reducible exact ly_kIc hly (by first | assumption | omega) | with_reducible exact ly_kBe hly (by first | assumption | omega) | with_reducible exact ly_kPr hly (by first | assumption | omega) | with_reducible exact ly_kMt hly (by first | assumption | omega) (by first | assumption | omega) | with_reducible exact ly_kBc hly (by first | assumption | omega) (by first | assumption | omega) | with_reducible exact ly_kAh hly (by first | assumption | omega)) (by first | with_reducible rfl | with_reducible assumption | rfl) (by omega) dX4_hand_11 ?_
  refine jr_iload hX dX4_hand_12 rfl ?_
  refine jr_isub hX dX4_hand_14 ?_
  refine jr_iast hX (by first | with_reducible assumption | with_reducible exact ly_kWm hly (by first | assumption | omega) | with_reducible exact ly_kLd hly (by first | assumption | omega) | with_reducible exact ly_kIc hly (by first | assumption | omega) | with_reducible exact ly_kBe hly (by first | assumption | omega) | with_reducible exact ly_kPr hly (by first | assumption | omega) | with_reducible exact ly_kMt hly (by first | assumption | omega) (by first | assumption | omega) | with_reducible exact ly_kBc hly (by first | assumption | omega) (by first | assumption | omega) | with_reducible exact ly_kAh hly (by first | assumption | omega)) (by first | assumption | with_reducible exact aMt_0 | with_reducible exact aBc_0 | with_reducible exact aWm_0 | with_reducible exact aLd_0 | with_reducible exact aIc_0 | with_reducible exact aBe_0 | with_reducible exact aPr_0 | with_reducible exact aAh_0 | decide | omega) (by first | with_reducible rfl | with_reducible assumption | rfl) (by omega) dX4_hand_15 ?_
  refine jr_aload_n hX dX4_hand_16 rfl ?_
  refine jr_getr hX kF_X4_20 rfl (ly_kW hly (by first | assumption | omega)) (ly_p4_4 hly (by first | assumption | omega)) dX4_hand_17 ?_
  refine jr_iload_n hX dX4_hand_20 rfl ?_
  refine jr_aMs hX hly (by first | assumption | omega) (by first | with_reducible rfl | with_reducible assumption | rfl) (by first | assumption | omega) dX4_hand_21 ?_
  refine jr_getr hX kF_X4_105 rfl (ly_kM hly (by first | assumption | omega) (by first | assumption | omega)) (ly_p2_1 hly (by first | assumption | omega) (by first | assumption | omega)) dX4_hand_22 ?_
  refine jr_iload_n hX dX4_hand_25 rfl ?_
  refine jr_dup2 hX dX4_hand_26 rfl rfl ?_
  refine jr_iald hX (by first | with_reducible assumption | with_reducible exact ly_kWm hly (by first | assumption | omega) | with_reducible exact ly_kLd hly (by first | assumption | omega) | with_reducible exact ly_kIc hly (by first | assumption | omega) | with_reducible exact ly_kBe hly (by first | assumption | omega) | with_reducible exact ly_kPr hly (by first | assumption | omega) | with_reducible exact ly_kMt hly (by first | assumption | omega) (by first | assumption | omega) | with_reducible exact ly_kBc hly (by first | assumption | omega) (by first | assumption | omega) | with_reducible exact ly_kAh hly (by first | assumption | omega)) (by first | with_reducible rfl | with_reducible assumption | rfl) (by omega) dX4_hand_27 ?_
  refine jr_iload hX dX4_hand_28 rfl ?_
  refine jr_iadd hX dX4_hand_30 ?_
  refine jr_iast hX (by first | with_reducible assumption | with_reducible exact ly_kWm hly (by first | assumption | omega) | with_reducible exact ly_kLd hly (by first | assumption | omega) | with_reducible exact ly_kIc hly (by first | assumption | omega) | with_reducible exact ly_kBe hly (by first | assumption | omega) | with_reducible exact ly_kPr hly (by first | assumption | omega) | with_reducible exact ly_kMt hly (by first | assumption | omega) (by first | assumption | omega) | with_reducible exact ly_kBc hly (by first | assumption | omega) (by first | assumption | omega) | with_reducible exact ly_kAh hly (by first | assumption | omega)) (by first | assumption | with_reducible exact aMt_0 | with_reducible exact aBc_0 | with_reducible exact aWm_0 | with_reducible exact aLd_0 | with_reducible exact aIc_0 | with_reducible exact aBe_0 | with_reducible exact aPr_0 | with_reducible exact aAh_0 | decide | omega) (by first | with_reducible rfl | with_reducible assumption | rfl) (by omega) dX4_hand_31 ?_
  exact jr_vret hX dX4_hand_32 rfl rfl ⟨rfl, rfl, rfl, rfl, rfl, rfl⟩
set_option maxHeartbeats 4000000 in
set_option maxRecDepth 100000 in
theorem c_X4_payForBerth {l : Launch} (hfl : l.stackTraces = false) {D : jj_D} {n : Nat} {K : jj_K} {I : jj_I} {P : jj_P} {G : jj_G} (hly : ly K P) {w b : Nat} (hw : w < 2) (hb : b < 10) (ho : I (aB w b) 0 = nI (nv (I (aB w b) 0))) (ho2 : nv (I (aB w b) 0) < 5) :
    jj_Met l D yX4_payForBerth (jj_ws yX4_payForBerth cX4_payForBerth 3 none) { frames := 0, cells := 0, slots := 0, locals := 0 } [.ref (aW w), .ref (aB w b)] n K I P G (jj_R (none) (n) (K) (f_py w b I) (P) (G)) jj_noX := by
  refine jj_of hfl (by decide +kernel) [some (.ref (aW w)), some (.ref (aB w b)), none] rfl rfl ?_
  intro X hXl hX hSt
  refine jr_aload_n hX dX4_payForBerth_0 rfl ?_
  refine jr_geti hX kF_X4_62 rfl (ly_kB hly (by first | assumption | omega) (by first | assumption | omega)) dX4_payForBerth_1 ?_
  refine jr_iconst (v := 1) hX dX4_payForBerth_4 (by decide) ?_
  refine jr_icmp_eq (tgt := 9) hX dX4_payForBerth_5 (by decide) (fun c_5 => ?_) (fun c_5 => ?_)
  · refine jr_aload_n hX dX4_payForBerth_9 rfl ?_
    refine jr_getr hX kF_X4_20 rfl (ly_kW hly (by first | assumption | omega)) (ly_p4_4 hly (by first | assumption | omega)) dX4_payForBerth_10 ?_
    refine jr_aload_n hX dX4_payForBerth_13 rfl ?_
    refine jr_geti hX kF_X4_71 rfl (ly_kB hly (by first | assumption | omega) (by first | assumption | omega)) dX4_payForBerth_14 ?_
    refine jr_aMs hX hly (by first | assumption | omega) (by first | with_reducible rfl | with_reducible assumption | rfl) (by first | assumption | omega) dX4_payForBerth_17 ?_
    refine jr_astore_n hX dX4_payForBerth_18 rfl ?_
    refine jr_aload_n hX dX4_payForBerth_19 rfl ?_
    refine jr_geti hX kF_X4_88 rfl (ly_kM hly (by first | assumption | omega) (by first | assumption | omega)) dX4_payForBerth_20 ?_
    refine jr_if_le (tgt := 39) hX dX4_payForBerth_23 (by decide) (fun c_23 => ?_) (fun c_23 => ?_)
    · refine jr_aload_n hX dX4_payForBerth_39 rfl ?_
      refine jr_iconst (v := 0) hX dX4_payForBerth_40 (by decide) ?_
      refine jr_puti hX kF_X4_62 rfl (ly_kB hly (by first | assumption | omega) (by first | assumption | omega)) aB_0 dX4_payForBerth_41 ?_
      exact jr_vret hX dX4_payForBerth_44 rfl rfl ⟨rfl, rfl, rfl, by simp only [f_py, if_pos c_5, if_neg (Int32.not_lt.mpr c_23)], rfl, rfl⟩
    · refine jr_aload_n hX dX4_payForBerth_26 rfl ?_
      refine jr_dup hX dX4_payForBerth_27 rfl ?_
      refine jr_geti hX kF_X4_88 rfl (ly_kM hly (by first | assumption | omega) (by first | assumption | omega)) dX4_payForBerth_28 ?_
      refine jr_iconst (v := 1) hX dX4_payForBerth_31 (by decide) ?_
      refine jr_isub hX dX4_payForBerth_32 ?_
      refine jr_puti hX kF_X4_88 rfl (ly_kM hly (by first | assumption | omega) (by first | assumption | omega)) aM_0 dX4_payForBerth_33 ?_
      refine jr_goto (tgt := 44) hX dX4_payForBerth_36 (by decide) ?_
      exact jr_vret hX dX4_payForBerth_44 rfl rfl ⟨rfl, rfl, rfl, by simp only [f_py, if_pos c_5, if_pos (Int32.not_le.mp c_23)], rfl, rfl⟩
  · exact jr_vret hX dX4_payForBerth_8 rfl rfl ⟨rfl, rfl, rfl, (if_neg c_5).symm, rfl, rfl⟩
set_option maxHeartbeats 4000000 in
set_option maxRecDepth 100000 in
theorem c_X4_setOut {l : Launch} (hfl : l.stackTraces = false) {D : jj_D} {n : Nat} {K : jj_K} {I : jj_I} {P : jj_P} {G : jj_G} (hly : ly K P) {w H b h g : Nat} (hw : w < 2) (hH2 : H ≤ 8) (hb : b < 10) (hh : I (aB w b) 4 = nI h) (hh2 : h < H) (hg : I (aB w b) 6 = nI g) (hg2 : g < H) (hne : ¬ I (aB w b) 4 = I (aB w b) 6) :
    jj_Met l D yX4_setOut (jj_ws yX4_setOut cX4_setOut 4 none) { frames := 1, cells := 0, slots := 0, locals := 22 } [.ref (aW w), .ref (aB w b)] n K I P G (jj_R (none) (n) (K) (f_so w b I) (P) (G)) jj_noX := by
  refine jj_of hfl (by decide +kernel) [some (.ref (aW w)), some (.ref (aB w b)), none, none] rfl rfl ?_
  intro X hXl hX hSt
  have e1 : nv (I (aB w b) 4) = h := by rw [hh, nv_nI (by omega)]
  have e2 : I (aB w b) 6 ≤ I (aB w b) 4 → I (aB w b) 4 - 1 = nI (h - 1) ∧ 0 < h := by
    intro hc
    have h0 : 0 < h := by
      rcases Nat.eq_zero_or_pos h with h0 | h0
      · exfalso
        rw [hh, hg, h0] at hc
        have := (nI_leI (by omega) (by omega)).mp hc
        exact hne (by rw [hh, hg, h0, show g = 0 by omega])
      · exact h0
    refine ⟨?_, h0⟩
    rw [hh, show h = h - 1 + 1 by omega, nI_pred]
    rfl
  have e3 : I (aB w b) 4 < I (aB w b) 6 → h + 1 < H := by
    intro hc
    rw [hh, hg] at hc
    have := (nI_ltI (by omega) (by omega)).mp hc
    omega
  refine jr_aload_n hX dX4_setOut_0 rfl ?_
  refine jr_geti hX kF_X4_65 rfl (ly_kB hly (by first | assumption | omega) (by first | assumption | omega)) dX4_setOut_1 ?_
  refine jr_aload_n hX dX4_setOut_4 rfl ?_
  refine jr_geti hX kF_X4_98 rfl (ly_kB hly (by first | assumption | omega) (by first | assumption | omega)) dX4_setOut_5 ?_
  refine jr_icmp_ge (tgt := 15) hX dX4_setOut_8 (by decide) (fun c_8 => ?_) (fun c_8 => ?_)
  · refine jr_iconst (v := 0) hX dX4_setOut_15 (by decide) ?_
    refine jr_istore_n hX dX4_setOut_16 rfl ?_
    refine jr_iload_n hX dX4_setOut_17 rfl ?_
    refine jr_if_eq (tgt := 28) hX dX4_setOut_18 (by decide) (fun c_18 => ?_) (fun c_18 => absurd rfl c_18)
    refine jr_aload_n hX dX4_setOut_28 rfl ?_
    refine jr_geti hX kF_X4_65 rfl (ly_kB hly (by first | assumption | omega) (by first | assumption | omega)) dX4_setOut_29 ?_
    refine jr_iconst (v := 1) hX dX4_setOut_32 (by decide) ?_
    refine jr_isub hX dX4_setOut_33 ?_
    refine jr_istore_n hX dX4_setOut_34 rfl ?_
    refine jr_aload_n hX dX4_setOut_35 rfl ?_
    refine jr_getr hX kF_X4_12 rfl (ly_kW hly (by first | assumption | omega)) (ly_p4_0 hly (by first | assumption | omega)) dX4_setOut_36 ?_
    refine jr_iload_n hX dX4_setOut_39 rfl ?_
    refine jr_ret (jr_runV hX hSt kM_X4_133 (c_X3_isOpen (jj_fl hX) hly hw (j := nv (I (aB w b) 4 - 1)) (by rw [(e2 c_8).1, nv_nI (by omega)]) (by rw [(e2 c_8).1, nv_nI (by omega)]; omega)) rfl rfl (ly_kR hly (by first | assumption | omega)) ⟨_, _, rfl, by decide⟩ dX4_setOut_40 rfl ⟨jj_b1 rfl, jj_b1 rfl⟩ rfl) ?_
    refine jr_if_ne (tgt := 47) hX dX4_setOut_43 (by decide) (fun c_43 => ?_) (fun c_43 => ?_)
    · refine jr_aload_n hX dX4_setOut_47 rfl ?_
      refine jr_iconst (v := 2) hX dX4_setOut_48 (by decide) ?_
      refine jr_puti hX kF_X4_62 rfl (ly_kB hly (by first | assumption | omega) (by first | assumption | omega)) aB_0 dX4_setOut_49 ?_
      refine jr_aload_n hX dX4_setOut_52 rfl ?_
      refine jr_iload_n hX dX4_setOut_53 rfl ?_
      refine jr_puti hX kF_X4_68 rfl (ly_kB hly (by first | assumption | omega) (by first | assumption | omega)) aB_0 dX4_setOut_54 ?_
      refine jr_aload_n hX dX4_setOut_57 rfl ?_
      refine jr_iload_n hX dX4_setOut_58 rfl ?_
      refine jr_if_eq (tgt := 71) hX dX4_setOut_59 (by decide) (fun c_59 => ?_) (fun c_59 => absurd rfl c_59)
      refine jr_aload_n hX dX4_setOut_71 rfl ?_
      refine jr_geti hX kF_X4_65 rfl (ly_kB hly (by first | assumption | omega) (by first | assumption | omega)) dX4_setOut_72 ?_
      refine jr_iconst (v := 1) hX dX4_setOut_75 (by decide) ?_
      refine jr_isub hX dX4_setOut_76 ?_
      refine jr_puti hX kF_X4_65 rfl (ly_kB hly (by first | assumption | omega) (by first | assumption | omega)) aB_0 dX4_setOut_77 ?_
      refine jr_aload_n hX dX4_setOut_80 rfl ?_
      refine jr_aload_n hX dX4_setOut_81 rfl ?_
      refine jr_getr hX kF_X4_12 rfl (ly_kW hly (by first | assumption | omega)) (ly_p4_0 hly (by first | assumption | omega)) dX4_setOut_82 ?_
      refine jr_iload_n hX dX4_setOut_85 rfl ?_
      refine jr_iload_n hX dX4_setOut_86 rfl ?_
      refine jr_ret (jr_runV hX hSt kM_X4_140 (c_X3_daysOver (jj_fl hX) hly hw (j := nv (I (aB w b) 4 - 1)) (by rw [(e2 c_8).1, nv_nI (by omega)]) (by rw [(e2 c_8).1, nv_nI (by omega)]; omega)) rfl rfl (ly_kR hly (by first | assumption | omega)) ⟨_, _, rfl, by decide⟩ dX4_setOut_87 rfl ⟨jj_b1 rfl, jj_b1 rfl⟩ rfl) ?_
      refine jr_iconst (v := 1) hX dX4_setOut_90 (by decide) ?_
      refine jr_isub hX dX4_setOut_91 ?_
      refine jr_puti hX kF_X4_137 rfl (ly_kB hly (by first | assumption | omega) (by first | assumption | omega)) aB_0 dX4_setOut_92 ?_
      exact jr_vret hX dX4_setOut_95 rfl rfl ⟨rfl, rfl, rfl, by simp only [f_so, if_neg (Int32.not_lt.mpr c_8), if_neg c_43], rfl, rfl⟩
    · exact jr_vret hX dX4_setOut_46 rfl rfl ⟨rfl, rfl, rfl, by simp only [f_so, if_neg (Int32.not_lt.mpr c_8), if_pos c_43], rfl, rfl⟩
  · refine jr_iconst (v := 1) hX dX4_setOut_11 (by decide) ?_
    refine jr_goto (tgt := 16) hX dX4_setOut_12 (by decide) ?_
    refine jr_istore_n hX dX4_setOut_16 rfl ?_
    refine jr_iload_n hX dX4_setOut_17 rfl ?_
    refine jr_if_eq (tgt := 28) hX dX4_setOut_18 (by decide) (fun c_18 => absurd c_18 (by decide)) (fun c_18 => ?_)
    refine jr_aload_n hX dX4_setOut_21 rfl ?_
    refine jr_geti hX kF_X4_65 rfl (ly_kB hly (by first | assumption | omega) (by first | assumption | omega)) dX4_setOut_22 ?_
    refine jr_goto (tgt := 34) hX dX4_setOut_25 (by decide) ?_
    refine jr_istore_n hX dX4_setOut_34 rfl ?_
    refine jr_aload_n hX dX4_setOut_35 rfl ?_
    refine jr_getr hX kF_X4_12 rfl (ly_kW hly (by first | assumption | omega)) (ly_p4_0 hly (by first | assumption | omega)) dX4_setOut_36 ?_
    refine jr_iload_n hX dX4_setOut_39 rfl ?_
    refine jr_ret (jr_runV hX hSt kM_X4_133 (c_X3_isOpen (jj_fl hX) hly hw (j := nv (I (aB w b) 4)) (by rw [e1]; exact hh) (by have := e3 (Int32.not_le.mp c_8); omega)) rfl rfl (ly_kR hly (by first | assumption | omega)) ⟨_, _, rfl, by decide⟩ dX4_setOut_40 rfl ⟨jj_b1 rfl, jj_b1 rfl⟩ rfl) ?_
    refine jr_if_ne (tgt := 47) hX dX4_setOut_43 (by decide) (fun c_43 => ?_) (fun c_43 => ?_)
    · refine jr_aload_n hX dX4_setOut_47 rfl ?_
      refine jr_iconst (v := 2) hX dX4_setOut_48 (by decide) ?_
      refine jr_puti hX kF_X4_62 rfl (ly_kB hly (by first | assumption | omega) (by first | assumption | omega)) aB_0 dX4_setOut_49 ?_
      refine jr_aload_n hX dX4_setOut_52 rfl ?_
      refine jr_iload_n hX dX4_setOut_53 rfl ?_
      refine jr_puti hX kF_X4_68 rfl (ly_kB hly (by first | assumption | omega) (by first | assumption | omega)) aB_0 dX4_setOut_54 ?_
      refine jr_aload_n hX dX4_setOut_57 rfl ?_
      refine jr_iload_n hX dX4_setOut_58 rfl ?_
      refine jr_if_eq (tgt := 71) hX dX4_setOut_59 (by decide) (fun c_59 => absurd c_59 (by decide)) (fun c_59 => ?_)
      refine jr_aload_n hX dX4_setOut_62 rfl ?_
      refine jr_geti hX kF_X4_65 rfl (ly_kB hly (by first | assumption | omega) (by first | assumption | omega)) dX4_setOut_63 ?_
      refine jr_iconst (v := 1) hX dX4_setOut_66 (by decide) ?_
      refine jr_iadd hX dX4_setOut_67 ?_
      refine jr_goto (tgt := 77) hX dX4_setOut_68 (by decide) ?_
      refine jr_puti hX kF_X4_65 rfl (ly_kB hly (by first | assumption | omega) (by first | assumption | omega)) aB_0 dX4_setOut_77 ?_
      refine jr_aload_n hX dX4_setOut_80 rfl ?_
      refine jr_aload_n hX dX4_setOut_81 rfl ?_
      refine jr_getr hX kF_X4_12 rfl (ly_kW hly (by first | assumption | omega)) (ly_p4_0 hly (by first | assumption | omega)) dX4_setOut_82 ?_
      refine jr_iload_n hX dX4_setOut_85 rfl ?_
      refine jr_iload_n hX dX4_setOut_86 rfl ?_
      refine jr_ret (jr_runV hX hSt kM_X4_140 (c_X3_daysOver (jj_fl hX) hly hw (j := nv (I (aB w b) 4)) (by rw [e1]; exact hh) (by have := e3 (Int32.not_le.mp c_8); omega)) rfl rfl (ly_kR hly (by first | assumption | omega)) ⟨_, _, rfl, by decide⟩ dX4_setOut_87 rfl ⟨jj_b1 rfl, jj_b1 rfl⟩ rfl) ?_
      refine jr_iconst (v := 1) hX dX4_setOut_90 (by decide) ?_
      refine jr_isub hX dX4_setOut_91 ?_
      refine jr_puti hX kF_X4_137 rfl (ly_kB hly (by first | assumption | omega) (by first | assumption | omega)) aB_0 dX4_setOut_92 ?_
      exact jr_vret hX dX4_setOut_95 rfl rfl ⟨rfl, rfl, rfl, by simp only [f_so, if_pos (Int32.not_le.mp c_8), if_neg c_43], rfl, rfl⟩
    · exact jr_vret hX dX4_setOut_46 rfl rfl ⟨rfl, rfl, rfl, by simp only [f_so, if_pos (Int32.not_le.mp c_8), if_pos c_43], rfl, rfl⟩
