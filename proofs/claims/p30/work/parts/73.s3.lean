/-! the law's own river: frost, a debt paid -/
theorem jj_uu {α : Type} {I : Nat → Nat → α} {a k : Nat} {v w : α} : jj_u (jj_u I a k v) a k w = jj_u I a k w := by
  funext b j
  unfold jj_u
  by_cases h : b = a ∧ j = k
  · rw [if_pos h, if_pos h]
  · rw [if_neg h, if_neg h, if_neg h]
def s_ib (x t : Int32) : Int32 := let y := x + (if t < 0 then -t else -2 * t); let z := if y < 0 then 0 else y; if 60 < z then 60 else z
theorem s_ib_a {x t y : Int32} (hy : x + (if t < 0 then -t else -2 * t) = y) (h0 : 0 ≤ y) (h6 : y ≤ 60) : s_ib x t = y := by
  subst hy
  unfold s_ib
  dsimp only
  rw [if_neg (Int32.not_lt.mpr h0), if_neg (Int32.not_lt.mpr h6)]
theorem s_ib_b {x t y : Int32} (hy : x + (if t < 0 then -t else -2 * t) = y) (h0 : 0 ≤ y) (h6 : ¬ y ≤ 60) : s_ib x t = 60 := by
  subst hy
  unfold s_ib
  dsimp only
  rw [if_neg (Int32.not_lt.mpr h0), if_pos (Int32.not_le.mp h6)]
theorem s_ib_c {x t y : Int32} (hy : x + (if t < 0 then -t else -2 * t) = y) (h0 : ¬ 0 ≤ y) : s_ib x t = 0 := by
  subst hy
  unfold s_ib
  dsimp only
  rw [if_pos (Int32.not_le.mp h0)]
  rfl
def s_fr (A : Nat → Nat) (H d : Nat) (I : jj_I) : jj_I := it (fun j J => jj_u J (A 3) (j + 1) (s_ib (J (A 3) (j + 1)) (I (A 1) (d % 40)))) I (H - 1)
def s_py (A : Nat → Nat) (a q h g d : Nat) (I : jj_I) : jj_I :=
  let J := jj_u I (A (110 + 8 * q + h)) g (I (A (110 + 8 * q + h)) g - I (A (60 + d)) 4)
  jj_u (jj_u J (A (110 + 8 * a + h)) g (J (A (110 + 8 * a + h)) g + I (A (60 + d)) 4)) (A (60 + d)) 6 1
set_option maxHeartbeats 4000000 in
set_option maxRecDepth 100000 in
theorem s_freeze {l : Launch} (hfl : l.stackTraces = false) {D : jj_D} {n : Nat} {K : jj_K} {I : jj_I} {P : jj_P} {G : jj_G} {A : Nat → Nat} {H M B N : Nat} {d : Nat} (hsy : sy A H M B N n K P) (hd : I (A 0) 8 = nI d) (hd2 : d < 2147483648) (hH : 1 ≤ H) :
    jj_Met l D yX7_freeze (jj_ws yX7_freeze cX7_freeze 3 none) { frames := 0, cells := 0, slots := 0, locals := 0 } [.ref (A 0)] n K I P G (jj_R (none) (n) (K) (s_fr A H d I) (P) (G)) jj_noX := by
  refine jj_of hfl (by decide +kernel) [some (.ref (A 0)), none, none] rfl rfl ?_
  intro X hXl hX hSt
  obtain ⟨hH8, hM5, hB10, hN30⟩ := id hsy.1
  refine jr_aload_n hX dX7_freeze_0 rfl ?_
  refine jr_getr hX kF_X7_7 rfl (sy_k0 hsy) (sy_p0_0 hsy) dX7_freeze_1 ?_
  refine jr_aload_n hX dX7_freeze_4 rfl ?_
  refine jr_geti hX kF_X7_50 rfl (sy_k0 hsy) dX7_freeze_5 ?_
  rw [hd]
  refine jr_bipush (v := 40) hX dX7_freeze_8 (by decide) ?_
  refine jr_irem hX dX7_freeze_10 (by decide) ?_
  rw [show (40 : Int32) = nI 40 from rfl, pk_rem hd2 (by decide) (by decide)]
  refine jr_iald hX (sy_k1 hsy) rfl (by omega) dX7_freeze_11 ?_
  refine jr_istore_n hX dX7_freeze_12 rfl ?_
  refine jr_iconst (v := 1) hX dX7_freeze_13 (by decide) ?_
  refine jr_istore_n hX dX7_freeze_14 rfl ?_
  have hloop : ∀ k, k ≤ H - 1 → jj_J X D 3 0 0 (jj_MQ X D { frames := 0, cells := 0, slots := 0, locals := 0 } (jj_R (none) (n) (K) (s_fr A H d I) (P) (G)) jj_noX) (n) (K) (it (fun j J => jj_u J (A 3) (j + 1) (s_ib (J (A 3) (j + 1)) (I (A 1) (d % 40)))) I k) (P) (G) 15 [some (.ref (A 0)), some (.int (I (A 1) (d % 40))), some (.int (nI (k + 1)))] [] := by
    refine jj_for (H - 1) _ ?_ (fun k hk ih => ?_)
    · refine jr_iload_n hX dX7_freeze_15 rfl ?_
      refine jr_aload_n hX dX7_freeze_16 rfl ?_
      refine jr_getr hX kF_X7_14 rfl (sy_k0 hsy) (sy_p0_1 hsy) dX7_freeze_17 ?_
      refine jr_alen (t := 15) hX (by decide) (sy_k5 hsy) dX7_freeze_20 ?_
      refine jr_icmp_ge (tgt := 87) hX dX7_freeze_21 (by decide) (fun c_21 => ?_) (fun c_21 => absurd (by rw [show H - 1 + 1 = H by omega]; exact nI_le (Nat.le_refl _) (by omega)) c_21)
      exact jr_vret hX dX7_freeze_87 rfl rfl ⟨rfl, rfl, rfl, rfl, rfl, rfl⟩
    · refine jr_iload_n hX dX7_freeze_15 rfl ?_
      refine jr_aload_n hX dX7_freeze_16 rfl ?_
      refine jr_getr hX kF_X7_14 rfl (sy_k0 hsy) (sy_p0_1 hsy) dX7_freeze_17 ?_
      refine jr_alen (t := 15) hX (by decide) (sy_k5 hsy) dX7_freeze_20 ?_
      refine jr_icmp_ge (tgt := 87) hX dX7_freeze_21 (by decide) (fun c_21 => absurd c_21 (nI_ge (by omega) (by omega))) (fun c_21 => ?_)
      refine jr_aload_n hX dX7_freeze_24 rfl ?_
      refine jr_getr hX kF_X7_21 rfl (sy_k0 hsy) (sy_p0_3 hsy) dX7_freeze_25 ?_
      refine jr_iload_n hX dX7_freeze_28 rfl ?_
      refine jr_dup2 hX dX7_freeze_29 rfl rfl ?_
      refine jr_iald hX (sy_k3 hsy) rfl (by omega) dX7_freeze_30 ?_
      refine jr_iload_n hX dX7_freeze_31 rfl ?_
      refine jr_if_ge (tgt := 40) hX dX7_freeze_32 (by decide) (fun c_32 => ?_) (fun c_32 => ?_)
      · refine jr_bipush (v := -2) hX dX7_freeze_40 (by decide) ?_
        refine jr_iload_n hX dX7_freeze_42 rfl ?_
        refine jr_imul hX dX7_freeze_43 ?_
        refine jr_iadd hX dX7_freeze_44 ?_
        refine jr_iast hX (sy_k3 hsy) (sy_z3 hsy) rfl (by omega) dX7_freeze_45 ?_
        refine jr_aload_n hX dX7_freeze_46 rfl ?_
        refine jr_getr hX kF_X7_21 rfl (sy_k0 hsy) (sy_p0_3 hsy) dX7_freeze_47 ?_
        refine jr_iload_n hX dX7_freeze_50 rfl ?_
        refine jr_iald hX (sy_k3 hsy) rfl (by omega) dX7_freeze_51 ?_
        rw [jj_u_eq]
        refine jr_if_ge (tgt := 62) hX dX7_freeze_52 (by decide) (fun c_52 => ?_) (fun c_52 => ?_)
        · refine jr_aload_n hX dX7_freeze_62 rfl ?_
          refine jr_getr hX kF_X7_21 rfl (sy_k0 hsy) (sy_p0_3 hsy) dX7_freeze_63 ?_
          refine jr_iload_n hX dX7_freeze_66 rfl ?_
          refine jr_iald hX (sy_k3 hsy) rfl (by omega) dX7_freeze_67 ?_
          rw [jj_u_eq]
          refine jr_bipush (v := 60) hX dX7_freeze_68 (by decide) ?_
          refine jr_icmp_le (tgt := 81) hX dX7_freeze_70 (by decide) (fun c_70 => ?_) (fun c_70 => ?_)
          · refine jr_iinc hX dX7_freeze_81 rfl (by first | with_reducible exact jj_inc _ | with_reducible exact jj_inc1 _) rfl ?_
            refine jr_goto (tgt := 15) hX dX7_freeze_84 (by decide) ?_
            exact jr_I (by show jj_u _ _ _ (s_ib _ _) = _; rw [s_ib_a (by rw [if_neg (Int32.not_lt.mpr c_32)]) c_52 c_70]) ih
          · refine jr_aload_n hX dX7_freeze_73 rfl ?_
            refine jr_getr hX kF_X7_21 rfl (sy_k0 hsy) (sy_p0_3 hsy) dX7_freeze_74 ?_
            refine jr_iload_n hX dX7_freeze_77 rfl ?_
            refine jr_bipush (v := 60) hX dX7_freeze_78 (by decide) ?_
            refine jr_iast hX (sy_k3 hsy) (sy_z3 hsy) rfl (by omega) dX7_freeze_80 ?_
            refine jr_iinc hX dX7_freeze_81 rfl (by first | with_reducible exact jj_inc _ | with_reducible exact jj_inc1 _) rfl ?_
            refine jr_goto (tgt := 15) hX dX7_freeze_84 (by decide) ?_
            exact jr_I (by show jj_u _ _ _ (s_ib _ _) = _; rw [jj_uu, s_ib_b (by rw [if_neg (Int32.not_lt.mpr c_32)]) c_52 c_70]) ih
        · refine jr_aload_n hX dX7_freeze_55 rfl ?_
          refine jr_getr hX kF_X7_21 rfl (sy_k0 hsy) (sy_p0_3 hsy) dX7_freeze_56 ?_
          refine jr_iload_n hX dX7_freeze_59 rfl ?_
          refine jr_iconst (v := 0) hX dX7_freeze_60 (by decide) ?_
          refine jr_iast hX (sy_k3 hsy) (sy_z3 hsy) rfl (by omega) dX7_freeze_61 ?_
          refine jr_aload_n hX dX7_freeze_62 rfl ?_
          refine jr_getr hX kF_X7_21 rfl (sy_k0 hsy) (sy_p0_3 hsy) dX7_freeze_63 ?_
          refine jr_iload_n hX dX7_freeze_66 rfl ?_
          refine jr_iald hX (sy_k3 hsy) rfl (by omega) dX7_freeze_67 ?_
          rw [jj_u_eq]
          refine jr_bipush (v := 60) hX dX7_freeze_68 (by decide) ?_
          refine jr_icmp_le (tgt := 81) hX dX7_freeze_70 (by decide) (fun c_70 => ?_) (fun c_70 => absurd (by decide) c_70)
          refine jr_iinc hX dX7_freeze_81 rfl (by first | with_reducible exact jj_inc _ | with_reducible exact jj_inc1 _) rfl ?_
          refine jr_goto (tgt := 15) hX dX7_freeze_84 (by decide) ?_
          exact jr_I (by show jj_u _ _ _ (s_ib _ _) = _; rw [jj_uu, s_ib_c (by rw [if_neg (Int32.not_lt.mpr c_32)]) c_52]) ih
      · refine jr_iload_n hX dX7_freeze_35 rfl ?_
        refine jr_ineg hX dX7_freeze_36 ?_
        refine jr_goto (tgt := 44) hX dX7_freeze_37 (by decide) ?_
        refine jr_iadd hX dX7_freeze_44 ?_
        refine jr_iast hX (sy_k3 hsy) (sy_z3 hsy) rfl (by omega) dX7_freeze_45 ?_
        refine jr_aload_n hX dX7_freeze_46 rfl ?_
        refine jr_getr hX kF_X7_21 rfl (sy_k0 hsy) (sy_p0_3 hsy) dX7_freeze_47 ?_
        refine jr_iload_n hX dX7_freeze_50 rfl ?_
        refine jr_iald hX (sy_k3 hsy) rfl (by omega) dX7_freeze_51 ?_
        rw [jj_u_eq]
        refine jr_if_ge (tgt := 62) hX dX7_freeze_52 (by decide) (fun c_52 => ?_) (fun c_52 => ?_)
        · refine jr_aload_n hX dX7_freeze_62 rfl ?_
          refine jr_getr hX kF_X7_21 rfl (sy_k0 hsy) (sy_p0_3 hsy) dX7_freeze_63 ?_
          refine jr_iload_n hX dX7_freeze_66 rfl ?_
          refine jr_iald hX (sy_k3 hsy) rfl (by omega) dX7_freeze_67 ?_
          rw [jj_u_eq]
          refine jr_bipush (v := 60) hX dX7_freeze_68 (by decide) ?_
          refine jr_icmp_le (tgt := 81) hX dX7_freeze_70 (by decide) (fun c_70 => ?_) (fun c_70 => ?_)
          · refine jr_iinc hX dX7_freeze_81 rfl (by first | with_reducible exact jj_inc _ | with_reducible exact jj_inc1 _) rfl ?_
            refine jr_goto (tgt := 15) hX dX7_freeze_84 (by decide) ?_
            exact jr_I (by show jj_u _ _ _ (s_ib _ _) = _; rw [s_ib_a (by rw [if_pos (Int32.not_le.mp c_32)]) c_52 c_70]) ih
          · refine jr_aload_n hX dX7_freeze_73 rfl ?_
            refine jr_getr hX kF_X7_21 rfl (sy_k0 hsy) (sy_p0_3 hsy) dX7_freeze_74 ?_
            refine jr_iload_n hX dX7_freeze_77 rfl ?_
            refine jr_bipush (v := 60) hX dX7_freeze_78 (by decide) ?_
            refine jr_iast hX (sy_k3 hsy) (sy_z3 hsy) rfl (by omega) dX7_freeze_80 ?_
            refine jr_iinc hX dX7_freeze_81 rfl (by first | with_reducible exact jj_inc _ | with_reducible exact jj_inc1 _) rfl ?_
            refine jr_goto (tgt := 15) hX dX7_freeze_84 (by decide) ?_
            exact jr_I (by show jj_u _ _ _ (s_ib _ _) = _; rw [jj_uu, s_ib_b (by rw [if_pos (Int32.not_le.mp c_32)]) c_52 c_70]) ih
        · refine jr_aload_n hX dX7_freeze_55 rfl ?_
          refine jr_getr hX kF_X7_21 rfl (sy_k0 hsy) (sy_p0_3 hsy) dX7_freeze_56 ?_
          refine jr_iload_n hX dX7_freeze_59 rfl ?_
          refine jr_iconst (v := 0) hX dX7_freeze_60 (by decide) ?_
          refine jr_iast hX (sy_k3 hsy) (sy_z3 hsy) rfl (by omega) dX7_freeze_61 ?_
          refine jr_aload_n hX dX7_freeze_62 rfl ?_
          refine jr_getr hX kF_X7_21 rfl (sy_k0 hsy) (sy_p0_3 hsy) dX7_freeze_63 ?_
          refine jr_iload_n hX dX7_freeze_66 rfl ?_
          refine jr_iald hX (sy_k3 hsy) rfl (by omega) dX7_freeze_67 ?_
          rw [jj_u_eq]
          refine jr_bipush (v := 60) hX dX7_freeze_68 (by decide) ?_
          refine jr_icmp_le (tgt := 81) hX dX7_freeze_70 (by decide) (fun c_70 => ?_) (fun c_70 => absurd (by decide) c_70)
          refine jr_iinc hX dX7_freeze_81 rfl (by first | with_reducible exact jj_inc _ | with_reducible exact jj_inc1 _) rfl ?_
          refine jr_goto (tgt := 15) hX dX7_freeze_84 (by decide) ?_
          exact jr_I (by show jj_u _ _ _ (s_ib _ _) = _; rw [jj_uu, s_ib_c (by rw [if_pos (Int32.not_le.mp c_32)]) c_52]) ih
  exact hloop 0 (Nat.zero_le _)
set_option maxHeartbeats 4000000 in
set_option maxRecDepth 100000 in
theorem s_pays_n {l : Launch} (hfl : l.stackTraces = false) {D : jj_D} {n : Nat} {K : jj_K} {I : jj_I} {P : jj_P} {G : jj_G} {A : Nat → Nat} {H M B N : Nat} {d h a q g : Nat} (hsy : sy A H M B N n K P) (hdN : d < N) (hh : h < 8) (ha : I (A (60 + d)) 0 = nI a) (ha5 : a < 5) (hq : I (A (60 + d)) 1 = nI q) (hq5 : q < 5) (hg : I (A (60 + d)) 3 = nI g) (hg4 : g < 4) (hn : I (A (110 + 8 * q + h)) g < I (A (60 + d)) 4) :
    jj_Met l D yX7_pays (jj_ws yX7_pays cX7_pays 3 (some .boolean)) { frames := 0, cells := 0, slots := 0, locals := 0 } [.ref (A 0), .ref (A (60 + d)), .int (nI h)] n K I P G (jj_R (some (.int 0)) (n) (K) (I) (P) (G)) jj_noX := by
  refine jj_of hfl (by decide +kernel) [some (.ref (A 0)), some (.ref (A (60 + d))), some (.int (nI h))] rfl rfl ?_
  intro X hXl hX hSt
  obtain ⟨hH8, hM5, hB10, hN30⟩ := id hsy.1
  refine jr_aload_n hX dX7_pays_0 rfl ?_
  refine jr_getr hX kF_X7_29 rfl (sy_k0 hsy) (sy_p0_5 hsy) dX7_pays_1 ?_
  refine jr_aload_n hX dX7_pays_4 rfl ?_
  refine jr_iconst (v := 1) hX dX7_pays_5 (by decide) ?_
  refine jr_iald hX (sy_kD hsy hdN) (show _ = nI 1 from rfl) (by omega) dX7_pays_6 ?_
  rw [hq]
  refine jr_aald (t := 16) hX (by decide) (sy_k8 hsy) rfl (by omega) (sy_qM hsy (by omega)) dX7_pays_7 ?_
  refine jr_iload_n hX dX7_pays_8 rfl ?_
  refine jr_aald (t := 15) hX (by decide) (sy_kM hsy (by omega)) rfl (by omega) (sy_qS hsy (by omega) (by omega)) dX7_pays_9 ?_
  refine jr_aload_n hX dX7_pays_10 rfl ?_
  refine jr_iconst (v := 3) hX dX7_pays_11 (by decide) ?_
  refine jr_iald hX (sy_kD hsy hdN) (show _ = nI 3 from rfl) (by omega) dX7_pays_12 ?_
  rw [hg]
  refine jr_iald hX (sy_kS hsy (by omega) (by omega)) rfl (by omega) dX7_pays_13 ?_
  refine jr_aload_n hX dX7_pays_14 rfl ?_
  refine jr_iconst (v := 4) hX dX7_pays_15 (by decide) ?_
  refine jr_iald hX (sy_kD hsy hdN) (show _ = nI 4 from rfl) (by omega) dX7_pays_16 ?_
  refine jr_icmp_ge (tgt := 22) hX dX7_pays_17 (by decide) (fun c_17 => absurd c_17 (Int32.not_le.mpr hn)) (fun c_17 => ?_)
  refine jr_iconst (v := 0) hX dX7_pays_20 (by decide) ?_
  exact jr_zret hX (Or.inl rfl) dX7_pays_21 rfl rfl ⟨rfl, rfl, rfl, rfl, rfl, rfl⟩
set_option maxHeartbeats 4000000 in
set_option maxRecDepth 100000 in
theorem s_pays_y {l : Launch} (hfl : l.stackTraces = false) {D : jj_D} {n : Nat} {K : jj_K} {I : jj_I} {P : jj_P} {G : jj_G} {A : Nat → Nat} {H M B N : Nat} {d h a q g : Nat} (hsy : sy A H M B N n K P) (hdN : d < N) (hh : h < 8) (ha : I (A (60 + d)) 0 = nI a) (ha5 : a < 5) (hq : I (A (60 + d)) 1 = nI q) (hq5 : q < 5) (hg : I (A (60 + d)) 3 = nI g) (hg4 : g < 4) (hn : I (A (60 + d)) 4 ≤ I (A (110 + 8 * q + h)) g) :
    jj_Met l D yX7_pays (jj_ws yX7_pays cX7_pays 3 (some .boolean)) { frames := 0, cells := 0, slots := 0, locals := 0 } [.ref (A 0), .ref (A (60 + d)), .int (nI h)] n K I P G (jj_R (some (.int 1)) (n) (K) (s_py A a q h g d I) (P) (G)) jj_noX := by
  refine jj_of hfl (by decide +kernel) [some (.ref (A 0)), some (.ref (A (60 + d))), some (.int (nI h))] rfl rfl ?_
  intro X hXl hX hSt
  obtain ⟨hH8, hM5, hB10, hN30⟩ := id hsy.1
  refine jr_aload_n hX dX7_pays_0 rfl ?_
  refine jr_getr hX kF_X7_29 rfl (sy_k0 hsy) (sy_p0_5 hsy) dX7_pays_1 ?_
  refine jr_aload_n hX dX7_pays_4 rfl ?_
  refine jr_iconst (v := 1) hX dX7_pays_5 (by decide) ?_
  refine jr_iald hX (sy_kD hsy hdN) (show _ = nI 1 from rfl) (by omega) dX7_pays_6 ?_
  rw [hq]
  refine jr_aald (t := 16) hX (by decide) (sy_k8 hsy) rfl (by omega) (sy_qM hsy (by omega)) dX7_pays_7 ?_
  refine jr_iload_n hX dX7_pays_8 rfl ?_
  refine jr_aald (t := 15) hX (by decide) (sy_kM hsy (by omega)) rfl (by omega) (sy_qS hsy (by omega) (by omega)) dX7_pays_9 ?_
  refine jr_aload_n hX dX7_pays_10 rfl ?_
  refine jr_iconst (v := 3) hX dX7_pays_11 (by decide) ?_
  refine jr_iald hX (sy_kD hsy hdN) (show _ = nI 3 from rfl) (by omega) dX7_pays_12 ?_
  rw [hg]
  refine jr_iald hX (sy_kS hsy (by omega) (by omega)) rfl (by omega) dX7_pays_13 ?_
  refine jr_aload_n hX dX7_pays_14 rfl ?_
  refine jr_iconst (v := 4) hX dX7_pays_15 (by decide) ?_
  refine jr_iald hX (sy_kD hsy hdN) (show _ = nI 4 from rfl) (by omega) dX7_pays_16 ?_
  refine jr_icmp_ge (tgt := 22) hX dX7_pays_17 (by decide) (fun c_17 => ?_) (fun c_17 => absurd hn c_17)
  refine jr_aload_n hX dX7_pays_22 rfl ?_
  refine jr_getr hX kF_X7_29 rfl (sy_k0 hsy) (sy_p0_5 hsy) dX7_pays_23 ?_
  refine jr_aload_n hX dX7_pays_26 rfl ?_
  refine jr_iconst (v := 1) hX dX7_pays_27 (by decide) ?_
  refine jr_iald hX (sy_kD hsy hdN) (show _ = nI 1 from rfl) (by omega) dX7_pays_28 ?_
  rw [hq]
  refine jr_aald (t := 16) hX (by decide) (sy_k8 hsy) rfl (by omega) (sy_qM hsy (by omega)) dX7_pays_29 ?_
  refine jr_iload_n hX dX7_pays_30 rfl ?_
  refine jr_aald (t := 15) hX (by decide) (sy_kM hsy (by omega)) rfl (by omega) (sy_qS hsy (by omega) (by omega)) dX7_pays_31 ?_
  refine jr_aload_n hX dX7_pays_32 rfl ?_
  refine jr_iconst (v := 3) hX dX7_pays_33 (by decide) ?_
  refine jr_iald hX (sy_kD hsy hdN) (show _ = nI 3 from rfl) (by omega) dX7_pays_34 ?_
  rw [hg]
  refine jr_dup2 hX dX7_pays_35 rfl rfl ?_
  refine jr_iald hX (sy_kS hsy (by omega) (by omega)) rfl (by omega) dX7_pays_36 ?_
  refine jr_aload_n hX dX7_pays_37 rfl ?_
  refine jr_iconst (v := 4) hX dX7_pays_38 (by decide) ?_
  refine jr_iald hX (sy_kD hsy hdN) (show _ = nI 4 from rfl) (by omega) dX7_pays_39 ?_
  refine jr_isub hX dX7_pays_40 ?_
  refine jr_iast hX (sy_kS hsy (by omega) (by omega)) (sy_zS hsy (by omega) (by omega)) rfl (by omega) dX7_pays_41 ?_
  refine jr_aload_n hX dX7_pays_42 rfl ?_
  refine jr_getr hX kF_X7_29 rfl (sy_k0 hsy) (sy_p0_5 hsy) dX7_pays_43 ?_
  refine jr_aload_n hX dX7_pays_46 rfl ?_
  refine jr_iconst (v := 0) hX dX7_pays_47 (by decide) ?_
  refine jr_iald hX (sy_kD hsy hdN) (show _ = nI 0 from rfl) (by omega) dX7_pays_48 ?_
  rw [sy_off hsy (by rw [sy_eS hsy.1 (by omega) (by omega)]; simp) (by rw [sy_eD hsy.1 hdN]; simp) (by omega)]
  rw [ha]
  refine jr_aald (t := 16) hX (by decide) (sy_k8 hsy) rfl (by omega) (sy_qM hsy (by omega)) dX7_pays_49 ?_
  refine jr_iload_n hX dX7_pays_50 rfl ?_
  refine jr_aald (t := 15) hX (by decide) (sy_kM hsy (by omega)) rfl (by omega) (sy_qS hsy (by omega) (by omega)) dX7_pays_51 ?_
  refine jr_aload_n hX dX7_pays_52 rfl ?_
  refine jr_iconst (v := 3) hX dX7_pays_53 (by decide) ?_
  refine jr_iald hX (sy_kD hsy hdN) (show _ = nI 3 from rfl) (by omega) dX7_pays_54 ?_
  rw [sy_off hsy (by rw [sy_eS hsy.1 (by omega) (by omega)]; simp) (by rw [sy_eD hsy.1 hdN]; simp) (by omega)]
  rw [hg]
  refine jr_dup2 hX dX7_pays_55 rfl rfl ?_
  refine jr_iald hX (sy_kS hsy (by omega) (by omega)) rfl (by omega) dX7_pays_56 ?_
  refine jr_aload_n hX dX7_pays_57 rfl ?_
  refine jr_iconst (v := 4) hX dX7_pays_58 (by decide) ?_
  refine jr_iald hX (sy_kD hsy hdN) (show _ = nI 4 from rfl) (by omega) dX7_pays_59 ?_
  rw [sy_off hsy (by rw [sy_eS hsy.1 (by omega) (by omega)]; simp) (by rw [sy_eD hsy.1 hdN]; simp) (by omega)]
  refine jr_iadd hX dX7_pays_60 ?_
  refine jr_iast hX (sy_kS hsy (by omega) (by omega)) (sy_zS hsy (by omega) (by omega)) rfl (by omega) dX7_pays_61 ?_
  refine jr_aload_n hX dX7_pays_62 rfl ?_
  refine jr_bipush (v := 6) hX dX7_pays_63 (by decide) ?_
  refine jr_iconst (v := 1) hX dX7_pays_65 (by decide) ?_
  refine jr_iast hX (sy_kD hsy hdN) (sy_zD hsy hdN) (show _ = nI 6 from rfl) (by omega) dX7_pays_66 ?_
  refine jr_iconst (v := 1) hX dX7_pays_67 (by decide) ?_
  exact jr_zret hX (Or.inr rfl) dX7_pays_68 rfl rfl ⟨rfl, rfl, rfl, rfl, rfl, rfl⟩
