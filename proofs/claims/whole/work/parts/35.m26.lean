/-! the model looks ahead over frost alone -/
theorem ly_lt {a : Nat} {kd : Nat × Nat} (h : ly_K0 a = some kd) : a < 161 := by
  unfold ly_K0 at h
  by_cases q : a < 161
  · exact q
  · rw [if_neg (by omega), if_neg (by omega), if_neg (by omega), if_neg (by omega), if_neg (by omega), if_neg (by omega)] at h
    exact absurd h (by simp)
theorem ly_uK {K : jj_K} {P : jj_P} {n : Nat} {kd : Nat × Nat} (h : ly K P) (hn : 161 ≤ n) : ly (jj_uK K n kd) P :=
  ⟨fun a k hk => by
    have := ly_lt hk
    unfold jj_uK
    rw [if_neg (by omega)]
    exact h.1 a k hk, h.2⟩
section JC1
variable {X : jj_X} {D : jj_D} {cs sl nL : Nat} {Q : State → Prop} {n m : Nat} {K : jj_K} {I : jj_I} {P : jj_P} {G : jj_G} {pc : Nat} {L : List (Option Value)}
/-- a row that was made is forgotten -/
theorem jr_cl1 {kd : Nat × Nat} {f : Nat → Int32} {st : List Value} (hK : K m = none) (k : jj_J X D nL cs sl Q n K (jj_uR I m f) P G pc L st) : jj_J X D nL cs sl Q n (jj_uK K m kd) I P G pc L st := by
  have ne : ∀ a k, K a = some k → a ≠ m := fun a k h e => by subst e; rw [hK] at h; exact absurd h (by simp)
  exact jr_clean (fun a k h => by unfold jj_uK; rw [if_neg (ne a k h)]; exact h) (fun a k h => jj_uR_ne (ne a k h)) (fun _ _ _ => rfl) k
end JC1
/-- ice and day as they were -/
theorem ml_back {H M B N n d : Nat} {C I J : jj_I} (z : mlZ M B N) (hm : ml 0 H M B N C I) (hz : mz M C I) (hn : 161 ≤ n) (hd : I 160 0 = nI d) (o : ∀ a, a ≠ 155 → a ≠ 160 → J a = jj_uR I n (I 155) a) (f : Nat → Int32) (hI : jj_I) (e0 : I 150 0 = 0) (eI : ∀ a, offN a → I a = hI a) (ef : f = hI n) :
    (fun S : jj_I => S 150 0 = 0 ∧ ml 0 H M B N C S ∧ mz M C S ∧ ∀ a, offN a → S a = hI a) (jj_uR (jj_u (jj_uR J 155 (va_cpy (J n) (J 155) 0 0 8)) 160 0 (nI d)) n f) := by
  have r : ∀ a, a < 161 → a ≠ 155 → a ≠ 160 → jj_uR (jj_u (jj_uR J 155 (va_cpy (J n) (J 155) 0 0 8)) 160 0 (nI d)) n f a = I a := fun a h1 h2 h3 => by
    rw [jj_uR_ne (by omega), jj_u_ne h3, jj_uR_ne h2, o a h2 h3, jj_uR_ne (by omega)]
  dsimp only
  refine ⟨by rw [r 150 (by decide) (by decide) (by decide)]; exact e0, ?_, mz_cg hz (fun m _ _ => by rw [r 156 (by decide) (by decide) (by decide)]) (fun m k _ _ _ => by rw [r 157 (by decide) (by decide) (by decide)]) (fun _ _ _ => rfl), fun a ha => ?_⟩
  · refine ml_cgp z hm (by unfold mlN; rw [r 150 (by decide) (by decide) (by decide)]; exact hm.1) (fun a h1 h2 => r a (by omega) (by omega) (by omega)) ?_ (fun k hk => ?_) (fun k hk => by rw [r 156 (by decide) (by decide) (by decide)]) (fun k hk => by rw [r 157 (by decide) (by decide) (by decide)]) (fun k hk => by rw [r 158 (by decide) (by decide) (by decide)]) (fun k hk => by rw [r 159 (by decide) (by decide) (by decide)])
    · rw [jj_uR_ne (by omega), jj_u_eq, hd]
    · rw [jj_uR_ne (by omega), jj_u_ne (by decide), jj_uR_eq, pk_cpy_in (Nat.zero_le _) (by omega), o n (by omega) (by omega), jj_uR_eq]
      simp
  · by_cases e : a = n
    · subst e; rw [jj_uR_eq, ef]
    · unfold offN at ha
      rw [jj_uR_ne e, jj_u_ne (by omega), jj_uR_ne (by omega), o a (by omega) (by omega), jj_uR_ne e]
      exact eI a ha
set_option maxHeartbeats 4000000 in
set_option maxRecDepth 100000 in
theorem m_opens_x1 {l : Launch} (hfl : l.stackTraces = false) {D : jj_D} {n : Nat} {K : jj_K} {I : jj_I} {P : jj_P} {G : jj_G} (hly : ly K P) {H M B N : Nat} {C : jj_I} {h : Int32} (hs : sf 0 H M B N C) (hk : sk 0 H M B N C) (hm : ml 0 H M B N C I) (hz : mz M C I) (h_h : h < 0 ∨ nI (H - 1) ≤ h) :
    jj_Met l D yX6_opens (jj_ws yX6_opens cX6_opens 5 (some .int)) { frames := 2, cells := 0, slots := 0, locals := 43 } [.ref 150, .int h] n K I P G (jj_R (some (.int 0)) (n) (K) (jj_u (jj_u I 150 0 0) 150 0 1) (P) (G)) jj_noX := by
  refine jj_of hfl (by decide +kernel) [some (.ref 150), some (.int h), none, none, none] rfl rfl ?_
  intro X hXl hX hSt
  have z := sf_Z hs
  have hm0 : ml 0 H M B N C (jj_u I 150 0 0) := ml_th hm z
  have hz0 : mz M C (jj_u I 150 0 0) := mz_th hz
  have hH0 := hm0.1.1
  have hM0 := hm0.1.2.1
  have hB0 := hm0.1.2.2.1
  have hN0 := hm0.1.2.2.2
  have hH2 := hs.1.2
  have hM2 := z.1
  have hB2 := z.2.1
  have hN2 := z.2.2
  refine jr_aload_n hX dX6_opens_0 rfl ?_
  refine jr_iconst (v := 0) hX dX6_opens_1 (by decide) ?_
  refine jr_puti hX kF_X6_40 rfl (ly_kMo hly) (by decide) dX6_opens_2 ?_
  refine jr_iload_n hX dX6_opens_5 rfl ?_
  refine jr_iconst (v := 0) hX dX6_opens_6 (by decide) ?_
  refine jr_aload_n hX dX6_opens_7 rfl ?_
  refine jr_geti hX kF_X6_44 rfl (ly_kMo hly) dX6_opens_8 ?_
  refine jr_iconst (v := 2) hX dX6_opens_11 (by decide) ?_
  refine jr_isub hX dX6_opens_12 ?_
  rw [hH0]
  refine jr_ret (jr_runS hX hSt kM_X6_47 (c_isIn_x (jj_fl hX) (jm_x2 h_h hH2)) rfl rfl dX6_opens_13 rfl ⟨jj_b1 rfl, jj_b1 rfl⟩ rfl) ?_
  refine jr_if_ne (tgt := 25) hX dX6_opens_16 (by decide) (fun c_16 => absurd rfl c_16) (fun c_16 => ?_)
  refine jr_aload_n hX dX6_opens_19 rfl ?_
  refine jr_iconst (v := 1) hX dX6_opens_20 (by decide) ?_
  refine jr_ret (jr_runV hX hSt kM_X6_57 (c_fail (jj_fl hX) hly) rfl rfl (ly_kMo hly) ⟨_, _, rfl, by decide⟩ dX6_opens_21 rfl ⟨jj_b1 rfl, jj_b1 rfl⟩ rfl) ?_
  exact jr_iret hX dX6_opens_24 rfl rfl ⟨rfl, rfl, rfl, rfl, rfl, rfl⟩
set_option maxHeartbeats 4000000 in
set_option maxRecDepth 100000 in
theorem m_opens_ok {l : Launch} (hfl : l.stackTraces = false) {D : jj_D} {n : Nat} {K : jj_K} {I : jj_I} {P : jj_P} {G : jj_G} (hly : ly K P) {H M B N d h : Nat} {C : jj_I} (hs : sf 0 H M B N C) (hk : sk 0 H M B N C) (hm : ml 0 H M B N C I) (hz : mz M C I) (hd : C (aR 0) 0 = nI d) (hd2 : d < 2000000000) (hn : 161 ≤ n) (hKn : ∀ a, n ≤ a → K a = none) (h_h : h < H - 1) :
    jj_Met l D yX6_opens (jj_ws yX6_opens cX6_opens 5 (some .int)) { frames := 2, cells := 1, slots := 8, locals := 43 } [.ref 150, .int (nI h)] n K I P G (jj_RS (fun r J => r = some (.int (f_fs (g_op h d C) 121 0)) ∧ J 150 0 = 0 ∧ ml 0 H M B N C J ∧ mz M C J ∧ ∀ a, offN a → J a = I a) (n + 1) K P G) jj_noX := by
  refine jj_of hfl (by decide +kernel) [some (.ref 150), some (.int (nI h)), none, none, none] rfl rfl ?_
  intro X hXl hX hSt
  have z := sf_Z hs
  have hm0 : ml 0 H M B N C (jj_u I 150 0 0) := ml_th hm z
  have hz0 : mz M C (jj_u I 150 0 0) := mz_th hz
  have hH0 := hm0.1.1
  have hM0 := hm0.1.2.1
  have hB0 := hm0.1.2.2.1
  have hN0 := hm0.1.2.2.2
  have hH2 := hs.1.2
  have hM2 := z.1
  have hB2 := z.2.1
  have hN2 := z.2.2
  have dy0 : (jj_u I 150 0 0) 160 0 = nI d := (ml_hDay hm0).trans hd
  have zd := zd_ok hs hd
  have K9 : (jj_uK K n (10, 8)) n = some (10, 8) := if_pos rfl
  have hly0 := hly
  have n160 : (160 : Nat) ≠ n := by omega
  have hmI : ml 0 H M B N C (jj_uR (jj_u I 150 0 0) n ((jj_u I 150 0 0) 155)) := ml_cg (fun _ _ _ => rfl) (fun a h1 h2 => ⟨fun e => by rw [jj_uR_ne (by omega)]; exact ⟨rfl, rfl, rfl, rfl⟩, fun e => jj_uR_ne (by omega)⟩) z hm0
  refine jr_aload_n hX dX6_opens_0 rfl ?_
  refine jr_iconst (v := 0) hX dX6_opens_1 (by decide) ?_
  refine jr_puti hX kF_X6_40 rfl (ly_kMo hly) (by decide) dX6_opens_2 ?_
  refine jr_iload_n hX dX6_opens_5 rfl ?_
  refine jr_iconst (v := 0) hX dX6_opens_6 (by decide) ?_
  refine jr_aload_n hX dX6_opens_7 rfl ?_
  refine jr_geti hX kF_X6_44 rfl (ly_kMo hly) dX6_opens_8 ?_
  refine jr_iconst (v := 2) hX dX6_opens_11 (by decide) ?_
  refine jr_isub hX dX6_opens_12 ?_
  rw [hH0]
  refine jr_ret (jr_runS hX hSt kM_X6_47 (c_isIn_ok (jj_fl hX) (jm_i2 h_h hH2)) rfl rfl dX6_opens_13 rfl ⟨jj_b1 rfl, jj_b1 rfl⟩ rfl) ?_
  refine jr_if_ne (tgt := 25) hX dX6_opens_16 (by decide) (fun c_16 => ?_) (fun c_16 => absurd c_16 (by decide))
  refine jr_aload_n hX dX6_opens_25 rfl ?_
  refine jr_getr hX kF_X6_22 rfl (ly_kMo hly) (ly_p6_9 hly) dX6_opens_26 ?_
  refine jr_clone hX hSt kM_X6_159 (ly_k155 hly) (by omega) dX6_opens_29 rfl ⟨jj_b1 rfl, jj_b1 rfl⟩ ?_
  have hly := ly_uK (kd := (10, 8)) hly hn
  refine jr_cast hX kC_X6_158 (by first | with_reducible assumption | with_reducible exact ly_kWm hly (by first | assumption | omega) | with_reducible exact ly_kLd hly (by first | assumption | omega) | with_reducible exact ly_kIc hly (by first | assumption | omega) | with_reducible exact ly_kBe hly (by first | assumption | omega) | with_reducible exact ly_kPr hly (by first | assumption | omega) | with_reducible exact ly_kMt hly (by first | assumption | omega) (by first | assumption | omega) | with_reducible exact ly_kBc hly (by first | assumption | omega) (by first | assumption | omega) | with_reducible exact ly_k151 hly | with_reducible exact ly_k152 hly | with_reducible exact ly_k153 hly | with_reducible exact ly_k154 hly | with_reducible exact ly_k155 hly | with_reducible exact ly_k156 hly | with_reducible exact ly_k157 hly | with_reducible exact ly_k158 hly | with_reducible exact ly_k159 hly | with_reducible exact ly_k160 hly | with_reducible exact ly_kAh hly (by first | assumption | omega)) dX6_opens_32 ?_
  refine jr_astore_n hX dX6_opens_35 rfl ?_
  refine jr_aload_n hX dX6_opens_36 rfl ?_
  refine jr_getr hX kF_X6_37 rfl (ly_kMo hly) (ly_p6_14 hly) dX6_opens_37 ?_
  refine jr_iconst (v := 0) hX dX6_opens_40 (by decide) ?_
  refine jr_iald hX (by first | with_reducible assumption | with_reducible exact ly_kWm hly (by first | assumption | omega) | with_reducible exact ly_kLd hly (by first | assumption | omega) | with_reducible exact ly_kIc hly (by first | assumption | omega) | with_reducible exact ly_kBe hly (by first | assumption | omega) | with_reducible exact ly_kPr hly (by first | assumption | omega) | with_reducible exact ly_kMt hly (by first | assumption | omega) (by first | assumption | omega) | with_reducible exact ly_kBc hly (by first | assumption | omega) (by first | assumption | omega) | with_reducible exact ly_k151 hly | with_reducible exact ly_k152 hly | with_reducible exact ly_k153 hly | with_reducible exact ly_k154 hly | with_reducible exact ly_k155 hly | with_reducible exact ly_k156 hly | with_reducible exact ly_k157 hly | with_reducible exact ly_k158 hly | with_reducible exact ly_k159 hly | with_reducible exact ly_k160 hly | with_reducible exact ly_kAh hly (by first | assumption | omega)) (show _ = nI 0 from rfl) (by omega) dX6_opens_41 ?_
  rw [jj_uR_ne n160, dy0]
  refine jr_istore_n hX dX6_opens_42 rfl ?_
  refine jr_iconst (v := 0) hX dX6_opens_43 (by decide) ?_
  refine jr_istore hX dX6_opens_44 rfl ?_
  have hloop : ∀ k, k ≤ 120 → ∀ J : jj_I, ml 0 H M B N (f_zd H d C k) J → (∀ a, a ≠ 155 → a ≠ 160 → J a = (jj_uR (jj_u I 150 0 0) n ((jj_u I 150 0 0) 155)) a) → f_fs (g_op h d C) 121 0 = f_fs (g_op h d C) (121 - k) k → jj_J X D 5 1 8 (jj_MQ X D { frames := 2, cells := 1, slots := 8, locals := 43 } (jj_RS (fun r J => r = some (.int (f_fs (g_op h d C) 121 0)) ∧ J 150 0 = 0 ∧ ml 0 H M B N C J ∧ mz M C J ∧ ∀ a, offN a → J a = I a) (n + 1) K P G) jj_noX) (n + 1) ((jj_uK K n (10, 8))) (J) (P) (G) 46 [some (.ref 150), some (.int (nI h)), some (.ref n), some (.int (nI d)), some (.int (nI k))] [] := by
    refine jj_for (120) _ ?_ (fun k hk ih => ?_)
    · intro J o1 o2 hv
      
      have oq : q_ol 0 (f_zd H d C 120) h = if f_ice h d C 120 ≤ 10 then 1 else 0 := by unfold q_ol; rw [zd_ice hs hd h_h 120]
      refine jr_iload hX dX6_opens_46 rfl ?_
      refine jr_bipush (v := 120) hX dX6_opens_48 (by decide) ?_
      refine jr_icmp_ge (tgt := 81) hX dX6_opens_50 (by decide) (fun c_50 => ?_) (fun c_50 => absurd (by decide) c_50)
      refine jr_aload_n hX dX6_opens_81 rfl ?_
      refine jr_iload_n hX dX6_opens_82 rfl ?_
      refine jr_ret (jr_runV hX hSt kM_X6_90 (c_isOpen (jj_fl hX) hly rfl (by omega)) rfl rfl (ly_kMo hly) ⟨_, _, rfl, by decide⟩ dX6_opens_83 rfl ⟨jj_b1 rfl, jj_b1 rfl⟩ rfl) ?_
      rw [jm_ol o1 (show h < 7 by omega), oq]
      refine jr_if_ne (tgt := 92) hX dX6_opens_86 (by decide) (fun c_86 => ?_) (fun c_86 => ?_)
      · refine jr_aload_n hX dX6_opens_92 rfl ?_
        refine jr_iconst (v := 0) hX dX6_opens_93 (by decide) ?_
        refine jr_aload_n hX dX6_opens_94 rfl ?_
        refine jr_getr hX kF_X6_22 rfl (ly_kMo hly) (ly_p6_9 hly) dX6_opens_95 ?_
        refine jr_iconst (v := 0) hX dX6_opens_98 (by decide) ?_
        refine jr_bipush (v := 8) hX dX6_opens_99 (by decide) ?_
        refine jr_copy hX kM_X6_115 K9 (ly_k155 hly) (by decide) (show _ = nI 0 from rfl) (show _ = nI 0 from rfl) (show _ = nI 8 from rfl) (by omega) dX6_opens_101 rfl ?_
        refine jr_aload_n hX dX6_opens_104 rfl ?_
        refine jr_getr hX kF_X6_37 rfl (ly_kMo hly) (ly_p6_14 hly) dX6_opens_105 ?_
        refine jr_iconst (v := 0) hX dX6_opens_108 (by decide) ?_
        refine jr_iload_n hX dX6_opens_109 rfl ?_
        refine jr_iast hX (by first | with_reducible assumption | with_reducible exact ly_kWm hly (by first | assumption | omega) | with_reducible exact ly_kLd hly (by first | assumption | omega) | with_reducible exact ly_kIc hly (by first | assumption | omega) | with_reducible exact ly_kBe hly (by first | assumption | omega) | with_reducible exact ly_kPr hly (by first | assumption | omega) | with_reducible exact ly_kMt hly (by first | assumption | omega) (by first | assumption | omega) | with_reducible exact ly_kBc hly (by first | assumption | omega) (by first | assumption | omega) | with_reducible exact ly_k151 hly | with_reducible exact ly_k152 hly | with_reducible exact ly_k153 hly | with_reducible exact ly_k154 hly | with_reducible exact ly_k155 hly | with_reducible exact ly_k156 hly | with_reducible exact ly_k157 hly | with_reducible exact ly_k158 hly | with_reducible exact ly_k159 hly | with_reducible exact ly_k160 hly | with_reducible exact ly_kAh hly (by first | assumption | omega)) (by first | assumption | with_reducible exact aMt_0 | with_reducible exact aBc_0 | with_reducible exact aWm_0 | with_reducible exact aLd_0 | with_reducible exact aIc_0 | with_reducible exact aBe_0 | with_reducible exact aPr_0 | with_reducible exact aAh_0 | decide | omega) (show _ = nI 0 from rfl) (by omega) dX6_opens_110 ?_
        refine jr_cl1 (f := I n) (hKn n (Nat.le_refl _)) ?_
        refine jr_iload hX dX6_opens_111 rfl ?_
        exact jr_iret hX dX6_opens_113 rfl rfl ⟨⟨by rw [hv, f_fs_s (m := 0) (k := 120) (if_pos (jl_01 c_86))], ml_back z hm0 hz0 hn dy0 o2 _ I jj_u_eq (fun a ha => jj_u_ne (by unfold offN at ha; omega)) rfl⟩, rfl, rfl, rfl, rfl⟩
      · refine jr_iconst (v := -1) hX dX6_opens_89 (by decide) ?_
        refine jr_istore hX dX6_opens_90 rfl ?_
        refine jr_aload_n hX dX6_opens_92 rfl ?_
        refine jr_iconst (v := 0) hX dX6_opens_93 (by decide) ?_
        refine jr_aload_n hX dX6_opens_94 rfl ?_
        refine jr_getr hX kF_X6_22 rfl (ly_kMo hly) (ly_p6_9 hly) dX6_opens_95 ?_
        refine jr_iconst (v := 0) hX dX6_opens_98 (by decide) ?_
        refine jr_bipush (v := 8) hX dX6_opens_99 (by decide) ?_
        refine jr_copy hX kM_X6_115 K9 (ly_k155 hly) (by decide) (show _ = nI 0 from rfl) (show _ = nI 0 from rfl) (show _ = nI 8 from rfl) (by omega) dX6_opens_101 rfl ?_
        refine jr_aload_n hX dX6_opens_104 rfl ?_
        refine jr_getr hX kF_X6_37 rfl (ly_kMo hly) (ly_p6_14 hly) dX6_opens_105 ?_
        refine jr_iconst (v := 0) hX dX6_opens_108 (by decide) ?_
        refine jr_iload_n hX dX6_opens_109 rfl ?_
        refine jr_iast hX (by first | with_reducible assumption | with_reducible exact ly_kWm hly (by first | assumption | omega) | with_reducible exact ly_kLd hly (by first | assumption | omega) | with_reducible exact ly_kIc hly (by first | assumption | omega) | with_reducible exact ly_kBe hly (by first | assumption | omega) | with_reducible exact ly_kPr hly (by first | assumption | omega) | with_reducible exact ly_kMt hly (by first | assumption | omega) (by first | assumption | omega) | with_reducible exact ly_kBc hly (by first | assumption | omega) (by first | assumption | omega) | with_reducible exact ly_k151 hly | with_reducible exact ly_k152 hly | with_reducible exact ly_k153 hly | with_reducible exact ly_k154 hly | with_reducible exact ly_k155 hly | with_reducible exact ly_k156 hly | with_reducible exact ly_k157 hly | with_reducible exact ly_k158 hly | with_reducible exact ly_k159 hly | with_reducible exact ly_k160 hly | with_reducible exact ly_kAh hly (by first | assumption | omega)) (by first | assumption | with_reducible exact aMt_0 | with_reducible exact aBc_0 | with_reducible exact aWm_0 | with_reducible exact aLd_0 | with_reducible exact aIc_0 | with_reducible exact aBe_0 | with_reducible exact aPr_0 | with_reducible exact aAh_0 | decide | omega) (show _ = nI 0 from rfl) (by omega) dX6_opens_110 ?_
        refine jr_cl1 (f := I n) (hKn n (Nat.le_refl _)) ?_
        refine jr_iload hX dX6_opens_111 rfl ?_
        exact jr_iret hX dX6_opens_113 rfl rfl ⟨⟨by rw [hv, f_fs_n (m := 0) (k := 120) (if_neg (jl_00 c_86))]; rfl, ml_back z hm0 hz0 hn dy0 o2 _ I jj_u_eq (fun a ha => jj_u_ne (by unfold offN at ha; omega)) rfl⟩, rfl, rfl, rfl, rfl⟩
    · intro J o1 o2 hv
      
      have oq : q_ol 0 (f_zd H d C k) h = if f_ice h d C k ≤ 10 then 1 else 0 := by unfold q_ol; rw [zd_ice hs hd h_h k]
      refine jr_iload hX dX6_opens_46 rfl ?_
      refine jr_bipush (v := 120) hX dX6_opens_48 (by decide) ?_
      refine jr_icmp_ge (tgt := 81) hX dX6_opens_50 (by decide) (fun c_50 => absurd c_50 (show ¬ nI 120 ≤ nI k from nI_ge (by assumption) (by omega))) (fun c_50 => ?_)
      refine jr_aload_n hX dX6_opens_53 rfl ?_
      refine jr_iload_n hX dX6_opens_54 rfl ?_
      refine jr_ret (jr_runV hX hSt kM_X6_90 (c_isOpen (jj_fl hX) hly rfl (by omega)) rfl rfl (ly_kMo hly) ⟨_, _, rfl, by decide⟩ dX6_opens_55 rfl ⟨jj_b1 rfl, jj_b1 rfl⟩ rfl) ?_
      rw [jm_ol o1 (show h < 7 by omega), oq]
      refine jr_if_ne (tgt := 81) hX dX6_opens_58 (by decide) (fun c_58 => ?_) (fun c_58 => ?_)
      · refine jr_aload_n hX dX6_opens_81 rfl ?_
        refine jr_iload_n hX dX6_opens_82 rfl ?_
        refine jr_ret (jr_runV hX hSt kM_X6_90 (c_isOpen (jj_fl hX) hly rfl (by omega)) rfl rfl (ly_kMo hly) ⟨_, _, rfl, by decide⟩ dX6_opens_83 rfl ⟨jj_b1 rfl, jj_b1 rfl⟩ rfl) ?_
        rw [jm_ol o1 (show h < 7 by omega), oq]
        refine jr_if_ne (tgt := 92) hX dX6_opens_86 (by decide) (fun c_86 => ?_) (fun c_86 => absurd c_86 (fun e => c_58 e))
        refine jr_aload_n hX dX6_opens_92 rfl ?_
        refine jr_iconst (v := 0) hX dX6_opens_93 (by decide) ?_
        refine jr_aload_n hX dX6_opens_94 rfl ?_
        refine jr_getr hX kF_X6_22 rfl (ly_kMo hly) (ly_p6_9 hly) dX6_opens_95 ?_
        refine jr_iconst (v := 0) hX dX6_opens_98 (by decide) ?_
        refine jr_bipush (v := 8) hX dX6_opens_99 (by decide) ?_
        refine jr_copy hX kM_X6_115 K9 (ly_k155 hly) (by decide) (show _ = nI 0 from rfl) (show _ = nI 0 from rfl) (show _ = nI 8 from rfl) (by omega) dX6_opens_101 rfl ?_
        refine jr_aload_n hX dX6_opens_104 rfl ?_
        refine jr_getr hX kF_X6_37 rfl (ly_kMo hly) (ly_p6_14 hly) dX6_opens_105 ?_
        refine jr_iconst (v := 0) hX dX6_opens_108 (by decide) ?_
        refine jr_iload_n hX dX6_opens_109 rfl ?_
        refine jr_iast hX (by first | with_reducible assumption | with_reducible exact ly_kWm hly (by first | assumption | omega) | with_reducible exact ly_kLd hly (by first | assumption | omega) | with_reducible exact ly_kIc hly (by first | assumption | omega) | with_reducible exact ly_kBe hly (by first | assumption | omega) | with_reducible exact ly_kPr hly (by first | assumption | omega) | with_reducible exact ly_kMt hly (by first | assumption | omega) (by first | assumption | omega) | with_reducible exact ly_kBc hly (by first | assumption | omega) (by first | assumption | omega) | with_reducible exact ly_k151 hly | with_reducible exact ly_k152 hly | with_reducible exact ly_k153 hly | with_reducible exact ly_k154 hly | with_reducible exact ly_k155 hly | with_reducible exact ly_k156 hly | with_reducible exact ly_k157 hly | with_reducible exact ly_k158 hly | with_reducible exact ly_k159 hly | with_reducible exact ly_k160 hly | with_reducible exact ly_kAh hly (by first | assumption | omega)) (by first | assumption | with_reducible exact aMt_0 | with_reducible exact aBc_0 | with_reducible exact aWm_0 | with_reducible exact aLd_0 | with_reducible exact aIc_0 | with_reducible exact aBe_0 | with_reducible exact aPr_0 | with_reducible exact aAh_0 | decide | omega) (show _ = nI 0 from rfl) (by omega) dX6_opens_110 ?_
        refine jr_cl1 (f := I n) (hKn n (Nat.le_refl _)) ?_
        refine jr_iload hX dX6_opens_111 rfl ?_
        exact jr_iret hX dX6_opens_113 rfl rfl ⟨⟨by rw [hv, show 121 - k = (121 - (k + 1)) + 1 by omega, f_fs_s (if_pos (jl_01 c_58))], ml_back z hm0 hz0 hn dy0 o2 _ I jj_u_eq (fun a ha => jj_u_ne (by unfold offN at ha; omega)) rfl⟩, rfl, rfl, rfl, rfl⟩
      · refine jr_aload_n hX dX6_opens_61 rfl ?_
        refine jr_rel (jr_runV hX hSt kM_X6_145 (c_freeze (jj_fl hX) hly (zd k).1 o1 (zd k).2.1 (by omega)) rfl rfl (ly_kMo hly) ⟨_, _, rfl, by decide⟩ dX6_opens_62 rfl ⟨jj_b1 rfl, jj_b1 rfl⟩ rfl) ?_
        rintro r J1 ⟨rfl, p1, p2⟩
        simp only [Option.toList, List.nil_append]
        refine jr_aload_n hX dX6_opens_65 rfl ?_
        refine jr_getr hX kF_X6_37 rfl (ly_kMo hly) (ly_p6_14 hly) dX6_opens_66 ?_
        refine jr_iconst (v := 0) hX dX6_opens_69 (by decide) ?_
        refine jr_dup2 hX dX6_opens_70 rfl rfl ?_
        refine jr_iald hX (by first | with_reducible assumption | with_reducible exact ly_kWm hly (by first | assumption | omega) | with_reducible exact ly_kLd hly (by first | assumption | omega) | with_reducible exact ly_kIc hly (by first | assumption | omega) | with_reducible exact ly_kBe hly (by first | assumption | omega) | with_reducible exact ly_kPr hly (by first | assumption | omega) | with_reducible exact ly_kMt hly (by first | assumption | omega) (by first | assumption | omega) | with_reducible exact ly_kBc hly (by first | assumption | omega) (by first | assumption | omega) | with_reducible exact ly_k151 hly | with_reducible exact ly_k152 hly | with_reducible exact ly_k153 hly | with_reducible exact ly_k154 hly | with_reducible exact ly_k155 hly | with_reducible exact ly_k156 hly | with_reducible exact ly_k157 hly | with_reducible exact ly_k158 hly | with_reducible exact ly_k159 hly | with_reducible exact ly_k160 hly | with_reducible exact ly_kAh hly (by first | assumption | omega)) (show _ = nI 0 from rfl) (by omega) dX6_opens_71 ?_
        refine jr_iconst (v := 1) hX dX6_opens_72 (by decide) ?_
        refine jr_iadd hX dX6_opens_73 ?_
        refine jr_iast hX (by first | with_reducible assumption | with_reducible exact ly_kWm hly (by first | assumption | omega) | with_reducible exact ly_kLd hly (by first | assumption | omega) | with_reducible exact ly_kIc hly (by first | assumption | omega) | with_reducible exact ly_kBe hly (by first | assumption | omega) | with_reducible exact ly_kPr hly (by first | assumption | omega) | with_reducible exact ly_kMt hly (by first | assumption | omega) (by first | assumption | omega) | with_reducible exact ly_kBc hly (by first | assumption | omega) (by first | assumption | omega) | with_reducible exact ly_k151 hly | with_reducible exact ly_k152 hly | with_reducible exact ly_k153 hly | with_reducible exact ly_k154 hly | with_reducible exact ly_k155 hly | with_reducible exact ly_k156 hly | with_reducible exact ly_k157 hly | with_reducible exact ly_k158 hly | with_reducible exact ly_k159 hly | with_reducible exact ly_k160 hly | with_reducible exact ly_kAh hly (by first | assumption | omega)) (by first | assumption | with_reducible exact aMt_0 | with_reducible exact aBc_0 | with_reducible exact aWm_0 | with_reducible exact aLd_0 | with_reducible exact aIc_0 | with_reducible exact aBe_0 | with_reducible exact aPr_0 | with_reducible exact aAh_0 | decide | omega) (show _ = nI 0 from rfl) (by omega) dX6_opens_74 ?_
        refine jr_iinc hX dX6_opens_75 rfl (by first | with_reducible exact jj_inc _ | with_reducible exact jj_inc1 _) rfl ?_
        refine jr_goto (tgt := 46) hX dX6_opens_78 (by decide) ?_
        exact ih _ (ml_zd z (zd k).2.1 p1) (fun a e1 e2 => (jj_u_ne e2).trans ((p2 a e1).trans (o2 a e1 e2))) (by rw [hv, show 121 - k = (121 - (k + 1)) + 1 by omega, f_fs_n (if_neg (jl_00 c_58))])
  exact hloop 0 (Nat.zero_le _) (jj_uR (jj_u I 150 0 0) n ((jj_u I 150 0 0) 155)) hmI (fun _ _ _ => rfl) rfl
