/-! the model's day, beside the class's -/
theorem fr_off {w H d a : Nat} {C : jj_I} (h : a ≠ aIc w) : f_fr w H d C a = C a := fr_fr h
def f_frk (w d : Nat) (C : jj_I) (k : Nat) : jj_I := it (fun l J => jj_u J (aIc w) l (f_ib (J (aIc w) l) (C (aWm w) (d % 40)))) C k
theorem frk_ne {w d a k : Nat} {C : jj_I} (h : a ≠ aIc w) : f_frk w d C k a = C a := by
  induction k with
  | zero => rfl
  | succ k ih => exact (jj_u_ne h).trans ih
theorem jm_fz {w H M B N d k : Nat} {C J : jj_I} {v : Int32} (h : ml w H M B N (f_frk w d C k) J) (z : mlZ M B N) (hk : k < 7) (hv : m_fb (J 155 k) (C (aWm w) (d % 40)) = v) : ml w H M B N (f_frk w d C (k + 1)) (jj_u J 155 k v) := by
  subst hv
  rw [m_fb_ib, ml_hIce h hk]
  exact ml_uIce h z
set_option maxHeartbeats 4000000 in
set_option maxRecDepth 100000 in
theorem c_freeze {l : Launch} (hfl : l.stackTraces = false) {D : jj_D} {n : Nat} {K : jj_K} {I : jj_I} {P : jj_P} {G : jj_G} (hly : ly K P) {w H M B N : Nat} {C : jj_I} {d : Nat} (hs : sf w H M B N C) (hm : ml w H M B N C I) (hd : C (aR w) 0 = nI d) (hd2 : d < 2147483648) :
    jj_Met l D yX6_freeze (jj_ws yX6_freeze cX6_freeze 3 none) { frames := 1, cells := 0, slots := 0, locals := 21 } [.ref 150] n K I P G (jj_RS (fun r J => r = none ∧ ml w H M B N (f_fr w H d C) J ∧ ∀ a, a ≠ 155 → J a = I a) n K P G) jj_noX := by
  refine jj_of hfl (by decide +kernel) [some (.ref 150), none, none] rfl rfl ?_
  intro X hXl hX hSt
  have z := sf_Z hs
  have hH := hm.1.1
  have hM := hm.1.2.1
  have hB := hm.1.2.2.1
  have hN := hm.1.2.2.2
  have hH2 := hs.1.2
  have hM2 := z.1
  have hB2 := z.2.1
  have hN2 := z.2.2
  have hd3 : I 160 0 = nI d := hm.2.1.trans hd
  refine jr_aload_n hX dX6_freeze_0 rfl ?_
  refine jr_getr hX kF_X6_9 rfl (ly_kMo hly) (ly_p6_1 hly) dX6_freeze_1 ?_
  refine jr_aload_n hX dX6_freeze_4 rfl ?_
  refine jr_getr hX kF_X6_37 rfl (ly_kMo hly) (ly_p6_14 hly) dX6_freeze_5 ?_
  refine jr_iconst (v := 0) hX dX6_freeze_8 (by decide) ?_
  refine jr_iald hX (by first | with_reducible assumption | with_reducible exact ly_kWm hly (by first | assumption | omega) | with_reducible exact ly_kLd hly (by first | assumption | omega) | with_reducible exact ly_kIc hly (by first | assumption | omega) | with_reducible exact ly_kBe hly (by first | assumption | omega) | with_reducible exact ly_kPr hly (by first | assumption | omega) | with_reducible exact ly_kMt hly (by first | assumption | omega) (by first | assumption | omega) | with_reducible exact ly_kBc hly (by first | assumption | omega) (by first | assumption | omega) | with_reducible exact ly_k151 hly | with_reducible exact ly_k152 hly | with_reducible exact ly_k153 hly | with_reducible exact ly_k154 hly | with_reducible exact ly_k155 hly | with_reducible exact ly_k156 hly | with_reducible exact ly_k157 hly | with_reducible exact ly_k158 hly | with_reducible exact ly_k159 hly | with_reducible exact ly_k160 hly | with_reducible exact ly_kAh hly (by first | assumption | omega)) (show _ = nI 0 from rfl) (by omega) dX6_freeze_9 ?_
  rw [hd3]
  refine jr_bipush (v := 40) hX dX6_freeze_10 (by decide) ?_
  refine jr_irem hX dX6_freeze_12 (nI_ne0 (by omega) (by omega) : ¬ nI 40 = 0) ?_
  rw [show (40 : Int32) = nI 40 from rfl, pk_rem hd2 (by omega) (by omega)]
  refine jr_iald hX (by first | with_reducible assumption | with_reducible exact ly_kWm hly (by first | assumption | omega) | with_reducible exact ly_kLd hly (by first | assumption | omega) | with_reducible exact ly_kIc hly (by first | assumption | omega) | with_reducible exact ly_kBe hly (by first | assumption | omega) | with_reducible exact ly_kPr hly (by first | assumption | omega) | with_reducible exact ly_kMt hly (by first | assumption | omega) (by first | assumption | omega) | with_reducible exact ly_kBc hly (by first | assumption | omega) (by first | assumption | omega) | with_reducible exact ly_k151 hly | with_reducible exact ly_k152 hly | with_reducible exact ly_k153 hly | with_reducible exact ly_k154 hly | with_reducible exact ly_k155 hly | with_reducible exact ly_k156 hly | with_reducible exact ly_k157 hly | with_reducible exact ly_k158 hly | with_reducible exact ly_k159 hly | with_reducible exact ly_k160 hly | with_reducible exact ly_kAh hly (by first | assumption | omega)) (by first | with_reducible rfl | with_reducible assumption | rfl) (by omega) dX6_freeze_13 ?_
  rw [ml_hWarm hm (show d % 40 < 40 by omega)]
  refine jr_istore_n hX dX6_freeze_14 rfl ?_
  refine jr_iconst (v := 0) hX dX6_freeze_15 (by decide) ?_
  refine jr_istore_n hX dX6_freeze_16 rfl ?_
  have hloop : ∀ k, k ≤ H - 1 → ∀ J : jj_I, ml w H M B N (f_frk w d C k) J → (∀ a, a ≠ 155 → J a = I a) → jj_J X D 3 0 0 (jj_MQ X D { frames := 1, cells := 0, slots := 0, locals := 21 } (jj_RS (fun r J => r = none ∧ ml w H M B N (f_fr w H d C) J ∧ ∀ a, a ≠ 155 → J a = I a) n K P G) jj_noX) (n) (K) (J) (P) (G) 17 [some (.ref 150), some (.int (C (aWm w) (d % 40))), some (.int (nI k))] [] := by
    refine jj_for (H - 1) _ ?_ (fun k hk ih => ?_)
    · intro J o1 o2
      have hHJ : J 150 2 = nI H := o1.1.1
      refine jr_iload_n hX dX6_freeze_17 rfl ?_
      refine jr_aload_n hX dX6_freeze_18 rfl ?_
      refine jr_geti hX kF_X6_44 rfl (ly_kMo hly) dX6_freeze_19 ?_
      refine jr_iconst (v := 1) hX dX6_freeze_22 (by decide) ?_
      refine jr_isub hX dX6_freeze_23 ?_
      refine jr_icmp_ge (tgt := 66) hX dX6_freeze_24 (by decide) (fun c_24 => ?_) (fun c_24 => absurd (by rw [hHJ]; exact jm_e (by omega)) c_24)
      exact jr_vret hX dX6_freeze_66 rfl rfl ⟨⟨rfl, o1, o2⟩, rfl, rfl, rfl, rfl⟩
    · intro J o1 o2
      have hHJ : J 150 2 = nI H := o1.1.1
      refine jr_iload_n hX dX6_freeze_17 rfl ?_
      refine jr_aload_n hX dX6_freeze_18 rfl ?_
      refine jr_geti hX kF_X6_44 rfl (ly_kMo hly) dX6_freeze_19 ?_
      refine jr_iconst (v := 1) hX dX6_freeze_22 (by decide) ?_
      refine jr_isub hX dX6_freeze_23 ?_
      refine jr_icmp_ge (tgt := 66) hX dX6_freeze_24 (by decide) (fun c_24 => absurd c_24 (by rw [hHJ]; exact jm_s (by assumption) (by omega))) (fun c_24 => ?_)
      refine jr_aload_n hX dX6_freeze_27 rfl ?_
      refine jr_getr hX kF_X6_22 rfl (ly_kMo hly) (ly_p6_9 hly) dX6_freeze_28 ?_
      refine jr_iload_n hX dX6_freeze_31 rfl ?_
      refine jr_iconst (v := 0) hX dX6_freeze_32 (by decide) ?_
      refine jr_bipush (v := 60) hX dX6_freeze_33 (by decide) ?_
      refine jr_aload_n hX dX6_freeze_35 rfl ?_
      refine jr_getr hX kF_X6_22 rfl (ly_kMo hly) (ly_p6_9 hly) dX6_freeze_36 ?_
      refine jr_iload_n hX dX6_freeze_39 rfl ?_
      refine jr_iald hX (by first | with_reducible assumption | with_reducible exact ly_kWm hly (by first | assumption | omega) | with_reducible exact ly_kLd hly (by first | assumption | omega) | with_reducible exact ly_kIc hly (by first | assumption | omega) | with_reducible exact ly_kBe hly (by first | assumption | omega) | with_reducible exact ly_kPr hly (by first | assumption | omega) | with_reducible exact ly_kMt hly (by first | assumption | omega) (by first | assumption | omega) | with_reducible exact ly_kBc hly (by first | assumption | omega) (by first | assumption | omega) | with_reducible exact ly_k151 hly | with_reducible exact ly_k152 hly | with_reducible exact ly_k153 hly | with_reducible exact ly_k154 hly | with_reducible exact ly_k155 hly | with_reducible exact ly_k156 hly | with_reducible exact ly_k157 hly | with_reducible exact ly_k158 hly | with_reducible exact ly_k159 hly | with_reducible exact ly_k160 hly | with_reducible exact ly_kAh hly (by first | assumption | omega)) (by first | with_reducible rfl | with_reducible assumption | rfl) (by omega) dX6_freeze_40 ?_
      refine jr_iload_n hX dX6_freeze_41 rfl ?_
      refine jr_if_ge (tgt := 49) hX dX6_freeze_42 (by decide) (fun c_42 => ?_) (fun c_42 => ?_)
      · refine jr_iconst (v := 2) hX dX6_freeze_49 (by decide) ?_
        refine jr_iload_n hX dX6_freeze_50 rfl ?_
        refine jr_imul hX dX6_freeze_51 ?_
        refine jr_isub hX dX6_freeze_52 ?_
        refine jr_mmin hX kM_X6_68 dX6_freeze_53 rfl ⟨jj_b1 rfl, jj_b1 rfl⟩ ?_
        refine jr_mmax hX kM_X6_128 dX6_freeze_56 rfl ⟨jj_b1 rfl, jj_b1 rfl⟩ ?_
        refine jr_iast hX (by first | with_reducible assumption | with_reducible exact ly_kWm hly (by first | assumption | omega) | with_reducible exact ly_kLd hly (by first | assumption | omega) | with_reducible exact ly_kIc hly (by first | assumption | omega) | with_reducible exact ly_kBe hly (by first | assumption | omega) | with_reducible exact ly_kPr hly (by first | assumption | omega) | with_reducible exact ly_kMt hly (by first | assumption | omega) (by first | assumption | omega) | with_reducible exact ly_kBc hly (by first | assumption | omega) (by first | assumption | omega) | with_reducible exact ly_k151 hly | with_reducible exact ly_k152 hly | with_reducible exact ly_k153 hly | with_reducible exact ly_k154 hly | with_reducible exact ly_k155 hly | with_reducible exact ly_k156 hly | with_reducible exact ly_k157 hly | with_reducible exact ly_k158 hly | with_reducible exact ly_k159 hly | with_reducible exact ly_k160 hly | with_reducible exact ly_kAh hly (by first | assumption | omega)) (by first | assumption | with_reducible exact aMt_0 | with_reducible exact aBc_0 | with_reducible exact aWm_0 | with_reducible exact aLd_0 | with_reducible exact aIc_0 | with_reducible exact aBe_0 | with_reducible exact aPr_0 | with_reducible exact aAh_0 | decide | omega) (by first | with_reducible rfl | with_reducible assumption | rfl) (by omega) dX6_freeze_59 ?_
        refine jr_iinc hX dX6_freeze_60 rfl (by first | with_reducible exact jj_inc _ | with_reducible exact jj_inc1 _) rfl ?_
        refine jr_goto (tgt := 17) hX dX6_freeze_63 (by decide) ?_
        exact ih _ (jm_fz o1 z (by omega) (by unfold m_fb; rw [if_neg (Int32.not_lt.mpr c_42)])) (fun a ha => (jj_u_ne ha).trans (o2 a ha))
      · refine jr_iload_n hX dX6_freeze_45 rfl ?_
        refine jr_goto (tgt := 52) hX dX6_freeze_46 (by decide) ?_
        refine jr_isub hX dX6_freeze_52 ?_
        refine jr_mmin hX kM_X6_68 dX6_freeze_53 rfl ⟨jj_b1 rfl, jj_b1 rfl⟩ ?_
        refine jr_mmax hX kM_X6_128 dX6_freeze_56 rfl ⟨jj_b1 rfl, jj_b1 rfl⟩ ?_
        refine jr_iast hX (by first | with_reducible assumption | with_reducible exact ly_kWm hly (by first | assumption | omega) | with_reducible exact ly_kLd hly (by first | assumption | omega) | with_reducible exact ly_kIc hly (by first | assumption | omega) | with_reducible exact ly_kBe hly (by first | assumption | omega) | with_reducible exact ly_kPr hly (by first | assumption | omega) | with_reducible exact ly_kMt hly (by first | assumption | omega) (by first | assumption | omega) | with_reducible exact ly_kBc hly (by first | assumption | omega) (by first | assumption | omega) | with_reducible exact ly_k151 hly | with_reducible exact ly_k152 hly | with_reducible exact ly_k153 hly | with_reducible exact ly_k154 hly | with_reducible exact ly_k155 hly | with_reducible exact ly_k156 hly | with_reducible exact ly_k157 hly | with_reducible exact ly_k158 hly | with_reducible exact ly_k159 hly | with_reducible exact ly_k160 hly | with_reducible exact ly_kAh hly (by first | assumption | omega)) (by first | assumption | with_reducible exact aMt_0 | with_reducible exact aBc_0 | with_reducible exact aWm_0 | with_reducible exact aLd_0 | with_reducible exact aIc_0 | with_reducible exact aBe_0 | with_reducible exact aPr_0 | with_reducible exact aAh_0 | decide | omega) (by first | with_reducible rfl | with_reducible assumption | rfl) (by omega) dX6_freeze_59 ?_
        refine jr_iinc hX dX6_freeze_60 rfl (by first | with_reducible exact jj_inc _ | with_reducible exact jj_inc1 _) rfl ?_
        refine jr_goto (tgt := 17) hX dX6_freeze_63 (by decide) ?_
        exact ih _ (jm_fz o1 z (by omega) (by unfold m_fb; rw [if_pos (Int32.not_le.mp c_42)])) (fun a ha => (jj_u_ne ha).trans (o2 a ha))
  exact hloop 0 (Nat.zero_le _) I hm (fun _ _ => rfl)
theorem ml_it {w H M B N d : Nat} {C : jj_I} : f_frk w d C (H - 1) = f_fr w H d C := rfl
def m_py (d a q h g : Nat) (I : jj_I) : jj_I := let J := jj_u I 157 (32 * q + (4 * h + g)) (I 157 (32 * q + (4 * h + g)) - I 159 (7 * d + 4)); jj_u (jj_u J 157 (32 * a + (4 * h + g)) (J 157 (32 * a + (4 * h + g)) + I 159 (7 * d + 4))) 159 (7 * d + 6) 1
set_option maxHeartbeats 4000000 in
set_option maxRecDepth 100000 in
theorem c_pays_no {l : Launch} (hfl : l.stackTraces = false) {D : jj_D} {n : Nat} {K : jj_K} {I : jj_I} {P : jj_P} {G : jj_G} (hly : ly K P) {d a q h g : Nat} (hd : d < 30) (h0 : I 159 (7 * d + 0) = nI a) (h1 : I 159 (7 * d + 1) = nI q) (h3 : I 159 (7 * d + 3) = nI g) (ha : a < 5) (hq : q < 5) (hh : h < 8) (hg : g < 4) (hc : I 157 (32 * q + (4 * h + g)) < I 159 (7 * d + 4)) :
    jj_Met l D yX6_pays (jj_ws yX6_pays cX6_pays 4 (some .boolean)) { frames := 1, cells := 0, slots := 0, locals := 22 } [.ref 150, .int (nI d), .int (nI h)] n K I P G (jj_R (some (.int 0)) (n) (K) (I) (P) (G)) jj_noX := by
  refine jj_of hfl (by decide +kernel) [some (.ref 150), some (.int (nI d)), some (.int (nI h)), none] rfl rfl ?_
  intro X hXl hX hSt
  refine jr_aload_n hX dX6_pays_0 rfl ?_
  refine jr_iload_n hX dX6_pays_1 rfl ?_
  refine jr_iconst (v := 1) hX dX6_pays_2 (by decide) ?_
  refine jr_ret (jr_runV hX hSt kM_X6_109 (c_de (jj_fl hX) hly (d := d) (k := 1) hd (show _ = nI 1 from rfl) (by decide)) rfl rfl (ly_kMo hly) ⟨_, _, rfl, by decide⟩ dX6_pays_3 rfl ⟨jj_b1 rfl, jj_b1 rfl⟩ rfl) ?_
  rw [h1]
  refine jr_iload_n hX dX6_pays_6 rfl ?_
  refine jr_aload_n hX dX6_pays_7 rfl ?_
  refine jr_iload_n hX dX6_pays_8 rfl ?_
  refine jr_iconst (v := 3) hX dX6_pays_9 (by decide) ?_
  refine jr_ret (jr_runV hX hSt kM_X6_109 (c_de (jj_fl hX) hly (d := d) (k := 3) hd (show _ = nI 3 from rfl) (by decide)) rfl rfl (ly_kMo hly) ⟨_, _, rfl, by decide⟩ dX6_pays_10 rfl ⟨jj_b1 rfl, jj_b1 rfl⟩ rfl) ?_
  rw [h3]
  refine jr_ret (jr_runS hX hSt kM_X6_99 (c_at (jj_fl hX) (m := q) (h := h) (g := g) rfl rfl rfl) rfl rfl dX6_pays_13 rfl ⟨jj_b1 rfl, jj_b1 rfl⟩ rfl) ?_
  refine jr_istore_n hX dX6_pays_16 rfl ?_
  refine jr_aload_n hX dX6_pays_17 rfl ?_
  refine jr_getr hX kF_X6_28 rfl (ly_kMo hly) (ly_p6_11 hly) dX6_pays_18 ?_
  refine jr_iload_n hX dX6_pays_21 rfl ?_
  refine jr_iald hX (by first | with_reducible assumption | with_reducible exact ly_kWm hly (by first | assumption | omega) | with_reducible exact ly_kLd hly (by first | assumption | omega) | with_reducible exact ly_kIc hly (by first | assumption | omega) | with_reducible exact ly_kBe hly (by first | assumption | omega) | with_reducible exact ly_kPr hly (by first | assumption | omega) | with_reducible exact ly_kMt hly (by first | assumption | omega) (by first | assumption | omega) | with_reducible exact ly_kBc hly (by first | assumption | omega) (by first | assumption | omega) | with_reducible exact ly_k151 hly | with_reducible exact ly_k152 hly | with_reducible exact ly_k153 hly | with_reducible exact ly_k154 hly | with_reducible exact ly_k155 hly | with_reducible exact ly_k156 hly | with_reducible exact ly_k157 hly | with_reducible exact ly_k158 hly | with_reducible exact ly_k159 hly | with_reducible exact ly_k160 hly | with_reducible exact ly_kAh hly (by first | assumption | omega)) (by first | with_reducible rfl | with_reducible assumption | rfl) (by omega) dX6_pays_22 ?_
  refine jr_aload_n hX dX6_pays_23 rfl ?_
  refine jr_iload_n hX dX6_pays_24 rfl ?_
  refine jr_iconst (v := 4) hX dX6_pays_25 (by decide) ?_
  refine jr_ret (jr_runV hX hSt kM_X6_109 (c_de (jj_fl hX) hly (d := d) (k := 4) hd (show _ = nI 4 from rfl) (by decide)) rfl rfl (ly_kMo hly) ⟨_, _, rfl, by decide⟩ dX6_pays_26 rfl ⟨jj_b1 rfl, jj_b1 rfl⟩ rfl) ?_
  refine jr_icmp_ge (tgt := 34) hX dX6_pays_29 (by decide) (fun c_29 => absurd c_29 (Int32.not_le.mpr hc)) (fun c_29 => ?_)
  refine jr_iconst (v := 0) hX dX6_pays_32 (by decide) ?_
  exact jr_zret hX (by simp) dX6_pays_33 rfl rfl ⟨rfl, rfl, rfl, rfl, rfl, rfl⟩
set_option maxHeartbeats 4000000 in
set_option maxRecDepth 100000 in
theorem c_pays_yes {l : Launch} (hfl : l.stackTraces = false) {D : jj_D} {n : Nat} {K : jj_K} {I : jj_I} {P : jj_P} {G : jj_G} (hly : ly K P) {d a q h g : Nat} (hd : d < 30) (h0 : I 159 (7 * d + 0) = nI a) (h1 : I 159 (7 * d + 1) = nI q) (h3 : I 159 (7 * d + 3) = nI g) (ha : a < 5) (hq : q < 5) (hh : h < 8) (hg : g < 4) (hc : ¬ I 157 (32 * q + (4 * h + g)) < I 159 (7 * d + 4)) :
    jj_Met l D yX6_pays (jj_ws yX6_pays cX6_pays 4 (some .boolean)) { frames := 1, cells := 0, slots := 0, locals := 22 } [.ref 150, .int (nI d), .int (nI h)] n K I P G (jj_R (some (.int 1)) (n) (K) (m_py d a q h g I) (P) (G)) jj_noX := by
  refine jj_of hfl (by decide +kernel) [some (.ref 150), some (.int (nI d)), some (.int (nI h)), none] rfl rfl ?_
  intro X hXl hX hSt
  refine jr_aload_n hX dX6_pays_0 rfl ?_
  refine jr_iload_n hX dX6_pays_1 rfl ?_
  refine jr_iconst (v := 1) hX dX6_pays_2 (by decide) ?_
  refine jr_ret (jr_runV hX hSt kM_X6_109 (c_de (jj_fl hX) hly (d := d) (k := 1) hd (show _ = nI 1 from rfl) (by decide)) rfl rfl (ly_kMo hly) ⟨_, _, rfl, by decide⟩ dX6_pays_3 rfl ⟨jj_b1 rfl, jj_b1 rfl⟩ rfl) ?_
  rw [h1]
  refine jr_iload_n hX dX6_pays_6 rfl ?_
  refine jr_aload_n hX dX6_pays_7 rfl ?_
  refine jr_iload_n hX dX6_pays_8 rfl ?_
  refine jr_iconst (v := 3) hX dX6_pays_9 (by decide) ?_
  refine jr_ret (jr_runV hX hSt kM_X6_109 (c_de (jj_fl hX) hly (d := d) (k := 3) hd (show _ = nI 3 from rfl) (by decide)) rfl rfl (ly_kMo hly) ⟨_, _, rfl, by decide⟩ dX6_pays_10 rfl ⟨jj_b1 rfl, jj_b1 rfl⟩ rfl) ?_
  rw [h3]
  refine jr_ret (jr_runS hX hSt kM_X6_99 (c_at (jj_fl hX) (m := q) (h := h) (g := g) rfl rfl rfl) rfl rfl dX6_pays_13 rfl ⟨jj_b1 rfl, jj_b1 rfl⟩ rfl) ?_
  refine jr_istore_n hX dX6_pays_16 rfl ?_
  refine jr_aload_n hX dX6_pays_17 rfl ?_
  refine jr_getr hX kF_X6_28 rfl (ly_kMo hly) (ly_p6_11 hly) dX6_pays_18 ?_
  refine jr_iload_n hX dX6_pays_21 rfl ?_
  refine jr_iald hX (by first | with_reducible assumption | with_reducible exact ly_kWm hly (by first | assumption | omega) | with_reducible exact ly_kLd hly (by first | assumption | omega) | with_reducible exact ly_kIc hly (by first | assumption | omega) | with_reducible exact ly_kBe hly (by first | assumption | omega) | with_reducible exact ly_kPr hly (by first | assumption | omega) | with_reducible exact ly_kMt hly (by first | assumption | omega) (by first | assumption | omega) | with_reducible exact ly_kBc hly (by first | assumption | omega) (by first | assumption | omega) | with_reducible exact ly_k151 hly | with_reducible exact ly_k152 hly | with_reducible exact ly_k153 hly | with_reducible exact ly_k154 hly | with_reducible exact ly_k155 hly | with_reducible exact ly_k156 hly | with_reducible exact ly_k157 hly | with_reducible exact ly_k158 hly | with_reducible exact ly_k159 hly | with_reducible exact ly_k160 hly | with_reducible exact ly_kAh hly (by first | assumption | omega)) (by first | with_reducible rfl | with_reducible assumption | rfl) (by omega) dX6_pays_22 ?_
  refine jr_aload_n hX dX6_pays_23 rfl ?_
  refine jr_iload_n hX dX6_pays_24 rfl ?_
  refine jr_iconst (v := 4) hX dX6_pays_25 (by decide) ?_
  refine jr_ret (jr_runV hX hSt kM_X6_109 (c_de (jj_fl hX) hly (d := d) (k := 4) hd (show _ = nI 4 from rfl) (by decide)) rfl rfl (ly_kMo hly) ⟨_, _, rfl, by decide⟩ dX6_pays_26 rfl ⟨jj_b1 rfl, jj_b1 rfl⟩ rfl) ?_
  refine jr_icmp_ge (tgt := 34) hX dX6_pays_29 (by decide) (fun c_29 => ?_) (fun c_29 => absurd (Int32.not_lt.mp hc) c_29)
  refine jr_aload_n hX dX6_pays_34 rfl ?_
  refine jr_getr hX kF_X6_28 rfl (ly_kMo hly) (ly_p6_11 hly) dX6_pays_35 ?_
  refine jr_iload_n hX dX6_pays_38 rfl ?_
  refine jr_dup2 hX dX6_pays_39 rfl rfl ?_
  refine jr_iald hX (by first | with_reducible assumption | with_reducible exact ly_kWm hly (by first | assumption | omega) | with_reducible exact ly_kLd hly (by first | assumption | omega) | with_reducible exact ly_kIc hly (by first | assumption | omega) | with_reducible exact ly_kBe hly (by first | assumption | omega) | with_reducible exact ly_kPr hly (by first | assumption | omega) | with_reducible exact ly_kMt hly (by first | assumption | omega) (by first | assumption | omega) | with_reducible exact ly_kBc hly (by first | assumption | omega) (by first | assumption | omega) | with_reducible exact ly_k151 hly | with_reducible exact ly_k152 hly | with_reducible exact ly_k153 hly | with_reducible exact ly_k154 hly | with_reducible exact ly_k155 hly | with_reducible exact ly_k156 hly | with_reducible exact ly_k157 hly | with_reducible exact ly_k158 hly | with_reducible exact ly_k159 hly | with_reducible exact ly_k160 hly | with_reducible exact ly_kAh hly (by first | assumption | omega)) (by first | with_reducible rfl | with_reducible assumption | rfl) (by omega) dX6_pays_40 ?_
  refine jr_aload_n hX dX6_pays_41 rfl ?_
  refine jr_iload_n hX dX6_pays_42 rfl ?_
  refine jr_iconst (v := 4) hX dX6_pays_43 (by decide) ?_
  refine jr_ret (jr_runV hX hSt kM_X6_109 (c_de (jj_fl hX) hly (d := d) (k := 4) hd (show _ = nI 4 from rfl) (by decide)) rfl rfl (ly_kMo hly) ⟨_, _, rfl, by decide⟩ dX6_pays_44 rfl ⟨jj_b1 rfl, jj_b1 rfl⟩ rfl) ?_
  refine jr_isub hX dX6_pays_47 ?_
  refine jr_iast hX (by first | with_reducible assumption | with_reducible exact ly_kWm hly (by first | assumption | omega) | with_reducible exact ly_kLd hly (by first | assumption | omega) | with_reducible exact ly_kIc hly (by first | assumption | omega) | with_reducible exact ly_kBe hly (by first | assumption | omega) | with_reducible exact ly_kPr hly (by first | assumption | omega) | with_reducible exact ly_kMt hly (by first | assumption | omega) (by first | assumption | omega) | with_reducible exact ly_kBc hly (by first | assumption | omega) (by first | assumption | omega) | with_reducible exact ly_k151 hly | with_reducible exact ly_k152 hly | with_reducible exact ly_k153 hly | with_reducible exact ly_k154 hly | with_reducible exact ly_k155 hly | with_reducible exact ly_k156 hly | with_reducible exact ly_k157 hly | with_reducible exact ly_k158 hly | with_reducible exact ly_k159 hly | with_reducible exact ly_k160 hly | with_reducible exact ly_kAh hly (by first | assumption | omega)) (by first | assumption | with_reducible exact aMt_0 | with_reducible exact aBc_0 | with_reducible exact aWm_0 | with_reducible exact aLd_0 | with_reducible exact aIc_0 | with_reducible exact aBe_0 | with_reducible exact aPr_0 | with_reducible exact aAh_0 | decide | omega) (by first | with_reducible rfl | with_reducible assumption | rfl) (by omega) dX6_pays_48 ?_
  refine jr_aload_n hX dX6_pays_49 rfl ?_
  refine jr_getr hX kF_X6_28 rfl (ly_kMo hly) (ly_p6_11 hly) dX6_pays_50 ?_
  refine jr_aload_n hX dX6_pays_53 rfl ?_
  refine jr_iload_n hX dX6_pays_54 rfl ?_
  refine jr_iconst (v := 0) hX dX6_pays_55 (by decide) ?_
  refine jr_ret (jr_runV hX hSt kM_X6_109 (c_de (jj_fl hX) hly (d := d) (k := 0) hd (show _ = nI 0 from rfl) (by decide)) rfl rfl (ly_kMo hly) ⟨_, _, rfl, by decide⟩ dX6_pays_56 rfl ⟨jj_b1 rfl, jj_b1 rfl⟩ rfl) ?_
  rw [jj_u_ne (show (159 : Nat) ≠ 157 by decide)]
  rw [h0]
  refine jr_iload_n hX dX6_pays_59 rfl ?_
  refine jr_aload_n hX dX6_pays_60 rfl ?_
  refine jr_iload_n hX dX6_pays_61 rfl ?_
  refine jr_iconst (v := 3) hX dX6_pays_62 (by decide) ?_
  refine jr_ret (jr_runV hX hSt kM_X6_109 (c_de (jj_fl hX) hly (d := d) (k := 3) hd (show _ = nI 3 from rfl) (by decide)) rfl rfl (ly_kMo hly) ⟨_, _, rfl, by decide⟩ dX6_pays_63 rfl ⟨jj_b1 rfl, jj_b1 rfl⟩ rfl) ?_
  rw [jj_u_ne (show (159 : Nat) ≠ 157 by decide)]
  rw [h3]
  refine jr_ret (jr_runS hX hSt kM_X6_99 (c_at (jj_fl hX) (m := a) (h := h) (g := g) rfl rfl rfl) rfl rfl dX6_pays_66 rfl ⟨jj_b1 rfl, jj_b1 rfl⟩ rfl) ?_
  refine jr_dup2 hX dX6_pays_69 rfl rfl ?_
  refine jr_iald hX (by first | with_reducible assumption | with_reducible exact ly_kWm hly (by first | assumption | omega) | with_reducible exact ly_kLd hly (by first | assumption | omega) | with_reducible exact ly_kIc hly (by first | assumption | omega) | with_reducible exact ly_kBe hly (by first | assumption | omega) | with_reducible exact ly_kPr hly (by first | assumption | omega) | with_reducible exact ly_kMt hly (by first | assumption | omega) (by first | assumption | omega) | with_reducible exact ly_kBc hly (by first | assumption | omega) (by first | assumption | omega) | with_reducible exact ly_k151 hly | with_reducible exact ly_k152 hly | with_reducible exact ly_k153 hly | with_reducible exact ly_k154 hly | with_reducible exact ly_k155 hly | with_reducible exact ly_k156 hly | with_reducible exact ly_k157 hly | with_reducible exact ly_k158 hly | with_reducible exact ly_k159 hly | with_reducible exact ly_k160 hly | with_reducible exact ly_kAh hly (by first | assumption | omega)) (by first | with_reducible rfl | with_reducible assumption | rfl) (by omega) dX6_pays_70 ?_
  refine jr_aload_n hX dX6_pays_71 rfl ?_
  refine jr_iload_n hX dX6_pays_72 rfl ?_
  refine jr_iconst (v := 4) hX dX6_pays_73 (by decide) ?_
  refine jr_ret (jr_runV hX hSt kM_X6_109 (c_de (jj_fl hX) hly (d := d) (k := 4) hd (show _ = nI 4 from rfl) (by decide)) rfl rfl (ly_kMo hly) ⟨_, _, rfl, by decide⟩ dX6_pays_74 rfl ⟨jj_b1 rfl, jj_b1 rfl⟩ rfl) ?_
  rw [jj_u_ne (show (159 : Nat) ≠ 157 by decide)]
  refine jr_iadd hX dX6_pays_77 ?_
  refine jr_iast hX (by first | with_reducible assumption | with_reducible exact ly_kWm hly (by first | assumption | omega) | with_reducible exact ly_kLd hly (by first | assumption | omega) | with_reducible exact ly_kIc hly (by first | assumption | omega) | with_reducible exact ly_kBe hly (by first | assumption | omega) | with_reducible exact ly_kPr hly (by first | assumption | omega) | with_reducible exact ly_kMt hly (by first | assumption | omega) (by first | assumption | omega) | with_reducible exact ly_kBc hly (by first | assumption | omega) (by first | assumption | omega) | with_reducible exact ly_k151 hly | with_reducible exact ly_k152 hly | with_reducible exact ly_k153 hly | with_reducible exact ly_k154 hly | with_reducible exact ly_k155 hly | with_reducible exact ly_k156 hly | with_reducible exact ly_k157 hly | with_reducible exact ly_k158 hly | with_reducible exact ly_k159 hly | with_reducible exact ly_k160 hly | with_reducible exact ly_kAh hly (by first | assumption | omega)) (by first | assumption | with_reducible exact aMt_0 | with_reducible exact aBc_0 | with_reducible exact aWm_0 | with_reducible exact aLd_0 | with_reducible exact aIc_0 | with_reducible exact aBe_0 | with_reducible exact aPr_0 | with_reducible exact aAh_0 | decide | omega) (by first | with_reducible rfl | with_reducible assumption | rfl) (by omega) dX6_pays_78 ?_
  refine jr_aload_n hX dX6_pays_79 rfl ?_
  refine jr_getr hX kF_X6_34 rfl (ly_kMo hly) (ly_p6_13 hly) dX6_pays_80 ?_
  refine jr_bipush (v := 7) hX dX6_pays_83 (by decide) ?_
  refine jr_iload_n hX dX6_pays_85 rfl ?_
  refine jr_imul hX dX6_pays_86 ?_
  refine jr_bipush (v := 6) hX dX6_pays_87 (by decide) ?_
  refine jr_iadd hX dX6_pays_89 ?_
  refine jr_iconst (v := 1) hX dX6_pays_90 (by decide) ?_
  refine jr_iast hX (by first | with_reducible assumption | with_reducible exact ly_kWm hly (by first | assumption | omega) | with_reducible exact ly_kLd hly (by first | assumption | omega) | with_reducible exact ly_kIc hly (by first | assumption | omega) | with_reducible exact ly_kBe hly (by first | assumption | omega) | with_reducible exact ly_kPr hly (by first | assumption | omega) | with_reducible exact ly_kMt hly (by first | assumption | omega) (by first | assumption | omega) | with_reducible exact ly_kBc hly (by first | assumption | omega) (by first | assumption | omega) | with_reducible exact ly_k151 hly | with_reducible exact ly_k152 hly | with_reducible exact ly_k153 hly | with_reducible exact ly_k154 hly | with_reducible exact ly_k155 hly | with_reducible exact ly_k156 hly | with_reducible exact ly_k157 hly | with_reducible exact ly_k158 hly | with_reducible exact ly_k159 hly | with_reducible exact ly_k160 hly | with_reducible exact ly_kAh hly (by first | assumption | omega)) (by first | assumption | with_reducible exact aMt_0 | with_reducible exact aBc_0 | with_reducible exact aWm_0 | with_reducible exact aLd_0 | with_reducible exact aIc_0 | with_reducible exact aBe_0 | with_reducible exact aPr_0 | with_reducible exact aAh_0 | decide | omega) (show _ = nI (7 * d + 6) from by rw [show (7 : Int32) = nI 7 from rfl, show (6 : Int32) = nI 6 from rfl, pk_mul, nI_add]) (by omega) dX6_pays_91 ?_
  refine jr_iconst (v := 1) hX dX6_pays_92 (by decide) ?_
  exact jr_zret hX (by simp) dX6_pays_93 rfl rfl ⟨rfl, rfl, rfl, rfl, rfl, rfl⟩
