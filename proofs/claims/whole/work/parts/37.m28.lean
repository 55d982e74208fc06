/-! the latest day to set out, the model -/
/-- all as it was, a row made apart -/
def bk (n d : Nat) (S J : jj_I) : Prop := (∀ x, x ≠ 155 → x ≠ 160 → J x = jj_uR S n (S 155) x) ∧ J 160 0 = nI d ∧ ∀ k, k < 8 → J 155 k = S 155 k
section BK
variable {H M B N n d : Nat} {C S J : jj_I}
theorem bk_ml (z : mlZ M B N) (hn : 161 ≤ n) (hm : ml 0 H M B N C S) (hd : S 160 0 = nI d) (h : bk n d S J) : ml 0 H M B N C J := by
  have r : ∀ a, a < 161 → a ≠ 155 → a ≠ 160 → J a = S a := fun a h1 h2 h3 => by rw [h.1 a h2 h3, jj_uR_ne (by omega)]
  exact ml_cgp z hm (by unfold mlN; rw [r 150 (by decide) (by decide) (by decide)]; exact hm.1) (fun a h1 h2 => r a (by omega) (by omega) (by omega)) (h.2.1.trans hd.symm) h.2.2 (fun k hk => by rw [r 156 (by decide) (by decide) (by decide)]) (fun k hk => by rw [r 157 (by decide) (by decide) (by decide)]) (fun k hk => by rw [r 158 (by decide) (by decide) (by decide)]) (fun k hk => by rw [r 159 (by decide) (by decide) (by decide)])
theorem bk_R (hn : 161 ≤ n) (o : ∀ x, x ≠ 155 → x ≠ 160 → J x = jj_uR S n (S 155) x) : bk n d S (jj_u (jj_uR J 155 (va_cpy (J n) (J 155) 0 0 8)) 160 0 (nI d)) := by
  refine ⟨fun x h1 h2 => by rw [jj_u_ne h2, jj_uR_ne h1]; exact o x h1 h2, jj_u_eq, fun k hk => ?_⟩
  rw [jj_u_ne (by decide), jj_uR_eq, pk_cpy_in (Nat.zero_le _) (by omega), o n (by omega) (by omega), jj_uR_eq]
  simp
theorem bk_0 (hn : 161 ≤ n) (hd : S 160 0 = nI d) : bk n d S (jj_uR S n (S 155)) := ⟨fun _ _ _ => rfl, by rw [jj_uR_ne (by omega)]; exact hd, fun k _ => by rw [jj_uR_ne (by omega)]⟩
theorem bk_fin {I : jj_I} (z : mlZ M B N) (hn : 161 ≤ n) (hm : ml 0 H M B N C (jj_u I 150 0 0)) (hz : mz M C (jj_u I 150 0 0)) (hd : (jj_u I 150 0 0) 160 0 = nI d) (h : bk n d (jj_u I 150 0 0) J) : (jj_uR J n (I n)) 150 0 = 0 ∧ ml 0 H M B N C (jj_uR J n (I n)) ∧ mz M C (jj_uR J n (I n)) ∧ ∀ a, offN a → (jj_uR J n (I n)) a = I a := by
  have r : ∀ a, a < 161 → a ≠ 155 → a ≠ 160 → jj_uR J n (I n) a = jj_u I 150 0 0 a := fun a h1 h2 h3 => by rw [jj_uR_ne (by omega), h.1 a h2 h3, jj_uR_ne (by omega)]
  refine ⟨by rw [r 150 (by decide) (by decide) (by decide), jj_u_eq], ?_, mz_cg hz (fun m _ _ => by rw [r 156 (by decide) (by decide) (by decide)]) (fun m k _ _ _ => by rw [r 157 (by decide) (by decide) (by decide)]) (fun _ _ _ => rfl), fun a ha => ?_⟩
  · exact ml_cg (fun _ _ _ => rfl) (fun a h1 h2 => ⟨fun e => by rw [jj_uR_ne (by omega)]; exact ⟨rfl, rfl, rfl, rfl⟩, fun _ => jj_uR_ne (by omega)⟩) z (bk_ml z hn hm hd h)
  · by_cases e : a = n
    · subst e; rw [jj_uR_eq]
    · unfold offN at ha
      rw [jj_uR_ne e, h.1 a (by omega) (by omega), jj_uR_ne e, jj_u_ne (by omega)]
end BK
theorem jm_nm1 {k : Nat} (h : k < 1000) : ¬ nI k = -1 := fun e => by
  have h1 := nI_toInt (n := k) (by omega)
  rw [e] at h1
  have h2 : (-1 : Int32).toInt = -1 := rfl
  omega
set_option maxHeartbeats 4000000 in
set_option maxRecDepth 100000 in
theorem m_latest_x1 {l : Launch} (hfl : l.stackTraces = false) {D : jj_D} {n : Nat} {K : jj_K} {I : jj_I} {P : jj_P} {G : jj_G} (hly : ly K P) {H M B N : Nat} {C : jj_I} {a b : Int32} (hs : sf 0 H M B N C) (hk : sk 0 H M B N C) (hm : ml 0 H M B N C I) (hz : mz M C I) (h_a : a < 0 ∨ nI H ≤ a) :
    jj_Met l D yX6_latest (jj_ws yX6_latest cX6_latest 8 (some .int)) { frames := 3, cells := 0, slots := 0, locals := 69 } [.ref 150, .int a, .int b] n K I P G (jj_R (some (.int 0)) (n) (K) (jj_u (jj_u I 150 0 0) 150 0 1) (P) (G)) jj_noX := by
  refine jj_of hfl (by decide +kernel) [some (.ref 150), some (.int a), some (.int b), none, none, none, none, none] rfl rfl ?_
  intro X hXl hX hSt
  have z := sf_Z hs
  have hm0 : ml 0 H M B N C (jj_u I 150 0 0) := ml_th hm z
  have hz0 : mz M C (jj_u I 150 0 0) := mz_th hz
  have hH0 := hm0.1.1
  have hM0 := hm0.1.2.1
  have hB0 := hm0.1.2.2.1
  have hN0 := hm0.1.2.2.2
  have hH2 := hs.1.2
  have hM2 := z.1
  have hB2 := z.2.1
  have hN2 := z.2.2
  refine jr_aload_n hX dX6_latest_0 rfl ?_
  refine jr_iconst (v := 0) hX dX6_latest_1 (by decide) ?_
  refine jr_puti hX kF_X6_40 rfl (ly_kMo hly) (by decide) dX6_latest_2 ?_
  refine jr_aload_n hX dX6_latest_5 rfl ?_
  refine jr_iload_n hX dX6_latest_6 rfl ?_
  refine jr_ret (jr_runV hX hSt kM_X6_61 (c_isHarbour_x (jj_fl hX) hly h_a hH0 (by omega)) rfl rfl (ly_kMo hly) ⟨_, _, rfl, by decide⟩ dX6_latest_7 rfl ⟨jj_b1 rfl, jj_b1 rfl⟩ rfl) ?_
  refine jr_if_eq (tgt := 21) hX dX6_latest_10 (by decide) (fun c_10 => ?_) (fun c_10 => absurd rfl c_10)
  refine jr_aload_n hX dX6_latest_21 rfl ?_
  refine jr_iconst (v := 1) hX dX6_latest_22 (by decide) ?_
  refine jr_ret (jr_runV hX hSt kM_X6_57 (c_fail (jj_fl hX) hly) rfl rfl (ly_kMo hly) ⟨_, _, rfl, by decide⟩ dX6_latest_23 rfl ⟨jj_b1 rfl, jj_b1 rfl⟩ rfl) ?_
  exact jr_iret hX dX6_latest_26 rfl rfl ⟨rfl, rfl, rfl, rfl, rfl, rfl⟩
set_option maxHeartbeats 4000000 in
set_option maxRecDepth 100000 in
theorem m_latest_x2 {l : Launch} (hfl : l.stackTraces = false) {D : jj_D} {n : Nat} {K : jj_K} {I : jj_I} {P : jj_P} {G : jj_G} (hly : ly K P) {H M B N a : Nat} {C : jj_I} {b : Int32} (hs : sf 0 H M B N C) (hk : sk 0 H M B N C) (hm : ml 0 H M B N C I) (hz : mz M C I) (h_a : a < H) (h_b : b < 0 ∨ nI H ≤ b) :
    jj_Met l D yX6_latest (jj_ws yX6_latest cX6_latest 8 (some .int)) { frames := 3, cells := 0, slots := 0, locals := 69 } [.ref 150, .int (nI a), .int b] n K I P G (jj_R (some (.int 0)) (n) (K) (jj_u (jj_u I 150 0 0) 150 0 1) (P) (G)) jj_noX := by
  refine jj_of hfl (by decide +kernel) [some (.ref 150), some (.int (nI a)), some (.int b), none, none, none, none, none] rfl rfl ?_
  intro X hXl hX hSt
  have z := sf_Z hs
  have hm0 : ml 0 H M B N C (jj_u I 150 0 0) := ml_th hm z
  have hz0 : mz M C (jj_u I 150 0 0) := mz_th hz
  have hH0 := hm0.1.1
  have hM0 := hm0.1.2.1
  have hB0 := hm0.1.2.2.1
  have hN0 := hm0.1.2.2.2
  have hH2 := hs.1.2
  have hM2 := z.1
  have hB2 := z.2.1
  have hN2 := z.2.2
  refine jr_aload_n hX dX6_latest_0 rfl ?_
  refine jr_iconst (v := 0) hX dX6_latest_1 (by decide) ?_
  refine jr_puti hX kF_X6_40 rfl (ly_kMo hly) (by decide) dX6_latest_2 ?_
  refine jr_aload_n hX dX6_latest_5 rfl ?_
  refine jr_iload_n hX dX6_latest_6 rfl ?_
  refine jr_ret (jr_runV hX hSt kM_X6_61 (c_isHarbour_ok (jj_fl hX) hly h_a hH0 (by omega)) rfl rfl (ly_kMo hly) ⟨_, _, rfl, by decide⟩ dX6_latest_7 rfl ⟨jj_b1 rfl, jj_b1 rfl⟩ rfl) ?_
  refine jr_if_eq (tgt := 21) hX dX6_latest_10 (by decide) (fun c_10 => absurd c_10 (by decide)) (fun c_10 => ?_)
  refine jr_aload_n hX dX6_latest_13 rfl ?_
  refine jr_iload_n hX dX6_latest_14 rfl ?_
  refine jr_ret (jr_runV hX hSt kM_X6_61 (c_isHarbour_x (jj_fl hX) hly h_b hH0 (by omega)) rfl rfl (ly_kMo hly) ⟨_, _, rfl, by decide⟩ dX6_latest_15 rfl ⟨jj_b1 rfl, jj_b1 rfl⟩ rfl) ?_
  refine jr_if_ne (tgt := 27) hX dX6_latest_18 (by decide) (fun c_18 => absurd rfl c_18) (fun c_18 => ?_)
  refine jr_aload_n hX dX6_latest_21 rfl ?_
  refine jr_iconst (v := 1) hX dX6_latest_22 (by decide) ?_
  refine jr_ret (jr_runV hX hSt kM_X6_57 (c_fail (jj_fl hX) hly) rfl rfl (ly_kMo hly) ⟨_, _, rfl, by decide⟩ dX6_latest_23 rfl ⟨jj_b1 rfl, jj_b1 rfl⟩ rfl) ?_
  exact jr_iret hX dX6_latest_26 rfl rfl ⟨rfl, rfl, rfl, rfl, rfl, rfl⟩
set_option maxHeartbeats 4000000 in
set_option maxRecDepth 100000 in
theorem m_latest_ok {l : Launch} (hfl : l.stackTraces = false) {D : jj_D} {n : Nat} {K : jj_K} {I : jj_I} {P : jj_P} {G : jj_G} (hly : ly K P) {H M B N d : Nat} {C : jj_I} {a b : Nat} (hs : sf 0 H M B N C) (hk : sk 0 H M B N C) (hm : ml 0 H M B N C I) (hz : mz M C I) (hd : C (aR 0) 0 = nI d) (hd2 : d < 2000000000) (hn : 161 ≤ n) (hKn : ∀ a, n ≤ a → K a = none) (hL : sfL 0 H C) (h_a : a < H) (h_b : b < H) :
    jj_Met l D yX6_latest (jj_ws yX6_latest cX6_latest 8 (some .int)) { frames := 3, cells := 1, slots := 8, locals := 69 } [.ref 150, .int (nI a), .int (nI b)] n K I P G (jj_RS (fun r J => r = some (.int (f_lt (fun wt => m_gt d a b wt C) 61)) ∧ J 150 0 = 0 ∧ ml 0 H M B N C J ∧ mz M C J ∧ ∀ a, offN a → J a = I a) (n + 1) K P G) jj_noX := by
  refine jj_of hfl (by decide +kernel) [some (.ref 150), some (.int (nI a)), some (.int (nI b)), none, none, none, none, none] rfl rfl ?_
  intro X hXl hX hSt
  have z := sf_Z hs
  have hm0 : ml 0 H M B N C (jj_u I 150 0 0) := ml_th hm z
  have hz0 : mz M C (jj_u I 150 0 0) := mz_th hz
  have hH0 := hm0.1.1
  have hM0 := hm0.1.2.1
  have hB0 := hm0.1.2.2.1
  have hN0 := hm0.1.2.2.2
  have hH2 := hs.1.2
  have hM2 := z.1
  have hB2 := z.2.1
  have hN2 := z.2.2
  have dy0 : (jj_u I 150 0 0) 160 0 = nI d := (ml_hDay hm0).trans hd
  have zd := zd_ok hs hd
  have K9 : (jj_uK K n (10, 8)) n = some (10, 8) := if_pos rfl
  have hly0 := hly
  have n160 : (160 : Nat) ≠ n := by omega
  have hmI : ml 0 H M B N C (jj_uR (jj_u I 150 0 0) n ((jj_u I 150 0 0) 155)) := ml_cg (fun _ _ _ => rfl) (fun a h1 h2 => ⟨fun e => by rw [jj_uR_ne (by omega)]; exact ⟨rfl, rfl, rfl, rfl⟩, fun e => jj_uR_ne (by omega)⟩) z hm0
  have c133 : ∀ (J : jj_I) (x : Int32), bk n d (jj_u I 150 0 0) J → x = f_lt (fun wt => m_gt d a b wt C) 61 → jj_J X D 8 1 8 (jj_MQ X D { frames := 3, cells := 1, slots := 8, locals := 69 } (jj_RS (fun r J => r = some (.int (f_lt (fun wt => m_gt d a b wt C) 61)) ∧ J 150 0 = 0 ∧ ml 0 H M B N C J ∧ mz M C J ∧ ∀ a, offN a → J a = I a) (n + 1) K P G) jj_noX) (n + 1) ((jj_uK K n (10, 8))) (J) (P) (G) 133 [none, none, none, none, none, some (.int x), none, none] [] := by
    intro J x o hx
    refine jr_cl1 (f := I n) (hKn n (Nat.le_refl _)) ?_
    refine jr_iload hX dX6_latest_133 rfl ?_
    exact jr_iret hX dX6_latest_135 rfl rfl ⟨⟨by rw [hx], bk_fin z hn hm0 hz0 dy0 o⟩, rfl, rfl, rfl, rfl⟩
  refine jr_aload_n hX dX6_latest_0 rfl ?_
  refine jr_iconst (v := 0) hX dX6_latest_1 (by decide) ?_
  refine jr_puti hX kF_X6_40 rfl (ly_kMo hly) (by decide) dX6_latest_2 ?_
  refine jr_aload_n hX dX6_latest_5 rfl ?_
  refine jr_iload_n hX dX6_latest_6 rfl ?_
  refine jr_ret (jr_runV hX hSt kM_X6_61 (c_isHarbour_ok (jj_fl hX) hly h_a hH0 (by omega)) rfl rfl (ly_kMo hly) ⟨_, _, rfl, by decide⟩ dX6_latest_7 rfl ⟨jj_b1 rfl, jj_b1 rfl⟩ rfl) ?_
  refine jr_if_eq (tgt := 21) hX dX6_latest_10 (by decide) (fun c_10 => absurd c_10 (by decide)) (fun c_10 => ?_)
  refine jr_aload_n hX dX6_latest_13 rfl ?_
  refine jr_iload_n hX dX6_latest_14 rfl ?_
  refine jr_ret (jr_runV hX hSt kM_X6_61 (c_isHarbour_ok (jj_fl hX) hly h_b hH0 (by omega)) rfl rfl (ly_kMo hly) ⟨_, _, rfl, by decide⟩ dX6_latest_15 rfl ⟨jj_b1 rfl, jj_b1 rfl⟩ rfl) ?_
  refine jr_if_ne (tgt := 27) hX dX6_latest_18 (by decide) (fun c_18 => ?_) (fun c_18 => absurd c_18 (by decide))
  refine jr_aload_n hX dX6_latest_27 rfl ?_
  refine jr_getr hX kF_X6_22 rfl (ly_kMo hly) (ly_p6_9 hly) dX6_latest_28 ?_
  refine jr_clone hX hSt kM_X6_159 (ly_k155 hly) (by omega) dX6_latest_31 rfl ⟨jj_b1 rfl, jj_b1 rfl⟩ ?_
  have hly := ly_uK (kd := (10, 8)) hly hn
  refine jr_cast hX kC_X6_158 (by first | with_reducible assumption | with_reducible exact ly_kWm hly (by first | assumption | omega) | with_reducible exact ly_kLd hly (by first | assumption | omega) | with_reducible exact ly_kIc hly (by first | assumption | omega) | with_reducible exact ly_kBe hly (by first | assumption | omega) | with_reducible exact ly_kPr hly (by first | assumption | omega) | with_reducible exact ly_kMt hly (by first | assumption | omega) (by first | assumption | omega) | with_reducible exact ly_kBc hly (by first | assumption | omega) (by first | assumption | omega) | with_reducible exact ly_k151 hly | with_reducible exact ly_k152 hly | with_reducible exact ly_k153 hly | with_reducible exact ly_k154 hly | with_reducible exact ly_k155 hly | with_reducible exact ly_k156 hly | with_reducible exact ly_k157 hly | with_reducible exact ly_k158 hly | with_reducible exact ly_k159 hly | with_reducible exact ly_k160 hly | with_reducible exact ly_kAh hly (by first | assumption | omega)) dX6_latest_34 ?_
  refine jr_astore_n hX dX6_latest_37 rfl ?_
  refine jr_aload_n hX dX6_latest_38 rfl ?_
  refine jr_getr hX kF_X6_37 rfl (ly_kMo hly) (ly_p6_14 hly) dX6_latest_39 ?_
  refine jr_iconst (v := 0) hX dX6_latest_42 (by decide) ?_
  refine jr_iald hX (by first | with_reducible assumption | with_reducible exact ly_kWm hly (by first | assumption | omega) | with_reducible exact ly_kLd hly (by first | assumption | omega) | with_reducible exact ly_kIc hly (by first | assumption | omega) | with_reducible exact ly_kBe hly (by first | assumption | omega) | with_reducible exact ly_kPr hly (by first | assumption | omega) | with_reducible exact ly_kMt hly (by first | assumption | omega) (by first | assumption | omega) | with_reducible exact ly_kBc hly (by first | assumption | omega) (by first | assumption | omega) | with_reducible exact ly_k151 hly | with_reducible exact ly_k152 hly | with_reducible exact ly_k153 hly | with_reducible exact ly_k154 hly | with_reducible exact ly_k155 hly | with_reducible exact ly_k156 hly | with_reducible exact ly_k157 hly | with_reducible exact ly_k158 hly | with_reducible exact ly_k159 hly | with_reducible exact ly_k160 hly | with_reducible exact ly_kAh hly (by first | assumption | omega)) (show _ = nI 0 from rfl) (by omega) dX6_latest_43 ?_
  rw [jj_uR_ne n160, dy0]
  refine jr_istore hX dX6_latest_44 rfl ?_
  refine jr_iconst (v := -1) hX dX6_latest_46 (by decide) ?_
  refine jr_istore hX dX6_latest_47 rfl ?_
  refine jr_bipush (v := 60) hX dX6_latest_49 (by decide) ?_
  refine jr_istore hX dX6_latest_51 rfl ?_
  have hloop : ∀ k, k ≤ 61 → ∀ J : jj_I, bk n d (jj_u I 150 0 0) J → f_lt (fun wt => m_gt d a b wt C) 61 = f_lt (fun wt => m_gt d a b wt C) (61 - k) → jj_J X D 8 1 8 (jj_MQ X D { frames := 3, cells := 1, slots := 8, locals := 69 } (jj_RS (fun r J => r = some (.int (f_lt (fun wt => m_gt d a b wt C) 61)) ∧ J 150 0 = 0 ∧ ml 0 H M B N C J ∧ mz M C J ∧ ∀ a, offN a → J a = I a) (n + 1) K P G) jj_noX) (n + 1) ((jj_uK K n (10, 8))) (J) (P) (G) 53 [some (.ref 150), some (.int (nI a)), some (.int (nI b)), some (.ref n), some (.int (nI d)), some (.int (-1)), some (.int (nI (61 - k) - 1)), none] [] := by
    refine jj_for (61) _ ?_ (fun k hk ih => ?_)
    · intro J o hv
      refine jr_iload hX dX6_latest_53 rfl ?_
      refine jr_if_lt (tgt := 133) hX dX6_latest_55 (by decide) (fun c_55 => ?_) (fun c_55 => absurd (by decide) c_55)
      exact jr_forget (K1 := (jj_uK K n (10, 8))) (fun _ _ h => h) (L1 := [none, none, none, none, none, some (.int (-1)), none, none]) (fun i v h => by rcases i with _ | _ | _ | _ | _ | _ | _ | _ | i <;> first | exact h | exact absurd h (by simp)) (c133 J _ o (by rw [hv]; rfl))
    · intro J o hv
      have e0 : nI (61 - k) - 1 = nI (60 - k) := by rw [show 61 - k = (60 - k) + 1 by omega, nI_pred]
      rw [e0]
      refine jr_iload hX dX6_latest_53 rfl ?_
      refine jr_if_lt (tgt := 133) hX dX6_latest_55 (by decide) (fun c_55 => absurd c_55 (nI_pos (by omega))) (fun c_55 => ?_)
      refine jr_iload hX dX6_latest_58 rfl ?_
      refine jr_iconst (v := -1) hX dX6_latest_60 (by decide) ?_
      refine jr_icmp_ne (tgt := 133) hX dX6_latest_61 (by decide) (fun c_61 => absurd rfl c_61) (fun c_61 => ?_)
      refine jr_iconst (v := 0) hX dX6_latest_64 (by decide) ?_
      refine jr_istore hX dX6_latest_65 rfl ?_
      have hin : ∀ j, j ≤ 60 - k → ∀ J2 : jj_I, ml 0 H M B N (f_zd H d C j) J2 → (∀ x, x ≠ 155 → x ≠ 160 → J2 x = J x) → jj_J X D 8 1 8 (jj_MQ X D { frames := 3, cells := 1, slots := 8, locals := 69 } (jj_RS (fun r J => r = some (.int (f_lt (fun wt => m_gt d a b wt C) 61)) ∧ J 150 0 = 0 ∧ ml 0 H M B N C J ∧ mz M C J ∧ ∀ a, offN a → J a = I a) (n + 1) K P G) jj_noX) (n + 1) ((jj_uK K n (10, 8))) (J2) (P) (G) 67 [some (.ref 150), some (.int (nI a)), some (.int (nI b)), some (.ref n), some (.int (nI d)), some (.int (-1)), some (.int (nI (60 - k))), some (.int (nI j))] [] := by
        refine jj_for (60 - k) _ ?_ (fun j hj ih => ?_)
        · intro J2 p1 p2
          refine jr_iload hX dX6_latest_67 rfl ?_
          refine jr_iload hX dX6_latest_69 rfl ?_
          refine jr_icmp_ge (tgt := 94) hX dX6_latest_71 (by decide) (fun c_71 => ?_) (fun c_71 => absurd (nI_le (Nat.le_refl _) (by omega)) c_71)
          refine jr_aload_n hX dX6_latest_94 rfl ?_
          refine jr_iload_n hX dX6_latest_95 rfl ?_
          refine jr_iload_n hX dX6_latest_96 rfl ?_
          refine jr_rel (jr_runV hX hSt kM_X6_174 (c_goesThrough (jj_fl hX) hly hs hL p1 hd hd2 h_a h_b (show 60 - k ≤ 60 by omega)) rfl rfl (ly_kMo hly) ⟨_, _, rfl, by decide⟩ dX6_latest_97 rfl ⟨jj_b1 rfl, jj_b1 rfl⟩ rfl) ?_
          rintro r J3 ⟨rfl, g2⟩
          simp only [Option.toList, List.cons_append, List.nil_append]
          have hbk : bk n d (jj_u I 150 0 0) (jj_u (jj_uR J3 155 (va_cpy (J3 n) (J3 155) 0 0 8)) 160 0 (nI d)) := bk_R hn (fun x e1 e2 => (g2 x e1 e2).trans ((p2 x e1 e2).trans (o.1 x e1 e2)))
          refine jr_if_eq (tgt := 107) hX dX6_latest_100 (by decide) (fun c_100 => ?_) (fun c_100 => ?_)
          · refine jr_aload_n hX dX6_latest_107 rfl ?_
            refine jr_iconst (v := 0) hX dX6_latest_108 (by decide) ?_
            refine jr_aload_n hX dX6_latest_109 rfl ?_
            refine jr_getr hX kF_X6_22 rfl (ly_kMo hly) (ly_p6_9 hly) dX6_latest_110 ?_
            refine jr_iconst (v := 0) hX dX6_latest_113 (by decide) ?_
            refine jr_bipush (v := 8) hX dX6_latest_114 (by decide) ?_
            refine jr_copy hX kM_X6_115 K9 (ly_k155 hly) (by decide) (show _ = nI 0 from rfl) (show _ = nI 0 from rfl) (show _ = nI 8 from rfl) (by omega) dX6_latest_116 rfl ?_
            refine jr_aload_n hX dX6_latest_119 rfl ?_
            refine jr_getr hX kF_X6_37 rfl (ly_kMo hly) (ly_p6_14 hly) dX6_latest_120 ?_
            refine jr_iconst (v := 0) hX dX6_latest_123 (by decide) ?_
            refine jr_iload hX dX6_latest_124 rfl ?_
            refine jr_iast hX (by first | with_reducible assumption | with_reducible exact ly_kWm hly (by first | assumption | omega) | with_reducible exact ly_kLd hly (by first | assumption | omega) | with_reducible exact ly_kIc hly (by first | assumption | omega) | with_reducible exact ly_kBe hly (by first | assumption | omega) | with_reducible exact ly_kPr hly (by first | assumption | omega) | with_reducible exact ly_kMt hly (by first | assumption | omega) (by first | assumption | omega) | with_reducible exact ly_kBc hly (by first | assumption | omega) (by first | assumption | omega) | with_reducible exact ly_k151 hly | with_reducible exact ly_k152 hly | with_reducible exact ly_k153 hly | with_reducible exact ly_k154 hly | with_reducible exact ly_k155 hly | with_reducible exact ly_k156 hly | with_reducible exact ly_k157 hly | with_reducible exact ly_k158 hly | with_reducible exact ly_k159 hly | with_reducible exact ly_k160 hly | with_reducible exact ly_kAh hly (by first | assumption | omega)) (by first | assumption | with_reducible exact aMt_0 | with_reducible exact aBc_0 | with_reducible exact aWm_0 | with_reducible exact aLd_0 | with_reducible exact aIc_0 | with_reducible exact aBe_0 | with_reducible exact aPr_0 | with_reducible exact aAh_0 | decide | omega) (show _ = nI 0 from rfl) (by omega) dX6_latest_126 ?_
            refine jr_iinc hX dX6_latest_127 rfl (by first | with_reducible assumption | with_reducible exact jj_dec1 _) rfl ?_
            refine jr_goto (tgt := 53) hX dX6_latest_130 (by decide) ?_
            rw [show 61 - (k + 1) = 60 - k by omega] at ih
            exact jr_forget (fun _ _ h => h) (fun i v h => by rcases i with _ | _ | _ | _ | _ | _ | _ | _ | i <;> first | exact h | exact absurd h (by simp)) (ih _ hbk (by rw [hv, show 61 - k = (60 - k) + 1 by omega]; simp only [f_lt]; rw [if_neg (fun h => absurd c_100 (by rw [if_pos h]; decide))]))
          · refine jr_iload hX dX6_latest_103 rfl ?_
            refine jr_istore hX dX6_latest_105 rfl ?_
            refine jr_aload_n hX dX6_latest_107 rfl ?_
            refine jr_iconst (v := 0) hX dX6_latest_108 (by decide) ?_
            refine jr_aload_n hX dX6_latest_109 rfl ?_
            refine jr_getr hX kF_X6_22 rfl (ly_kMo hly) (ly_p6_9 hly) dX6_latest_110 ?_
            refine jr_iconst (v := 0) hX dX6_latest_113 (by decide) ?_
            refine jr_bipush (v := 8) hX dX6_latest_114 (by decide) ?_
            refine jr_copy hX kM_X6_115 K9 (ly_k155 hly) (by decide) (show _ = nI 0 from rfl) (show _ = nI 0 from rfl) (show _ = nI 8 from rfl) (by omega) dX6_latest_116 rfl ?_
            refine jr_aload_n hX dX6_latest_119 rfl ?_
            refine jr_getr hX kF_X6_37 rfl (ly_kMo hly) (ly_p6_14 hly) dX6_latest_120 ?_
            refine jr_iconst (v := 0) hX dX6_latest_123 (by decide) ?_
            refine jr_iload hX dX6_latest_124 rfl ?_
            refine jr_iast hX (by first | with_reducible assumption | with_reducible exact ly_kWm hly (by first | assumption | omega) | with_reducible exact ly_kLd hly (by first | assumption | omega) | with_reducible exact ly_kIc hly (by first | assumption | omega) | with_reducible exact ly_kBe hly (by first | assumption | omega) | with_reducible exact ly_kPr hly (by first | assumption | omega) | with_reducible exact ly_kMt hly (by first | assumption | omega) (by first | assumption | omega) | with_reducible exact ly_kBc hly (by first | assumption | omega) (by first | assumption | omega) | with_reducible exact ly_k151 hly | with_reducible exact ly_k152 hly | with_reducible exact ly_k153 hly | with_reducible exact ly_k154 hly | with_reducible exact ly_k155 hly | with_reducible exact ly_k156 hly | with_reducible exact ly_k157 hly | with_reducible exact ly_k158 hly | with_reducible exact ly_k159 hly | with_reducible exact ly_k160 hly | with_reducible exact ly_kAh hly (by first | assumption | omega)) (by first | assumption | with_reducible exact aMt_0 | with_reducible exact aBc_0 | with_reducible exact aWm_0 | with_reducible exact aLd_0 | with_reducible exact aIc_0 | with_reducible exact aBe_0 | with_reducible exact aPr_0 | with_reducible exact aAh_0 | decide | omega) (show _ = nI 0 from rfl) (by omega) dX6_latest_126 ?_
            refine jr_iinc hX dX6_latest_127 rfl (by first | with_reducible assumption | with_reducible exact jj_dec1 _) rfl ?_
            refine jr_goto (tgt := 53) hX dX6_latest_130 (by decide) ?_
            refine jr_iload hX dX6_latest_53 rfl ?_
            refine jr_if_lt (tgt := 133) hX dX6_latest_55 (by decide) (fun c_55b => ?_) (fun c_55b => ?_)
            · exact jr_forget (K1 := (jj_uK K n (10, 8))) (fun _ _ h => h) (L1 := [none, none, none, none, none, some (.int (nI (60 - k))), none, none]) (fun i v h => by rcases i with _ | _ | _ | _ | _ | _ | _ | _ | i <;> first | exact h | exact absurd h (by simp)) (c133 _ _ hbk (by rw [hv, show 61 - k = (60 - k) + 1 by omega]; simp only [f_lt]; rw [if_pos (Decidable.byContradiction (fun h => c_100 (if_neg h)))]))
            refine jr_iload hX dX6_latest_58 rfl ?_
            refine jr_iconst (v := -1) hX dX6_latest_60 (by decide) ?_
            refine jr_icmp_ne (tgt := 133) hX dX6_latest_61 (by decide) (fun c_61b => ?_) (fun c_61b => absurd c_61b (jm_nm1 (by omega)))
            exact jr_forget (K1 := (jj_uK K n (10, 8))) (fun _ _ h => h) (L1 := [none, none, none, none, none, some (.int (nI (60 - k))), none, none]) (fun i v h => by rcases i with _ | _ | _ | _ | _ | _ | _ | _ | i <;> first | exact h | exact absurd h (by simp)) (c133 _ _ hbk (by rw [hv, show 61 - k = (60 - k) + 1 by omega]; simp only [f_lt]; rw [if_pos (Decidable.byContradiction (fun h => c_100 (if_neg h)))]))
        · intro J2 p1 p2
          refine jr_iload hX dX6_latest_67 rfl ?_
          refine jr_iload hX dX6_latest_69 rfl ?_
          refine jr_icmp_ge (tgt := 94) hX dX6_latest_71 (by decide) (fun c_71 => absurd c_71 (nI_ge (by omega) (by omega))) (fun c_71 => ?_)
          refine jr_aload_n hX dX6_latest_74 rfl ?_
          refine jr_rel (jr_runV hX hSt kM_X6_145 (c_freeze (jj_fl hX) hly (zd j).1 p1 (zd j).2.1 (by omega)) rfl rfl (ly_kMo hly) ⟨_, _, rfl, by decide⟩ dX6_latest_75 rfl ⟨jj_b1 rfl, jj_b1 rfl⟩ rfl) ?_
          rintro r J3 ⟨rfl, q1, q2⟩
          simp only [Option.toList, List.nil_append]
          refine jr_aload_n hX dX6_latest_78 rfl ?_
          refine jr_getr hX kF_X6_37 rfl (ly_kMo hly) (ly_p6_14 hly) dX6_latest_79 ?_
          refine jr_iconst (v := 0) hX dX6_latest_82 (by decide) ?_
          refine jr_dup2 hX dX6_latest_83 rfl rfl ?_
          refine jr_iald hX (by first | with_reducible assumption | with_reducible exact ly_kWm hly (by first | assumption | omega) | with_reducible exact ly_kLd hly (by first | assumption | omega) | with_reducible exact ly_kIc hly (by first | assumption | omega) | with_reducible exact ly_kBe hly (by first | assumption | omega) | with_reducible exact ly_kPr hly (by first | assumption | omega) | with_reducible exact ly_kMt hly (by first | assumption | omega) (by first | assumption | omega) | with_reducible exact ly_kBc hly (by first | assumption | omega) (by first | assumption | omega) | with_reducible exact ly_k151 hly | with_reducible exact ly_k152 hly | with_reducible exact ly_k153 hly | with_reducible exact ly_k154 hly | with_reducible exact ly_k155 hly | with_reducible exact ly_k156 hly | with_reducible exact ly_k157 hly | with_reducible exact ly_k158 hly | with_reducible exact ly_k159 hly | with_reducible exact ly_k160 hly | with_reducible exact ly_kAh hly (by first | assumption | omega)) (show _ = nI 0 from rfl) (by omega) dX6_latest_84 ?_
          refine jr_iconst (v := 1) hX dX6_latest_85 (by decide) ?_
          refine jr_iadd hX dX6_latest_86 ?_
          refine jr_iast hX (by first | with_reducible assumption | with_reducible exact ly_kWm hly (by first | assumption | omega) | with_reducible exact ly_kLd hly (by first | assumption | omega) | with_reducible exact ly_kIc hly (by first | assumption | omega) | with_reducible exact ly_kBe hly (by first | assumption | omega) | with_reducible exact ly_kPr hly (by first | assumption | omega) | with_reducible exact ly_kMt hly (by first | assumption | omega) (by first | assumption | omega) | with_reducible exact ly_kBc hly (by first | assumption | omega) (by first | assumption | omega) | with_reducible exact ly_k151 hly | with_reducible exact ly_k152 hly | with_reducible exact ly_k153 hly | with_reducible exact ly_k154 hly | with_reducible exact ly_k155 hly | with_reducible exact ly_k156 hly | with_reducible exact ly_k157 hly | with_reducible exact ly_k158 hly | with_reducible exact ly_k159 hly | with_reducible exact ly_k160 hly | with_reducible exact ly_kAh hly (by first | assumption | omega)) (by first | assumption | with_reducible exact aMt_0 | with_reducible exact aBc_0 | with_reducible exact aWm_0 | with_reducible exact aLd_0 | with_reducible exact aIc_0 | with_reducible exact aBe_0 | with_reducible exact aPr_0 | with_reducible exact aAh_0 | decide | omega) (show _ = nI 0 from rfl) (by omega) dX6_latest_87 ?_
          refine jr_iinc hX dX6_latest_88 rfl (by first | with_reducible exact jj_inc _ | with_reducible exact jj_inc1 _) rfl ?_
          refine jr_goto (tgt := 67) hX dX6_latest_91 (by decide) ?_
          exact ih _ (ml_zd z (zd j).2.1 q1) (fun x e1 e2 => (jj_u_ne e2).trans ((q2 x e1).trans (p2 x e1 e2)))
      exact hin 0 (Nat.zero_le _) J (bk_ml z hn hm0 dy0 o) (fun _ _ _ => rfl)
  exact hloop 0 (Nat.zero_le _) (jj_uR (jj_u I 150 0 0) n ((jj_u I 150 0 0) 155)) (bk_0 hn dy0) rfl
