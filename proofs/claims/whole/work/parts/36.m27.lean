/-! whether one goes through, the model -/
def m_op1 (d : Nat) (C : jj_I) (l t : Nat) : Bool := decide (f_ice l d C t ≤ 10)
def m_gt (d a b wt : Nat) (C : jj_I) : Bool := f_fw (m_op1 d C) (f_lg a b) (f_du a b C) (f_lw a b) 0 wt
theorem jm_subk {N j : Nat} (h : j < N) : nI (N - j) - 1 = nI (N - (j + 1)) := by
  rw [jm_sub1 (by omega), show N - j - 1 = N - (j + 1) by omega]
theorem jm_by {a b : Nat} (h : (if a < b then (1 : Int32) else -1) ≤ 0) : ¬ a < b := fun e => by
  rw [if_pos e] at h
  exact absurd h (by decide)
theorem jm_by2 {a b : Nat} (h : ¬ (if a < b then (1 : Int32) else -1) ≤ 0) : a < b := Decidable.byContradiction (fun e => h (by rw [if_neg e]; decide))
theorem jm_hne {a b k : Nat} (hk : k < f_lw a b) (ha : a < 8) (hb : b < 8) : ¬ nI (if a < b then a + k else a - k) = nI b := by
  unfold f_lw at hk
  by_cases h : a < b
  · rw [if_pos h] at hk ⊢
    intro e
    have := jm_n e (by omega) (by omega)
    omega
  · rw [if_neg h] at hk ⊢
    intro e
    have := jm_n e (by omega) (by omega)
    omega
theorem jm_hx {a b k : Nat} (hk : k < f_lw a b) : nI (if a < b then a + k else a - k) + (if a < b then (1 : Int32) else -1) = nI (if a < b then a + (k + 1) else a - (k + 1)) := by
  by_cases h : a < b
  · rw [if_pos h, if_pos h, if_pos h, nI_1]; rfl
  · unfold f_lw at hk
    rw [if_neg h] at hk
    rw [if_neg h, if_neg h, if_neg h, show (-1 : Int32) = -(1 : Int32) from rfl, ← Int32.sub_eq_add_neg, jm_sub1 (by omega), show a - k - 1 = a - (k + 1) by omega]
set_option maxHeartbeats 4000000 in
set_option maxRecDepth 100000 in
theorem c_goesThrough {l : Launch} (hfl : l.stackTraces = false) {D : jj_D} {n : Nat} {K : jj_K} {I : jj_I} {P : jj_P} {G : jj_G} (hly : ly K P) {H M B N d a b wt : Nat} {C : jj_I} (hs : sf 0 H M B N C) (hL : sfL 0 H C) (hm : ml 0 H M B N (f_zd H d C wt) I) (hd : C (aR 0) 0 = nI d) (hd2 : d < 2000000000) (ha : a < H) (hb : b < H) (hwt : wt ≤ 60) :
    jj_Met l D yX6_goesThrough (jj_ws yX6_goesThrough cX6_goesThrough 7 (some .boolean)) { frames := 2, cells := 0, slots := 0, locals := 43 } [.ref 150, .int (nI a), .int (nI b)] n K I P G (jj_RS (fun r J => r = some (.int (if m_gt d a b wt C then 1 else 0)) ∧ ∀ x, x ≠ 155 → x ≠ 160 → J x = I x) n K P G) jj_noX := by
  refine jj_of hfl (by decide +kernel) [some (.ref 150), some (.int (nI a)), some (.int (nI b)), none, none, none, none] rfl rfl ?_
  intro X hXl hX hSt
  have z := sf_Z hs
  have hH2 := hs.1.2
  have zd := zd_ok hs hd
  have c10 : jj_J X D 7 0 0 (jj_MQ X D { frames := 2, cells := 0, slots := 0, locals := 43 } (jj_RS (fun r J => r = some (.int (if m_gt d a b wt C then 1 else 0)) ∧ ∀ x, x ≠ 155 → x ≠ 160 → J x = I x) n K P G) jj_noX) (n) (K) (I) (P) (G) 10 [some (.ref 150), some (.int (nI a)), some (.int (nI b)), none, none, none, none] [.int (if a < b then 1 else -1)] := by
    skip
    refine jr_istore_n hX dX6_goesThrough_10 rfl ?_
    refine jr_iload_n hX dX6_goesThrough_11 rfl ?_
    refine jr_istore hX dX6_goesThrough_12 rfl ?_
    have hloop : ∀ k, k ≤ f_lw a b → ∀ (day : Nat) (J : jj_I), day ≤ wt + 18 * k → ml 0 H M B N (f_zd H d C day) J → (∀ x, x ≠ 155 → x ≠ 160 → J x = I x) → m_gt d a b wt C = f_fw (m_op1 d C) (f_lg a b) (f_du a b C) (f_lw a b - k) k day → jj_J X D 7 0 0 (jj_MQ X D { frames := 2, cells := 0, slots := 0, locals := 43 } (jj_RS (fun r J => r = some (.int (if m_gt d a b wt C then 1 else 0)) ∧ ∀ x, x ≠ 155 → x ≠ 160 → J x = I x) n K P G) jj_noX) (n) (K) (J) (P) (G) 14 [some (.ref 150), some (.int (nI a)), some (.int (nI b)), some (.int (if a < b then 1 else -1)), some (.int (nI (if a < b then a + k else a - k))), none, none] [] := by
      refine jj_for (f_lw a b) _ ?_ (fun k hk ih => ?_)
      · intro day J hday o1 o2 hv
        have hlw : f_lw a b < 8 := by unfold f_lw; split <;> omega
        refine jr_iload hX dX6_goesThrough_14 rfl ?_
        refine jr_iload_n hX dX6_goesThrough_16 rfl ?_
        refine jr_icmp_eq (tgt := 105) hX dX6_goesThrough_17 (by decide) (fun c_17 => ?_) (fun c_17 => absurd (by congr 1; unfold f_lw; split <;> omega) c_17)
        refine jr_iconst (v := 1) hX dX6_goesThrough_105 (by decide) ?_
        exact jr_zret hX (by simp) dX6_goesThrough_106 rfl rfl ⟨⟨by rw [hv, Nat.sub_self]; rfl, o2⟩, rfl, rfl, rfl, rfl⟩
      · intro day J hday o1 o2 hv
        have hlw : f_lw a b < 8 := by unfold f_lw; split <;> omega
        have hlg : f_lg a b k + 1 < H := by unfold f_lg; unfold f_lw at hk; split <;> split at hk <;> omega
        obtain ⟨t, t1, t2, et⟩ := hL _ hlg
        have eleg : J 152 (f_lg a b k) = nI t := (ml_hLeg o1 (by omega)).trans ((congrFun ((zd day).2.2 _ (by decide) (by decide)) _).trans et)
        have edu : f_du a b C k = if a < b then t else 2 * t := by
          unfold f_du f_do
          by_cases h : a < b
          · rw [if_pos h, if_pos h, if_neg (by decide), et, nv_nI (by omega)]
          · rw [if_neg h, if_neg h, if_pos rfl, et, show (2 : Int32) = nI 2 from rfl, pk_mul, nv_nI (by omega)]
        have hdu : f_du a b C k ≤ 18 := by rw [edu]; split <;> omega
        refine jr_iload hX dX6_goesThrough_14 rfl ?_
        refine jr_iload_n hX dX6_goesThrough_16 rfl ?_
        refine jr_icmp_eq (tgt := 105) hX dX6_goesThrough_17 (by decide) (fun c_17 => absurd c_17 (jm_hne hk (by omega) (by omega))) (fun c_17 => ?_)
        refine jr_iload_n hX dX6_goesThrough_20 rfl ?_
        refine jr_if_le (tgt := 29) hX dX6_goesThrough_21 (by decide) (fun c_21 => ?_) (fun c_21 => ?_)
        · have hab := jm_by c_21
          refine jr_iload hX dX6_goesThrough_29 rfl ?_
          refine jr_iconst (v := 1) hX dX6_goesThrough_31 (by decide) ?_
          refine jr_isub hX dX6_goesThrough_32 ?_
          rw [show nI (if a < b then a + k else a - k) - 1 = nI (f_lg a b k) from by unfold f_lg; unfold f_lw at hk; rw [if_neg hab] at hk; rw [if_neg hab, if_neg hab, jm_sub1 (by omega), show a - k - 1 = a - 1 - k by omega]]
          refine jr_istore hX dX6_goesThrough_33 rfl ?_
          refine jr_iload_n hX dX6_goesThrough_35 rfl ?_
          refine jr_if_le (tgt := 49) hX dX6_goesThrough_36 (by decide) (fun c_36 => ?_) (fun c_36 => absurd c_21 c_36)
          refine jr_iconst (v := 2) hX dX6_goesThrough_49 (by decide) ?_
          refine jr_aload_n hX dX6_goesThrough_50 rfl ?_
          refine jr_getr hX kF_X6_13 rfl (ly_kMo hly) (ly_p6_3 hly) dX6_goesThrough_51 ?_
          refine jr_iload hX dX6_goesThrough_54 rfl ?_
          refine jr_iald hX (by first | with_reducible assumption | with_reducible exact ly_kWm hly (by first | assumption | omega) | with_reducible exact ly_kLd hly (by first | assumption | omega) | with_reducible exact ly_kIc hly (by first | assumption | omega) | with_reducible exact ly_kBe hly (by first | assumption | omega) | with_reducible exact ly_kPr hly (by first | assumption | omega) | with_reducible exact ly_kMt hly (by first | assumption | omega) (by first | assumption | omega) | with_reducible exact ly_kBc hly (by first | assumption | omega) (by first | assumption | omega) | with_reducible exact ly_k151 hly | with_reducible exact ly_k152 hly | with_reducible exact ly_k153 hly | with_reducible exact ly_k154 hly | with_reducible exact ly_k155 hly | with_reducible exact ly_k156 hly | with_reducible exact ly_k157 hly | with_reducible exact ly_k158 hly | with_reducible exact ly_k159 hly | with_reducible exact ly_k160 hly | with_reducible exact ly_kAh hly (by first | assumption | omega)) (by first | with_reducible rfl | with_reducible assumption | rfl) (by omega) dX6_goesThrough_56 ?_
          rw [eleg]
          refine jr_imul hX dX6_goesThrough_57 ?_
          rw [show (2 : Int32) = nI 2 from rfl, pk_mul, show 2 * t = f_du a b C k from by rw [edu, if_neg hab]]
          refine jr_istore hX dX6_goesThrough_58 rfl ?_
          have hin : ∀ j, j ≤ f_du a b C k → ∀ J2 : jj_I, ml 0 H M B N (f_zd H d C (day + j)) J2 → (∀ x, x ≠ 155 → x ≠ 160 → J2 x = I x) → f_ao (m_op1 d C (f_lg a b k)) day j = true → jj_J X D 7 0 0 (jj_MQ X D { frames := 2, cells := 0, slots := 0, locals := 43 } (jj_RS (fun r J => r = some (.int (if m_gt d a b wt C then 1 else 0)) ∧ ∀ x, x ≠ 155 → x ≠ 160 → J x = I x) n K P G) jj_noX) (n) (K) (J2) (P) (G) 60 [some (.ref 150), some (.int (nI a)), some (.int (nI b)), some (.int (if a < b then 1 else -1)), some (.int (nI (if a < b then a + k else a - k))), some (.int (nI (f_lg a b k))), some (.int (nI (f_du a b C k - j)))] [] := by
            refine jj_for (f_du a b C k) _ ?_ (fun j hj ih => ?_)
            · intro J2 p1 p2 pq
              refine jr_iload hX dX6_goesThrough_60 rfl ?_
              refine jr_if_le (tgt := 96) hX dX6_goesThrough_62 (by decide) (fun c_62 => ?_) (fun c_62 => absurd (by rw [Nat.sub_self]; decide) c_62)
              refine jr_iload hX dX6_goesThrough_96 rfl ?_
              refine jr_iload_n hX dX6_goesThrough_98 rfl ?_
              refine jr_iadd hX dX6_goesThrough_99 ?_
              rw [jm_hx hk]
              refine jr_istore hX dX6_goesThrough_100 rfl ?_
              refine jr_goto (tgt := 14) hX dX6_goesThrough_102 (by decide) ?_
              exact jr_forget (fun _ _ h => h) (fun i v h => by rcases i with _ | _ | _ | _ | _ | _ | _ | i <;> first | exact h | exact absurd h (by simp)) (ih (day + f_du a b C k) J2 (by omega) p1 p2 (by rw [hv, show f_lw a b - k = (f_lw a b - (k + 1)) + 1 by omega]; simp only [f_fw, pq, Bool.true_and]))
            · intro J2 p1 p2 pq
              have oq : q_ol 0 (f_zd H d C (day + j + 1)) (f_lg a b k) = if f_ice (f_lg a b k) d C (day + j + 1) ≤ 10 then 1 else 0 := by unfold q_ol; rw [zd_ice hs hd (by omega) (day + j + 1)]
              refine jr_iload hX dX6_goesThrough_60 rfl ?_
              refine jr_if_le (tgt := 96) hX dX6_goesThrough_62 (by decide) (fun c_62 => absurd c_62 (by rw [← nI_0]; exact nI_ge (by omega) (by omega))) (fun c_62 => ?_)
              refine jr_aload_n hX dX6_goesThrough_65 rfl ?_
              refine jr_rel (jr_runV hX hSt kM_X6_145 (c_freeze (jj_fl hX) hly (zd (day + j)).1 p1 (zd (day + j)).2.1 (by omega)) rfl rfl (ly_kMo hly) ⟨_, _, rfl, by decide⟩ dX6_goesThrough_66 rfl ⟨jj_b1 rfl, jj_b1 rfl⟩ rfl) ?_
              rintro r J3 ⟨rfl, q1, q2⟩
              simp only [Option.toList, List.nil_append]
              refine jr_aload_n hX dX6_goesThrough_69 rfl ?_
              refine jr_getr hX kF_X6_37 rfl (ly_kMo hly) (ly_p6_14 hly) dX6_goesThrough_70 ?_
              refine jr_iconst (v := 0) hX dX6_goesThrough_73 (by decide) ?_
              refine jr_dup2 hX dX6_goesThrough_74 rfl rfl ?_
              refine jr_iald hX (by first | with_reducible assumption | with_reducible exact ly_kWm hly (by first | assumption | omega) | with_reducible exact ly_kLd hly (by first | assumption | omega) | with_reducible exact ly_kIc hly (by first | assumption | omega) | with_reducible exact ly_kBe hly (by first | assumption | omega) | with_reducible exact ly_kPr hly (by first | assumption | omega) | with_reducible exact ly_kMt hly (by first | assumption | omega) (by first | assumption | omega) | with_reducible exact ly_kBc hly (by first | assumption | omega) (by first | assumption | omega) | with_reducible exact ly_k151 hly | with_reducible exact ly_k152 hly | with_reducible exact ly_k153 hly | with_reducible exact ly_k154 hly | with_reducible exact ly_k155 hly | with_reducible exact ly_k156 hly | with_reducible exact ly_k157 hly | with_reducible exact ly_k158 hly | with_reducible exact ly_k159 hly | with_reducible exact ly_k160 hly | with_reducible exact ly_kAh hly (by first | assumption | omega)) (show _ = nI 0 from rfl) (by omega) dX6_goesThrough_75 ?_
              refine jr_iconst (v := 1) hX dX6_goesThrough_76 (by decide) ?_
              refine jr_iadd hX dX6_goesThrough_77 ?_
              refine jr_iast hX (by first | with_reducible assumption | with_reducible exact ly_kWm hly (by first | assumption | omega) | with_reducible exact ly_kLd hly (by first | assumption | omega) | with_reducible exact ly_kIc hly (by first | assumption | omega) | with_reducible exact ly_kBe hly (by first | assumption | omega) | with_reducible exact ly_kPr hly (by first | assumption | omega) | with_reducible exact ly_kMt hly (by first | assumption | omega) (by first | assumption | omega) | with_reducible exact ly_kBc hly (by first | assumption | omega) (by first | assumption | omega) | with_reducible exact ly_k151 hly | with_reducible exact ly_k152 hly | with_reducible exact ly_k153 hly | with_reducible exact ly_k154 hly | with_reducible exact ly_k155 hly | with_reducible exact ly_k156 hly | with_reducible exact ly_k157 hly | with_reducible exact ly_k158 hly | with_reducible exact ly_k159 hly | with_reducible exact ly_k160 hly | with_reducible exact ly_kAh hly (by first | assumption | omega)) (by first | assumption | with_reducible exact aMt_0 | with_reducible exact aBc_0 | with_reducible exact aWm_0 | with_reducible exact aLd_0 | with_reducible exact aIc_0 | with_reducible exact aBe_0 | with_reducible exact aPr_0 | with_reducible exact aAh_0 | decide | omega) (show _ = nI 0 from rfl) (by omega) dX6_goesThrough_78 ?_
              have h4 := ml_zd z (zd (day + j)).2.1 q1
              refine jr_aload_n hX dX6_goesThrough_79 rfl ?_
              refine jr_iload hX dX6_goesThrough_80 rfl ?_
              refine jr_ret (jr_runV hX hSt kM_X6_90 (c_isOpen (jj_fl hX) hly rfl (by omega)) rfl rfl (ly_kMo hly) ⟨_, _, rfl, by decide⟩ dX6_goesThrough_82 rfl ⟨jj_b1 rfl, jj_b1 rfl⟩ rfl) ?_
              rw [jm_ol h4 (by omega), oq]
              refine jr_if_ne (tgt := 90) hX dX6_goesThrough_85 (by decide) (fun c_85 => ?_) (fun c_85 => ?_)
              · refine jr_iinc hX dX6_goesThrough_90 rfl ((jj_dec1 _).trans (jm_subk hj)) rfl ?_
                refine jr_goto (tgt := 60) hX dX6_goesThrough_93 (by decide) ?_
                exact ih _ h4 (fun x e1 e2 => (jj_u_ne e2).trans ((q2 x e1).trans (p2 x e1 e2))) (by simp only [f_ao, pq, Bool.true_and]; exact decide_eq_true (jl_01 c_85))
              · refine jr_iconst (v := 0) hX dX6_goesThrough_88 (by decide) ?_
                exact jr_zret hX (by simp) dX6_goesThrough_89 rfl rfl ⟨⟨by rw [show m_gt d a b wt C = false by rw [hv, show f_lw a b - k = (f_lw a b - (k + 1)) + 1 by omega]; simp only [f_fw]; rw [f_ao_f (show m_op1 d C (f_lg a b k) (day + j + 1) = false from decide_eq_false (jl_00 c_85)) hj, Bool.false_and]]; rfl, fun x e1 e2 => (jj_u_ne e2).trans ((q2 x e1).trans (p2 x e1 e2))⟩, rfl, rfl, rfl, rfl⟩
          first
            | exact hin 0 (Nat.zero_le _) J o1 o2 rfl
            | (have e0 := hin 0 (Nat.zero_le _) J o1 o2 rfl; rw [show nI (if a < b then a + k else a - k) = nI (f_lg a b k) from by unfold f_lg; rw [if_pos hab, if_pos hab]] at e0; exact e0)
        · have hab := jm_by2 c_21
          refine jr_iload hX dX6_goesThrough_24 rfl ?_
          rw [show nI (if a < b then a + k else a - k) = nI (f_lg a b k) from by unfold f_lg; rw [if_pos hab, if_pos hab]]
          refine jr_goto (tgt := 33) hX dX6_goesThrough_26 (by decide) ?_
          refine jr_istore hX dX6_goesThrough_33 rfl ?_
          refine jr_iload_n hX dX6_goesThrough_35 rfl ?_
          refine jr_if_le (tgt := 49) hX dX6_goesThrough_36 (by decide) (fun c_36 => absurd c_36 c_21) (fun c_36 => ?_)
          refine jr_aload_n hX dX6_goesThrough_39 rfl ?_
          refine jr_getr hX kF_X6_13 rfl (ly_kMo hly) (ly_p6_3 hly) dX6_goesThrough_40 ?_
          refine jr_iload hX dX6_goesThrough_43 rfl ?_
          refine jr_iald hX (by first | with_reducible assumption | with_reducible exact ly_kWm hly (by first | assumption | omega) | with_reducible exact ly_kLd hly (by first | assumption | omega) | with_reducible exact ly_kIc hly (by first | assumption | omega) | with_reducible exact ly_kBe hly (by first | assumption | omega) | with_reducible exact ly_kPr hly (by first | assumption | omega) | with_reducible exact ly_kMt hly (by first | assumption | omega) (by first | assumption | omega) | with_reducible exact ly_kBc hly (by first | assumption | omega) (by first | assumption | omega) | with_reducible exact ly_k151 hly | with_reducible exact ly_k152 hly | with_reducible exact ly_k153 hly | with_reducible exact ly_k154 hly | with_reducible exact ly_k155 hly | with_reducible exact ly_k156 hly | with_reducible exact ly_k157 hly | with_reducible exact ly_k158 hly | with_reducible exact ly_k159 hly | with_reducible exact ly_k160 hly | with_reducible exact ly_kAh hly (by first | assumption | omega)) (by first | with_reducible rfl | with_reducible assumption | rfl) (by omega) dX6_goesThrough_45 ?_
          rw [eleg, show nI t = nI (f_du a b C k) from by rw [edu, if_pos hab]]
          refine jr_goto (tgt := 58) hX dX6_goesThrough_46 (by decide) ?_
          refine jr_istore hX dX6_goesThrough_58 rfl ?_
          have hin : ∀ j, j ≤ f_du a b C k → ∀ J2 : jj_I, ml 0 H M B N (f_zd H d C (day + j)) J2 → (∀ x, x ≠ 155 → x ≠ 160 → J2 x = I x) → f_ao (m_op1 d C (f_lg a b k)) day j = true → jj_J X D 7 0 0 (jj_MQ X D { frames := 2, cells := 0, slots := 0, locals := 43 } (jj_RS (fun r J => r = some (.int (if m_gt d a b wt C then 1 else 0)) ∧ ∀ x, x ≠ 155 → x ≠ 160 → J x = I x) n K P G) jj_noX) (n) (K) (J2) (P) (G) 60 [some (.ref 150), some (.int (nI a)), some (.int (nI b)), some (.int (if a < b then 1 else -1)), some (.int (nI (if a < b then a + k else a - k))), some (.int (nI (f_lg a b k))), some (.int (nI (f_du a b C k - j)))] [] := by
            refine jj_for (f_du a b C k) _ ?_ (fun j hj ih => ?_)
            · intro J2 p1 p2 pq
              refine jr_iload hX dX6_goesThrough_60 rfl ?_
              refine jr_if_le (tgt := 96) hX dX6_goesThrough_62 (by decide) (fun c_62 => ?_) (fun c_62 => absurd (by rw [Nat.sub_self]; decide) c_62)
              refine jr_iload hX dX6_goesThrough_96 rfl ?_
              refine jr_iload_n hX dX6_goesThrough_98 rfl ?_
              refine jr_iadd hX dX6_goesThrough_99 ?_
              rw [jm_hx hk]
              refine jr_istore hX dX6_goesThrough_100 rfl ?_
              refine jr_goto (tgt := 14) hX dX6_goesThrough_102 (by decide) ?_
              exact jr_forget (fun _ _ h => h) (fun i v h => by rcases i with _ | _ | _ | _ | _ | _ | _ | i <;> first | exact h | exact absurd h (by simp)) (ih (day + f_du a b C k) J2 (by omega) p1 p2 (by rw [hv, show f_lw a b - k = (f_lw a b - (k + 1)) + 1 by omega]; simp only [f_fw, pq, Bool.true_and]))
            · intro J2 p1 p2 pq
              have oq : q_ol 0 (f_zd H d C (day + j + 1)) (f_lg a b k) = if f_ice (f_lg a b k) d C (day + j + 1) ≤ 10 then 1 else 0 := by unfold q_ol; rw [zd_ice hs hd (by omega) (day + j + 1)]
              refine jr_iload hX dX6_goesThrough_60 rfl ?_
              refine jr_if_le (tgt := 96) hX dX6_goesThrough_62 (by decide) (fun c_62 => absurd c_62 (by rw [← nI_0]; exact nI_ge (by omega) (by omega))) (fun c_62 => ?_)
              refine jr_aload_n hX dX6_goesThrough_65 rfl ?_
              refine jr_rel (jr_runV hX hSt kM_X6_145 (c_freeze (jj_fl hX) hly (zd (day + j)).1 p1 (zd (day + j)).2.1 (by omega)) rfl rfl (ly_kMo hly) ⟨_, _, rfl, by decide⟩ dX6_goesThrough_66 rfl ⟨jj_b1 rfl, jj_b1 rfl⟩ rfl) ?_
              rintro r J3 ⟨rfl, q1, q2⟩
              simp only [Option.toList, List.nil_append]
              refine jr_aload_n hX dX6_goesThrough_69 rfl ?_
              refine jr_getr hX kF_X6_37 rfl (ly_kMo hly) (ly_p6_14 hly) dX6_goesThrough_70 ?_
              refine jr_iconst (v := 0) hX dX6_goesThrough_73 (by decide) ?_
              refine jr_dup2 hX dX6_goesThrough_74 rfl rfl ?_
              refine jr_iald hX (by first | with_reducible assumption | with_reducible exact ly_kWm hly (by first | assumption | omega) | with_reducible exact ly_kLd hly (by first | assumption | omega) | with_reducible exact ly_kIc hly (by first | assumption | omega) | with_reducible exact ly_kBe hly (by first | assumption | omega) | with_reducible exact ly_kPr hly (by first | assumption | omega) | with_reducible exact ly_kMt hly (by first | assumption | omega) (by first | assumption | omega) | with_reducible exact ly_kBc hly (by first | assumption | omega) (by first | assumption | omega) | with_reducible exact ly_k151 hly | with_reducible exact ly_k152 hly | with_reducible exact ly_k153 hly | with_reducible exact ly_k154 hly | with_reducible exact ly_k155 hly | with_reducible exact ly_k156 hly | with_reducible exact ly_k157 hly | with_reducible exact ly_k158 hly | with_reducible exact ly_k159 hly | with_reducible exact ly_k160 hly | with_reducible exact ly_kAh hly (by first | assumption | omega)) (show _ = nI 0 from rfl) (by omega) dX6_goesThrough_75 ?_
              refine jr_iconst (v := 1) hX dX6_goesThrough_76 (by decide) ?_
              refine jr_iadd hX dX6_goesThrough_77 ?_
              refine jr_iast hX (by first | with_reducible assumption | with_reducible exact ly_kWm hly (by first | assumption | omega) | with_reducible exact ly_kLd hly (by first | assumption | omega) | with_reducible exact ly_kIc hly (by first | assumption | omega) | with_reducible exact ly_kBe hly (by first | assumption | omega) | with_reducible exact ly_kPr hly (by first | assumption | omega) | with_reducible exact ly_kMt hly (by first | assumption | omega) (by first | assumption | omega) | with_reducible exact ly_kBc hly (by first | assumption | omega) (by first | assumption | omega) | with_reducible exact ly_k151 hly | with_reducible exact ly_k152 hly | with_reducible exact ly_k153 hly | with_reducible exact ly_k154 hly | with_reducible exact ly_k155 hly | with_reducible exact ly_k156 hly | with_reducible exact ly_k157 hly | with_reducible exact ly_k158 hly | with_reducible exact ly_k159 hly | with_reducible exact ly_k160 hly | with_reducible exact ly_kAh hly (by first | assumption | omega)) (by first | assumption | with_reducible exact aMt_0 | with_reducible exact aBc_0 | with_reducible exact aWm_0 | with_reducible exact aLd_0 | with_reducible exact aIc_0 | with_reducible exact aBe_0 | with_reducible exact aPr_0 | with_reducible exact aAh_0 | decide | omega) (show _ = nI 0 from rfl) (by omega) dX6_goesThrough_78 ?_
              have h4 := ml_zd z (zd (day + j)).2.1 q1
              refine jr_aload_n hX dX6_goesThrough_79 rfl ?_
              refine jr_iload hX dX6_goesThrough_80 rfl ?_
              refine jr_ret (jr_runV hX hSt kM_X6_90 (c_isOpen (jj_fl hX) hly rfl (by omega)) rfl rfl (ly_kMo hly) ⟨_, _, rfl, by decide⟩ dX6_goesThrough_82 rfl ⟨jj_b1 rfl, jj_b1 rfl⟩ rfl) ?_
              rw [jm_ol h4 (by omega), oq]
              refine jr_if_ne (tgt := 90) hX dX6_goesThrough_85 (by decide) (fun c_85 => ?_) (fun c_85 => ?_)
              · refine jr_iinc hX dX6_goesThrough_90 rfl ((jj_dec1 _).trans (jm_subk hj)) rfl ?_
                refine jr_goto (tgt := 60) hX dX6_goesThrough_93 (by decide) ?_
                exact ih _ h4 (fun x e1 e2 => (jj_u_ne e2).trans ((q2 x e1).trans (p2 x e1 e2))) (by simp only [f_ao, pq, Bool.true_and]; exact decide_eq_true (jl_01 c_85))
              · refine jr_iconst (v := 0) hX dX6_goesThrough_88 (by decide) ?_
                exact jr_zret hX (by simp) dX6_goesThrough_89 rfl rfl ⟨⟨by rw [show m_gt d a b wt C = false by rw [hv, show f_lw a b - k = (f_lw a b - (k + 1)) + 1 by omega]; simp only [f_fw]; rw [f_ao_f (show m_op1 d C (f_lg a b k) (day + j + 1) = false from decide_eq_false (jl_00 c_85)) hj, Bool.false_and]]; rfl, fun x e1 e2 => (jj_u_ne e2).trans ((q2 x e1).trans (p2 x e1 e2))⟩, rfl, rfl, rfl, rfl⟩
          first
            | exact hin 0 (Nat.zero_le _) J o1 o2 rfl
            | (have e0 := hin 0 (Nat.zero_le _) J o1 o2 rfl; rw [show nI (if a < b then a + k else a - k) = nI (f_lg a b k) from by unfold f_lg; rw [if_pos hab, if_pos hab]] at e0; exact e0)
    have e0 := hloop 0 (Nat.zero_le _) wt I (by omega) hm (fun _ _ _ => rfl) rfl
    rw [show (if a < b then a + 0 else a - 0) = a from by split <;> rfl] at e0
    exact e0
  refine jr_iload_n hX dX6_goesThrough_0 rfl ?_
  refine jr_iload_n hX dX6_goesThrough_1 rfl ?_
  refine jr_icmp_ge (tgt := 9) hX dX6_goesThrough_2 (by decide) (fun c_2 => ?_) (fun c_2 => ?_)
  · refine jr_iconst (v := -1) hX dX6_goesThrough_9 (by decide) ?_
    rw [if_neg (fun h => absurd (nI_lt h (by omega)) (Int32.not_lt.mpr c_2))] at c10
    exact c10
  · refine jr_iconst (v := 1) hX dX6_goesThrough_5 (by decide) ?_
    refine jr_goto (tgt := 10) hX dX6_goesThrough_6 (by decide) ?_
    rw [if_pos (Nat.lt_of_not_le (fun h => c_2 (nI_le h (by omega))))] at c10
    exact c10
