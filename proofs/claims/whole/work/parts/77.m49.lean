/-! the law: the mean, the checksum, the loop -/
theorem lw_gt {i S : Nat} (hS : S ≤ 3584) (hi : i ≤ 3584) : nI S - 7 < nI i ↔ ¬ i + 7 ≤ S := by
  have e : (nI S - 7 : Int32).toInt = (S : Int) - 7 := by
    rw [Int32.toInt_sub, nI_toInt (by omega), show (7 : Int32).toInt = 7 from rfl, Int.bmod_eq_of_le (by omega) (by omega)]
  rw [Int32.lt_iff_toInt_lt, e, nI_toInt (by omega)]
  omega
section LL
variable {X : jj_X} {D : jj_D} {nm : String} {rm : Room} {tb : List ExceptionTableEntry} {cs sl : Nat} {Q : State → Prop} {n : Nat} {K : jj_K} {I : jj_I} {P : jj_P} {G : jj_G}
set_option maxHeartbeats 4000000 in
set_option maxRecDepth 100000 in
theorem lc_mean (hX : jj_Cx X D cL_law RL 9 (some .boolean) nm rm tb) (hSt : jj_St X D) {S : Nat} {xs : Nat → Int32} (hxs : jj_XS X D S xs) (hly : ly K P) (hk161 : K 161 = some (11, 1)) (hKn0 : ∀ a, 162 ≤ a → K a = none) {t : Nat} (hI : li t I) (ht : t + 1 ≤ 512) {i : Nat} (hi : i + 7 ≤ S ∧ S ≤ 3584) (hn : 162 ≤ n) (hrf : 10 ≤ rm.frames) (hrl : 200 ≤ rm.locals) (hrc : cs + 16 ≤ rm.cells) (hrs : sl + 564 ≤ rm.slots) (kk : ∀ n1 I1 G1, 162 ≤ n1 → li (t + 1) I1 → jj_J X D 9 (cs + 16) (sl + 564) Q n1 K I1 P G1 2009 (lw_L i) []) : jj_J X D 9 cs sl Q n K I P G 1954 (lw_L i) [] := by
  obtain ⟨H, M, B, N, hc, hm, hz⟩ := id hI
  obtain ⟨s, c, m1, m2, m3, m4, m5⟩ := tc_mean hc
  have h1 := c_mean (jj_fl hX) (D := D) (n := n) (G := G) hly hc.1 m1 m2 m3 m4
  have h2 := m_mean (jj_fl hX) (D := D) (n := n) (G := G) hly hc.1 hc.2.1 hm hz m1 m2 m3 m4 m5
  generalize (if c = 0 then FP.dconst0 else FP.ddiv (FP.i2d (nI s)) (FP.i2d (nI c))) = x at h1 h2
  refine jr_aload_n hX dL_law_1954 rfl ?_
  refine jr_ret (jr_runV hX hSt kM_L_187 h1 rfl rfl (ly_kI hly) ⟨_, _, rfl, by decide⟩ dL_law_1955 (jj_rb (by show 1 + 1 ≤ _; omega) (by show 8 + (_ + 11) + 23 ≤ _; omega)) ⟨by show cs + 0 ≤ _; omega, by show sl + 0 ≤ _; omega⟩ rfl) ?_
  refine jr_dstore hX dL_law_1958 rfl ?_
  refine jr_aload_n hX dL_law_1960 rfl ?_
  refine jr_ret (jr_runV hX hSt kM_L_191 h2 rfl rfl (ly_kMo hly) ⟨_, _, rfl, by decide⟩ dL_law_1961 (jj_rb (by show 2 + 1 ≤ _; omega) (by show 8 + (_ + 11) + 44 ≤ _; omega)) ⟨by show cs + 0 + 0 ≤ _; omega, by show sl + 0 + 0 ≤ _; omega⟩ rfl) ?_
  refine jr_dstore hX dL_law_1964 rfl ?_
  refine jr_dload hX dL_law_1966 rfl ?_
  refine jr_dload hX dL_law_1968 rfl ?_
  refine jr_dcmp hX dL_law_1970 ?_
  refine jr_if_eq (tgt := 1992) hX dL_law_1971 (by decide) (fun q => ?_) (fun q => ?_)
  · refine jr_goto (tgt := 2009) hX dL_law_1992 (by decide) ?_
    refine jr_widen (cs1 := cs + 16) (sl1 := sl + 564) (by show cs + 0 + 0 ≤ _; omega) (by show sl + 0 + 0 ≤ _; omega) ?_
    exact jr_forget (fun _ _ h => h) (fun i v h => by rcases i with _ | _ | _ | _ | _ | _ | _ | _ | _ | i <;> first | exact h | exact absurd h (by simp)) (kk _ _ _ hn (li_th hI ht))
  · refine jr_dload hX dL_law_1974 rfl ?_
    refine jr_dload hX dL_law_1976 rfl ?_
    refine jr_dcmp hX dL_law_1978 ?_
    refine jr_if_eq (tgt := 1990) hX dL_law_1979 (by decide) (fun r => absurd r q) (fun _ => ?_)
    refine jr_dload hX dL_law_1982 rfl ?_
    refine jr_dload hX dL_law_1984 rfl ?_
    refine jr_dcmp hX dL_law_1986 ?_
    refine jr_if_ne (tgt := 1992) hX dL_law_1987 (by decide) (fun _ => ?_) (fun r => absurd r q)
    refine jr_goto (tgt := 2009) hX dL_law_1992 (by decide) ?_
    refine jr_widen (cs1 := cs + 16) (sl1 := sl + 564) (by show cs + 0 + 0 ≤ _; omega) (by show sl + 0 + 0 ≤ _; omega) ?_
    exact jr_forget (fun _ _ h => h) (fun i v h => by rcases i with _ | _ | _ | _ | _ | _ | _ | _ | _ | i <;> first | exact h | exact absurd h (by simp)) (kk _ _ _ hn (li_th hI ht))
set_option maxHeartbeats 4000000 in
set_option maxRecDepth 100000 in
theorem lc_digest (hX : jj_Cx X D cL_law RL 9 (some .boolean) nm rm tb) (hSt : jj_St X D) {S : Nat} {xs : Nat → Int32} (hxs : jj_XS X D S xs) (hly : ly K P) (hk161 : K 161 = some (11, 1)) (hKn0 : ∀ a, 162 ≤ a → K a = none) {t : Nat} (hI : li t I) (ht : t + 1 ≤ 512) {i : Nat} (hi : i + 7 ≤ S ∧ S ≤ 3584) (hn : 162 ≤ n) (hrf : 10 ≤ rm.frames) (hrl : 200 ≤ rm.locals) (hrc : cs + 16 ≤ rm.cells) (hrs : sl + 564 ≤ rm.slots) (kk : ∀ n1 I1 G1, 162 ≤ n1 → li (t + 1) I1 → jj_J X D 9 (cs + 16) (sl + 564) Q n1 K I1 P G1 2009 (lw_L i) []) : jj_J X D 9 cs sl Q n K I P G 1995 (lw_L i) [] := by
  obtain ⟨H, M, B, N, hc, hm, hz⟩ := id hI
  have h1 := c_digest (jj_fl hX) (D := D) (n := n) (G := G) hly hc.1
  have h2 := m_digest (jj_fl hX) (D := D) (n := n) (G := G) hly hc.1 hc.2.1 hm hz
  generalize f_dg H M B N I = x at h1 h2
  refine jr_aload_n hX dL_law_1995 rfl ?_
  refine jr_ret (jr_runV hX hSt kM_L_192 h1 rfl rfl (ly_kI hly) ⟨_, _, rfl, by decide⟩ dL_law_1996 (jj_rb (by show 5 + 1 ≤ _; omega) (by show 8 + (_ + 11) + 114 ≤ _; omega)) ⟨by show cs + 0 ≤ _; omega, by show sl + 0 ≤ _; omega⟩ rfl) ?_
  refine jr_aload_n hX dL_law_1999 rfl ?_
  refine jr_ret (jr_runV hX hSt kM_L_196 h2 rfl rfl (ly_kMo hly) ⟨_, _, rfl, by decide⟩ dL_law_2000 (jj_rb (by show 4 + 1 ≤ _; omega) (by show 8 + (_ + 11) + 89 ≤ _; omega)) ⟨by show cs + 0 + 0 ≤ _; omega, by show sl + 0 + 0 ≤ _; omega⟩ rfl) ?_
  refine jr_lcmp hX dL_law_2003 ?_
  refine jr_if_eq (tgt := 2009) hX dL_law_2004 (by decide) (fun _ => ?_) (fun q => absurd (lw_cmp0 _) q)
  refine jr_widen (cs1 := cs + 16) (sl1 := sl + 564) (by show cs + 0 + 0 ≤ _; omega) (by show sl + 0 + 0 ≤ _; omega) ?_
  exact kk _ _ _ hn (li_th hI ht)
set_option maxHeartbeats 4000000 in
set_option maxRecDepth 100000 in
theorem lw_loop (hX : jj_Cx X D cL_law RL 9 (some .boolean) nm rm tb) (hSt : jj_St X D) {S : Nat} {xs : Nat → Int32} (hxs : jj_XS X D S xs) (hly : ly K P) (hk161 : K 161 = some (11, 1)) (hKn0 : ∀ a, 162 ≤ a → K a = none) (hS : S ≤ 3584) (hrf : 10 ≤ rm.frames) (hrl : 200 ≤ rm.locals) (hrc : cs + 8192 ≤ rm.cells) (hrs : sl + 288768 ≤ rm.slots)
    (hend : ∀ j, j ≤ 512 → ∀ n I G, jj_J X D 9 (cs + 16 * j) (sl + 564 * j) Q n K I P G 2015 (lw_L (7 * j)) []) : ∀ j, j ≤ 512 → ∀ n I G, 162 ≤ n → li j I → jj_J X D 9 (cs + 16 * j) (sl + 564 * j) Q n K I P G 23 (lw_L (7 * j)) [] := by
  refine jj_for 512 _ ?_ (fun j hj ih => ?_)
  · intro n I G hn hI
    refine jr_iload hX dL_law_23 rfl ?_
    refine jr_aload_n hX dL_law_25 rfl ?_
    refine jr_slen hX hxs dL_law_26 ?_
    refine jr_bipush (v := 7) hX dL_law_27 (by decide) ?_
    refine jr_isub hX dL_law_29 ?_
    refine jr_icmp_gt (tgt := 2015) hX dL_law_30 (by decide) (fun _ => hend 512 (Nat.le_refl _) n I G) (fun q => absurd ((lw_gt hS (by omega)).mpr (by omega)) q)
  · intro n I G hn hI
    refine jr_iload hX dL_law_23 rfl ?_
    refine jr_aload_n hX dL_law_25 rfl ?_
    refine jr_slen hX hxs dL_law_26 ?_
    refine jr_bipush (v := 7) hX dL_law_27 (by decide) ?_
    refine jr_isub hX dL_law_29 ?_
    refine jr_icmp_gt (tgt := 2015) hX dL_law_30 (by decide) (fun _ => hend j (by omega) n I G) (fun q => ?_)
    have hi : 7 * j + 7 ≤ S := Classical.not_not.mp (fun r => q ((lw_gt hS (by omega)).mpr r))
    have kk : ∀ n1 I1 G1, 162 ≤ n1 → li (j + 1) I1 → jj_J X D 9 (cs + 16 * j + 16) (sl + 564 * j + 564) Q n1 K I1 P G1 2009 (lw_L (7 * j)) [] := by
      intro n1 I1 G1 g1 g2
      refine jr_iinc (v := nI (7 * (j + 1))) hX dL_law_2009 rfl (show nI (7 * j) + nI 7 = nI (7 * (j + 1)) by rw [nI_add, Nat.mul_succ]) rfl ?_
      refine jr_goto (tgt := 23) hX dL_law_2012 (by decide) ?_
      have e := ih n1 I1 G1 g1 g2
      rw [show cs + 16 * (j + 1) = cs + 16 * j + 16 by omega, show sl + 564 * (j + 1) = sl + 564 * j + 564 by omega] at e
      exact e
    refine jr_aload_n hX dL_law_33 rfl ?_
    refine jr_iload hX dL_law_34 rfl ?_
    refine jr_sld hX hxs (show nI (7 * j) = nI (7 * j) from rfl) (by omega) dL_law_36 ?_
    refine jr_bipush (v := 31) hX dL_law_37 (by decide) ?_
    refine jr_iand hX dL_law_39 ?_
    obtain ⟨k, hk, ek⟩ := pk_andE (xs (7 * j)) (m := 31) 5 (by decide)
    rw [ek]
    have hk2 : k = 0 ∨ k = 1 ∨ k = 2 ∨ k = 3 ∨ k = 4 ∨ k = 5 ∨ k = 6 ∨ k = 7 ∨ k = 8 ∨ k = 9 ∨ k = 10 ∨ k = 11 ∨ k = 12 ∨ k = 13 ∨ k = 14 ∨ k = 15 ∨ k = 16 ∨ k = 17 ∨ k = 18 ∨ k = 19 ∨ k = 20 ∨ k = 21 ∨ k = 22 ∨ k = 23 ∨ k = 24 ∨ k = 25 ∨ k = 26 ∨ k = 27 ∨ k = 28 ∨ k = 29 ∨ k = 30 ∨ k = 31 := by omega
    rcases hk2 with rfl | rfl | rfl | rfl | rfl | rfl | rfl | rfl | rfl | rfl | rfl | rfl | rfl | rfl | rfl | rfl | rfl | rfl | rfl | rfl | rfl | rfl | rfl | rfl | rfl | rfl | rfl | rfl | rfl | rfl | rfl | rfl
    · refine jr_tabIn (tgt := 164) hX dL_law_40 (by decide) (by decide) rfl (by decide) ?_
      exact lc_setWarm hX hSt hxs hly hk161 hKn0 hI (by omega) ⟨hi, hS⟩ hn hrf hrl (by omega) (by omega) kk
    · refine jr_tabIn (tgt := 232) hX dL_law_40 (by decide) (by decide) rfl (by decide) ?_
      exact lc_addHarbour hX hSt hxs hly hk161 hKn0 hI (by omega) ⟨hi, hS⟩ hn hrf hrl (by omega) (by omega) kk
    · refine jr_tabIn (tgt := 300) hX dL_law_40 (by decide) (by decide) rfl (by decide) ?_
      exact lc_setPrice hX hSt hxs hly hk161 hKn0 hI (by omega) ⟨hi, hS⟩ hn hrf hrl (by omega) (by omega) kk
    · refine jr_tabIn (tgt := 380) hX dL_law_40 (by decide) (by decide) rfl (by decide) ?_
      exact lc_harbour hX hSt hxs hly hk161 hKn0 hI (by omega) ⟨hi, hS⟩ hn hrf hrl (by omega) (by omega) kk
    · refine jr_tabIn (tgt := 448) hX dL_law_40 (by decide) (by decide) rfl (by decide) ?_
      exact lc_leg hX hSt hxs hly hk161 hKn0 hI (by omega) ⟨hi, hS⟩ hn hrf hrl (by omega) (by omega) kk
    · refine jr_tabIn (tgt := 516) hX dL_law_40 (by decide) (by decide) rfl (by decide) ?_
      exact lc_addMerchant hX hSt hxs hly hk161 hKn0 hI (by omega) ⟨hi, hS⟩ hn hrf hrl (by omega) (by omega) kk
    · refine jr_tabIn (tgt := 572) hX dL_law_40 (by decide) (by decide) rfl (by decide) ?_
      exact lc_bring hX hSt hxs hly hk161 hKn0 hI (by omega) ⟨hi, hS⟩ hn hrf hrl (by omega) (by omega) kk
    · refine jr_tabIn (tgt := 664) hX dL_law_40 (by decide) (by decide) rfl (by decide) ?_
      exact lc_sell hX hSt hxs hly hk161 hKn0 hI (by omega) ⟨hi, hS⟩ hn hrf hrl (by omega) (by omega) kk
    · refine jr_tabIn (tgt := 756) hX dL_law_40 (by decide) (by decide) rfl (by decide) ?_
      exact lc_stock hX hSt hxs hly hk161 hKn0 hI (by omega) ⟨hi, hS⟩ hn hrf hrl (by omega) (by omega) kk
    · refine jr_tabIn (tgt := 836) hX dL_law_40 (by decide) (by decide) rfl (by decide) ?_
      exact lc_merchant hX hSt hxs hly hk161 hKn0 hI (by omega) ⟨hi, hS⟩ hn hrf hrl (by omega) (by omega) kk
    · refine jr_tabIn (tgt := 904) hX dL_law_40 (by decide) (by decide) rfl (by decide) ?_
      exact lc_build hX hSt hxs hly hk161 hKn0 hI (by omega) ⟨hi, hS⟩ hn hrf hrl (by omega) (by omega) kk
    · refine jr_tabIn (tgt := 984) hX dL_law_40 (by decide) (by decide) rfl (by decide) ?_
      exact lc_load hX hSt hxs hly hk161 hKn0 hI (by omega) ⟨hi, hS⟩ hn hrf hrl (by omega) (by omega) kk
    · refine jr_tabIn (tgt := 1064) hX dL_law_40 (by decide) (by decide) rfl (by decide) ?_
      exact lc_send hX hSt hxs hly hk161 hKn0 hI (by omega) ⟨hi, hS⟩ hn hrf hrl (by omega) (by omega) kk
    · refine jr_tabIn (tgt := 1132) hX dL_law_40 (by decide) (by decide) rfl (by decide) ?_
      exact lc_berth hX hSt hxs hly hk161 hKn0 hI (by omega) ⟨hi, hS⟩ hn hrf hrl (by omega) (by omega) kk
    · refine jr_tabIn (tgt := 1216) hX dL_law_40 (by decide) (by decide) rfl (by decide) ?_
      exact lc_mend hX hSt hxs hly hk161 hKn0 hI (by omega) ⟨hi, hS⟩ hn hrf hrl (by omega) (by omega) kk
    · refine jr_tabIn (tgt := 1272) hX dL_law_40 (by decide) (by decide) rfl (by decide) ?_
      exact lc_boat hX hSt hxs hly hk161 hKn0 hI (by omega) ⟨hi, hS⟩ hn hrf hrl (by omega) (by omega) kk
    · refine jr_tabIn (tgt := 1340) hX dL_law_40 (by decide) (by decide) rfl (by decide) ?_
      exact lc_lend hX hSt hxs hly hk161 hKn0 hI (by omega) ⟨hi, hS⟩ hn hrf hrl (by omega) (by omega) kk
    · refine jr_tabIn (tgt := 1458) hX dL_law_40 (by decide) (by decide) rfl (by decide) ?_
      exact lc_repay hX hSt hxs hly hk161 hKn0 hI (by omega) ⟨hi, hS⟩ hn hrf hrl (by omega) (by omega) kk
    · refine jr_tabIn (tgt := 1526) hX dL_law_40 (by decide) (by decide) rfl (by decide) ?_
      exact lc_debt hX hSt hxs hly hk161 hKn0 hI (by omega) ⟨hi, hS⟩ hn hrf hrl (by omega) (by omega) kk
    · refine jr_tabIn (tgt := 1594) hX dL_law_40 (by decide) (by decide) rfl (by decide) ?_
      exact lc_pass hX hSt hxs hly hk161 hKn0 hI (by omega) ⟨hi, hS⟩ hn hrf hrl (by omega) (by omega) kk
    · refine jr_tabIn (tgt := 1650) hX dL_law_40 (by decide) (by decide) rfl (by decide) ?_
      exact lc_count hX hSt hxs hly hk161 hKn0 hI (by omega) ⟨hi, hS⟩ hn hrf hrl (by omega) (by omega) kk
    · refine jr_tabIn (tgt := 1706) hX dL_law_40 (by decide) (by decide) rfl (by decide) ?_
      exact lc_opens hX hSt hxs hly hk161 hKn0 hI (by omega) ⟨hi, hS⟩ hn hrf hrl (by omega) (by omega) kk
    · refine jr_tabIn (tgt := 1762) hX dL_law_40 (by decide) (by decide) rfl (by decide) ?_
      exact lc_arrives hX hSt hxs hly hk161 hKn0 hI (by omega) ⟨hi, hS⟩ hn hrf hrl (by omega) (by omega) kk
    · refine jr_tabIn (tgt := 1818) hX dL_law_40 (by decide) (by decide) rfl (by decide) ?_
      exact lc_latest hX hSt hxs hly hk161 hKn0 hI (by omega) ⟨hi, hS⟩ hn hrf hrl (by omega) (by omega) kk
    · refine jr_tabIn (tgt := 1886) hX dL_law_40 (by decide) (by decide) rfl (by decide) ?_
      exact lc_advise hX hSt hxs hly hk161 hKn0 hI (by omega) ⟨hi, hS⟩ hn hrf hrl (by omega) (by omega) kk
    · refine jr_tabIn (tgt := 1954) hX dL_law_40 (by decide) (by decide) rfl (by decide) ?_
      exact lc_mean hX hSt hxs hly hk161 hKn0 hI (by omega) ⟨hi, hS⟩ hn hrf hrl (by omega) (by omega) kk
    · refine jr_tabIn (tgt := 1995) hX dL_law_40 (by decide) (by decide) rfl (by decide) ?_
      exact lc_digest hX hSt hxs hly hk161 hKn0 hI (by omega) ⟨hi, hS⟩ hn hrf hrl (by omega) (by omega) kk
    · refine jr_tabOut (tgt := 2009) hX dL_law_40 (by decide) (by decide) ?_
      refine jr_widen (cs1 := cs + 16 * j + 16) (sl1 := sl + 564 * j + 564) (by omega) (by omega) ?_
      exact kk _ _ _ hn (li_S hI (by omega))
    · refine jr_tabOut (tgt := 2009) hX dL_law_40 (by decide) (by decide) ?_
      refine jr_widen (cs1 := cs + 16 * j + 16) (sl1 := sl + 564 * j + 564) (by omega) (by omega) ?_
      exact kk _ _ _ hn (li_S hI (by omega))
    · refine jr_tabOut (tgt := 2009) hX dL_law_40 (by decide) (by decide) ?_
      refine jr_widen (cs1 := cs + 16 * j + 16) (sl1 := sl + 564 * j + 564) (by omega) (by omega) ?_
      exact kk _ _ _ hn (li_S hI (by omega))
    · refine jr_tabOut (tgt := 2009) hX dL_law_40 (by decide) (by decide) ?_
      refine jr_widen (cs1 := cs + 16 * j + 16) (sl1 := sl + 564 * j + 564) (by omega) (by omega) ?_
      exact kk _ _ _ hn (li_S hI (by omega))
    · refine jr_tabOut (tgt := 2009) hX dL_law_40 (by decide) (by decide) ?_
      refine jr_widen (cs1 := cs + 16 * j + 16) (sl1 := sl + 564 * j + 564) (by omega) (by omega) ?_
      exact kk _ _ _ hn (li_S hI (by omega))
end LL
