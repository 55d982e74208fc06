/-! the law itself, piece by piece -/
set_option maxHeartbeats 4000000 in
set_option maxRecDepth 100000 in
theorem lw_acts {X : jj_X} {D : jj_D} {nm : String} {tb : List ExceptionTableEntry} {Q : State → Prop} (hX : jj_Cx X D cL_law RL 29 (some .boolean) nm { frames := 12, cells := 600074, slots := 7301550, locals := 458 } tb) (hSt : jj_St X D) {n cs sl : Nat} {K : jj_K} {I : jj_I} {P : jj_P} {G : jj_G} {A : Nat → Nat} {H M B N t time a0 : Nat} (ha : A 0 = a0) (hv : lv A H M B N n t K I P) (ht : t + 4 ≤ 512) (htm : time < 45) (hcs : cs + 100 ≤ 600074) (hsl : sl + 200 ≤ 7301550) (kk : ∀ (x : Int32), ∀ (A : Nat → Nat) (N n1 : Nat) (K1 : jj_K) (P1 : jj_P) (J : jj_I), A 0 = a0 → lv A H M B N n1 (t + 4) K1 J P1 → jj_J X D 29 (cs + 4) (sl + 76) Q n1 K1 J P1 G 113 [some (.ref (0)), some (.ref (1)), some (.ref (a0)), some (.int (nI H)), some (.int (nI B)), some (.int (nI M)), some (.int (nI time)), some (.int (x)), none, none, none, none, none, none, none, none, none, none, none, none, none, none, none, none, none, none, none, none, none] []) :
    jj_J X D 29 (cs) (sl) Q (n) (K) (I) (P) G 50 [some (.ref (0)), some (.ref (1)), some (.ref (a0)), some (.int (nI H)), some (.int (nI B)), some (.int (nI M)), some (.int (nI time)), none, none, none, none, none, none, none, none, none, none, none, none, none, none, none, none, none, none, none, none, none, none] [] := by
  refine jr_aload_n hX dL_law_50 rfl ?_
  refine jr_iload hX dL_law_51 rfl ?_
  refine jr_bipush (v := 16) hX dL_law_53 (by decide) ?_
  refine jr_irem hX dL_law_55 (by decide) ?_
  rw [show (16 : Int32) = nI 16 from rfl, pk_rem (by omega) (by decide) (by decide)]
  refine jr_relM (jr_runS hX hSt kM_L_12 (l_cell (jj_fl hX) (k := time % 16) rfl (by omega)) rfl rfl dL_law_56 rfl ⟨by simp only [jj_N]; omega, by simp only [jj_N]; omega⟩ rfl) ?_
  rintro r_ n_ K_ I_ P_ G_ ⟨⟨v_, rfl⟩, rfl, rfl, rfl, rfl, rfl⟩
  simp only [Option.toList, List.nil_append, List.singleton_append, List.cons_append]
  refine jr_iload hX dL_law_59 rfl ?_
  refine jr_bipush (v := 16) hX dL_law_61 (by decide) ?_
  refine jr_idiv hX dL_law_63 (by decide) ?_
  refine jr_iconst (v := 3) hX dL_law_64 (by decide) ?_
  refine jr_imul hX dL_law_65 ?_
  refine jr_ishr hX dL_law_66 ?_
  refine jr_sipush (v := 131) hX dL_law_67 (by decide) ?_
  refine jr_iload hX dL_law_70 rfl ?_
  refine jr_imul hX dL_law_72 ?_
  refine jr_iadd hX dL_law_73 ?_
  generalize v_ >>> (nI time / 16 * 3 &&& 31) + 131 * nI time = x
  refine jr_istore hX dL_law_74 rfl ?_
  refine jr_iconst (v := 0) hX dL_law_76 (by decide) ?_
  refine jr_istore hX dL_law_77 rfl ?_
  have h1 : ∀ k, k ≤ 2 → ∀ (A : Nat → Nat) (N n1 : Nat) (K1 : jj_K) (P1 : jj_P) (J : jj_I), A 0 = a0 → lv A H M B N n1 (t + 2 * k) K1 J P1 → jj_J X D 29 (cs + 2 * k) (sl + 38 * k) Q (n1) (K1) (J) (P1) (G) 79 [some (.ref (0)), some (.ref (1)), some (.ref (a0)), some (.int (nI H)), some (.int (nI B)), some (.int (nI M)), some (.int (nI time)), some (.int (x)), some (.int (nI k)), none, none, none, none, none, none, none, none, none, none, none, none, none, none, none, none, none, none, none, none] [] := by
    refine jj_for (2) _ ?_ (fun k hk ih => ?_)
    · intro A N n1 K1 P1 J ha hv
      refine jr_iload hX dL_law_79 rfl ?_
      refine jr_iconst (v := 2) hX dL_law_81 (by decide) ?_
      refine jr_icmp_ge (tgt := 113) hX dL_law_82 (by decide) (fun c_82 => ?_) (fun c_82 => absurd (by decide) c_82)
      exact jr_forget (fun _ _ h => h) (fun i v h => by rcases i with _ | _ | _ | _ | _ | _ | _ | _ | _ | _ | _ | _ | _ | _ | _ | _ | _ | _ | _ | _ | _ | _ | _ | _ | _ | _ | _ | _ | _ | i <;> first | exact h | exact absurd h (by simp)) (kk x A N n1 K1 P1 J ha hv)
    · intro A N n1 K1 P1 J ha hv
      refine jr_iload hX dL_law_79 rfl ?_
      refine jr_iconst (v := 2) hX dL_law_81 (by decide) ?_
      refine jr_icmp_ge (tgt := 113) hX dL_law_82 (by decide) (fun c_82 => absurd c_82 (show ¬ nI 2 ≤ nI k from nI_ge (by assumption) (by omega))) (fun c_82 => ?_)
      refine jr_aload_n hX dL_law_85 rfl ?_
      refine jr_aload_n hX dL_law_86 rfl ?_
      refine jr_iload hX dL_law_87 rfl ?_
      refine jr_iload hX dL_law_89 rfl ?_
      refine jr_ishr hX dL_law_91 ?_
      refine jr_sipush (v := 211) hX dL_law_92 (by decide) ?_
      refine jr_iload hX dL_law_95 rfl ?_
      refine jr_imul hX dL_law_97 ?_
      refine jr_iadd hX dL_law_98 ?_
      have hc := l_act (jj_fl hX) (D := D) (G := G) (x := x >>> (nI k &&& 31) + 211 * nI k) hv (by omega)
      rw [ha] at hc
      refine jr_relM (jr_runS hX hSt kM_L_153 (hc) rfl rfl dL_law_99 rfl ⟨by simp only [jj_N]; omega, by simp only [jj_N]; omega⟩ rfl) ?_
      rintro r1 n2 K2 I1 P2 G1 ⟨hG1, rfl, A1, N1, e1, h1v⟩
      obtain rfl : G = G1 := hG1.symm
      simp only [Option.toList, List.nil_append, List.singleton_append, List.cons_append]
      refine jr_if_ne (tgt := 107) hX dL_law_102 (by decide) (fun c_102 => ?_) (fun c_102 => absurd c_102 (by decide))
      refine jr_iinc hX dL_law_107 rfl (by first | with_reducible exact jj_inc _ | with_reducible exact jj_inc1 _) rfl ?_
      refine jr_goto (tgt := 79) hX dL_law_110 (by decide) ?_
      exact jr_forget (fun _ _ h => h) (fun i v h => by rcases i with _ | _ | _ | _ | _ | _ | _ | _ | _ | _ | _ | _ | _ | _ | _ | _ | _ | _ | _ | _ | _ | _ | _ | _ | _ | _ | _ | _ | _ | i <;> first | exact h | exact absurd h (by simp)) (ih A1 N1 n2 K2 P2 I1 e1 h1v)
  exact h1 0 (Nat.zero_le _) A N n K P I ha hv
set_option maxHeartbeats 4000000 in
set_option maxRecDepth 100000 in
theorem lw_was {X : jj_X} {D : jj_D} {nm : String} {tb : List ExceptionTableEntry} {Q : State → Prop} (hX : jj_Cx X D cL_law RL 29 (some .boolean) nm { frames := 12, cells := 600074, slots := 7301550, locals := 458 } tb) (hSt : jj_St X D) {n cs sl : Nat} {K : jj_K} {I : jj_I} {P : jj_P} {G : jj_G} {A : Nat → Nat} {H M B N t time a0 : Nat} {x : Int32} (hv : lv A H M B N n t K I P) (hcs : cs + 100 ≤ 600074) (hsl : sl + 200 ≤ 7301550) (kk : ∀ J : jj_I, (∀ a, a < n → J a = I a) → (∀ j, j < B → ∀ w, w < 12 → J (n + 1 + j) w = q_bf j I w) → jj_J X D 29 (cs + 1 + B) (sl + B + B * 12) Q (n + 1 + B) (mnK K n B 12) J (mnP P n B) G 171 [some (.ref (0)), some (.ref (1)), some (.ref (a0)), some (.int (nI H)), some (.int (nI B)), some (.int (nI M)), some (.int (nI time)), some (.int (x)), some (.ref (n)), none, none, none, none, none, none, none, none, none, none, none, none, none, none, none, none, none, none, none, none] []) :
    jj_J X D 29 (cs) (sl) Q (n) (K) (I) (P) G 113 [some (.ref (0)), some (.ref (1)), some (.ref (a0)), some (.int (nI H)), some (.int (nI B)), some (.int (nI M)), some (.int (nI time)), some (.int (x)), none, none, none, none, none, none, none, none, none, none, none, none, none, none, none, none, none, none, none, none, none] [] := by
  obtain ⟨hly, hsy, hms, htc, hdz, hH, hM, hB1, hB9, how⟩ := id hv
  have g0 := sy_lt hsy (t := 0) sv_0
  refine jr_iload hX dL_law_113 rfl ?_
  refine jr_bipush (v := 12) hX dL_law_115 (by decide) ?_
  refine jr_mna hX hSt kC_L_157 kA_int rfl (show _ = nI 12 from rfl) (by omega) dL_law_117 ⟨by dsimp only; omega, by dsimp only; omega⟩ ?_
  have kN : mnK K n B 12 n = some (15, B) := if_pos rfl
  have kR : ∀ k, k < B → mnK K n B 12 (n + 1 + k) = some (10, 12) := fun k hk => by unfold mnK; rw [if_neg (by omega), if_pos (by omega)]
  have pN : ∀ k, k < B → mnP P n B n k = some (n + 1 + k) := fun k hk => by unfold mnP; rw [if_pos rfl, if_pos hk]
  have hly : ly (mnK K n B 12) (mnP P n B) := ly_up hly (fun a ha => by unfold mnK; rw [if_neg (by omega), if_neg (by omega)]) (fun a ha => by unfold mnP; rw [if_neg (by omega)])
  refine jr_astore hX dL_law_121 rfl ?_
  refine jr_iconst (v := 0) hX dL_law_123 (by decide) ?_
  refine jr_istore hX dL_law_124 rfl ?_
  have w1 : ∀ k, k ≤ B → ∀ J : jj_I, (∀ a, a < n → J a = I a) → (∀ j, j < k → ∀ w, w < 12 → J (n + 1 + j) w = q_bf j I w) → jj_J X D 29 (cs + 1 + B) (sl + B + B * 12) Q (n + 1 + B) (mnK K n B 12) (J) (mnP P n B) (G) 126 [some (.ref (0)), some (.ref (1)), some (.ref (a0)), some (.int (nI H)), some (.int (nI B)), some (.int (nI M)), some (.int (nI time)), some (.int (x)), some (.ref (n)), some (.int (nI k)), none, none, none, none, none, none, none, none, none, none, none, none, none, none, none, none, none, none, none] [] := by
    refine jj_for (B) _ ?_ (fun k hk ih => ?_)
    · intro J f1 f2
      refine jr_iload hX dL_law_126 rfl ?_
      refine jr_iload hX dL_law_128 rfl ?_
      refine jr_icmp_ge (tgt := 171) hX dL_law_130 (by decide) (fun c_130 => ?_) (fun c_130 => absurd (nI_le (Nat.le_refl _) (by omega)) c_130)
      exact jr_forget (fun _ _ h => h) (fun i v h => by rcases i with _ | _ | _ | _ | _ | _ | _ | _ | _ | _ | _ | _ | _ | _ | _ | _ | _ | _ | _ | _ | _ | _ | _ | _ | _ | _ | _ | _ | _ | i <;> first | exact h | exact absurd h (by simp)) (kk J f1 f2)
    · intro J f1 f2
      refine jr_iload hX dL_law_126 rfl ?_
      refine jr_iload hX dL_law_128 rfl ?_
      refine jr_icmp_ge (tgt := 171) hX dL_law_130 (by decide) (fun c_130 => absurd c_130 (nI_ge (by assumption) (by omega))) (fun c_130 => ?_)
      refine jr_iconst (v := 0) hX dL_law_133 (by decide) ?_
      refine jr_istore hX dL_law_134 rfl ?_
      have w2 : ∀ w, w ≤ 12 → ∀ J : jj_I, (∀ a, a < n → J a = I a) → (∀ j, j < k → ∀ w, w < 12 → J (n + 1 + j) w = q_bf j I w) → (∀ v, v < w → J (n + 1 + k) v = q_bf k I v) → jj_J X D 29 (cs + 1 + B) (sl + B + B * 12) Q (n + 1 + B) (mnK K n B 12) (J) (mnP P n B) (G) 136 [some (.ref (0)), some (.ref (1)), some (.ref (a0)), some (.int (nI H)), some (.int (nI B)), some (.int (nI M)), some (.int (nI time)), some (.int (x)), some (.ref (n)), some (.int (nI k)), some (.int (nI w)), none, none, none, none, none, none, none, none, none, none, none, none, none, none, none, none, none, none] [] := by
        refine jj_for (12) _ ?_ (fun w hw ih => ?_)
        · intro J f1 f2 f3
          refine jr_iload hX dL_law_136 rfl ?_
          refine jr_bipush (v := 12) hX dL_law_138 (by decide) ?_
          refine jr_icmp_ge (tgt := 165) hX dL_law_140 (by decide) (fun c_140 => ?_) (fun c_140 => absurd (by decide) c_140)
          refine jr_iinc hX dL_law_165 rfl (by first | with_reducible exact jj_inc _ | with_reducible exact jj_inc1 _) rfl ?_
          refine jr_goto (tgt := 126) hX dL_law_168 (by decide) ?_
          exact jr_forget (fun _ _ h => h) (fun i v h => by rcases i with _ | _ | _ | _ | _ | _ | _ | _ | _ | _ | _ | _ | _ | _ | _ | _ | _ | _ | _ | _ | _ | _ | _ | _ | _ | _ | _ | _ | _ | i <;> first | exact h | exact absurd h (by simp)) (ih J f1 (fun j hj w hw => by
              by_cases e : j = k
              · subst e; exact f3 w hw
              · exact f2 j (by omega) w hw))
        · intro J f1 f2 f3
          refine jr_iload hX dL_law_136 rfl ?_
          refine jr_bipush (v := 12) hX dL_law_138 (by decide) ?_
          refine jr_icmp_ge (tgt := 165) hX dL_law_140 (by decide) (fun c_140 => absurd c_140 (show ¬ nI 12 ≤ nI w from nI_ge (by assumption) (by omega))) (fun c_140 => ?_)
          refine jr_aload hX dL_law_143 rfl ?_
          refine jr_iload hX dL_law_145 rfl ?_
          refine jr_aald (t := 15) hX (by decide) kN rfl (by omega) (pN k (by omega)) dL_law_147 ?_
          refine jr_iload hX dL_law_148 rfl ?_
          refine jr_aload_n hX dL_law_150 rfl ?_
          refine jr_iload hX dL_law_151 rfl ?_
          refine jr_iload hX dL_law_153 rfl ?_
          refine jr_ret (jr_runV hX hSt kM_L_158 (c_boat_ok (jj_fl hX) hly (eqA_sf (fun a ha => f1 a (by omega)) htc.1) (by assumption) (by assumption)) rfl rfl (ly_kI hly) ⟨_, _, rfl, by decide⟩ dL_law_155 rfl ⟨by simp only [jj_N]; omega, by simp only [jj_N]; omega⟩ rfl) ?_
          rw [bf_e (fun a ha => f1 a (by omega)) (by omega)]
          refine jr_iast hX (kR k (by omega)) (by omega) rfl (by omega) dL_law_158 ?_
          refine jr_iinc hX dL_law_159 rfl (by first | with_reducible exact jj_inc _ | with_reducible exact jj_inc1 _) rfl ?_
          refine jr_goto (tgt := 136) hX dL_law_162 (by decide) ?_
          exact jr_forget (fun _ _ h => h) (fun i v h => by rcases i with _ | _ | _ | _ | _ | _ | _ | _ | _ | _ | _ | _ | _ | _ | _ | _ | _ | _ | _ | _ | _ | _ | _ | _ | _ | _ | _ | _ | _ | i <;> first | exact h | exact absurd h (by simp)) (ih _ (fun a ha => (jj_u_ne (by omega)).trans (f1 a ha)) (fun j hj v hv => by rw [jj_u_ne (by omega)]; exact f2 j hj v hv) (fun v hv => by
              by_cases e : v = w
              · subst e; rw [jj_u_eq]
              · rw [jj_u_nk e]; exact f3 v (by omega)))
      exact w2 0 (Nat.zero_le _) J f1 f2 (fun v hv => absurd hv (Nat.not_lt_zero _))
  exact w1 0 (Nat.zero_le _) _ (fun a ha => by unfold mnI; rw [if_neg (by omega)]) (fun j hj => absurd hj (Nat.not_lt_zero _))
set_option maxHeartbeats 4000000 in
set_option maxRecDepth 100000 in
theorem lw_look {X : jj_X} {D : jj_D} {nm : String} {tb : List ExceptionTableEntry} {Q : State → Prop} (hX : jj_Cx X D cL_law RL 29 (some .boolean) nm { frames := 12, cells := 600074, slots := 7301550, locals := 458 } tb) (hSt : jj_St X D) {n cs sl : Nat} {K : jj_K} {I : jj_I} {P : jj_P} {G : jj_G} {A : Nat → Nat} {H M B N t time a0 q d : Nat} {x : Int32} (hv : lv A H M B N n t K I P) (hd : I (aR 0) 0 = nI d) (hd2 : d < 2000000000) (hcs : cs + 100 ≤ 600074) (hsl : sl + 200 ≤ 7301550) (kk : ∀ (who : Nat) (J : jj_I), who < B → (∀ a, a < n → offT a → J a = I a) → J n who = f_fs (g_ar H M B N who d I) 201 0 → (∀ j, j < H - 1 → J (n + 1) j = f_fs (g_op j d I) 121 0 ∧ J (n + 1 + 1) j = I (aIc 0) j) → jj_J X D 29 (cs + 1 + 1 + 1) (sl + B + H + H) Q (n + 1 + 1 + 1) (jj_uK (jj_uK (jj_uK K n (10, B)) (n + 1) (10, H)) (n + 1 + 1) (10, H)) J P G 247 [some (.ref (0)), some (.ref (1)), some (.ref (a0)), some (.int (nI H)), some (.int (nI B)), some (.int (nI M)), some (.int (nI time)), some (.int (x)), some (.ref (q)), some (.ref (n)), some (.int (nI who)), some (.ref (n + 1)), some (.ref (n + 1 + 1)), none, none, none, none, none, none, none, none, none, none, none, none, none, none, none, none] []) :
    jj_J X D 29 (cs) (sl) Q (n) (K) (I) (P) G 171 [some (.ref (0)), some (.ref (1)), some (.ref (a0)), some (.int (nI H)), some (.int (nI B)), some (.int (nI M)), some (.int (nI time)), some (.int (x)), some (.ref (q)), none, none, none, none, none, none, none, none, none, none, none, none, none, none, none, none, none, none, none, none] [] := by
  obtain ⟨hly, hsy, hms, htc, hdz, hH, hM, hB1, hB9, how⟩ := id hv
  have g0 := sy_lt hsy (t := 0) sv_0
  refine jr_iload hX dL_law_171 rfl ?_
  refine jr_newI hX kA_int rfl (by omega) dL_law_173 ⟨by dsimp only; omega, by dsimp only; omega⟩ ?_
  have hly : ly (jj_uK (K) (n) (10, B)) P := ly_up hly (fun a ha => by unfold jj_uK; rw [if_neg (by omega)]) (fun a ha => rfl)
  refine jr_astore hX dL_law_175 rfl ?_
  refine jr_iload hX dL_law_177 rfl ?_
  refine jr_iload hX dL_law_179 rfl ?_
  refine jr_ret (jr_runS hX hSt kM_L_18 (l_below (jj_fl hX) (m := B) rfl ⟨by omega, by omega⟩) rfl rfl dL_law_181 rfl ⟨by simp only [jj_N]; omega, by simp only [jj_N]; omega⟩ rfl) ?_
  have hw := bw_lt (v := x) (m := B) (by omega)
  generalize bw x B = who at hw
  refine jr_istore hX dL_law_184 rfl ?_
  refine jr_aload hX dL_law_186 rfl ?_
  refine jr_iload hX dL_law_188 rfl ?_
  refine jr_aload_n hX dL_law_190 rfl ?_
  refine jr_iload hX dL_law_191 rfl ?_
  refine jr_rel (jr_runV hX hSt kM_L_161 (c_arrives_ok (jj_fl hX) hly (eqA_sf (fun a ha => jj_uR_ne (by omega)) htc.1) (by rw [jj_uR_ne (by simp only [aR]; omega)]; exact hd) hd2 hw) rfl rfl (ly_kI hly) ⟨_, _, rfl, by decide⟩ dL_law_193 rfl ⟨by simp only [jj_N]; omega, by simp only [jj_N]; omega⟩ rfl) ?_
  rintro r1 J1 ⟨rfl, o1⟩
  simp only [Option.toList, List.nil_append, List.singleton_append, List.cons_append]
  rw [ga_T (C := I) (fun a ha => jj_uR_ne (by omega)) (eqA_sf (fun a ha => jj_uR_ne (by omega)) htc.1) htc.1 htc.2.1 hw]
  refine jr_iast hX (by unfold jj_uK; rw [if_pos rfl]) (by omega) rfl (by omega) dL_law_196 ?_
  refine jr_iload_n hX dL_law_197 rfl ?_
  refine jr_newI hX kA_int rfl (by omega) dL_law_198 ⟨by dsimp only; omega, by dsimp only; omega⟩ ?_
  have hly : ly (jj_uK (jj_uK K n (10, B)) (n + 1) (10, H)) P := ly_up hly (fun a ha => by unfold jj_uK; rw [if_neg (by omega)]) (fun a ha => rfl)
  refine jr_astore hX dL_law_200 rfl ?_
  refine jr_iload_n hX dL_law_202 rfl ?_
  refine jr_newI hX kA_int rfl (by omega) dL_law_203 ⟨by dsimp only; omega, by dsimp only; omega⟩ ?_
  have hly : ly (jj_uK (jj_uK (jj_uK K n (10, B)) (n + 1) (10, H)) (n + 1 + 1) (10, H)) P := ly_up hly (fun a ha => by unfold jj_uK; rw [if_neg (by omega)]) (fun a ha => rfl)
  have o2 : ∀ a, a < n → offT a → jj_uR (jj_uR (jj_u J1 n who (f_fs (g_ar H M B N who d I) 201 0)) (n + 1) (fun _ => 0)) (n + 1 + 1) (fun _ => 0) a = I a := fun a h1 h2 => by rw [jj_uR_ne (by omega), jj_uR_ne (by omega), jj_u_ne (by omega), o1 a h2, jj_uR_ne (by omega)]
  have o3 : jj_uR (jj_uR (jj_u J1 n who (f_fs (g_ar H M B N who d I) 201 0)) (n + 1) (fun _ => 0)) (n + 1 + 1) (fun _ => 0) n who = f_fs (g_ar H M B N who d I) 201 0 := by rw [jj_uR_ne (by omega), jj_uR_ne (by omega), jj_u_eq]
  generalize jj_uR (jj_uR (jj_u J1 n who (f_fs (g_ar H M B N who d I) 201 0)) (n + 1) (fun _ => 0)) (n + 1 + 1) (fun _ => 0) = J2 at o2 o3
  refine jr_astore hX dL_law_205 rfl ?_
  refine jr_iconst (v := 0) hX dL_law_207 (by decide) ?_
  refine jr_istore hX dL_law_208 rfl ?_
  have o1l : ∀ k, k ≤ H - 1 → ∀ J : jj_I, (∀ a, a < n → offT a → J a = I a) → J n who = f_fs (g_ar H M B N who d I) 201 0 → (∀ j, j < k → J (n + 1) j = f_fs (g_op j d I) 121 0 ∧ J (n + 1 + 1) j = I (aIc 0) j) → jj_J X D 29 (cs + 1 + 1 + 1) (sl + B + H + H) Q (n + 1 + 1 + 1) (jj_uK (jj_uK (jj_uK K n (10, B)) (n + 1) (10, H)) (n + 1 + 1) (10, H)) (J) (P) (G) 210 [some (.ref (0)), some (.ref (1)), some (.ref (a0)), some (.int (nI H)), some (.int (nI B)), some (.int (nI M)), some (.int (nI time)), some (.int (x)), some (.ref (q)), some (.ref (n)), some (.int (nI who)), some (.ref (n + 1)), some (.ref (n + 1 + 1)), some (.int (nI k)), none, none, none, none, none, none, none, none, none, none, none, none, none, none, none] [] := by
    refine jj_for (H - 1) _ ?_ (fun k hk ih => ?_)
    · intro J f1 f2 f3
      have eT : eqT J I := fun a ha => f1 a (by omega) (Or.inl ha)
      have sfJ := (tc_e htc eT).1
      refine jr_iload hX dL_law_210 rfl ?_
      refine jr_iload_n hX dL_law_212 rfl ?_
      refine jr_iconst (v := 1) hX dL_law_213 (by decide) ?_
      refine jr_isub hX dL_law_214 ?_
      refine jr_icmp_ge (tgt := 247) hX dL_law_215 (by decide) (fun c_215 => ?_) (fun c_215 => absurd (by rw [jm_sub1 hH.1]; exact nI_le (Nat.le_refl _) (by omega)) c_215)
      exact jr_forget (fun _ _ h => h) (fun i v h => by rcases i with _ | _ | _ | _ | _ | _ | _ | _ | _ | _ | _ | _ | _ | _ | _ | _ | _ | _ | _ | _ | _ | _ | _ | _ | _ | _ | _ | _ | _ | i <;> first | exact h | exact absurd h (by simp)) (kk who J hw f1 f2 f3)
    · intro J f1 f2 f3
      have eT : eqT J I := fun a ha => f1 a (by omega) (Or.inl ha)
      have sfJ := (tc_e htc eT).1
      refine jr_iload hX dL_law_210 rfl ?_
      refine jr_iload_n hX dL_law_212 rfl ?_
      refine jr_iconst (v := 1) hX dL_law_213 (by decide) ?_
      refine jr_isub hX dL_law_214 ?_
      refine jr_icmp_ge (tgt := 247) hX dL_law_215 (by decide) (fun c_215 => absurd c_215 (by rw [jm_sub1 hH.1]; exact nI_ge (by omega) (by omega))) (fun c_215 => ?_)
      refine jr_aload hX dL_law_218 rfl ?_
      refine jr_iload hX dL_law_220 rfl ?_
      refine jr_aload_n hX dL_law_222 rfl ?_
      refine jr_iload hX dL_law_223 rfl ?_
      refine jr_ret (jr_runV hX hSt kM_L_164 (c_opens_ok (jj_fl hX) hly sfJ (by rw [eT _ (by simp only [aR]; omega)]; exact hd) hd2 (by assumption)) rfl rfl (ly_kI hly) ⟨_, _, rfl, by decide⟩ dL_law_225 rfl ⟨by simp only [jj_N]; omega, by simp only [jj_N]; omega⟩ rfl) ?_
      rw [gop_T eT]
      refine jr_iast hX (by unfold jj_uK; rw [if_neg (by omega), if_pos rfl]) (by omega) rfl (by omega) dL_law_228 ?_
      refine jr_aload hX dL_law_229 rfl ?_
      refine jr_iload hX dL_law_231 rfl ?_
      refine jr_aload_n hX dL_law_233 rfl ?_
      refine jr_iload hX dL_law_234 rfl ?_
      refine jr_iconst (v := 1) hX dL_law_236 (by decide) ?_
      refine jr_ret (jr_runV hX hSt kM_L_167 (c_leg_ok (jj_fl hX) hly (eqA_sf (J := jj_u J (n + 1) k (f_fs (g_op k d I) 121 0)) (I := J) (fun a ha => jj_u_ne (by omega)) sfJ) (h := k) (t := 1) (by assumption) (by decide)) rfl rfl (ly_kI hly) ⟨_, _, rfl, by decide⟩ dL_law_237 rfl ⟨by simp only [jj_N]; omega, by simp only [jj_N]; omega⟩ rfl) ?_
      rw [show q_lf k B (jj_u J (n + 1) k (f_fs (g_op k d I) 121 0)) 1 = I (aIc 0) k from by
          show jj_u J (n + 1) k (f_fs (g_op k d I) 121 0) (aIc 0) k = _
          rw [jj_u_ne (by simp only [aIc]; omega), eT _ (by simp only [aIc]; omega)]]
      refine jr_iast hX (by unfold jj_uK; rw [if_pos rfl]) (by omega) rfl (by omega) dL_law_240 ?_
      refine jr_iinc hX dL_law_241 rfl (by first | with_reducible exact jj_inc _ | with_reducible exact jj_inc1 _) rfl ?_
      refine jr_goto (tgt := 210) hX dL_law_244 (by decide) ?_
      exact jr_forget (fun _ _ h => h) (fun i v h => by rcases i with _ | _ | _ | _ | _ | _ | _ | _ | _ | _ | _ | _ | _ | _ | _ | _ | _ | _ | _ | _ | _ | _ | _ | _ | _ | _ | _ | _ | _ | i <;> first | exact h | exact absurd h (by simp)) (ih _ (fun a h1 h2 => by rw [jj_u_ne (by omega), jj_u_ne (by omega)]; exact f1 a h1 h2) (by rw [jj_u_ne (by omega), jj_u_ne (by omega)]; exact f2) (fun j hj => by
          by_cases e : j = k
          · subst e
            rw [jj_u_ne (b := n + 1) (by omega), jj_u_eq, jj_u_eq]
            exact ⟨rfl, rfl⟩
          · rw [jj_u_ne (b := n + 1) (by omega), jj_u_nk e, jj_u_nk e, jj_u_ne (b := n + 1 + 1) (by omega)]
            exact f3 j (by omega)))
  exact o1l 0 (Nat.zero_le _) J2 o2 o3 (fun j hj => absurd hj (Nat.not_lt_zero _))
set_option maxHeartbeats 4000000 in
set_option maxRecDepth 100000 in
theorem lw_sums {X : jj_X} {D : jj_D} {nm : String} {tb : List ExceptionTableEntry} {Q : State → Prop} (hX : jj_Cx X D cL_law RL 29 (some .boolean) nm { frames := 12, cells := 600074, slots := 7301550, locals := 458 } tb) (hSt : jj_St X D) {n cs sl : Nat} {K : jj_K} {I : jj_I} {P : jj_P} {G : jj_G} {A : Nat → Nat} {H M B N t time q d who nA nO nC : Nat} {x : Int32} (hv : lv A H M B N n t K I P) (hd : I (aR 0) 0 = nI d) (hd2 : d < 2000000000) (kQ : K q = some (15, B)) (pQ : ∀ j, j < B → P q j = some (q + 1 + j)) (kR : ∀ j, j < B → K (q + 1 + j) = some (10, 12)) (wQ : ∀ j, j < B → ∀ w, w < 12 → I (q + 1 + j) w = q_bf j I w) (hcs : cs + 100 ≤ 600074) (hsl : sl + 200 ≤ 7301550) (kk : jj_J X D 29 cs sl Q n K I P G 369 [some (.ref (0)), some (.ref (1)), some (.ref (A 0)), some (.int (nI H)), some (.int (nI B)), some (.int (nI M)), some (.int (nI time)), some (.int (x)), some (.ref (q)), some (.ref (nA)), some (.int (nI who)), some (.ref (nO)), some (.ref (nC)), some (.int (sm (g_go B N I) M)), some (.int (g_cs M I)), some (.int (nI N)), some (.int (sm (s_op I) N)), some (.int (nI d)), some (.int (I (aWm 0) (d % 40))), some (.int (sm (q_bi 0 1 I) B)), none, none, none, none, none, none, none, none, none] []) :
    jj_J X D 29 (cs) (sl) Q (n) (K) (I) (P) G 247 [some (.ref (0)), some (.ref (1)), some (.ref (A 0)), some (.int (nI H)), some (.int (nI B)), some (.int (nI M)), some (.int (nI time)), some (.int (x)), some (.ref (q)), some (.ref (nA)), some (.int (nI who)), some (.ref (nO)), some (.ref (nC)), none, none, none, none, none, none, none, none, none, none, none, none, none, none, none, none] [] := by
  obtain ⟨hly, hsy, hms, htc, hdz, hH, hM, hB1, hB9, how⟩ := id hv
  have g0 := sy_lt hsy (t := 0) sv_0
  refine jr_iconst (v := 0) hX dL_law_247 (by decide) ?_
  refine jr_istore hX dL_law_248 rfl ?_
  refine jr_iconst (v := 0) hX dL_law_250 (by decide) ?_
  refine jr_istore hX dL_law_251 rfl ?_
  have g1 : ∀ m, m ≤ M → jj_J X D 29 (cs) (sl) Q (n) (K) (I) (P) (G) 253 [some (.ref (0)), some (.ref (1)), some (.ref (A 0)), some (.int (nI H)), some (.int (nI B)), some (.int (nI M)), some (.int (nI time)), some (.int (x)), some (.ref (q)), some (.ref (nA)), some (.int (nI who)), some (.ref (nO)), some (.ref (nC)), some (.int (sm (g_go B N I) m)), some (.int (nI m)), none, none, none, none, none, none, none, none, none, none, none, none, none, none] [] := by
    refine jj_for (M) _ ?_ (fun m hm ih => ?_)
    · refine jr_iload hX dL_law_253 rfl ?_
      refine jr_iload hX dL_law_255 rfl ?_
      refine jr_icmp_ge (tgt := 286) hX dL_law_257 (by decide) (fun c_257 => ?_) (fun c_257 => absurd (nI_le (Nat.le_refl _) (by omega)) c_257)
      refine jr_aload_n hX dL_law_286 rfl ?_
      refine jr_bipush (v := 8) hX dL_law_287 (by decide) ?_
      refine jr_ret (jr_runV hX hSt kM_L_173 (c_count_ok (jj_fl hX) hly htc.1 (t := 8) (by decide)) rfl rfl (ly_kI hly) ⟨_, _, rfl, by decide⟩ dL_law_289 rfl ⟨by simp only [jj_N]; omega, by simp only [jj_N]; omega⟩ rfl) ?_
      rw [show q_cf H M B N I 8 = g_cs M I from rfl]
      refine jr_istore hX dL_law_292 rfl ?_
      refine jr_aload_n hX dL_law_294 rfl ?_
      refine jr_bipush (v := 6) hX dL_law_295 (by decide) ?_
      refine jr_ret (jr_runV hX hSt kM_L_173 (c_count_ok (jj_fl hX) hly htc.1 (t := 6) (by decide)) rfl rfl (ly_kI hly) ⟨_, _, rfl, by decide⟩ dL_law_297 rfl ⟨by simp only [jj_N]; omega, by simp only [jj_N]; omega⟩ rfl) ?_
      rw [s_cf_e htc, show s_cf H M B N I 6 = nI N from rfl]
      refine jr_istore hX dL_law_300 rfl ?_
      refine jr_aload_n hX dL_law_302 rfl ?_
      refine jr_bipush (v := 7) hX dL_law_303 (by decide) ?_
      refine jr_ret (jr_runV hX hSt kM_L_173 (c_count_ok (jj_fl hX) hly htc.1 (t := 7) (by decide)) rfl rfl (ly_kI hly) ⟨_, _, rfl, by decide⟩ dL_law_305 rfl ⟨by simp only [jj_N]; omega, by simp only [jj_N]; omega⟩ rfl) ?_
      rw [s_cf_e htc, show s_cf H M B N I 7 = sm (s_op I) N from rfl]
      refine jr_istore hX dL_law_308 rfl ?_
      refine jr_aload_n hX dL_law_310 rfl ?_
      refine jr_iconst (v := 0) hX dL_law_311 (by decide) ?_
      refine jr_ret (jr_runV hX hSt kM_L_173 (c_count_ok (jj_fl hX) hly htc.1 (t := 0) (by decide)) rfl rfl (ly_kI hly) ⟨_, _, rfl, by decide⟩ dL_law_312 rfl ⟨by simp only [jj_N]; omega, by simp only [jj_N]; omega⟩ rfl) ?_
      rw [show q_cf H M B N I 0 = I (aR 0) 0 from rfl, hd]
      refine jr_istore hX dL_law_315 rfl ?_
      refine jr_aload_n hX dL_law_317 rfl ?_
      refine jr_getr hX kF_L_22 rfl (sy_k0 hsy) (sy_p0_0 hsy) dL_law_318 ?_
      refine jr_iload hX dL_law_321 rfl ?_
      refine jr_bipush (v := 40) hX dL_law_323 (by decide) ?_
      refine jr_irem hX dL_law_325 (by decide) ?_
      rw [show (40 : Int32) = nI 40 from rfl, pk_rem (by omega) (by decide) (by decide)]
      refine jr_iald hX (sy_k1 hsy) rfl (by omega) dL_law_326 ?_
      rw [hms.2.1 _ (Nat.mod_lt _ (by decide))]
      refine jr_istore hX dL_law_327 rfl ?_
      refine jr_iconst (v := 0) hX dL_law_329 (by decide) ?_
      refine jr_istore hX dL_law_330 rfl ?_
      refine jr_iconst (v := 0) hX dL_law_332 (by decide) ?_
      refine jr_istore hX dL_law_333 rfl ?_
      have g2 : ∀ k, k ≤ B → jj_J X D 29 (cs) (sl) Q (n) (K) (I) (P) (G) 335 [some (.ref (0)), some (.ref (1)), some (.ref (A 0)), some (.int (nI H)), some (.int (nI B)), some (.int (nI M)), some (.int (nI time)), some (.int (x)), some (.ref (q)), some (.ref (nA)), some (.int (nI who)), some (.ref (nO)), some (.ref (nC)), some (.int (sm (g_go B N I) M)), some (.int (g_cs M I)), some (.int (nI N)), some (.int (sm (s_op I) N)), some (.int (nI d)), some (.int (I (aWm 0) (d % 40))), some (.int (sm (q_bi 0 1 I) k)), some (.int (nI k)), none, none, none, none, none, none, none, none] [] := by
        refine jj_for (B) _ ?_ (fun k hk ih => ?_)
        · refine jr_iload hX dL_law_335 rfl ?_
          refine jr_iload hX dL_law_337 rfl ?_
          refine jr_icmp_ge (tgt := 369) hX dL_law_339 (by decide) (fun c_339 => ?_) (fun c_339 => absurd (nI_le (Nat.le_refl _) (by omega)) c_339)
          exact jr_forget (fun _ _ h => h) (fun i v h => by rcases i with _ | _ | _ | _ | _ | _ | _ | _ | _ | _ | _ | _ | _ | _ | _ | _ | _ | _ | _ | _ | _ | _ | _ | _ | _ | _ | _ | _ | _ | i <;> first | exact h | exact absurd h (by simp)) (kk)
        · refine jr_iload hX dL_law_335 rfl ?_
          refine jr_iload hX dL_law_337 rfl ?_
          refine jr_icmp_ge (tgt := 369) hX dL_law_339 (by decide) (fun c_339 => absurd c_339 (nI_ge (by assumption) (by omega))) (fun c_339 => ?_)
          refine jr_iload hX dL_law_342 rfl ?_
          refine jr_aload hX dL_law_344 rfl ?_
          refine jr_iload hX dL_law_346 rfl ?_
          refine jr_aald (t := 15) hX (by decide) kQ rfl (by omega) (pQ k (by omega)) dL_law_348 ?_
          refine jr_iconst (v := 3) hX dL_law_349 (by decide) ?_
          refine jr_iald hX (kR k (by omega)) (show _ = nI 3 from rfl) (by omega) dL_law_350 ?_
          rw [wQ k (by omega) 3 (by decide), show q_bf k I 3 = I (aB 0 k) 3 from rfl]
          refine jr_iconst (v := 1) hX dL_law_351 (by decide) ?_
          refine jr_icmp_ne (tgt := 359) hX dL_law_352 (by decide) (fun c_352 => ?_) (fun c_352 => ?_)
          · refine jr_iconst (v := 0) hX dL_law_359 (by decide) ?_
            refine jr_iadd hX dL_law_360 ?_
            refine jr_istore hX dL_law_361 rfl ?_
            refine jr_iinc hX dL_law_363 rfl (by first | with_reducible exact jj_inc _ | with_reducible exact jj_inc1 _) rfl ?_
            refine jr_goto (tgt := 335) hX dL_law_366 (by decide) ?_
            rw [sm_1 (show q_bi 0 1 I k = 0 from if_neg c_352)] at ih
            exact jr_forget (fun _ _ h => h) (fun i v h => by rcases i with _ | _ | _ | _ | _ | _ | _ | _ | _ | _ | _ | _ | _ | _ | _ | _ | _ | _ | _ | _ | _ | _ | _ | _ | _ | _ | _ | _ | _ | i <;> first | exact h | exact absurd h (by simp)) (ih)
          · refine jr_iconst (v := 1) hX dL_law_355 (by decide) ?_
            refine jr_goto (tgt := 360) hX dL_law_356 (by decide) ?_
            refine jr_iadd hX dL_law_360 ?_
            refine jr_istore hX dL_law_361 rfl ?_
            refine jr_iinc hX dL_law_363 rfl (by first | with_reducible exact jj_inc _ | with_reducible exact jj_inc1 _) rfl ?_
            refine jr_goto (tgt := 335) hX dL_law_366 (by decide) ?_
            rw [sm_1 (show q_bi 0 1 I k = 1 from if_pos c_352)] at ih
            exact jr_forget (fun _ _ h => h) (fun i v h => by rcases i with _ | _ | _ | _ | _ | _ | _ | _ | _ | _ | _ | _ | _ | _ | _ | _ | _ | _ | _ | _ | _ | _ | _ | _ | _ | _ | _ | _ | _ | i <;> first | exact h | exact absurd h (by simp)) (ih)
      exact g2 0 (Nat.zero_le _)
    · refine jr_iload hX dL_law_253 rfl ?_
      refine jr_iload hX dL_law_255 rfl ?_
      refine jr_icmp_ge (tgt := 286) hX dL_law_257 (by decide) (fun c_257 => absurd c_257 (nI_ge (by assumption) (by omega))) (fun c_257 => ?_)
      refine jr_iload hX dL_law_260 rfl ?_
      refine jr_aload_n hX dL_law_262 rfl ?_
      refine jr_iload hX dL_law_263 rfl ?_
      refine jr_iconst (v := 4) hX dL_law_265 (by decide) ?_
      refine jr_ret (jr_runV hX hSt kM_L_170 (c_merchant_ok (jj_fl hX) hly htc.1 (m := m) (t := 4) (by assumption) (by decide)) rfl rfl (ly_kI hly) ⟨_, _, rfl, by decide⟩ dL_law_266 rfl ⟨by simp only [jj_N]; omega, by simp only [jj_N]; omega⟩ rfl) ?_
      refine jr_aload_n hX dL_law_269 rfl ?_
      refine jr_iload hX dL_law_270 rfl ?_
      refine jr_iconst (v := 5) hX dL_law_272 (by decide) ?_
      refine jr_ret (jr_runV hX hSt kM_L_170 (c_merchant_ok (jj_fl hX) hly htc.1 (m := m) (t := 5) (by assumption) (by decide)) rfl rfl (ly_kI hly) ⟨_, _, rfl, by decide⟩ dL_law_273 rfl ⟨by simp only [jj_N]; omega, by simp only [jj_N]; omega⟩ rfl) ?_
      refine jr_iadd hX dL_law_276 ?_
      refine jr_iadd hX dL_law_277 ?_
      refine jr_istore hX dL_law_278 rfl ?_
      refine jr_iinc hX dL_law_280 rfl (by first | with_reducible exact jj_inc _ | with_reducible exact jj_inc1 _) rfl ?_
      refine jr_goto (tgt := 253) hX dL_law_283 (by decide) ?_
      exact jr_forget (fun _ _ h => h) (fun i v h => by rcases i with _ | _ | _ | _ | _ | _ | _ | _ | _ | _ | _ | _ | _ | _ | _ | _ | _ | _ | _ | _ | _ | _ | _ | _ | _ | _ | _ | _ | _ | i <;> first | exact h | exact absurd h (by simp)) (ih)
  exact g1 0 (Nat.zero_le _)
set_option maxHeartbeats 4000000 in
set_option maxRecDepth 100000 in
theorem lw_pass {X : jj_X} {D : jj_D} {nm : String} {tb : List ExceptionTableEntry} {Q : State → Prop} (hX : jj_Cx X D cL_law RL 29 (some .boolean) nm { frames := 12, cells := 600074, slots := 7301550, locals := 458 } tb) (hSt : jj_St X D) {n cs sl : Nat} {K : jj_K} {I : jj_I} {P : jj_P} {G : jj_G} {A : Nat → Nat} {H M B N t time q d who nA nO nC : Nat} {x : Int32} (hv : lv A H M B N n t K I P) (ht : t + 2 ≤ 512) (hd : I (aR 0) 0 = nI d) (hd2 : d < 2000000000) (hdt : d ≤ 200 * t) (hq150 : 150 ≤ q) (hsq : ∀ t, sy_K H M B N t ≠ none → A t < q) (hcs : cs + 100 ≤ 600074) (hsl : sl + 200 ≤ 7301550) (kk : ∀ (A1 : Nat → Nat) (n1 : Nat) (K1 : jj_K) (I1 : jj_I) (P1 : jj_P), A1 0 = A 0 → lv A1 H M B N n1 (t + 2) K1 I1 P1 → eqA I1 (f_pd 0 H B N d I) → n ≤ n1 → (∀ a, q ≤ a → a < n → K1 a = K a ∧ I1 a = I a ∧ P1 a = P a) → jj_J X D 29 (cs + 10) (sl + 40) Q n1 K1 I1 P1 G 381 [some (.ref (0)), some (.ref (1)), some (.ref (A 0)), some (.int (nI H)), some (.int (nI B)), some (.int (nI M)), some (.int (nI time)), some (.int (x)), some (.ref (q)), some (.ref (nA)), some (.int (nI who)), some (.ref (nO)), some (.ref (nC)), some (.int (sm (g_go B N I) M)), some (.int (g_cs M I)), some (.int (nI N)), some (.int (sm (s_op I) N)), some (.int (nI d)), some (.int (I (aWm 0) (d % 40))), some (.int (sm (q_bi 0 1 I) B)), some (.int (sm (q_bi 0 3 (f_pd 0 H B N d I)) B - sm (q_bi 0 3 I) B)), none, none, none, none, none, none, none, none] []) :
    jj_J X D 29 (cs) (sl) Q (n) (K) (I) (P) G 369 [some (.ref (0)), some (.ref (1)), some (.ref (A 0)), some (.int (nI H)), some (.int (nI B)), some (.int (nI M)), some (.int (nI time)), some (.int (x)), some (.ref (q)), some (.ref (nA)), some (.int (nI who)), some (.ref (nO)), some (.ref (nC)), some (.int (sm (g_go B N I) M)), some (.int (g_cs M I)), some (.int (nI N)), some (.int (sm (s_op I) N)), some (.int (nI d)), some (.int (I (aWm 0) (d % 40))), some (.int (sm (q_bi 0 1 I) B)), none, none, none, none, none, none, none, none, none] [] := by
  obtain ⟨hly, hsy, hms, htc, hdz, hH, hM, hB1, hB9, how⟩ := id hv
  have g0 := sy_lt hsy (t := 0) sv_0
  refine jr_aload_n hX dL_law_369 rfl ?_
  refine jr_iconst (v := 1) hX dL_law_370 (by decide) ?_
  refine jr_ret (jr_runV hX hSt kM_L_176 (c_pass_ok (jj_fl hX) hly htc.1 hd hd2 (y := 1) (by decide)) rfl rfl (ly_kI hly) ⟨_, _, rfl, by decide⟩ dL_law_371 rfl ⟨by simp only [jj_N]; omega, by simp only [jj_N]; omega⟩ rfl) ?_
  refine jr_I (I1 := f_pd 0 H B N d I) rfl ?_
  have sank : sm (q_bi 0 3 (f_ds 0 H B N d I 1)) B - sm (q_bi 0 3 I) B = sm (q_bi 0 3 (f_pd 0 H B N d I)) B - sm (q_bi 0 3 I) B := rfl
  rw [sank]
  have po : ∀ a, 72 ≤ a → f_pd 0 H B N d I a = I a := fun a ha => pd_off htc.1 (by decide) (Or.inr (by omega))
  have hm2 : ms A H M B N I (f_pd 0 H B N d I) := ms_cg hsy.1 hms (fun t ht => po _ (by have := sy_lt hsy ht; omega)) (fun _ _ => rfl)
  have hcz : cz I := fun m hm => by
    rw [htc.2.2.2.1.2.2.1 m hm]
    exact nI_pos' (by have := tg_C htc.2.2.2.1 hm; omega)
  refine jr_istore hX dL_law_374 rfl ?_
  refine jr_aload_n hX dL_law_376 rfl ?_
  refine jr_relM (jr_runV hX hSt kM_L_179 (s_pass (jj_fl hX) (C := I) hsy htc.1 htc.2.1 hm2 hcz hdz hd (by omega) hH.1) rfl rfl (sy_k0 hsy) ⟨_, _, rfl, by decide⟩ dL_law_377 rfl ⟨by simp only [jj_N]; omega, by simp only [jj_N]; omega⟩ rfl) ?_
  rintro r1 n1 K1 I1 P1 G1 ⟨hG1, ⟨v1, rfl⟩, A1, s1, m1, w1, ga1, -⟩
  obtain rfl : G = G1 := hG1.symm
  simp only [Option.toList, List.nil_append, List.singleton_append, List.cons_append]
  obtain ⟨hv1, e1⟩ := lv_pd hv ht hd hdt s1 m1 w1
  have fr1 : ∀ a, q ≤ a → a < n → K1 a = K a ∧ I1 a = I a ∧ P1 a = P a := fun a h1 h2 => by
    have h3 := w1.2.2.1 a h2 (fun t ht e => by have := hsq t ht; omega)
    exact ⟨w1.2.1 a h2, h3.1.trans (po a (by omega)), h3.2⟩
  refine jr_pop hX dL_law_380 rfl ?_
  exact jr_forget (fun _ _ h => h) (fun i v h => by rcases i with _ | _ | _ | _ | _ | _ | _ | _ | _ | _ | _ | _ | _ | _ | _ | _ | _ | _ | _ | _ | _ | _ | _ | _ | _ | _ | _ | _ | _ | i <;> first | exact h | exact absurd h (by simp)) (kk A1 n1 K1 I1 P1 (ga1 0 (Or.inl (by decide))) hv1 e1 w1.1 fr1)
set_option maxHeartbeats 4000000 in
set_option maxRecDepth 100000 in
theorem lw_ice {X : jj_X} {D : jj_D} {nm : String} {tb : List ExceptionTableEntry} {Q : State → Prop} (hX : jj_Cx X D cL_law RL 29 (some .boolean) nm { frames := 12, cells := 600074, slots := 7301550, locals := 458 } tb) (hSt : jj_St X D) {n cs sl : Nat} {K : jj_K} {I : jj_I} {P : jj_P} {G : jj_G} {A : Nat → Nat} {H M B N t t0 time q d who nA nO nC : Nat} {x : Int32} {C : jj_I} (hv : lv A H M B N n t K I P) (tC : tn_c t0 H M B N C) (he : eqT I (f_pd 0 H B N d C)) (hdC : C (aR 0) 0 = nI d) (hd2 : d + 1 < 2000000000) (kO : K nO = some (10, H)) (kC : K nC = some (10, H)) (rO : ∀ j, j < H - 1 → I nO j = f_fs (g_op j d C) 121 0) (rC : ∀ j, j < H - 1 → I nC j = C (aIc 0) j) (hcs : cs + 100 ≤ 600074) (hsl : sl + 200 ≤ 7301550) (kk : jj_J X D 29 cs sl Q n K I P G 522 [some (.ref (0)), some (.ref (1)), some (.ref (A 0)), some (.int (nI H)), some (.int (nI B)), some (.int (nI M)), some (.int (nI time)), some (.int (x)), some (.ref (q)), some (.ref (nA)), some (.int (nI who)), some (.ref (nO)), some (.ref (nC)), some (.int (sm (g_go B N C) M)), some (.int (g_cs M C)), some (.int (nI N)), some (.int (sm (s_op C) N)), some (.int (nI d)), some (.int (C (aWm 0) (d % 40))), some (.int (sm (q_bi 0 1 C) B)), some (.int (sm (q_bi 0 3 (f_pd 0 H B N d C)) B - sm (q_bi 0 3 C) B)), none, none, none, none, none, none, none, none] []) :
    jj_J X D 29 (cs) (sl) Q (n) (K) (I) (P) G 381 [some (.ref (0)), some (.ref (1)), some (.ref (A 0)), some (.int (nI H)), some (.int (nI B)), some (.int (nI M)), some (.int (nI time)), some (.int (x)), some (.ref (q)), some (.ref (nA)), some (.int (nI who)), some (.ref (nO)), some (.ref (nC)), some (.int (sm (g_go B N C) M)), some (.int (g_cs M C)), some (.int (nI N)), some (.int (sm (s_op C) N)), some (.int (nI d)), some (.int (C (aWm 0) (d % 40))), some (.int (sm (q_bi 0 1 C) B)), some (.int (sm (q_bi 0 3 (f_pd 0 H B N d C)) B - sm (q_bi 0 3 C) B)), none, none, none, none, none, none, none, none] [] := by
  obtain ⟨hly, hsy, hms, htc, hdz, hH, hM, hB1, hB9, how⟩ := id hv
  have g0 := sy_lt hsy (t := 0) sv_0
  have hdI : I (aR 0) 0 = nI (d + 1) := by rw [he _ (by simp only [aR]; omega)]; exact pd_dy tC.1 (by decide) hdC
  have eT := he
  have ic : ∀ k, k < H - 1 → I (aIc 0) k = f_ib (C (aIc 0) k) (C (aWm 0) (d % 40)) := fun k hk => by rw [he _ (by simp only [aIc]; omega)]; exact pd_ic tC.1 tC.2.1 (by omega) hk
  refine jr_iconst (v := 0) hX dL_law_381 (by decide) ?_
  refine jr_istore hX dL_law_382 rfl ?_
  have i1 : ∀ k, k ≤ H - 1 → jj_J X D 29 (cs) (sl) Q (n) (K) (I) (P) (G) 384 [some (.ref (0)), some (.ref (1)), some (.ref (A 0)), some (.int (nI H)), some (.int (nI B)), some (.int (nI M)), some (.int (nI time)), some (.int (x)), some (.ref (q)), some (.ref (nA)), some (.int (nI who)), some (.ref (nO)), some (.ref (nC)), some (.int (sm (g_go B N C) M)), some (.int (g_cs M C)), some (.int (nI N)), some (.int (sm (s_op C) N)), some (.int (nI d)), some (.int (C (aWm 0) (d % 40))), some (.int (sm (q_bi 0 1 C) B)), some (.int (sm (q_bi 0 3 (f_pd 0 H B N d C)) B - sm (q_bi 0 3 C) B)), some (.int (nI k)), none, none, none, none, none, none, none] [] := by
    refine jj_for (H - 1) _ ?_ (fun k hk ih => ?_)
    · refine jr_iload hX dL_law_384 rfl ?_
      refine jr_iload_n hX dL_law_386 rfl ?_
      refine jr_iconst (v := 1) hX dL_law_387 (by decide) ?_
      refine jr_isub hX dL_law_388 ?_
      refine jr_icmp_ge (tgt := 522) hX dL_law_389 (by decide) (fun c_389 => ?_) (fun c_389 => absurd (by rw [jm_sub1 hH.1]; exact nI_le (Nat.le_refl _) (by omega)) c_389)
      exact jr_forget (fun _ _ h => h) (fun i v h => by rcases i with _ | _ | _ | _ | _ | _ | _ | _ | _ | _ | _ | _ | _ | _ | _ | _ | _ | _ | _ | _ | _ | _ | _ | _ | _ | _ | _ | _ | _ | i <;> first | exact h | exact absurd h (by simp)) (kk)
    · have ick := ic k hk
      have os := opn_s (d := d) tC.1 tC.2.1 (show 0 < B by omega) hk
      refine jr_iload hX dL_law_384 rfl ?_
      refine jr_iload_n hX dL_law_386 rfl ?_
      refine jr_iconst (v := 1) hX dL_law_387 (by decide) ?_
      refine jr_isub hX dL_law_388 ?_
      refine jr_icmp_ge (tgt := 522) hX dL_law_389 (by decide) (fun c_389 => absurd c_389 (by rw [jm_sub1 hH.1]; exact nI_ge (by omega) (by omega))) (fun c_389 => ?_)
      refine jr_iconst (v := 0) hX dL_law_392 (by decide) ?_
      refine jr_bipush (v := 60) hX dL_law_393 (by decide) ?_
      refine jr_iload hX dL_law_395 rfl ?_
      refine jr_if_ge (tgt := 411) hX dL_law_397 (by decide) (fun c_397 => ?_) (fun c_397 => ?_)
      · refine jr_aload hX dL_law_411 rfl ?_
        refine jr_iload hX dL_law_413 rfl ?_
        refine jr_iald hX kC rfl (by omega) dL_law_415 ?_
        rw [rC k hk]
        refine jr_iconst (v := 2) hX dL_law_416 (by decide) ?_
        refine jr_iload hX dL_law_417 rfl ?_
        refine jr_imul hX dL_law_419 ?_
        refine jr_isub hX dL_law_420 ?_
        refine jr_mmin hX kM_L_90 dL_law_421 rfl ⟨by first | (dsimp only; omega) | omega, by first | (dsimp only; omega) | omega⟩ ?_
        refine jr_mmax hX kM_L_181 dL_law_424 rfl ⟨by first | (dsimp only; omega) | omega, by first | (dsimp only; omega) | omega⟩ ?_
        rw [ib_ge c_397]
        refine jr_istore hX dL_law_427 rfl ?_
        refine jr_aload_n hX dL_law_429 rfl ?_
        refine jr_iload hX dL_law_430 rfl ?_
        refine jr_iconst (v := 1) hX dL_law_432 (by decide) ?_
        refine jr_ret (jr_runV hX hSt kM_L_167 (c_leg_ok (jj_fl hX) hly htc.1 (h := k) (t := 1) (by assumption) (by decide)) rfl rfl (ly_kI hly) ⟨_, _, rfl, by decide⟩ dL_law_433 rfl ⟨by simp only [jj_N]; omega, by simp only [jj_N]; omega⟩ rfl) ?_
        rw [show q_lf k B I 1 = f_ib (C (aIc 0) k) (C (aWm 0) (d % 40)) from ick]
        refine jr_iload hX dL_law_436 rfl ?_
        refine jr_icmp_ne (tgt := 514) hX dL_law_438 (by decide) (fun c_438 => absurd c_438 (show ¬ ¬ _ = _ from fun q => q rfl)) (fun c_438 => ?_)
        refine jr_aload_n hX dL_law_441 rfl ?_
        refine jr_iload hX dL_law_442 rfl ?_
        refine jr_iconst (v := 2) hX dL_law_444 (by decide) ?_
        refine jr_ret (jr_runV hX hSt kM_L_167 (c_leg_ok (jj_fl hX) hly htc.1 (h := k) (t := 2) (by assumption) (by decide)) rfl rfl (ly_kI hly) ⟨_, _, rfl, by decide⟩ dL_law_445 rfl ⟨by simp only [jj_N]; omega, by simp only [jj_N]; omega⟩ rfl) ?_
        refine jr_iload hX dL_law_448 rfl ?_
        refine jr_bipush (v := 10) hX dL_law_450 (by decide) ?_
        refine jr_icmp_gt (tgt := 459) hX dL_law_452 (by decide) (fun c_452 => ?_) (fun c_452 => ?_)
        · have hol : q_lf k B I 2 = 0 := (show (if I (aIc 0) k ≤ 10 then (1 : Int32) else 0) = 0 from by rw [ick]; exact if_neg (Int32.not_le.mpr c_452))
          refine jr_iconst (v := 0) hX dL_law_459 (by decide) ?_
          refine jr_icmp_ne (tgt := 514) hX dL_law_460 (by decide) (fun c_460 => absurd c_460 (show ¬ ¬ _ = _ from fun q => q hol)) (fun c_460 => ?_)
          refine jr_aload hX dL_law_463 rfl ?_
          refine jr_iload hX dL_law_465 rfl ?_
          refine jr_iald hX kO rfl (by omega) dL_law_467 ?_
          rw [rO k hk]
          refine jr_iconst (v := 1) hX dL_law_468 (by decide) ?_
          refine jr_icmp_le (tgt := 498) hX dL_law_469 (by decide) (fun c_469 => ?_) (fun c_469 => ?_)
          · refine jr_aload hX dL_law_498 rfl ?_
            refine jr_iload hX dL_law_500 rfl ?_
            refine jr_iald hX kO rfl (by omega) dL_law_502 ?_
            rw [rO k hk]
            refine jr_iconst (v := 1) hX dL_law_503 (by decide) ?_
            refine jr_icmp_ne (tgt := 516) hX dL_law_504 (by decide) (fun c_504 => ?_) (fun c_504 => ?_)
            · refine jr_iinc hX dL_law_516 rfl (by first | with_reducible exact jj_inc _ | with_reducible exact jj_inc1 _) rfl ?_
              refine jr_goto (tgt := 384) hX dL_law_519 (by decide) ?_
              exact jr_forget (fun _ _ h => h) (fun i v h => by rcases i with _ | _ | _ | _ | _ | _ | _ | _ | _ | _ | _ | _ | _ | _ | _ | _ | _ | _ | _ | _ | _ | _ | _ | _ | _ | _ | _ | _ | _ | i <;> first | exact h | exact absurd h (by simp)) (ih)
            · refine jr_iload hX dL_law_507 rfl ?_
              refine jr_bipush (v := 10) hX dL_law_509 (by decide) ?_
              refine jr_icmp_le (tgt := 516) hX dL_law_511 (by decide) (fun c_511 => ?_) (fun c_511 => absurd (by rw [← ick, he _ (by simp only [aIc]; omega)]; exact os.2 c_504) c_511)
              refine jr_iinc hX dL_law_516 rfl (by first | with_reducible exact jj_inc _ | with_reducible exact jj_inc1 _) rfl ?_
              refine jr_goto (tgt := 384) hX dL_law_519 (by decide) ?_
              exact jr_forget (fun _ _ h => h) (fun i v h => by rcases i with _ | _ | _ | _ | _ | _ | _ | _ | _ | _ | _ | _ | _ | _ | _ | _ | _ | _ | _ | _ | _ | _ | _ | _ | _ | _ | _ | _ | _ | i <;> first | exact h | exact absurd h (by simp)) (ih)
          · refine jr_aload hX dL_law_472 rfl ?_
            refine jr_iload hX dL_law_474 rfl ?_
            refine jr_iald hX kO rfl (by omega) dL_law_476 ?_
            rw [rO k hk]
            refine jr_bipush (v := 120) hX dL_law_477 (by decide) ?_
            refine jr_icmp_ge (tgt := 498) hX dL_law_479 (by decide) (fun c_479 => ?_) (fun c_479 => ?_)
            · refine jr_aload hX dL_law_498 rfl ?_
              refine jr_iload hX dL_law_500 rfl ?_
              refine jr_iald hX kO rfl (by omega) dL_law_502 ?_
              rw [rO k hk]
              refine jr_iconst (v := 1) hX dL_law_503 (by decide) ?_
              refine jr_icmp_ne (tgt := 516) hX dL_law_504 (by decide) (fun c_504 => ?_) (fun c_504 => ?_)
              · refine jr_iinc hX dL_law_516 rfl (by first | with_reducible exact jj_inc _ | with_reducible exact jj_inc1 _) rfl ?_
                refine jr_goto (tgt := 384) hX dL_law_519 (by decide) ?_
                exact jr_forget (fun _ _ h => h) (fun i v h => by rcases i with _ | _ | _ | _ | _ | _ | _ | _ | _ | _ | _ | _ | _ | _ | _ | _ | _ | _ | _ | _ | _ | _ | _ | _ | _ | _ | _ | _ | _ | i <;> first | exact h | exact absurd h (by simp)) (ih)
              · refine jr_iload hX dL_law_507 rfl ?_
                refine jr_bipush (v := 10) hX dL_law_509 (by decide) ?_
                refine jr_icmp_le (tgt := 516) hX dL_law_511 (by decide) (fun c_511 => ?_) (fun c_511 => absurd (by rw [← ick, he _ (by simp only [aIc]; omega)]; exact os.2 c_504) c_511)
                refine jr_iinc hX dL_law_516 rfl (by first | with_reducible exact jj_inc _ | with_reducible exact jj_inc1 _) rfl ?_
                refine jr_goto (tgt := 384) hX dL_law_519 (by decide) ?_
                exact jr_forget (fun _ _ h => h) (fun i v h => by rcases i with _ | _ | _ | _ | _ | _ | _ | _ | _ | _ | _ | _ | _ | _ | _ | _ | _ | _ | _ | _ | _ | _ | _ | _ | _ | _ | _ | _ | _ | i <;> first | exact h | exact absurd h (by simp)) (ih)
            · refine jr_aload_n hX dL_law_482 rfl ?_
              refine jr_iload hX dL_law_483 rfl ?_
              refine jr_ret (jr_runV hX hSt kM_L_164 (c_opens_ok (jj_fl hX) hly htc.1 hdI hd2 (by assumption)) rfl rfl (ly_kI hly) ⟨_, _, rfl, by decide⟩ dL_law_485 rfl ⟨by simp only [jj_N]; omega, by simp only [jj_N]; omega⟩ rfl) ?_
              rw [gop_T eT, os.1 (Int32.not_le.mp c_469) (Int32.not_le.mp c_479)]
              refine jr_aload hX dL_law_488 rfl ?_
              refine jr_iload hX dL_law_490 rfl ?_
              refine jr_iald hX kO rfl (by omega) dL_law_492 ?_
              rw [rO k hk]
              refine jr_iconst (v := 1) hX dL_law_493 (by decide) ?_
              refine jr_isub hX dL_law_494 ?_
              refine jr_icmp_ne (tgt := 514) hX dL_law_495 (by decide) (fun c_495 => absurd c_495 (show ¬ ¬ _ = _ from fun q => q rfl)) (fun c_495 => ?_)
              refine jr_aload hX dL_law_498 rfl ?_
              refine jr_iload hX dL_law_500 rfl ?_
              refine jr_iald hX kO rfl (by omega) dL_law_502 ?_
              rw [rO k hk]
              refine jr_iconst (v := 1) hX dL_law_503 (by decide) ?_
              refine jr_icmp_ne (tgt := 516) hX dL_law_504 (by decide) (fun c_504 => ?_) (fun c_504 => ?_)
              · refine jr_iinc hX dL_law_516 rfl (by first | with_reducible exact jj_inc _ | with_reducible exact jj_inc1 _) rfl ?_
                refine jr_goto (tgt := 384) hX dL_law_519 (by decide) ?_
                exact jr_forget (fun _ _ h => h) (fun i v h => by rcases i with _ | _ | _ | _ | _ | _ | _ | _ | _ | _ | _ | _ | _ | _ | _ | _ | _ | _ | _ | _ | _ | _ | _ | _ | _ | _ | _ | _ | _ | i <;> first | exact h | exact absurd h (by simp)) (ih)
              · refine jr_iload hX dL_law_507 rfl ?_
                refine jr_bipush (v := 10) hX dL_law_509 (by decide) ?_
                refine jr_icmp_le (tgt := 516) hX dL_law_511 (by decide) (fun c_511 => ?_) (fun c_511 => absurd (by rw [← ick, he _ (by simp only [aIc]; omega)]; exact os.2 c_504) c_511)
                refine jr_iinc hX dL_law_516 rfl (by first | with_reducible exact jj_inc _ | with_reducible exact jj_inc1 _) rfl ?_
                refine jr_goto (tgt := 384) hX dL_law_519 (by decide) ?_
                exact jr_forget (fun _ _ h => h) (fun i v h => by rcases i with _ | _ | _ | _ | _ | _ | _ | _ | _ | _ | _ | _ | _ | _ | _ | _ | _ | _ | _ | _ | _ | _ | _ | _ | _ | _ | _ | _ | _ | i <;> first | exact h | exact absurd h (by simp)) (ih)
        · have hol : q_lf k B I 2 = 1 := (show (if I (aIc 0) k ≤ 10 then (1 : Int32) else 0) = 1 from by rw [ick]; exact if_pos (Int32.not_lt.mp c_452))
          refine jr_iconst (v := 1) hX dL_law_455 (by decide) ?_
          refine jr_goto (tgt := 460) hX dL_law_456 (by decide) ?_
          refine jr_icmp_ne (tgt := 514) hX dL_law_460 (by decide) (fun c_460 => absurd c_460 (show ¬ ¬ _ = _ from fun q => q hol)) (fun c_460 => ?_)
          refine jr_aload hX dL_law_463 rfl ?_
          refine jr_iload hX dL_law_465 rfl ?_
          refine jr_iald hX kO rfl (by omega) dL_law_467 ?_
          rw [rO k hk]
          refine jr_iconst (v := 1) hX dL_law_468 (by decide) ?_
          refine jr_icmp_le (tgt := 498) hX dL_law_469 (by decide) (fun c_469 => ?_) (fun c_469 => ?_)
          · refine jr_aload hX dL_law_498 rfl ?_
            refine jr_iload hX dL_law_500 rfl ?_
            refine jr_iald hX kO rfl (by omega) dL_law_502 ?_
            rw [rO k hk]
            refine jr_iconst (v := 1) hX dL_law_503 (by decide) ?_
            refine jr_icmp_ne (tgt := 516) hX dL_law_504 (by decide) (fun c_504 => ?_) (fun c_504 => ?_)
            · refine jr_iinc hX dL_law_516 rfl (by first | with_reducible exact jj_inc _ | with_reducible exact jj_inc1 _) rfl ?_
              refine jr_goto (tgt := 384) hX dL_law_519 (by decide) ?_
              exact jr_forget (fun _ _ h => h) (fun i v h => by rcases i with _ | _ | _ | _ | _ | _ | _ | _ | _ | _ | _ | _ | _ | _ | _ | _ | _ | _ | _ | _ | _ | _ | _ | _ | _ | _ | _ | _ | _ | i <;> first | exact h | exact absurd h (by simp)) (ih)
            · refine jr_iload hX dL_law_507 rfl ?_
              refine jr_bipush (v := 10) hX dL_law_509 (by decide) ?_
              refine jr_icmp_le (tgt := 516) hX dL_law_511 (by decide) (fun c_511 => ?_) (fun c_511 => absurd (by rw [← ick, he _ (by simp only [aIc]; omega)]; exact os.2 c_504) c_511)
              refine jr_iinc hX dL_law_516 rfl (by first | with_reducible exact jj_inc _ | with_reducible exact jj_inc1 _) rfl ?_
              refine jr_goto (tgt := 384) hX dL_law_519 (by decide) ?_
              exact jr_forget (fun _ _ h => h) (fun i v h => by rcases i with _ | _ | _ | _ | _ | _ | _ | _ | _ | _ | _ | _ | _ | _ | _ | _ | _ | _ | _ | _ | _ | _ | _ | _ | _ | _ | _ | _ | _ | i <;> first | exact h | exact absurd h (by simp)) (ih)
          · refine jr_aload hX dL_law_472 rfl ?_
            refine jr_iload hX dL_law_474 rfl ?_
            refine jr_iald hX kO rfl (by omega) dL_law_476 ?_
            rw [rO k hk]
            refine jr_bipush (v := 120) hX dL_law_477 (by decide) ?_
            refine jr_icmp_ge (tgt := 498) hX dL_law_479 (by decide) (fun c_479 => ?_) (fun c_479 => ?_)
            · refine jr_aload hX dL_law_498 rfl ?_
              refine jr_iload hX dL_law_500 rfl ?_
              refine jr_iald hX kO rfl (by omega) dL_law_502 ?_
              rw [rO k hk]
              refine jr_iconst (v := 1) hX dL_law_503 (by decide) ?_
              refine jr_icmp_ne (tgt := 516) hX dL_law_504 (by decide) (fun c_504 => ?_) (fun c_504 => ?_)
              · refine jr_iinc hX dL_law_516 rfl (by first | with_reducible exact jj_inc _ | with_reducible exact jj_inc1 _) rfl ?_
                refine jr_goto (tgt := 384) hX dL_law_519 (by decide) ?_
                exact jr_forget (fun _ _ h => h) (fun i v h => by rcases i with _ | _ | _ | _ | _ | _ | _ | _ | _ | _ | _ | _ | _ | _ | _ | _ | _ | _ | _ | _ | _ | _ | _ | _ | _ | _ | _ | _ | _ | i <;> first | exact h | exact absurd h (by simp)) (ih)
              · refine jr_iload hX dL_law_507 rfl ?_
                refine jr_bipush (v := 10) hX dL_law_509 (by decide) ?_
                refine jr_icmp_le (tgt := 516) hX dL_law_511 (by decide) (fun c_511 => ?_) (fun c_511 => absurd (by rw [← ick, he _ (by simp only [aIc]; omega)]; exact os.2 c_504) c_511)
                refine jr_iinc hX dL_law_516 rfl (by first | with_reducible exact jj_inc _ | with_reducible exact jj_inc1 _) rfl ?_
                refine jr_goto (tgt := 384) hX dL_law_519 (by decide) ?_
                exact jr_forget (fun _ _ h => h) (fun i v h => by rcases i with _ | _ | _ | _ | _ | _ | _ | _ | _ | _ | _ | _ | _ | _ | _ | _ | _ | _ | _ | _ | _ | _ | _ | _ | _ | _ | _ | _ | _ | i <;> first | exact h | exact absurd h (by simp)) (ih)
            · refine jr_aload_n hX dL_law_482 rfl ?_
              refine jr_iload hX dL_law_483 rfl ?_
              refine jr_ret (jr_runV hX hSt kM_L_164 (c_opens_ok (jj_fl hX) hly htc.1 hdI hd2 (by assumption)) rfl rfl (ly_kI hly) ⟨_, _, rfl, by decide⟩ dL_law_485 rfl ⟨by simp only [jj_N]; omega, by simp only [jj_N]; omega⟩ rfl) ?_
              rw [gop_T eT, os.1 (Int32.not_le.mp c_469) (Int32.not_le.mp c_479)]
              refine jr_aload hX dL_law_488 rfl ?_
              refine jr_iload hX dL_law_490 rfl ?_
              refine jr_iald hX kO rfl (by omega) dL_law_492 ?_
              rw [rO k hk]
              refine jr_iconst (v := 1) hX dL_law_493 (by decide) ?_
              refine jr_isub hX dL_law_494 ?_
              refine jr_icmp_ne (tgt := 514) hX dL_law_495 (by decide) (fun c_495 => absurd c_495 (show ¬ ¬ _ = _ from fun q => q rfl)) (fun c_495 => ?_)
              refine jr_aload hX dL_law_498 rfl ?_
              refine jr_iload hX dL_law_500 rfl ?_
              refine jr_iald hX kO rfl (by omega) dL_law_502 ?_
              rw [rO k hk]
              refine jr_iconst (v := 1) hX dL_law_503 (by decide) ?_
              refine jr_icmp_ne (tgt := 516) hX dL_law_504 (by decide) (fun c_504 => ?_) (fun c_504 => ?_)
              · refine jr_iinc hX dL_law_516 rfl (by first | with_reducible exact jj_inc _ | with_reducible exact jj_inc1 _) rfl ?_
                refine jr_goto (tgt := 384) hX dL_law_519 (by decide) ?_
                exact jr_forget (fun _ _ h => h) (fun i v h => by rcases i with _ | _ | _ | _ | _ | _ | _ | _ | _ | _ | _ | _ | _ | _ | _ | _ | _ | _ | _ | _ | _ | _ | _ | _ | _ | _ | _ | _ | _ | i <;> first | exact h | exact absurd h (by simp)) (ih)
              · refine jr_iload hX dL_law_507 rfl ?_
                refine jr_bipush (v := 10) hX dL_law_509 (by decide) ?_
                refine jr_icmp_le (tgt := 516) hX dL_law_511 (by decide) (fun c_511 => ?_) (fun c_511 => absurd (by rw [← ick, he _ (by simp only [aIc]; omega)]; exact os.2 c_504) c_511)
                refine jr_iinc hX dL_law_516 rfl (by first | with_reducible exact jj_inc _ | with_reducible exact jj_inc1 _) rfl ?_
                refine jr_goto (tgt := 384) hX dL_law_519 (by decide) ?_
                exact jr_forget (fun _ _ h => h) (fun i v h => by rcases i with _ | _ | _ | _ | _ | _ | _ | _ | _ | _ | _ | _ | _ | _ | _ | _ | _ | _ | _ | _ | _ | _ | _ | _ | _ | _ | _ | _ | _ | i <;> first | exact h | exact absurd h (by simp)) (ih)
      · refine jr_aload hX dL_law_400 rfl ?_
        refine jr_iload hX dL_law_402 rfl ?_
        refine jr_iald hX kC rfl (by omega) dL_law_404 ?_
        rw [rC k hk]
        refine jr_iload hX dL_law_405 rfl ?_
        refine jr_isub hX dL_law_407 ?_
        refine jr_goto (tgt := 421) hX dL_law_408 (by decide) ?_
        refine jr_mmin hX kM_L_90 dL_law_421 rfl ⟨by first | (dsimp only; omega) | omega, by first | (dsimp only; omega) | omega⟩ ?_
        refine jr_mmax hX kM_L_181 dL_law_424 rfl ⟨by first | (dsimp only; omega) | omega, by first | (dsimp only; omega) | omega⟩ ?_
        rw [ib_lt c_397]
        refine jr_istore hX dL_law_427 rfl ?_
        refine jr_aload_n hX dL_law_429 rfl ?_
        refine jr_iload hX dL_law_430 rfl ?_
        refine jr_iconst (v := 1) hX dL_law_432 (by decide) ?_
        refine jr_ret (jr_runV hX hSt kM_L_167 (c_leg_ok (jj_fl hX) hly htc.1 (h := k) (t := 1) (by assumption) (by decide)) rfl rfl (ly_kI hly) ⟨_, _, rfl, by decide⟩ dL_law_433 rfl ⟨by simp only [jj_N]; omega, by simp only [jj_N]; omega⟩ rfl) ?_
        rw [show q_lf k B I 1 = f_ib (C (aIc 0) k) (C (aWm 0) (d % 40)) from ick]
        refine jr_iload hX dL_law_436 rfl ?_
        refine jr_icmp_ne (tgt := 514) hX dL_law_438 (by decide) (fun c_438 => absurd c_438 (show ¬ ¬ _ = _ from fun q => q rfl)) (fun c_438 => ?_)
        refine jr_aload_n hX dL_law_441 rfl ?_
        refine jr_iload hX dL_law_442 rfl ?_
        refine jr_iconst (v := 2) hX dL_law_444 (by decide) ?_
        refine jr_ret (jr_runV hX hSt kM_L_167 (c_leg_ok (jj_fl hX) hly htc.1 (h := k) (t := 2) (by assumption) (by decide)) rfl rfl (ly_kI hly) ⟨_, _, rfl, by decide⟩ dL_law_445 rfl ⟨by simp only [jj_N]; omega, by simp only [jj_N]; omega⟩ rfl) ?_
        refine jr_iload hX dL_law_448 rfl ?_
        refine jr_bipush (v := 10) hX dL_law_450 (by decide) ?_
        refine jr_icmp_gt (tgt := 459) hX dL_law_452 (by decide) (fun c_452 => ?_) (fun c_452 => ?_)
        · have hol : q_lf k B I 2 = 0 := (show (if I (aIc 0) k ≤ 10 then (1 : Int32) else 0) = 0 from by rw [ick]; exact if_neg (Int32.not_le.mpr c_452))
          refine jr_iconst (v := 0) hX dL_law_459 (by decide) ?_
          refine jr_icmp_ne (tgt := 514) hX dL_law_460 (by decide) (fun c_460 => absurd c_460 (show ¬ ¬ _ = _ from fun q => q hol)) (fun c_460 => ?_)
          refine jr_aload hX dL_law_463 rfl ?_
          refine jr_iload hX dL_law_465 rfl ?_
          refine jr_iald hX kO rfl (by omega) dL_law_467 ?_
          rw [rO k hk]
          refine jr_iconst (v := 1) hX dL_law_468 (by decide) ?_
          refine jr_icmp_le (tgt := 498) hX dL_law_469 (by decide) (fun c_469 => ?_) (fun c_469 => ?_)
          · refine jr_aload hX dL_law_498 rfl ?_
            refine jr_iload hX dL_law_500 rfl ?_
            refine jr_iald hX kO rfl (by omega) dL_law_502 ?_
            rw [rO k hk]
            refine jr_iconst (v := 1) hX dL_law_503 (by decide) ?_
            refine jr_icmp_ne (tgt := 516) hX dL_law_504 (by decide) (fun c_504 => ?_) (fun c_504 => ?_)
            · refine jr_iinc hX dL_law_516 rfl (by first | with_reducible exact jj_inc _ | with_reducible exact jj_inc1 _) rfl ?_
              refine jr_goto (tgt := 384) hX dL_law_519 (by decide) ?_
              exact jr_forget (fun _ _ h => h) (fun i v h => by rcases i with _ | _ | _ | _ | _ | _ | _ | _ | _ | _ | _ | _ | _ | _ | _ | _ | _ | _ | _ | _ | _ | _ | _ | _ | _ | _ | _ | _ | _ | i <;> first | exact h | exact absurd h (by simp)) (ih)
            · refine jr_iload hX dL_law_507 rfl ?_
              refine jr_bipush (v := 10) hX dL_law_509 (by decide) ?_
              refine jr_icmp_le (tgt := 516) hX dL_law_511 (by decide) (fun c_511 => ?_) (fun c_511 => absurd (by rw [← ick, he _ (by simp only [aIc]; omega)]; exact os.2 c_504) c_511)
              refine jr_iinc hX dL_law_516 rfl (by first | with_reducible exact jj_inc _ | with_reducible exact jj_inc1 _) rfl ?_
              refine jr_goto (tgt := 384) hX dL_law_519 (by decide) ?_
              exact jr_forget (fun _ _ h => h) (fun i v h => by rcases i with _ | _ | _ | _ | _ | _ | _ | _ | _ | _ | _ | _ | _ | _ | _ | _ | _ | _ | _ | _ | _ | _ | _ | _ | _ | _ | _ | _ | _ | i <;> first | exact h | exact absurd h (by simp)) (ih)
          · refine jr_aload hX dL_law_472 rfl ?_
            refine jr_iload hX dL_law_474 rfl ?_
            refine jr_iald hX kO rfl (by omega) dL_law_476 ?_
            rw [rO k hk]
            refine jr_bipush (v := 120) hX dL_law_477 (by decide) ?_
            refine jr_icmp_ge (tgt := 498) hX dL_law_479 (by decide) (fun c_479 => ?_) (fun c_479 => ?_)
            · refine jr_aload hX dL_law_498 rfl ?_
              refine jr_iload hX dL_law_500 rfl ?_
              refine jr_iald hX kO rfl (by omega) dL_law_502 ?_
              rw [rO k hk]
              refine jr_iconst (v := 1) hX dL_law_503 (by decide) ?_
              refine jr_icmp_ne (tgt := 516) hX dL_law_504 (by decide) (fun c_504 => ?_) (fun c_504 => ?_)
              · refine jr_iinc hX dL_law_516 rfl (by first | with_reducible exact jj_inc _ | with_reducible exact jj_inc1 _) rfl ?_
                refine jr_goto (tgt := 384) hX dL_law_519 (by decide) ?_
                exact jr_forget (fun _ _ h => h) (fun i v h => by rcases i with _ | _ | _ | _ | _ | _ | _ | _ | _ | _ | _ | _ | _ | _ | _ | _ | _ | _ | _ | _ | _ | _ | _ | _ | _ | _ | _ | _ | _ | i <;> first | exact h | exact absurd h (by simp)) (ih)
              · refine jr_iload hX dL_law_507 rfl ?_
                refine jr_bipush (v := 10) hX dL_law_509 (by decide) ?_
                refine jr_icmp_le (tgt := 516) hX dL_law_511 (by decide) (fun c_511 => ?_) (fun c_511 => absurd (by rw [← ick, he _ (by simp only [aIc]; omega)]; exact os.2 c_504) c_511)
                refine jr_iinc hX dL_law_516 rfl (by first | with_reducible exact jj_inc _ | with_reducible exact jj_inc1 _) rfl ?_
                refine jr_goto (tgt := 384) hX dL_law_519 (by decide) ?_
                exact jr_forget (fun _ _ h => h) (fun i v h => by rcases i with _ | _ | _ | _ | _ | _ | _ | _ | _ | _ | _ | _ | _ | _ | _ | _ | _ | _ | _ | _ | _ | _ | _ | _ | _ | _ | _ | _ | _ | i <;> first | exact h | exact absurd h (by simp)) (ih)
            · refine jr_aload_n hX dL_law_482 rfl ?_
              refine jr_iload hX dL_law_483 rfl ?_
              refine jr_ret (jr_runV hX hSt kM_L_164 (c_opens_ok (jj_fl hX) hly htc.1 hdI hd2 (by assumption)) rfl rfl (ly_kI hly) ⟨_, _, rfl, by decide⟩ dL_law_485 rfl ⟨by simp only [jj_N]; omega, by simp only [jj_N]; omega⟩ rfl) ?_
              rw [gop_T eT, os.1 (Int32.not_le.mp c_469) (Int32.not_le.mp c_479)]
              refine jr_aload hX dL_law_488 rfl ?_
              refine jr_iload hX dL_law_490 rfl ?_
              refine jr_iald hX kO rfl (by omega) dL_law_492 ?_
              rw [rO k hk]
              refine jr_iconst (v := 1) hX dL_law_493 (by decide) ?_
              refine jr_isub hX dL_law_494 ?_
              refine jr_icmp_ne (tgt := 514) hX dL_law_495 (by decide) (fun c_495 => absurd c_495 (show ¬ ¬ _ = _ from fun q => q rfl)) (fun c_495 => ?_)
              refine jr_aload hX dL_law_498 rfl ?_
              refine jr_iload hX dL_law_500 rfl ?_
              refine jr_iald hX kO rfl (by omega) dL_law_502 ?_
              rw [rO k hk]
              refine jr_iconst (v := 1) hX dL_law_503 (by decide) ?_
              refine jr_icmp_ne (tgt := 516) hX dL_law_504 (by decide) (fun c_504 => ?_) (fun c_504 => ?_)
              · refine jr_iinc hX dL_law_516 rfl (by first | with_reducible exact jj_inc _ | with_reducible exact jj_inc1 _) rfl ?_
                refine jr_goto (tgt := 384) hX dL_law_519 (by decide) ?_
                exact jr_forget (fun _ _ h => h) (fun i v h => by rcases i with _ | _ | _ | _ | _ | _ | _ | _ | _ | _ | _ | _ | _ | _ | _ | _ | _ | _ | _ | _ | _ | _ | _ | _ | _ | _ | _ | _ | _ | i <;> first | exact h | exact absurd h (by simp)) (ih)
              · refine jr_iload hX dL_law_507 rfl ?_
                refine jr_bipush (v := 10) hX dL_law_509 (by decide) ?_
                refine jr_icmp_le (tgt := 516) hX dL_law_511 (by decide) (fun c_511 => ?_) (fun c_511 => absurd (by rw [← ick, he _ (by simp only [aIc]; omega)]; exact os.2 c_504) c_511)
                refine jr_iinc hX dL_law_516 rfl (by first | with_reducible exact jj_inc _ | with_reducible exact jj_inc1 _) rfl ?_
                refine jr_goto (tgt := 384) hX dL_law_519 (by decide) ?_
                exact jr_forget (fun _ _ h => h) (fun i v h => by rcases i with _ | _ | _ | _ | _ | _ | _ | _ | _ | _ | _ | _ | _ | _ | _ | _ | _ | _ | _ | _ | _ | _ | _ | _ | _ | _ | _ | _ | _ | i <;> first | exact h | exact absurd h (by simp)) (ih)
        · have hol : q_lf k B I 2 = 1 := (show (if I (aIc 0) k ≤ 10 then (1 : Int32) else 0) = 1 from by rw [ick]; exact if_pos (Int32.not_lt.mp c_452))
          refine jr_iconst (v := 1) hX dL_law_455 (by decide) ?_
          refine jr_goto (tgt := 460) hX dL_law_456 (by decide) ?_
          refine jr_icmp_ne (tgt := 514) hX dL_law_460 (by decide) (fun c_460 => absurd c_460 (show ¬ ¬ _ = _ from fun q => q hol)) (fun c_460 => ?_)
          refine jr_aload hX dL_law_463 rfl ?_
          refine jr_iload hX dL_law_465 rfl ?_
          refine jr_iald hX kO rfl (by omega) dL_law_467 ?_
          rw [rO k hk]
          refine jr_iconst (v := 1) hX dL_law_468 (by decide) ?_
          refine jr_icmp_le (tgt := 498) hX dL_law_469 (by decide) (fun c_469 => ?_) (fun c_469 => ?_)
          · refine jr_aload hX dL_law_498 rfl ?_
            refine jr_iload hX dL_law_500 rfl ?_
            refine jr_iald hX kO rfl (by omega) dL_law_502 ?_
            rw [rO k hk]
            refine jr_iconst (v := 1) hX dL_law_503 (by decide) ?_
            refine jr_icmp_ne (tgt := 516) hX dL_law_504 (by decide) (fun c_504 => ?_) (fun c_504 => ?_)
            · refine jr_iinc hX dL_law_516 rfl (by first | with_reducible exact jj_inc _ | with_reducible exact jj_inc1 _) rfl ?_
              refine jr_goto (tgt := 384) hX dL_law_519 (by decide) ?_
              exact jr_forget (fun _ _ h => h) (fun i v h => by rcases i with _ | _ | _ | _ | _ | _ | _ | _ | _ | _ | _ | _ | _ | _ | _ | _ | _ | _ | _ | _ | _ | _ | _ | _ | _ | _ | _ | _ | _ | i <;> first | exact h | exact absurd h (by simp)) (ih)
            · refine jr_iload hX dL_law_507 rfl ?_
              refine jr_bipush (v := 10) hX dL_law_509 (by decide) ?_
              refine jr_icmp_le (tgt := 516) hX dL_law_511 (by decide) (fun c_511 => ?_) (fun c_511 => absurd (by rw [← ick, he _ (by simp only [aIc]; omega)]; exact os.2 c_504) c_511)
              refine jr_iinc hX dL_law_516 rfl (by first | with_reducible exact jj_inc _ | with_reducible exact jj_inc1 _) rfl ?_
              refine jr_goto (tgt := 384) hX dL_law_519 (by decide) ?_
              exact jr_forget (fun _ _ h => h) (fun i v h => by rcases i with _ | _ | _ | _ | _ | _ | _ | _ | _ | _ | _ | _ | _ | _ | _ | _ | _ | _ | _ | _ | _ | _ | _ | _ | _ | _ | _ | _ | _ | i <;> first | exact h | exact absurd h (by simp)) (ih)
          · refine jr_aload hX dL_law_472 rfl ?_
            refine jr_iload hX dL_law_474 rfl ?_
            refine jr_iald hX kO rfl (by omega) dL_law_476 ?_
            rw [rO k hk]
            refine jr_bipush (v := 120) hX dL_law_477 (by decide) ?_
            refine jr_icmp_ge (tgt := 498) hX dL_law_479 (by decide) (fun c_479 => ?_) (fun c_479 => ?_)
            · refine jr_aload hX dL_law_498 rfl ?_
              refine jr_iload hX dL_law_500 rfl ?_
              refine jr_iald hX kO rfl (by omega) dL_law_502 ?_
              rw [rO k hk]
              refine jr_iconst (v := 1) hX dL_law_503 (by decide) ?_
              refine jr_icmp_ne (tgt := 516) hX dL_law_504 (by decide) (fun c_504 => ?_) (fun c_504 => ?_)
              · refine jr_iinc hX dL_law_516 rfl (by first | with_reducible exact jj_inc _ | with_reducible exact jj_inc1 _) rfl ?_
                refine jr_goto (tgt := 384) hX dL_law_519 (by decide) ?_
                exact jr_forget (fun _ _ h => h) (fun i v h => by rcases i with _ | _ | _ | _ | _ | _ | _ | _ | _ | _ | _ | _ | _ | _ | _ | _ | _ | _ | _ | _ | _ | _ | _ | _ | _ | _ | _ | _ | _ | i <;> first | exact h | exact absurd h (by simp)) (ih)
              · refine jr_iload hX dL_law_507 rfl ?_
                refine jr_bipush (v := 10) hX dL_law_509 (by decide) ?_
                refine jr_icmp_le (tgt := 516) hX dL_law_511 (by decide) (fun c_511 => ?_) (fun c_511 => absurd (by rw [← ick, he _ (by simp only [aIc]; omega)]; exact os.2 c_504) c_511)
                refine jr_iinc hX dL_law_516 rfl (by first | with_reducible exact jj_inc _ | with_reducible exact jj_inc1 _) rfl ?_
                refine jr_goto (tgt := 384) hX dL_law_519 (by decide) ?_
                exact jr_forget (fun _ _ h => h) (fun i v h => by rcases i with _ | _ | _ | _ | _ | _ | _ | _ | _ | _ | _ | _ | _ | _ | _ | _ | _ | _ | _ | _ | _ | _ | _ | _ | _ | _ | _ | _ | _ | i <;> first | exact h | exact absurd h (by simp)) (ih)
            · refine jr_aload_n hX dL_law_482 rfl ?_
              refine jr_iload hX dL_law_483 rfl ?_
              refine jr_ret (jr_runV hX hSt kM_L_164 (c_opens_ok (jj_fl hX) hly htc.1 hdI hd2 (by assumption)) rfl rfl (ly_kI hly) ⟨_, _, rfl, by decide⟩ dL_law_485 rfl ⟨by simp only [jj_N]; omega, by simp only [jj_N]; omega⟩ rfl) ?_
              rw [gop_T eT, os.1 (Int32.not_le.mp c_469) (Int32.not_le.mp c_479)]
              refine jr_aload hX dL_law_488 rfl ?_
              refine jr_iload hX dL_law_490 rfl ?_
              refine jr_iald hX kO rfl (by omega) dL_law_492 ?_
              rw [rO k hk]
              refine jr_iconst (v := 1) hX dL_law_493 (by decide) ?_
              refine jr_isub hX dL_law_494 ?_
              refine jr_icmp_ne (tgt := 514) hX dL_law_495 (by decide) (fun c_495 => absurd c_495 (show ¬ ¬ _ = _ from fun q => q rfl)) (fun c_495 => ?_)
              refine jr_aload hX dL_law_498 rfl ?_
              refine jr_iload hX dL_law_500 rfl ?_
              refine jr_iald hX kO rfl (by omega) dL_law_502 ?_
              rw [rO k hk]
              refine jr_iconst (v := 1) hX dL_law_503 (by decide) ?_
              refine jr_icmp_ne (tgt := 516) hX dL_law_504 (by decide) (fun c_504 => ?_) (fun c_504 => ?_)
              · refine jr_iinc hX dL_law_516 rfl (by first | with_reducible exact jj_inc _ | with_reducible exact jj_inc1 _) rfl ?_
                refine jr_goto (tgt := 384) hX dL_law_519 (by decide) ?_
                exact jr_forget (fun _ _ h => h) (fun i v h => by rcases i with _ | _ | _ | _ | _ | _ | _ | _ | _ | _ | _ | _ | _ | _ | _ | _ | _ | _ | _ | _ | _ | _ | _ | _ | _ | _ | _ | _ | _ | i <;> first | exact h | exact absurd h (by simp)) (ih)
              · refine jr_iload hX dL_law_507 rfl ?_
                refine jr_bipush (v := 10) hX dL_law_509 (by decide) ?_
                refine jr_icmp_le (tgt := 516) hX dL_law_511 (by decide) (fun c_511 => ?_) (fun c_511 => absurd (by rw [← ick, he _ (by simp only [aIc]; omega)]; exact os.2 c_504) c_511)
                refine jr_iinc hX dL_law_516 rfl (by first | with_reducible exact jj_inc _ | with_reducible exact jj_inc1 _) rfl ?_
                refine jr_goto (tgt := 384) hX dL_law_519 (by decide) ?_
                exact jr_forget (fun _ _ h => h) (fun i v h => by rcases i with _ | _ | _ | _ | _ | _ | _ | _ | _ | _ | _ | _ | _ | _ | _ | _ | _ | _ | _ | _ | _ | _ | _ | _ | _ | _ | _ | _ | _ | i <;> first | exact h | exact absurd h (by simp)) (ih)
  exact i1 0 (Nat.zero_le _)
