/-! the law's day, glued; its 45 days; its end -/
set_option maxHeartbeats 4000000 in
set_option maxRecDepth 100000 in
theorem lw_kb {X : jj_X} {D : jj_D} {nm : String} {tb : List ExceptionTableEntry} {Q : State → Prop} (hX : jj_Cx X D cL_law RL 29 (some .boolean) nm { frames := 12, cells := 600074, slots := 7301550, locals := 458 } tb) (hSt : jj_St X D) {n cs sl : Nat} {K : jj_K} {I : jj_I} {P : jj_P} {G : jj_G} {A : Nat → Nat} {H M B N t time q d who nA nO nC : Nat} {x : Int32} {C : jj_I} {k : Nat} (hv : lv A H M B N n t K I P) (hk : k < B) (hc3 : ¬ C (aB 0 k) 3 = 3) (hi3 : ¬ I (aB 0 k) 3 = 3) (DY : dayB H k C I) (hcs : cs + 100 ≤ 600074) (hsl : sl + 200 ≤ 7301550) (kQ : K q = some (15, B)) (pQ : ∀ j, j < B → P q j = some (q + 1 + j)) (kR : ∀ j, j < B → K (q + 1 + j) = some (10, 12)) (wQ : ∀ j, j < B → ∀ w, w < 12 → I (q + 1 + j) w = q_bf j C w)
    (kk : jj_J X D 29 cs sl Q n K I P G 994 [some (.ref (0)), some (.ref (1)), some (.ref (A 0)), some (.int (nI H)), some (.int (nI B)), some (.int (nI M)), some (.int (nI time)), some (.int (x)), some (.ref (q)), some (.ref (nA)), some (.int (nI who)), some (.ref (nO)), some (.ref (nC)), some (.int (sm (g_go B N C) M)), some (.int (g_cs M C)), some (.int (nI N)), some (.int (sm (s_op C) N)), some (.int (nI d)), some (.int (C (aWm 0) (d % 40))), some (.int (sm (q_bi 0 1 C) B)), some (.int (sm (q_bi 0 3 (f_pd 0 H B N d C)) B - sm (q_bi 0 3 C) B)), some (.int (sm (g_lo C (f_pd 0 H B N d C)) k)), some (.int (sm (g_sk C (f_pd 0 H B N d C)) k)), some (.int (sm (q_bi 0 2 I) (k + 1))), some (.int (nI k)), none, none, none, none] []) : jj_J X D 29 cs sl Q n K I P G 650 [some (.ref (0)), some (.ref (1)), some (.ref (A 0)), some (.int (nI H)), some (.int (nI B)), some (.int (nI M)), some (.int (nI time)), some (.int (x)), some (.ref (q)), some (.ref (nA)), some (.int (nI who)), some (.ref (nO)), some (.ref (nC)), some (.int (sm (g_go B N C) M)), some (.int (g_cs M C)), some (.int (nI N)), some (.int (sm (s_op C) N)), some (.int (nI d)), some (.int (C (aWm 0) (d % 40))), some (.int (sm (q_bi 0 1 C) B)), some (.int (sm (q_bi 0 3 (f_pd 0 H B N d C)) B - sm (q_bi 0 3 C) B)), some (.int (sm (g_lo C (f_pd 0 H B N d C)) k)), some (.int (sm (g_sk C (f_pd 0 H B N d C)) k)), some (.int (sm (q_bi 0 2 I) k)), some (.int (nI k)), some (.int (I (aB 0 k) 3)), some (.int (I (aB 0 k) 4)), some (.int (I (aB 0 k) 7)), none] [] := by
  rcases (hv.2.2.2.1.1.2.2.2.2.1 k hk).2.1 with e | e | e | e
  · exact lw_boat_0 (t0 := 0) hX hSt hv hk hc3 e DY hcs hsl kQ pQ kR wQ kk
  · exact lw_boat_1 (t0 := 0) hX hSt hv hk hc3 e DY hcs hsl kQ pQ kR wQ kk
  · exact lw_boat_2 (t0 := 0) hX hSt hv hk hc3 e DY hcs hsl kQ pQ kR wQ kk
  · exact absurd e hi3
set_option maxHeartbeats 4000000 in
set_option maxRecDepth 100000 in
theorem lw_d4 {X : jj_X} {D : jj_D} {nm : String} {tb : List ExceptionTableEntry} {Q : State → Prop} (hX : jj_Cx X D cL_law RL 29 (some .boolean) nm { frames := 12, cells := 600074, slots := 7301550, locals := 458 } tb) (hSt : jj_St X D) {n cs sl : Nat} {K : jj_K} {I : jj_I} {P : jj_P} {G : jj_G} {A : Nat → Nat} {H M B N t t0 time q d who nA nO nC a0 : Nat} {x : Int32} {C : jj_I} (ea : A 0 = a0) (hv : lv A H M B N n t K I P) (tC : tn_c t0 H M B N C) (hw : lw B C) (he : eqT I (f_pd 0 H B N d C)) (hdC : C (aR 0) 0 = nI d) (hd2 : d + 1 < 2000000000)
    (kQ : K q = some (15, B)) (pQ : ∀ j, j < B → P q j = some (q + 1 + j)) (kR : ∀ j, j < B → K (q + 1 + j) = some (10, 12)) (wQ : ∀ j, j < B → ∀ w, w < 12 → I (q + 1 + j) w = q_bf j C w) (kA : K nA = some (10, B)) (kO : K nO = some (10, H)) (kC : K nC = some (10, H)) (hwho : who < B) (hA : I nA who = f_fs (g_ar H M B N who d C) 201 0) (hA1 : 150 ≤ nA ∧ nA < n)
    (rO : ∀ j, j < H - 1 → I nO j = f_fs (g_op j d C) 121 0) (rC : ∀ j, j < H - 1 → I nC j = C (aIc 0) j) (hcs : cs + 100 ≤ 600074) (hsl : sl + 200 ≤ 7301550)
    (kk : ∀ (I1 : jj_I), lv A H M B N n t K I1 P → jj_J X D 29 cs sl Q n K I1 P G 43 [some (.ref (0)), some (.ref (1)), some (.ref (a0)), some (.int (nI H)), some (.int (nI B)), some (.int (nI M)), some (.int (nI (time + 1))), none, none, none, none, none, none, none, none, none, none, none, none, none, none, none, none, none, none, none, none, none, none] []) :
    jj_J X D 29 cs sl Q n K I P G 381 [some (.ref (0)), some (.ref (1)), some (.ref (a0)), some (.int (nI H)), some (.int (nI B)), some (.int (nI M)), some (.int (nI time)), some (.int (x)), some (.ref (q)), some (.ref (nA)), some (.int (nI who)), some (.ref (nO)), some (.ref (nC)), some (.int (sm (g_go B N C) M)), some (.int (g_cs M C)), some (.int (nI N)), some (.int (sm (s_op C) N)), some (.int (nI d)), some (.int (C (aWm 0) (d % 40))), some (.int (sm (q_bi 0 1 C) B)), some (.int (sm (q_bi 0 3 (f_pd 0 H B N d C)) B - sm (q_bi 0 3 C) B)), none, none, none, none, none, none, none, none] [] := by
  subst ea
  refine lw_ice hX hSt hv tC he hdC hd2 kO kC rO rC hcs hsl ?_
  refine lw_boats hX hSt hv tC he hdC hd2 hw hcs hsl kQ pQ kR wQ (fun k hk hc3 hi3 DY kk2 => lw_kb hX hSt hv hk hc3 hi3 DY hcs hsl kQ pQ kR wQ kk2) ?_
  refine lw_arrive hX hSt hv tC he hdC hd2 hw hcs hsl kA hwho hA hA1 (fun J hvJ heJ _ => ?_)
  refine lw_goods hX hSt hvJ tC heJ hdC hd2 hw hcs hsl ?_
  refine lw_debts hX hSt hvJ tC heJ hdC hd2 hw hcs hsl ?_
  refine lw_berths hX hSt hvJ tC heJ hdC hd2 hw hcs hsl ?_
  have k2 := kk J hvJ
  refine jr_iinc hX dL_law_1330 rfl (by first | with_reducible exact jj_inc _ | with_reducible exact jj_inc1 _) rfl ?_
  refine jr_goto (tgt := 43) hX dL_law_1333 (by decide) ?_
  exact jr_forget (fun _ _ h => h) (fun i v h => by rcases i with _ | _ | _ | _ | _ | _ | _ | _ | _ | _ | _ | _ | _ | _ | _ | _ | _ | _ | _ | _ | _ | _ | _ | _ | _ | _ | _ | _ | _ | i <;> first | exact h | exact absurd h (by simp)) (k2)
set_option maxHeartbeats 4000000 in
set_option maxRecDepth 100000 in
theorem lw_d3 {X : jj_X} {D : jj_D} {nm : String} {tb : List ExceptionTableEntry} {Q : State → Prop} (hX : jj_Cx X D cL_law RL 29 (some .boolean) nm { frames := 12, cells := 600074, slots := 7301550, locals := 458 } tb) (hSt : jj_St X D) {n cs sl : Nat} {K : jj_K} {I : jj_I} {P : jj_P} {G : jj_G} {A : Nat → Nat} {H M B N t time q d who nA nO nC a0 : Nat} {x : Int32} (ea : A 0 = a0) (hv : lv A H M B N n t K I P) (ht : t + 2 ≤ 512) (hd : I (aR 0) 0 = nI d) (hdt : d ≤ 200 * t) (hq : 150 ≤ q) (hsq : ∀ t, sy_K H M B N t ≠ none → A t < q)
    (kQ : K q = some (15, B)) (pQ : ∀ j, j < B → P q j = some (q + 1 + j)) (kR : ∀ j, j < B → K (q + 1 + j) = some (10, 12)) (wQ : ∀ j, j < B → ∀ w, w < 12 → I (q + 1 + j) w = q_bf j I w) (qA : q + B < nA ∧ nA < n) (qO : q + B < nO ∧ nO < n) (qC : q + B < nC ∧ nC < n) (kA : K nA = some (10, B)) (kO : K nO = some (10, H)) (kC : K nC = some (10, H)) (hwho : who < B) (hA : I nA who = f_fs (g_ar H M B N who d I) 201 0)
    (rO : ∀ j, j < H - 1 → I nO j = f_fs (g_op j d I) 121 0) (rC : ∀ j, j < H - 1 → I nC j = I (aIc 0) j) (hcs : cs + 150 ≤ 600074) (hsl : sl + 300 ≤ 7301550)
    (kk : ∀ (A1 : Nat → Nat) (N1 n1 : Nat) (K1 : jj_K) (I1 : jj_I) (P1 : jj_P), A1 0 = a0 → lv A1 H M B N1 n1 (t + 2) K1 I1 P1 → jj_J X D 29 (cs + 10) (sl + 40) Q n1 K1 I1 P1 G 43 [some (.ref (0)), some (.ref (1)), some (.ref (a0)), some (.int (nI H)), some (.int (nI B)), some (.int (nI M)), some (.int (nI (time + 1))), none, none, none, none, none, none, none, none, none, none, none, none, none, none, none, none, none, none, none, none, none, none] []) :
    jj_J X D 29 cs sl Q n K I P G 247 [some (.ref (0)), some (.ref (1)), some (.ref (a0)), some (.int (nI H)), some (.int (nI B)), some (.int (nI M)), some (.int (nI time)), some (.int (x)), some (.ref (q)), some (.ref (nA)), some (.int (nI who)), some (.ref (nO)), some (.ref (nC)), none, none, none, none, none, none, none, none, none, none, none, none, none, none, none, none] [] := by
  subst ea
  have htc := hv.2.2.2.1
  have how := hv.2.2.2.2.2.2.2.2.2
  refine lw_sums hX hSt hv hd (by omega) kQ pQ kR wQ (by omega) (by omega) ?_
  refine lw_pass hX hSt hv ht hd (by omega) hdt hq hsq (by omega) (by omega) ?_
  intro A1 n1 K1 I1 P1 ea hv1 eq hn1 fr
  have fq := fr q (Nat.le_refl _) (by omega)
  have fA := fr nA (by omega) (by omega)
  have fO := fr nO (by omega) (by omega)
  have fC := fr nC (by omega) (by omega)
  exact lw_d4 hX hSt ea hv1 htc how.2 (eqT_A eq) hd (by omega) (fq.1.trans kQ) (fun j hj => by rw [fq.2.2]; exact pQ j hj) (fun j hj => (fr (q + 1 + j) (by omega) (by omega)).1.trans (kR j hj)) (fun j hj w hw => by rw [(fr (q + 1 + j) (by omega) (by omega)).2.1]; exact wQ j hj w hw) (fA.1.trans kA) (fO.1.trans kO) (fC.1.trans kC) hwho (by rw [fA.2.1]; exact hA) ⟨by omega, by omega⟩
    (fun j hj => by rw [fO.2.1]; exact rO j hj) (fun j hj => by rw [fC.2.1]; exact rC j hj) (by omega) (by omega) (fun I2 hv2 => kk A1 N n1 K1 I2 P1 ea hv2)
set_option maxHeartbeats 4000000 in
set_option maxRecDepth 100000 in
theorem lw_d2 {X : jj_X} {D : jj_D} {nm : String} {tb : List ExceptionTableEntry} {Q : State → Prop} (hX : jj_Cx X D cL_law RL 29 (some .boolean) nm { frames := 12, cells := 600074, slots := 7301550, locals := 458 } tb) (hSt : jj_St X D) {n cs sl : Nat} {K : jj_K} {I : jj_I} {P : jj_P} {G : jj_G} {A : Nat → Nat} {H M B N t time q a0 : Nat} {x : Int32} (ea : A 0 = a0) (hv : lv A H M B N n t K I P) (ht : t + 2 ≤ 512) (hq : 150 ≤ q) (hsq : ∀ t, sy_K H M B N t ≠ none → A t < q) (hqn : q + B < n)
    (kQ : K q = some (15, B)) (pQ : ∀ j, j < B → P q j = some (q + 1 + j)) (kR : ∀ j, j < B → K (q + 1 + j) = some (10, 12)) (wQ : ∀ j, j < B → ∀ w, w < 12 → I (q + 1 + j) w = q_bf j I w) (hcs : cs + 160 ≤ 600074) (hsl : sl + 400 ≤ 7301550)
    (kk : ∀ (A1 : Nat → Nat) (N1 n1 : Nat) (K1 : jj_K) (I1 : jj_I) (P1 : jj_P), A1 0 = a0 → lv A1 H M B N1 n1 (t + 2) K1 I1 P1 → jj_J X D 29 (cs + 13) (sl + 80) Q n1 K1 I1 P1 G 43 [some (.ref (0)), some (.ref (1)), some (.ref (a0)), some (.int (nI H)), some (.int (nI B)), some (.int (nI M)), some (.int (nI (time + 1))), none, none, none, none, none, none, none, none, none, none, none, none, none, none, none, none, none, none, none, none, none, none] []) :
    jj_J X D 29 cs sl Q n K I P G 171 [some (.ref (0)), some (.ref (1)), some (.ref (a0)), some (.int (nI H)), some (.int (nI B)), some (.int (nI M)), some (.int (nI time)), some (.int (x)), some (.ref (q)), none, none, none, none, none, none, none, none, none, none, none, none, none, none, none, none, none, none, none, none] [] := by
  obtain ⟨hly, hsy, hms, htc, hdz, hH, hM, hB1, hB9, how⟩ := id hv
  obtain ⟨d, hdt, hd⟩ := htc.2.2.1
  refine lw_look hX hSt hv hd (by omega) (by omega) (by omega) ?_
  intro who J hwho f1 f2 f3
  have g0 := sy_lt hsy (t := 0) sv_0
  have eT : eqT J I := fun a ha => f1 a (by omega) (Or.inl ha)
  have hK : ∀ a, a < n → jj_uK (jj_uK (jj_uK K n (10, B)) (n + 1) (10, H)) (n + 1 + 1) (10, H) a = K a := fun a ha => by unfold jj_uK; rw [if_neg (by omega), if_neg (by omega), if_neg (by omega)]
  have hv2 : lv A H M B N (n + 1 + 1 + 1) t (jj_uK (jj_uK (jj_uK K n (10, B)) (n + 1) (10, H)) (n + 1 + 1) (10, H)) J P := lv_ext hv (by omega) hK (fun _ _ => rfl) f1
  have kA : jj_uK (jj_uK (jj_uK K n (10, B)) (n + 1) (10, H)) (n + 1 + 1) (10, H) n = some (10, B) := by unfold jj_uK; rw [if_neg (by omega), if_neg (by omega), if_pos rfl]
  have kO : jj_uK (jj_uK (jj_uK K n (10, B)) (n + 1) (10, H)) (n + 1 + 1) (10, H) (n + 1) = some (10, H) := by unfold jj_uK; rw [if_neg (by omega), if_pos rfl]
  have kC : jj_uK (jj_uK (jj_uK K n (10, B)) (n + 1) (10, H)) (n + 1 + 1) (10, H) (n + 1 + 1) = some (10, H) := by unfold jj_uK; rw [if_pos rfl]
  have k2 := hK q (by omega)
  have k3 : ∀ j, j < B → jj_uK (jj_uK (jj_uK K n (10, B)) (n + 1) (10, H)) (n + 1 + 1) (10, H) (q + 1 + j) = K (q + 1 + j) := fun j hj => hK _ (by omega)
  generalize jj_uK (jj_uK (jj_uK K n (10, B)) (n + 1) (10, H)) (n + 1 + 1) (10, H) = K2 at hv2 kA kO kC k2 k3 ⊢
  have htc2 := hv2.2.2.2.1
  refine lw_d3 hX hSt ea hv2 ht (d := d) (by rw [eT _ (by simp only [aR]; omega)]; exact hd) hdt hq hsq (k2.trans kQ) pQ (fun j hj => (k3 j hj).trans (kR j hj)) (fun j hj w hw => ?_) ⟨by omega, by omega⟩ ⟨by omega, by omega⟩ ⟨by omega, by omega⟩ kA kO kC hwho ?_ (fun j hj => ?_) (fun j hj => ?_) (by omega) (by omega) (fun A1 N1 n1 K1 I1 P1 e1 h1 => ?_)
  · rw [f1 (q + 1 + j) (by omega) (Or.inr (by omega)), bf_e eT (by omega)]
    exact wQ j hj w hw
  · rw [f2, ga_T eT htc2.1 htc.1 htc.2.1 hwho]
  · rw [(f3 j hj).1, gop_T eT]
  · rw [(f3 j hj).2, eT _ (by simp only [aIc]; omega)]
  · exact jr_widen (by omega) (by omega) (kk A1 N1 n1 K1 I1 P1 e1 h1)
set_option maxHeartbeats 4000000 in
set_option maxRecDepth 100000 in
theorem lw_day {X : jj_X} {D : jj_D} {nm : String} {tb : List ExceptionTableEntry} {Q : State → Prop} (hX : jj_Cx X D cL_law RL 29 (some .boolean) nm { frames := 12, cells := 600074, slots := 7301550, locals := 458 } tb) (hSt : jj_St X D) {n cs sl : Nat} {K : jj_K} {I : jj_I} {P : jj_P} {G : jj_G} {A : Nat → Nat} {H M B N t time a0 : Nat} (ea : A 0 = a0) (hv : lv A H M B N n t K I P) (ht : t + 6 ≤ 512) (htm : time < 45) (hcs : cs + 300 ≤ 600074) (hsl : sl + 900 ≤ 7301550)
    (kk : ∀ (A1 : Nat → Nat) (N1 n1 : Nat) (K1 : jj_K) (I1 : jj_I) (P1 : jj_P), A1 0 = a0 → lv A1 H M B N1 n1 (t + 6) K1 I1 P1 → jj_J X D 29 (cs + 30) (sl + 300) Q n1 K1 I1 P1 G 43 [some (.ref (0)), some (.ref (1)), some (.ref (a0)), some (.int (nI H)), some (.int (nI B)), some (.int (nI M)), some (.int (nI (time + 1))), none, none, none, none, none, none, none, none, none, none, none, none, none, none, none, none, none, none, none, none, none, none] []) :
    jj_J X D 29 cs sl Q n K I P G 50 [some (.ref (0)), some (.ref (1)), some (.ref (a0)), some (.int (nI H)), some (.int (nI B)), some (.int (nI M)), some (.int (nI time)), none, none, none, none, none, none, none, none, none, none, none, none, none, none, none, none, none, none, none, none, none, none] [] := by
  have hB9 := hv.2.2.2.2.2.2.2.2.1
  refine lw_acts hX hSt ea hv (by omega) htm (by omega) (by omega) ?_
  clear hv ea
  intro x A N n K P I ea hv
  refine lw_was hX hSt hv (by omega) (by omega) ?_
  intro J f1 f2
  have g0 := sy_lt hv.2.1 (t := 0) sv_0
  have eT : eqT J I := fun a ha => f1 a (by omega)
  have hK : ∀ a, a < n → mnK K n B 12 a = K a := fun a ha => by unfold mnK; rw [if_neg (by omega), if_neg (by omega)]
  have hP : ∀ a, a < n → mnP P n B a = P a := fun a ha => by unfold mnP; rw [if_neg (by omega)]
  have hv2 : lv A H M B N (n + 1 + B) (t + 4) (mnK K n B 12) J (mnP P n B) := lv_ext hv (by omega) hK hP (fun a ha _ => f1 a ha)
  have kQ : mnK K n B 12 n = some (15, B) := if_pos rfl
  have kR : ∀ k, k < B → mnK K n B 12 (n + 1 + k) = some (10, 12) := fun k hk => by unfold mnK; rw [if_neg (by omega), if_pos (by omega)]
  have pQ : ∀ k, k < B → mnP P n B n k = some (n + 1 + k) := fun k hk => by unfold mnP; rw [if_pos rfl, if_pos hk]
  refine lw_d2 hX hSt ea hv2 (by omega) (by omega) (fun t ht => (sy_lt hv.2.1 ht).2) (by omega) kQ pQ kR (fun j hj w hw => ?_) (by omega) (by omega) (fun A1 N1 n1 K1 I1 P1 e1 h1 => ?_)
  · rw [f2 j hj w hw, bf_e eT (by omega)]
  · exact jr_widen (by omega) (by omega) (kk A1 N1 n1 K1 I1 P1 e1 h1)
set_option maxHeartbeats 4000000 in
set_option maxRecDepth 100000 in
theorem lw_days {X : jj_X} {D : jj_D} {nm : String} {tb : List ExceptionTableEntry} {Q : State → Prop} (hX : jj_Cx X D cL_law RL 29 (some .boolean) nm { frames := 12, cells := 600074, slots := 7301550, locals := 458 } tb) (hSt : jj_St X D) {G : jj_G} {H M B a0 : Nat}
    (kk : ∀ (A : Nat → Nat) (N n t : Nat) (K : jj_K) (I : jj_I) (P : jj_P), A 0 = a0 → lv A H M B N n t K I P → jj_J X D 29 1700 20000 Q n K I P G 1336 [some (.ref (0)), some (.ref (1)), some (.ref (a0)), some (.int (nI H)), some (.int (nI B)), some (.int (nI M)), some (.int (nI 45)), none, none, none, none, none, none, none, none, none, none, none, none, none, none, none, none, none, none, none, none, none, none] []) :
    ∀ j, j ≤ 45 → ∀ (A : Nat → Nat) (N n : Nat) (K : jj_K) (I : jj_I) (P : jj_P), A 0 = a0 → lv A H M B N n (196 + 6 * (45 - j)) K I P → jj_J X D 29 (300 + 30 * (45 - j)) (4000 + 300 * (45 - j)) Q n K I P G 43 [some (.ref (0)), some (.ref (1)), some (.ref (a0)), some (.int (nI H)), some (.int (nI B)), some (.int (nI M)), some (.int (nI (45 - j))), none, none, none, none, none, none, none, none, none, none, none, none, none, none, none, none, none, none, none, none, none, none] [] := by
  intro j
  induction j with
  | zero =>
    intro _ A N n K I P ea hv
    refine jr_iload hX dL_law_43 rfl ?_
    refine jr_bipush (v := 45) hX dL_law_45 (by decide) ?_
    refine jr_icmp_ge (tgt := 1336) hX dL_law_47 (by decide) (fun _ => ?_) (fun c => absurd (by decide) c)
    exact jr_widen (by omega) (by omega) (kk A N n _ K I P ea hv)
  | succ j ih =>
    intro hj A N n K I P ea hv
    refine jr_iload hX dL_law_43 rfl ?_
    refine jr_bipush (v := 45) hX dL_law_45 (by decide) ?_
    refine jr_icmp_ge (tgt := 1336) hX dL_law_47 (by decide) (fun c => absurd c (show ¬ nI 45 ≤ nI (45 - (j + 1)) from nI_ge (by omega) (by omega))) (fun _ => ?_)
    refine lw_day hX hSt ea hv (by omega) (by omega) (by omega) (by omega) (fun A1 N1 n1 K1 I1 P1 e1 h1 => ?_)
    have h2 := ih (by omega) A1 N1 n1 K1 I1 P1 e1 (by rw [show 196 + 6 * (45 - j) = 196 + 6 * (45 - (j + 1)) + 6 by omega]; exact h1)
    rw [show 45 - (j + 1) + 1 = 45 - j by omega]
    exact jr_widen (by omega) (by omega) h2
set_option maxHeartbeats 4000000 in
set_option maxRecDepth 100000 in
theorem lw_end {X : jj_X} {D : jj_D} {nm : String} {tb : List ExceptionTableEntry} {Q : State → Prop} (hX : jj_Cx X D cL_law RL 29 (some .boolean) nm { frames := 12, cells := 600074, slots := 7301550, locals := 458 } tb) (hSt : jj_St X D) {n cs sl : Nat} {K : jj_K} {I : jj_I} {P : jj_P} {G : jj_G} {A : Nat → Nat} {H M B N t a0 : Nat} (ea : A 0 = a0) (hv : lv A H M B N n t K I P) (hcs : cs + 100 ≤ 600074) (hsl : sl + 400 ≤ 7301550)
    (kk : ∀ (n : Nat) (K : jj_K) (I : jj_I) (P : jj_P), jj_J X D 29 (cs + 22) (sl + 204) Q n K I P G 1341 [some (.ref (0)), some (.ref (1)), some (.ref (a0)), some (.int (nI H)), some (.int (nI B)), some (.int (nI M)), some (.int (nI 45)), none, none, none, none, none, none, none, none, none, none, none, none, none, none, none, none, none, none, none, none, none, none] [.int 1]) :
    jj_J X D 29 cs sl Q n K I P G 1336 [some (.ref (0)), some (.ref (1)), some (.ref (a0)), some (.int (nI H)), some (.int (nI B)), some (.int (nI M)), some (.int (nI 45)), none, none, none, none, none, none, none, none, none, none, none, none, none, none, none, none, none, none, none, none, none, none] [] := by
  subst ea
  have hsy := hv.2.1
  refine jr_aload_n hX dL_law_1336 rfl ?_
  refine jr_aload_n hX dL_law_1337 rfl ?_
  refine jr_relM (jr_runV hX hSt kM_L_195 (s_same (jj_fl hX) hv) rfl rfl (sy_k0 hsy) ⟨_, _, rfl, by decide⟩ dL_law_1338 rfl ⟨by simp only [jj_N]; omega, by simp only [jj_N]; omega⟩ rfl) ?_
  rintro r1 n1 K1 I1 P1 G1 ⟨hG1, rfl⟩
  obtain rfl : G = G1 := hG1.symm
  simp only [Option.toList, List.nil_append, List.singleton_append, List.cons_append]
  exact kk n1 K1 I1 P1
set_option maxHeartbeats 4000000 in
set_option maxRecDepth 100000 in
theorem lw_all {X : jj_X} {D : jj_D} {nm : String} {tb : List ExceptionTableEntry} {Q : State → Prop} (hX : jj_Cx X D cL_law RL 29 (some .boolean) nm { frames := 12, cells := 600074, slots := 7301550, locals := 458 } tb) (hSt : jj_St X D) {K : jj_K} {I : jj_I} {P : jj_P} {G : jj_G}
    (kk : ∀ (a0 H M B : Nat) (n : Nat) (K : jj_K) (I : jj_I) (P : jj_P), jj_J X D 29 (1700 + 22) (20000 + 204) Q n K I P G 1341 [some (.ref (0)), some (.ref (1)), some (.ref (a0)), some (.int (nI H)), some (.int (nI B)), some (.int (nI M)), some (.int (nI 45)), none, none, none, none, none, none, none, none, none, none, none, none, none, none, none, none, none, none, none, none, none, none] [.int 1]) :
    jj_J X D 29 0 0 Q 1 K I P G 0 [some (.ref (0)), none, none, none, none, none, none, none, none, none, none, none, none, none, none, none, none, none, none, none, none, none, none, none, none, none, none, none, none] [] := by
  refine lw_begin (cs := 0) (sl := 0) hX hSt rfl ?_
  intro A H M B n1 K1 I1 P1 hv
  exact lw_days hX hSt (a0 := A 0) (fun A2 N n t K I P e1 h1 => lw_end hX hSt e1 h1 (by omega) (by omega) (fun n K I P => kk (A 0) H M B n K I P)) 45 (Nat.le_refl _) A 0 n1 K1 I1 P1 rfl hv
