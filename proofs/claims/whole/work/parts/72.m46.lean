/-! the law's wrappers -/
def w_ok (S : Option Value → jj_I → Prop) (n0 : Nat) (K0 : jj_K) (P0 : jj_P) (G0 : jj_G) : jj_post := fun r n K I P G => r = some (.int 0) ∧ n = n0 ∧ K = K0 ∧ P = P0 ∧ ∃ v : Int32, S (some (.int v)) I ∧ G = jj_u G0 161 0 v.toInt64
def w_x (c : Int32) (n0 : Nat) (K0 : jj_K) (I0 : jj_I) (P0 : jj_P) (G0 : jj_G) : jj_post := fun r n K I P G => r = some (.int c) ∧ n0 ≤ n ∧ K = K0 ∧ I = I0 ∧ P = P0 ∧ G = G0
def w_rb (rm : Room) : Prop := rm.frames ≤ 8 ∧ rm.locals ≤ 132 ∧ rm.cells ≤ 1 ∧ rm.slots ≤ 6
set_option maxHeartbeats 4000000 in
set_option maxRecDepth 100000 in
theorem w_setWarm_ok {l : Launch} (hfl : l.stackTraces = false) {D : jj_D} {n : Nat} {K : jj_K} {I : jj_I} {P : jj_P} {G : jj_G} {a1 a2 : Int32} {rmy : Room} {S : Option Value → jj_I → Prop} (hM : jj_Met l D yX5_setWarm (jj_ws yX5_setWarm cX5_setWarm 4 (some .int)) rmy [.ref 1, .int a1, .int a2] n K I P G (jj_RS S n K P G) jj_noX) (hS : ∀ r J, S r J → ∃ v : Int32, r = some (.int v)) (hr : w_rb rmy) (hk1 : K 1 = some (5, 0)) (hk : K 161 = some (11, 1)) :
    jj_Met l D yL_setWarm (jj_wsH yL_setWarm cL_setWarm 5 (some .int) [(0, 10, 13, 13), (0, 10, 17, 15)]) { frames := 9, cells := 1, slots := 6, locals := 160 } [.ref 1, .int a1, .int a2, .ref 161] n K I P G (w_ok S n K P G) jj_noX := by
  obtain ⟨r1, r2, r3, r4⟩ := hr
  refine jj_ofH hfl (by decide +kernel) [some (.ref 1), some (.int a1), some (.int a2), some (.ref 161), none] rfl rfl ?_
  intro X hXl hX hSt
  subst hXl
  refine jr_aload_n hX dL_setWarm_0 rfl ?_
  refine jr_iconst (v := 0) hX dL_setWarm_1 (by decide) ?_
  refine jr_aload_n hX dL_setWarm_2 rfl ?_
  refine jr_iload_n hX dL_setWarm_3 rfl ?_
  refine jr_iload_n hX dL_setWarm_4 rfl ?_
  refine jr_rel (jr_runV hX hSt kM_L_7 hM rfl rfl hk1 ⟨_, _, rfl, by decide⟩ dL_setWarm_5 (jj_rb (by dsimp only; omega) (by dsimp only; omega)) ⟨by dsimp only; omega, by dsimp only; omega⟩ rfl) ?_
  intro r I1 h1
  obtain ⟨v, rfl⟩ := hS r I1 h1
  simp only [Option.toList, List.cons_append, List.nil_append]
  refine jr_i2l hX dL_setWarm_8 ?_
  refine jr_last hX hk (by decide) (show _ = nI 0 from rfl) (by decide) dL_setWarm_9 ?_
  refine jr_goto (tgt := 21) hX dL_setWarm_10 (by decide) ?_
  refine jr_iconst (v := 0) hX dL_setWarm_21 (by decide) ?_
  exact jr_iret hX dL_setWarm_22 (Nat.ble_eq.mpr (by dsimp only; omega)) (Nat.ble_eq.mpr (by dsimp only; omega)) ⟨rfl, rfl, rfl, rfl, v, h1, rfl⟩
set_option maxHeartbeats 4000000 in
set_option maxRecDepth 100000 in
theorem w_setWarm_x0 {l : Launch} (hfl : l.stackTraces = false) {D : jj_D} {n : Nat} {K : jj_K} {I : jj_I} {P : jj_P} {G : jj_G} {a1 a2 : Int32} {rmy : Room} (hM : jj_Met l D yX5_setWarm (jj_ws yX5_setWarm cX5_setWarm 4 (some .int)) rmy [.ref 1, .int a1, .int a2] n K I P G jj_noR (jj_E "java/lang/IndexOutOfBoundsException" n K I P G)) (hr : w_rb rmy) (hk1 : K 1 = some (5, 0)) (hk : K 161 = some (11, 1)) :
    jj_Met l D yL_setWarm (jj_wsH yL_setWarm cL_setWarm 5 (some .int) [(0, 10, 13, 13), (0, 10, 17, 15)]) { frames := 9, cells := 1, slots := 6, locals := 160 } [.ref 1, .int a1, .int a2, .ref 161] n K I P G (w_x 1 n K I P G) jj_noX := by
  obtain ⟨r1, r2, r3, r4⟩ := hr
  refine jj_ofH hfl (by decide +kernel) [some (.ref 1), some (.int a1), some (.int a2), some (.ref 161), none] rfl rfl ?_
  intro X hXl hX hSt
  subst hXl
  refine jr_aload_n hX dL_setWarm_0 rfl ?_
  refine jr_iconst (v := 0) hX dL_setWarm_1 (by decide) ?_
  refine jr_aload_n hX dL_setWarm_2 rfl ?_
  refine jr_iload_n hX dL_setWarm_3 rfl ?_
  refine jr_iload_n hX dL_setWarm_4 rfl ?_
  refine jr_gen (jr_runV hX hSt kM_L_7 hM rfl rfl hk1 ⟨_, _, rfl, by decide⟩ dL_setWarm_5 (jj_rb (by dsimp only; omega) (by dsimp only; omega)) ⟨by dsimp only; omega, by dsimp only; omega⟩ rfl) (fun E n1 K1 I1 P1 G1 h => ?_) (fun _ _ _ _ _ _ h => h.elim)
  obtain ⟨rfl, hn, rfl, rfl, rfl, rfl⟩ := h
  refine jr_catch hX hSt [] ⟨0, 10, 13, 13⟩ [⟨0, 10, 17, 15⟩] rfl (fun z hz => absurd hz (by simp)) rfl (by decide) kw_397 (by simp [jj_trav]) dL_setWarm_13 rfl rfl ?_
  refine jr_iconst (v := 1) hX dL_setWarm_15 (by decide) ?_
  exact jr_iret hX dL_setWarm_16 (Nat.ble_eq.mpr (by dsimp only; omega)) (Nat.ble_eq.mpr (by dsimp only; omega)) ⟨rfl, hn, rfl, rfl, rfl, rfl⟩
set_option maxHeartbeats 4000000 in
set_option maxRecDepth 100000 in
theorem w_setWarm_x1 {l : Launch} (hfl : l.stackTraces = false) {D : jj_D} {n : Nat} {K : jj_K} {I : jj_I} {P : jj_P} {G : jj_G} {a1 a2 : Int32} {rmy : Room} (hM : jj_Met l D yX5_setWarm (jj_ws yX5_setWarm cX5_setWarm 4 (some .int)) rmy [.ref 1, .int a1, .int a2] n K I P G jj_noR (jj_E "java/lang/IllegalArgumentException" n K I P G)) (hr : w_rb rmy) (hk1 : K 1 = some (5, 0)) (hk : K 161 = some (11, 1)) :
    jj_Met l D yL_setWarm (jj_wsH yL_setWarm cL_setWarm 5 (some .int) [(0, 10, 13, 13), (0, 10, 17, 15)]) { frames := 9, cells := 1, slots := 6, locals := 160 } [.ref 1, .int a1, .int a2, .ref 161] n K I P G (w_x 2 n K I P G) jj_noX := by
  obtain ⟨r1, r2, r3, r4⟩ := hr
  refine jj_ofH hfl (by decide +kernel) [some (.ref 1), some (.int a1), some (.int a2), some (.ref 161), none] rfl rfl ?_
  intro X hXl hX hSt
  subst hXl
  refine jr_aload_n hX dL_setWarm_0 rfl ?_
  refine jr_iconst (v := 0) hX dL_setWarm_1 (by decide) ?_
  refine jr_aload_n hX dL_setWarm_2 rfl ?_
  refine jr_iload_n hX dL_setWarm_3 rfl ?_
  refine jr_iload_n hX dL_setWarm_4 rfl ?_
  refine jr_gen (jr_runV hX hSt kM_L_7 hM rfl rfl hk1 ⟨_, _, rfl, by decide⟩ dL_setWarm_5 (jj_rb (by dsimp only; omega) (by dsimp only; omega)) ⟨by dsimp only; omega, by dsimp only; omega⟩ rfl) (fun E n1 K1 I1 P1 G1 h => ?_) (fun _ _ _ _ _ _ h => h.elim)
  obtain ⟨rfl, hn, rfl, rfl, rfl, rfl⟩ := h
  refine jr_catch hX hSt [⟨0, 10, 13, 13⟩] ⟨0, 10, 17, 15⟩ [] rfl (fun z hz => by
    rcases List.mem_singleton.mp hz with rfl
    exact ⟨by decide, "java/lang/IndexOutOfBoundsException", kw_397, by simp [jj_nc]⟩) rfl (by decide) kw_398 (by simp [jj_trav]) dL_setWarm_17 rfl rfl ?_
  refine jr_iconst (v := 2) hX dL_setWarm_19 (by decide) ?_
  exact jr_iret hX dL_setWarm_20 (Nat.ble_eq.mpr (by dsimp only; omega)) (Nat.ble_eq.mpr (by dsimp only; omega)) ⟨rfl, hn, rfl, rfl, rfl, rfl⟩
set_option maxHeartbeats 4000000 in
set_option maxRecDepth 100000 in
theorem w_addHarbour_ok {l : Launch} (hfl : l.stackTraces = false) {D : jj_D} {n : Nat} {K : jj_K} {I : jj_I} {P : jj_P} {G : jj_G} {a1 a2 : Int32} {rmy : Room} {S : Option Value → jj_I → Prop} (hM : jj_Met l D yX5_addHarbour (jj_ws yX5_addHarbour cX5_addHarbour 3 (some .int)) rmy [.ref 1, .int a1, .int a2] n K I P G (jj_RS S n K P G) jj_noX) (hS : ∀ r J, S r J → ∃ v : Int32, r = some (.int v)) (hr : w_rb rmy) (hk1 : K 1 = some (5, 0)) (hk : K 161 = some (11, 1)) :
    jj_Met l D yL_addHarbour (jj_wsH yL_addHarbour cL_addHarbour 5 (some .int) [(0, 10, 13, 15), (0, 10, 17, 20)]) { frames := 9, cells := 1, slots := 6, locals := 160 } [.ref 1, .int a1, .int a2, .ref 161] n K I P G (w_ok S n K P G) jj_noX := by
  obtain ⟨r1, r2, r3, r4⟩ := hr
  refine jj_ofH hfl (by decide +kernel) [some (.ref 1), some (.int a1), some (.int a2), some (.ref 161), none] rfl rfl ?_
  intro X hXl hX hSt
  subst hXl
  refine jr_aload_n hX dL_addHarbour_0 rfl ?_
  refine jr_iconst (v := 0) hX dL_addHarbour_1 (by decide) ?_
  refine jr_aload_n hX dL_addHarbour_2 rfl ?_
  refine jr_iload_n hX dL_addHarbour_3 rfl ?_
  refine jr_iload_n hX dL_addHarbour_4 rfl ?_
  refine jr_rel (jr_runV hX hSt kM_L_17 hM rfl rfl hk1 ⟨_, _, rfl, by decide⟩ dL_addHarbour_5 (jj_rb (by dsimp only; omega) (by dsimp only; omega)) ⟨by dsimp only; omega, by dsimp only; omega⟩ rfl) ?_
  intro r I1 h1
  obtain ⟨v, rfl⟩ := hS r I1 h1
  simp only [Option.toList, List.cons_append, List.nil_append]
  refine jr_i2l hX dL_addHarbour_8 ?_
  refine jr_last hX hk (by decide) (show _ = nI 0 from rfl) (by decide) dL_addHarbour_9 ?_
  refine jr_goto (tgt := 21) hX dL_addHarbour_10 (by decide) ?_
  refine jr_iconst (v := 0) hX dL_addHarbour_21 (by decide) ?_
  exact jr_iret hX dL_addHarbour_22 (Nat.ble_eq.mpr (by dsimp only; omega)) (Nat.ble_eq.mpr (by dsimp only; omega)) ⟨rfl, rfl, rfl, rfl, v, h1, rfl⟩
set_option maxHeartbeats 4000000 in
set_option maxRecDepth 100000 in
theorem w_addHarbour_x0 {l : Launch} (hfl : l.stackTraces = false) {D : jj_D} {n : Nat} {K : jj_K} {I : jj_I} {P : jj_P} {G : jj_G} {a1 a2 : Int32} {rmy : Room} (hM : jj_Met l D yX5_addHarbour (jj_ws yX5_addHarbour cX5_addHarbour 3 (some .int)) rmy [.ref 1, .int a1, .int a2] n K I P G jj_noR (jj_E "java/lang/IllegalArgumentException" n K I P G)) (hr : w_rb rmy) (hk1 : K 1 = some (5, 0)) (hk : K 161 = some (11, 1)) :
    jj_Met l D yL_addHarbour (jj_wsH yL_addHarbour cL_addHarbour 5 (some .int) [(0, 10, 13, 15), (0, 10, 17, 20)]) { frames := 9, cells := 1, slots := 6, locals := 160 } [.ref 1, .int a1, .int a2, .ref 161] n K I P G (w_x 1 n K I P G) jj_noX := by
  obtain ⟨r1, r2, r3, r4⟩ := hr
  refine jj_ofH hfl (by decide +kernel) [some (.ref 1), some (.int a1), some (.int a2), some (.ref 161), none] rfl rfl ?_
  intro X hXl hX hSt
  subst hXl
  refine jr_aload_n hX dL_addHarbour_0 rfl ?_
  refine jr_iconst (v := 0) hX dL_addHarbour_1 (by decide) ?_
  refine jr_aload_n hX dL_addHarbour_2 rfl ?_
  refine jr_iload_n hX dL_addHarbour_3 rfl ?_
  refine jr_iload_n hX dL_addHarbour_4 rfl ?_
  refine jr_gen (jr_runV hX hSt kM_L_17 hM rfl rfl hk1 ⟨_, _, rfl, by decide⟩ dL_addHarbour_5 (jj_rb (by dsimp only; omega) (by dsimp only; omega)) ⟨by dsimp only; omega, by dsimp only; omega⟩ rfl) (fun E n1 K1 I1 P1 G1 h => ?_) (fun _ _ _ _ _ _ h => h.elim)
  obtain ⟨rfl, hn, rfl, rfl, rfl, rfl⟩ := h
  refine jr_catch hX hSt [] ⟨0, 10, 13, 15⟩ [⟨0, 10, 17, 20⟩] rfl (fun z hz => absurd hz (by simp)) rfl (by decide) kw_398 (by simp [jj_trav]) dL_addHarbour_13 rfl rfl ?_
  refine jr_iconst (v := 1) hX dL_addHarbour_15 (by decide) ?_
  exact jr_iret hX dL_addHarbour_16 (Nat.ble_eq.mpr (by dsimp only; omega)) (Nat.ble_eq.mpr (by dsimp only; omega)) ⟨rfl, hn, rfl, rfl, rfl, rfl⟩
set_option maxHeartbeats 4000000 in
set_option maxRecDepth 100000 in
theorem w_addHarbour_x1 {l : Launch} (hfl : l.stackTraces = false) {D : jj_D} {n : Nat} {K : jj_K} {I : jj_I} {P : jj_P} {G : jj_G} {a1 a2 : Int32} {rmy : Room} (hM : jj_Met l D yX5_addHarbour (jj_ws yX5_addHarbour cX5_addHarbour 3 (some .int)) rmy [.ref 1, .int a1, .int a2] n K I P G jj_noR (jj_E "java/lang/IllegalStateException" n K I P G)) (hr : w_rb rmy) (hk1 : K 1 = some (5, 0)) (hk : K 161 = some (11, 1)) :
    jj_Met l D yL_addHarbour (jj_wsH yL_addHarbour cL_addHarbour 5 (some .int) [(0, 10, 13, 15), (0, 10, 17, 20)]) { frames := 9, cells := 1, slots := 6, locals := 160 } [.ref 1, .int a1, .int a2, .ref 161] n K I P G (w_x 2 n K I P G) jj_noX := by
  obtain ⟨r1, r2, r3, r4⟩ := hr
  refine jj_ofH hfl (by decide +kernel) [some (.ref 1), some (.int a1), some (.int a2), some (.ref 161), none] rfl rfl ?_
  intro X hXl hX hSt
  subst hXl
  refine jr_aload_n hX dL_addHarbour_0 rfl ?_
  refine jr_iconst (v := 0) hX dL_addHarbour_1 (by decide) ?_
  refine jr_aload_n hX dL_addHarbour_2 rfl ?_
  refine jr_iload_n hX dL_addHarbour_3 rfl ?_
  refine jr_iload_n hX dL_addHarbour_4 rfl ?_
  refine jr_gen (jr_runV hX hSt kM_L_17 hM rfl rfl hk1 ⟨_, _, rfl, by decide⟩ dL_addHarbour_5 (jj_rb (by dsimp only; omega) (by dsimp only; omega)) ⟨by dsimp only; omega, by dsimp only; omega⟩ rfl) (fun E n1 K1 I1 P1 G1 h => ?_) (fun _ _ _ _ _ _ h => h.elim)
  obtain ⟨rfl, hn, rfl, rfl, rfl, rfl⟩ := h
  refine jr_catch hX hSt [⟨0, 10, 13, 15⟩] ⟨0, 10, 17, 20⟩ [] rfl (fun z hz => by
    rcases List.mem_singleton.mp hz with rfl
    exact ⟨by decide, "java/lang/IllegalArgumentException", kw_398, by simp [jj_nc]⟩) rfl (by decide) kw_496 (by simp [jj_trav]) dL_addHarbour_17 rfl rfl ?_
  refine jr_iconst (v := 2) hX dL_addHarbour_19 (by decide) ?_
  exact jr_iret hX dL_addHarbour_20 (Nat.ble_eq.mpr (by dsimp only; omega)) (Nat.ble_eq.mpr (by dsimp only; omega)) ⟨rfl, hn, rfl, rfl, rfl, rfl⟩
set_option maxHeartbeats 4000000 in
set_option maxRecDepth 100000 in
theorem w_setPrice_ok {l : Launch} (hfl : l.stackTraces = false) {D : jj_D} {n : Nat} {K : jj_K} {I : jj_I} {P : jj_P} {G : jj_G} {a1 a2 a3 : Int32} {rmy : Room} {S : Option Value → jj_I → Prop} (hM : jj_Met l D yX5_setPrice (jj_ws yX5_setPrice cX5_setPrice 5 (some .int)) rmy [.ref 1, .int a1, .int a2, .int a3] n K I P G (jj_RS S n K P G) jj_noX) (hS : ∀ r J, S r J → ∃ v : Int32, r = some (.int v)) (hr : w_rb rmy) (hk1 : K 1 = some (5, 0)) (hk : K 161 = some (11, 1)) :
    jj_Met l D yL_setPrice (jj_wsH yL_setPrice cL_setPrice 6 (some .int) [(0, 12, 15, 13), (0, 12, 19, 15)]) { frames := 9, cells := 1, slots := 6, locals := 160 } [.ref 1, .int a1, .int a2, .int a3, .ref 161] n K I P G (w_ok S n K P G) jj_noX := by
  obtain ⟨r1, r2, r3, r4⟩ := hr
  refine jj_ofH hfl (by decide +kernel) [some (.ref 1), some (.int a1), some (.int a2), some (.int a3), some (.ref 161), none] rfl rfl ?_
  intro X hXl hX hSt
  subst hXl
  refine jr_aload hX dL_setPrice_0 rfl ?_
  refine jr_iconst (v := 0) hX dL_setPrice_2 (by decide) ?_
  refine jr_aload_n hX dL_setPrice_3 rfl ?_
  refine jr_iload_n hX dL_setPrice_4 rfl ?_
  refine jr_iload_n hX dL_setPrice_5 rfl ?_
  refine jr_iload_n hX dL_setPrice_6 rfl ?_
  refine jr_rel (jr_runV hX hSt kM_L_22 hM rfl rfl hk1 ⟨_, _, rfl, by decide⟩ dL_setPrice_7 (jj_rb (by dsimp only; omega) (by dsimp only; omega)) ⟨by dsimp only; omega, by dsimp only; omega⟩ rfl) ?_
  intro r I1 h1
  obtain ⟨v, rfl⟩ := hS r I1 h1
  simp only [Option.toList, List.cons_append, List.nil_append]
  refine jr_i2l hX dL_setPrice_10 ?_
  refine jr_last hX hk (by decide) (show _ = nI 0 from rfl) (by decide) dL_setPrice_11 ?_
  refine jr_goto (tgt := 23) hX dL_setPrice_12 (by decide) ?_
  refine jr_iconst (v := 0) hX dL_setPrice_23 (by decide) ?_
  exact jr_iret hX dL_setPrice_24 (Nat.ble_eq.mpr (by dsimp only; omega)) (Nat.ble_eq.mpr (by dsimp only; omega)) ⟨rfl, rfl, rfl, rfl, v, h1, rfl⟩
set_option maxHeartbeats 4000000 in
set_option maxRecDepth 100000 in
theorem w_setPrice_x0 {l : Launch} (hfl : l.stackTraces = false) {D : jj_D} {n : Nat} {K : jj_K} {I : jj_I} {P : jj_P} {G : jj_G} {a1 a2 a3 : Int32} {rmy : Room} (hM : jj_Met l D yX5_setPrice (jj_ws yX5_setPrice cX5_setPrice 5 (some .int)) rmy [.ref 1, .int a1, .int a2, .int a3] n K I P G jj_noR (jj_E "java/lang/IndexOutOfBoundsException" n K I P G)) (hr : w_rb rmy) (hk1 : K 1 = some (5, 0)) (hk : K 161 = some (11, 1)) :
    jj_Met l D yL_setPrice (jj_wsH yL_setPrice cL_setPrice 6 (some .int) [(0, 12, 15, 13), (0, 12, 19, 15)]) { frames := 9, cells := 1, slots := 6, locals := 160 } [.ref 1, .int a1, .int a2, .int a3, .ref 161] n K I P G (w_x 1 n K I P G) jj_noX := by
  obtain ⟨r1, r2, r3, r4⟩ := hr
  refine jj_ofH hfl (by decide +kernel) [some (.ref 1), some (.int a1), some (.int a2), some (.int a3), some (.ref 161), none] rfl rfl ?_
  intro X hXl hX hSt
  subst hXl
  refine jr_aload hX dL_setPrice_0 rfl ?_
  refine jr_iconst (v := 0) hX dL_setPrice_2 (by decide) ?_
  refine jr_aload_n hX dL_setPrice_3 rfl ?_
  refine jr_iload_n hX dL_setPrice_4 rfl ?_
  refine jr_iload_n hX dL_setPrice_5 rfl ?_
  refine jr_iload_n hX dL_setPrice_6 rfl ?_
  refine jr_gen (jr_runV hX hSt kM_L_22 hM rfl rfl hk1 ⟨_, _, rfl, by decide⟩ dL_setPrice_7 (jj_rb (by dsimp only; omega) (by dsimp only; omega)) ⟨by dsimp only; omega, by dsimp only; omega⟩ rfl) (fun E n1 K1 I1 P1 G1 h => ?_) (fun _ _ _ _ _ _ h => h.elim)
  obtain ⟨rfl, hn, rfl, rfl, rfl, rfl⟩ := h
  refine jr_catch hX hSt [] ⟨0, 12, 15, 13⟩ [⟨0, 12, 19, 15⟩] rfl (fun z hz => absurd hz (by simp)) rfl (by decide) kw_397 (by simp [jj_trav]) dL_setPrice_15 rfl rfl ?_
  refine jr_iconst (v := 1) hX dL_setPrice_17 (by decide) ?_
  exact jr_iret hX dL_setPrice_18 (Nat.ble_eq.mpr (by dsimp only; omega)) (Nat.ble_eq.mpr (by dsimp only; omega)) ⟨rfl, hn, rfl, rfl, rfl, rfl⟩
set_option maxHeartbeats 4000000 in
set_option maxRecDepth 100000 in
theorem w_setPrice_x1 {l : Launch} (hfl : l.stackTraces = false) {D : jj_D} {n : Nat} {K : jj_K} {I : jj_I} {P : jj_P} {G : jj_G} {a1 a2 a3 : Int32} {rmy : Room} (hM : jj_Met l D yX5_setPrice (jj_ws yX5_setPrice cX5_setPrice 5 (some .int)) rmy [.ref 1, .int a1, .int a2, .int a3] n K I P G jj_noR (jj_E "java/lang/IllegalArgumentException" n K I P G)) (hr : w_rb rmy) (hk1 : K 1 = some (5, 0)) (hk : K 161 = some (11, 1)) :
    jj_Met l D yL_setPrice (jj_wsH yL_setPrice cL_setPrice 6 (some .int) [(0, 12, 15, 13), (0, 12, 19, 15)]) { frames := 9, cells := 1, slots := 6, locals := 160 } [.ref 1, .int a1, .int a2, .int a3, .ref 161] n K I P G (w_x 2 n K I P G) jj_noX := by
  obtain ⟨r1, r2, r3, r4⟩ := hr
  refine jj_ofH hfl (by decide +kernel) [some (.ref 1), some (.int a1), some (.int a2), some (.int a3), some (.ref 161), none] rfl rfl ?_
  intro X hXl hX hSt
  subst hXl
  refine jr_aload hX dL_setPrice_0 rfl ?_
  refine jr_iconst (v := 0) hX dL_setPrice_2 (by decide) ?_
  refine jr_aload_n hX dL_setPrice_3 rfl ?_
  refine jr_iload_n hX dL_setPrice_4 rfl ?_
  refine jr_iload_n hX dL_setPrice_5 rfl ?_
  refine jr_iload_n hX dL_setPrice_6 rfl ?_
  refine jr_gen (jr_runV hX hSt kM_L_22 hM rfl rfl hk1 ⟨_, _, rfl, by decide⟩ dL_setPrice_7 (jj_rb (by dsimp only; omega) (by dsimp only; omega)) ⟨by dsimp only; omega, by dsimp only; omega⟩ rfl) (fun E n1 K1 I1 P1 G1 h => ?_) (fun _ _ _ _ _ _ h => h.elim)
  obtain ⟨rfl, hn, rfl, rfl, rfl, rfl⟩ := h
  refine jr_catch hX hSt [⟨0, 12, 15, 13⟩] ⟨0, 12, 19, 15⟩ [] rfl (fun z hz => by
    rcases List.mem_singleton.mp hz with rfl
    exact ⟨by decide, "java/lang/IndexOutOfBoundsException", kw_397, by simp [jj_nc]⟩) rfl (by decide) kw_398 (by simp [jj_trav]) dL_setPrice_19 rfl rfl ?_
  refine jr_iconst (v := 2) hX dL_setPrice_21 (by decide) ?_
  exact jr_iret hX dL_setPrice_22 (Nat.ble_eq.mpr (by dsimp only; omega)) (Nat.ble_eq.mpr (by dsimp only; omega)) ⟨rfl, hn, rfl, rfl, rfl, rfl⟩
set_option maxHeartbeats 4000000 in
set_option maxRecDepth 100000 in
theorem w_harbour_ok {l : Launch} (hfl : l.stackTraces = false) {D : jj_D} {n : Nat} {K : jj_K} {I : jj_I} {P : jj_P} {G : jj_G} {a1 a2 : Int32} {rmy : Room} {S : Option Value → jj_I → Prop} (hM : jj_Met l D yX5_harbour (jj_ws yX5_harbour cX5_harbour 3 (some .int)) rmy [.ref 1, .int a1, .int a2] n K I P G (jj_RS S n K P G) jj_noX) (hS : ∀ r J, S r J → ∃ v : Int32, r = some (.int v)) (hr : w_rb rmy) (hk1 : K 1 = some (5, 0)) (hk : K 161 = some (11, 1)) :
    jj_Met l D yL_harbour (jj_wsH yL_harbour cL_harbour 5 (some .int) [(0, 10, 13, 13)]) { frames := 9, cells := 1, slots := 6, locals := 160 } [.ref 1, .int a1, .int a2, .ref 161] n K I P G (w_ok S n K P G) jj_noX := by
  obtain ⟨r1, r2, r3, r4⟩ := hr
  refine jj_ofH hfl (by decide +kernel) [some (.ref 1), some (.int a1), some (.int a2), some (.ref 161), none] rfl rfl ?_
  intro X hXl hX hSt
  subst hXl
  refine jr_aload_n hX dL_harbour_0 rfl ?_
  refine jr_iconst (v := 0) hX dL_harbour_1 (by decide) ?_
  refine jr_aload_n hX dL_harbour_2 rfl ?_
  refine jr_iload_n hX dL_harbour_3 rfl ?_
  refine jr_iload_n hX dL_harbour_4 rfl ?_
  refine jr_rel (jr_runV hX hSt kM_L_26 hM rfl rfl hk1 ⟨_, _, rfl, by decide⟩ dL_harbour_5 (jj_rb (by dsimp only; omega) (by dsimp only; omega)) ⟨by dsimp only; omega, by dsimp only; omega⟩ rfl) ?_
  intro r I1 h1
  obtain ⟨v, rfl⟩ := hS r I1 h1
  simp only [Option.toList, List.cons_append, List.nil_append]
  refine jr_i2l hX dL_harbour_8 ?_
  refine jr_last hX hk (by decide) (show _ = nI 0 from rfl) (by decide) dL_harbour_9 ?_
  refine jr_goto (tgt := 17) hX dL_harbour_10 (by decide) ?_
  refine jr_iconst (v := 0) hX dL_harbour_17 (by decide) ?_
  exact jr_iret hX dL_harbour_18 (Nat.ble_eq.mpr (by dsimp only; omega)) (Nat.ble_eq.mpr (by dsimp only; omega)) ⟨rfl, rfl, rfl, rfl, v, h1, rfl⟩
set_option maxHeartbeats 4000000 in
set_option maxRecDepth 100000 in
theorem w_harbour_x0 {l : Launch} (hfl : l.stackTraces = false) {D : jj_D} {n : Nat} {K : jj_K} {I : jj_I} {P : jj_P} {G : jj_G} {a1 a2 : Int32} {rmy : Room} (hM : jj_Met l D yX5_harbour (jj_ws yX5_harbour cX5_harbour 3 (some .int)) rmy [.ref 1, .int a1, .int a2] n K I P G jj_noR (jj_E "java/lang/IndexOutOfBoundsException" n K I P G)) (hr : w_rb rmy) (hk1 : K 1 = some (5, 0)) (hk : K 161 = some (11, 1)) :
    jj_Met l D yL_harbour (jj_wsH yL_harbour cL_harbour 5 (some .int) [(0, 10, 13, 13)]) { frames := 9, cells := 1, slots := 6, locals := 160 } [.ref 1, .int a1, .int a2, .ref 161] n K I P G (w_x 1 n K I P G) jj_noX := by
  obtain ⟨r1, r2, r3, r4⟩ := hr
  refine jj_ofH hfl (by decide +kernel) [some (.ref 1), some (.int a1), some (.int a2), some (.ref 161), none] rfl rfl ?_
  intro X hXl hX hSt
  subst hXl
  refine jr_aload_n hX dL_harbour_0 rfl ?_
  refine jr_iconst (v := 0) hX dL_harbour_1 (by decide) ?_
  refine jr_aload_n hX dL_harbour_2 rfl ?_
  refine jr_iload_n hX dL_harbour_3 rfl ?_
  refine jr_iload_n hX dL_harbour_4 rfl ?_
  refine jr_gen (jr_runV hX hSt kM_L_26 hM rfl rfl hk1 ⟨_, _, rfl, by decide⟩ dL_harbour_5 (jj_rb (by dsimp only; omega) (by dsimp only; omega)) ⟨by dsimp only; omega, by dsimp only; omega⟩ rfl) (fun E n1 K1 I1 P1 G1 h => ?_) (fun _ _ _ _ _ _ h => h.elim)
  obtain ⟨rfl, hn, rfl, rfl, rfl, rfl⟩ := h
  refine jr_catch hX hSt [] ⟨0, 10, 13, 13⟩ [] rfl (fun z hz => absurd hz (by simp)) rfl (by decide) kw_397 (by simp [jj_trav]) dL_harbour_13 rfl rfl ?_
  refine jr_iconst (v := 1) hX dL_harbour_15 (by decide) ?_
  exact jr_iret hX dL_harbour_16 (Nat.ble_eq.mpr (by dsimp only; omega)) (Nat.ble_eq.mpr (by dsimp only; omega)) ⟨rfl, hn, rfl, rfl, rfl, rfl⟩
set_option maxHeartbeats 4000000 in
set_option maxRecDepth 100000 in
theorem w_leg_ok {l : Launch} (hfl : l.stackTraces = false) {D : jj_D} {n : Nat} {K : jj_K} {I : jj_I} {P : jj_P} {G : jj_G} {a1 a2 : Int32} {rmy : Room} {S : Option Value → jj_I → Prop} (hM : jj_Met l D yX5_leg (jj_ws yX5_leg cX5_leg 3 (some .int)) rmy [.ref 1, .int a1, .int a2] n K I P G (jj_RS S n K P G) jj_noX) (hS : ∀ r J, S r J → ∃ v : Int32, r = some (.int v)) (hr : w_rb rmy) (hk1 : K 1 = some (5, 0)) (hk : K 161 = some (11, 1)) :
    jj_Met l D yL_leg (jj_wsH yL_leg cL_leg 5 (some .int) [(0, 10, 13, 13)]) { frames := 9, cells := 1, slots := 6, locals := 160 } [.ref 1, .int a1, .int a2, .ref 161] n K I P G (w_ok S n K P G) jj_noX := by
  obtain ⟨r1, r2, r3, r4⟩ := hr
  refine jj_ofH hfl (by decide +kernel) [some (.ref 1), some (.int a1), some (.int a2), some (.ref 161), none] rfl rfl ?_
  intro X hXl hX hSt
  subst hXl
  refine jr_aload_n hX dL_leg_0 rfl ?_
  refine jr_iconst (v := 0) hX dL_leg_1 (by decide) ?_
  refine jr_aload_n hX dL_leg_2 rfl ?_
  refine jr_iload_n hX dL_leg_3 rfl ?_
  refine jr_iload_n hX dL_leg_4 rfl ?_
  refine jr_rel (jr_runV hX hSt kM_L_29 hM rfl rfl hk1 ⟨_, _, rfl, by decide⟩ dL_leg_5 (jj_rb (by dsimp only; omega) (by dsimp only; omega)) ⟨by dsimp only; omega, by dsimp only; omega⟩ rfl) ?_
  intro r I1 h1
  obtain ⟨v, rfl⟩ := hS r I1 h1
  simp only [Option.toList, List.cons_append, List.nil_append]
  refine jr_i2l hX dL_leg_8 ?_
  refine jr_last hX hk (by decide) (show _ = nI 0 from rfl) (by decide) dL_leg_9 ?_
  refine jr_goto (tgt := 17) hX dL_leg_10 (by decide) ?_
  refine jr_iconst (v := 0) hX dL_leg_17 (by decide) ?_
  exact jr_iret hX dL_leg_18 (Nat.ble_eq.mpr (by dsimp only; omega)) (Nat.ble_eq.mpr (by dsimp only; omega)) ⟨rfl, rfl, rfl, rfl, v, h1, rfl⟩
set_option maxHeartbeats 4000000 in
set_option maxRecDepth 100000 in
theorem w_leg_x0 {l : Launch} (hfl : l.stackTraces = false) {D : jj_D} {n : Nat} {K : jj_K} {I : jj_I} {P : jj_P} {G : jj_G} {a1 a2 : Int32} {rmy : Room} (hM : jj_Met l D yX5_leg (jj_ws yX5_leg cX5_leg 3 (some .int)) rmy [.ref 1, .int a1, .int a2] n K I P G jj_noR (jj_E "java/lang/IndexOutOfBoundsException" n K I P G)) (hr : w_rb rmy) (hk1 : K 1 = some (5, 0)) (hk : K 161 = some (11, 1)) :
    jj_Met l D yL_leg (jj_wsH yL_leg cL_leg 5 (some .int) [(0, 10, 13, 13)]) { frames := 9, cells := 1, slots := 6, locals := 160 } [.ref 1, .int a1, .int a2, .ref 161] n K I P G (w_x 1 n K I P G) jj_noX := by
  obtain ⟨r1, r2, r3, r4⟩ := hr
  refine jj_ofH hfl (by decide +kernel) [some (.ref 1), some (.int a1), some (.int a2), some (.ref 161), none] rfl rfl ?_
  intro X hXl hX hSt
  subst hXl
  refine jr_aload_n hX dL_leg_0 rfl ?_
  refine jr_iconst (v := 0) hX dL_leg_1 (by decide) ?_
  refine jr_aload_n hX dL_leg_2 rfl ?_
  refine jr_iload_n hX dL_leg_3 rfl ?_
  refine jr_iload_n hX dL_leg_4 rfl ?_
  refine jr_gen (jr_runV hX hSt kM_L_29 hM rfl rfl hk1 ⟨_, _, rfl, by decide⟩ dL_leg_5 (jj_rb (by dsimp only; omega) (by dsimp only; omega)) ⟨by dsimp only; omega, by dsimp only; omega⟩ rfl) (fun E n1 K1 I1 P1 G1 h => ?_) (fun _ _ _ _ _ _ h => h.elim)
  obtain ⟨rfl, hn, rfl, rfl, rfl, rfl⟩ := h
  refine jr_catch hX hSt [] ⟨0, 10, 13, 13⟩ [] rfl (fun z hz => absurd hz (by simp)) rfl (by decide) kw_397 (by simp [jj_trav]) dL_leg_13 rfl rfl ?_
  refine jr_iconst (v := 1) hX dL_leg_15 (by decide) ?_
  exact jr_iret hX dL_leg_16 (Nat.ble_eq.mpr (by dsimp only; omega)) (Nat.ble_eq.mpr (by dsimp only; omega)) ⟨rfl, hn, rfl, rfl, rfl, rfl⟩
set_option maxHeartbeats 4000000 in
set_option maxRecDepth 100000 in
theorem w_addMerchant_ok {l : Launch} (hfl : l.stackTraces = false) {D : jj_D} {n : Nat} {K : jj_K} {I : jj_I} {P : jj_P} {G : jj_G} {a1 : Int32} {rmy : Room} {S : Option Value → jj_I → Prop} (hM : jj_Met l D yX5_addMerchant (jj_ws yX5_addMerchant cX5_addMerchant 3 (some .int)) rmy [.ref 1, .int a1] n K I P G (jj_RS S n K P G) jj_noX) (hS : ∀ r J, S r J → ∃ v : Int32, r = some (.int v)) (hr : w_rb rmy) (hk1 : K 1 = some (5, 0)) (hk : K 161 = some (11, 1)) :
    jj_Met l D yL_addMerchant (jj_wsH yL_addMerchant cL_addMerchant 4 (some .int) [(0, 9, 12, 15), (0, 9, 15, 20)]) { frames := 9, cells := 1, slots := 6, locals := 160 } [.ref 1, .int a1, .ref 161] n K I P G (w_ok S n K P G) jj_noX := by
  obtain ⟨r1, r2, r3, r4⟩ := hr
  refine jj_ofH hfl (by decide +kernel) [some (.ref 1), some (.int a1), some (.ref 161), none] rfl rfl ?_
  intro X hXl hX hSt
  subst hXl
  refine jr_aload_n hX dL_addMerchant_0 rfl ?_
  refine jr_iconst (v := 0) hX dL_addMerchant_1 (by decide) ?_
  refine jr_aload_n hX dL_addMerchant_2 rfl ?_
  refine jr_iload_n hX dL_addMerchant_3 rfl ?_
  refine jr_rel (jr_runV hX hSt kM_L_32 hM rfl rfl hk1 ⟨_, _, rfl, by decide⟩ dL_addMerchant_4 (jj_rb (by dsimp only; omega) (by dsimp only; omega)) ⟨by dsimp only; omega, by dsimp only; omega⟩ rfl) ?_
  intro r I1 h1
  obtain ⟨v, rfl⟩ := hS r I1 h1
  simp only [Option.toList, List.cons_append, List.nil_append]
  refine jr_i2l hX dL_addMerchant_7 ?_
  refine jr_last hX hk (by decide) (show _ = nI 0 from rfl) (by decide) dL_addMerchant_8 ?_
  refine jr_goto (tgt := 18) hX dL_addMerchant_9 (by decide) ?_
  refine jr_iconst (v := 0) hX dL_addMerchant_18 (by decide) ?_
  exact jr_iret hX dL_addMerchant_19 (Nat.ble_eq.mpr (by dsimp only; omega)) (Nat.ble_eq.mpr (by dsimp only; omega)) ⟨rfl, rfl, rfl, rfl, v, h1, rfl⟩
set_option maxHeartbeats 4000000 in
set_option maxRecDepth 100000 in
theorem w_addMerchant_x0 {l : Launch} (hfl : l.stackTraces = false) {D : jj_D} {n : Nat} {K : jj_K} {I : jj_I} {P : jj_P} {G : jj_G} {a1 : Int32} {rmy : Room} (hM : jj_Met l D yX5_addMerchant (jj_ws yX5_addMerchant cX5_addMerchant 3 (some .int)) rmy [.ref 1, .int a1] n K I P G jj_noR (jj_E "java/lang/IllegalArgumentException" n K I P G)) (hr : w_rb rmy) (hk1 : K 1 = some (5, 0)) (hk : K 161 = some (11, 1)) :
    jj_Met l D yL_addMerchant (jj_wsH yL_addMerchant cL_addMerchant 4 (some .int) [(0, 9, 12, 15), (0, 9, 15, 20)]) { frames := 9, cells := 1, slots := 6, locals := 160 } [.ref 1, .int a1, .ref 161] n K I P G (w_x 1 n K I P G) jj_noX := by
  obtain ⟨r1, r2, r3, r4⟩ := hr
  refine jj_ofH hfl (by decide +kernel) [some (.ref 1), some (.int a1), some (.ref 161), none] rfl rfl ?_
  intro X hXl hX hSt
  subst hXl
  refine jr_aload_n hX dL_addMerchant_0 rfl ?_
  refine jr_iconst (v := 0) hX dL_addMerchant_1 (by decide) ?_
  refine jr_aload_n hX dL_addMerchant_2 rfl ?_
  refine jr_iload_n hX dL_addMerchant_3 rfl ?_
  refine jr_gen (jr_runV hX hSt kM_L_32 hM rfl rfl hk1 ⟨_, _, rfl, by decide⟩ dL_addMerchant_4 (jj_rb (by dsimp only; omega) (by dsimp only; omega)) ⟨by dsimp only; omega, by dsimp only; omega⟩ rfl) (fun E n1 K1 I1 P1 G1 h => ?_) (fun _ _ _ _ _ _ h => h.elim)
  obtain ⟨rfl, hn, rfl, rfl, rfl, rfl⟩ := h
  refine jr_catch_n hX hSt [] ⟨0, 9, 12, 15⟩ [⟨0, 9, 15, 20⟩] rfl (fun z hz => absurd hz (by simp)) rfl (by decide) kw_398 (by simp [jj_trav]) dL_addMerchant_12 rfl rfl ?_
  refine jr_iconst (v := 1) hX dL_addMerchant_13 (by decide) ?_
  exact jr_iret hX dL_addMerchant_14 (Nat.ble_eq.mpr (by dsimp only; omega)) (Nat.ble_eq.mpr (by dsimp only; omega)) ⟨rfl, hn, rfl, rfl, rfl, rfl⟩
set_option maxHeartbeats 4000000 in
set_option maxRecDepth 100000 in
theorem w_addMerchant_x1 {l : Launch} (hfl : l.stackTraces = false) {D : jj_D} {n : Nat} {K : jj_K} {I : jj_I} {P : jj_P} {G : jj_G} {a1 : Int32} {rmy : Room} (hM : jj_Met l D yX5_addMerchant (jj_ws yX5_addMerchant cX5_addMerchant 3 (some .int)) rmy [.ref 1, .int a1] n K I P G jj_noR (jj_E "java/lang/IllegalStateException" n K I P G)) (hr : w_rb rmy) (hk1 : K 1 = some (5, 0)) (hk : K 161 = some (11, 1)) :
    jj_Met l D yL_addMerchant (jj_wsH yL_addMerchant cL_addMerchant 4 (some .int) [(0, 9, 12, 15), (0, 9, 15, 20)]) { frames := 9, cells := 1, slots := 6, locals := 160 } [.ref 1, .int a1, .ref 161] n K I P G (w_x 2 n K I P G) jj_noX := by
  obtain ⟨r1, r2, r3, r4⟩ := hr
  refine jj_ofH hfl (by decide +kernel) [some (.ref 1), some (.int a1), some (.ref 161), none] rfl rfl ?_
  intro X hXl hX hSt
  subst hXl
  refine jr_aload_n hX dL_addMerchant_0 rfl ?_
  refine jr_iconst (v := 0) hX dL_addMerchant_1 (by decide) ?_
  refine jr_aload_n hX dL_addMerchant_2 rfl ?_
  refine jr_iload_n hX dL_addMerchant_3 rfl ?_
  refine jr_gen (jr_runV hX hSt kM_L_32 hM rfl rfl hk1 ⟨_, _, rfl, by decide⟩ dL_addMerchant_4 (jj_rb (by dsimp only; omega) (by dsimp only; omega)) ⟨by dsimp only; omega, by dsimp only; omega⟩ rfl) (fun E n1 K1 I1 P1 G1 h => ?_) (fun _ _ _ _ _ _ h => h.elim)
  obtain ⟨rfl, hn, rfl, rfl, rfl, rfl⟩ := h
  refine jr_catch_n hX hSt [⟨0, 9, 12, 15⟩] ⟨0, 9, 15, 20⟩ [] rfl (fun z hz => by
    rcases List.mem_singleton.mp hz with rfl
    exact ⟨by decide, "java/lang/IllegalArgumentException", kw_398, by simp [jj_nc]⟩) rfl (by decide) kw_496 (by simp [jj_trav]) dL_addMerchant_15 rfl rfl ?_
  refine jr_iconst (v := 2) hX dL_addMerchant_16 (by decide) ?_
  exact jr_iret hX dL_addMerchant_17 (Nat.ble_eq.mpr (by dsimp only; omega)) (Nat.ble_eq.mpr (by dsimp only; omega)) ⟨rfl, hn, rfl, rfl, rfl, rfl⟩
set_option maxHeartbeats 4000000 in
set_option maxRecDepth 100000 in
theorem w_bring_ok {l : Launch} (hfl : l.stackTraces = false) {D : jj_D} {n : Nat} {K : jj_K} {I : jj_I} {P : jj_P} {G : jj_G} {a1 a2 a3 a4 : Int32} {rmy : Room} {S : Option Value → jj_I → Prop} (hM : jj_Met l D yX5_bring (jj_ws yX5_bring cX5_bring 6 (some .int)) rmy [.ref 1, .int a1, .int a2, .int a3, .int a4] n K I P G (jj_RS S n K P G) jj_noX) (hS : ∀ r J, S r J → ∃ v : Int32, r = some (.int v)) (hr : w_rb rmy) (hk1 : K 1 = some (5, 0)) (hk : K 161 = some (11, 1)) :
    jj_Met l D yL_bring (jj_wsH yL_bring cL_bring 7 (some .int) [(0, 14, 17, 13), (0, 14, 21, 15)]) { frames := 9, cells := 1, slots := 6, locals := 160 } [.ref 1, .int a1, .int a2, .int a3, .int a4, .ref 161] n K I P G (w_ok S n K P G) jj_noX := by
  obtain ⟨r1, r2, r3, r4⟩ := hr
  refine jj_ofH hfl (by decide +kernel) [some (.ref 1), some (.int a1), some (.int a2), some (.int a3), some (.int a4), some (.ref 161), none] rfl rfl ?_
  intro X hXl hX hSt
  subst hXl
  refine jr_aload hX dL_bring_0 rfl ?_
  refine jr_iconst (v := 0) hX dL_bring_2 (by decide) ?_
  refine jr_aload_n hX dL_bring_3 rfl ?_
  refine jr_iload_n hX dL_bring_4 rfl ?_
  refine jr_iload_n hX dL_bring_5 rfl ?_
  refine jr_iload_n hX dL_bring_6 rfl ?_
  refine jr_iload hX dL_bring_7 rfl ?_
  refine jr_rel (jr_runV hX hSt kM_L_36 hM rfl rfl hk1 ⟨_, _, rfl, by decide⟩ dL_bring_9 (jj_rb (by dsimp only; omega) (by dsimp only; omega)) ⟨by dsimp only; omega, by dsimp only; omega⟩ rfl) ?_
  intro r I1 h1
  obtain ⟨v, rfl⟩ := hS r I1 h1
  simp only [Option.toList, List.cons_append, List.nil_append]
  refine jr_i2l hX dL_bring_12 ?_
  refine jr_last hX hk (by decide) (show _ = nI 0 from rfl) (by decide) dL_bring_13 ?_
  refine jr_goto (tgt := 25) hX dL_bring_14 (by decide) ?_
  refine jr_iconst (v := 0) hX dL_bring_25 (by decide) ?_
  exact jr_iret hX dL_bring_26 (Nat.ble_eq.mpr (by dsimp only; omega)) (Nat.ble_eq.mpr (by dsimp only; omega)) ⟨rfl, rfl, rfl, rfl, v, h1, rfl⟩
set_option maxHeartbeats 4000000 in
set_option maxRecDepth 100000 in
theorem w_bring_x0 {l : Launch} (hfl : l.stackTraces = false) {D : jj_D} {n : Nat} {K : jj_K} {I : jj_I} {P : jj_P} {G : jj_G} {a1 a2 a3 a4 : Int32} {rmy : Room} (hM : jj_Met l D yX5_bring (jj_ws yX5_bring cX5_bring 6 (some .int)) rmy [.ref 1, .int a1, .int a2, .int a3, .int a4] n K I P G jj_noR (jj_E "java/lang/IndexOutOfBoundsException" n K I P G)) (hr : w_rb rmy) (hk1 : K 1 = some (5, 0)) (hk : K 161 = some (11, 1)) :
    jj_Met l D yL_bring (jj_wsH yL_bring cL_bring 7 (some .int) [(0, 14, 17, 13), (0, 14, 21, 15)]) { frames := 9, cells := 1, slots := 6, locals := 160 } [.ref 1, .int a1, .int a2, .int a3, .int a4, .ref 161] n K I P G (w_x 1 n K I P G) jj_noX := by
  obtain ⟨r1, r2, r3, r4⟩ := hr
  refine jj_ofH hfl (by decide +kernel) [some (.ref 1), some (.int a1), some (.int a2), some (.int a3), some (.int a4), some (.ref 161), none] rfl rfl ?_
  intro X hXl hX hSt
  subst hXl
  refine jr_aload hX dL_bring_0 rfl ?_
  refine jr_iconst (v := 0) hX dL_bring_2 (by decide) ?_
  refine jr_aload_n hX dL_bring_3 rfl ?_
  refine jr_iload_n hX dL_bring_4 rfl ?_
  refine jr_iload_n hX dL_bring_5 rfl ?_
  refine jr_iload_n hX dL_bring_6 rfl ?_
  refine jr_iload hX dL_bring_7 rfl ?_
  refine jr_gen (jr_runV hX hSt kM_L_36 hM rfl rfl hk1 ⟨_, _, rfl, by decide⟩ dL_bring_9 (jj_rb (by dsimp only; omega) (by dsimp only; omega)) ⟨by dsimp only; omega, by dsimp only; omega⟩ rfl) (fun E n1 K1 I1 P1 G1 h => ?_) (fun _ _ _ _ _ _ h => h.elim)
  obtain ⟨rfl, hn, rfl, rfl, rfl, rfl⟩ := h
  refine jr_catch hX hSt [] ⟨0, 14, 17, 13⟩ [⟨0, 14, 21, 15⟩] rfl (fun z hz => absurd hz (by simp)) rfl (by decide) kw_397 (by simp [jj_trav]) dL_bring_17 rfl rfl ?_
  refine jr_iconst (v := 1) hX dL_bring_19 (by decide) ?_
  exact jr_iret hX dL_bring_20 (Nat.ble_eq.mpr (by dsimp only; omega)) (Nat.ble_eq.mpr (by dsimp only; omega)) ⟨rfl, hn, rfl, rfl, rfl, rfl⟩
set_option maxHeartbeats 4000000 in
set_option maxRecDepth 100000 in
theorem w_bring_x1 {l : Launch} (hfl : l.stackTraces = false) {D : jj_D} {n : Nat} {K : jj_K} {I : jj_I} {P : jj_P} {G : jj_G} {a1 a2 a3 a4 : Int32} {rmy : Room} (hM : jj_Met l D yX5_bring (jj_ws yX5_bring cX5_bring 6 (some .int)) rmy [.ref 1, .int a1, .int a2, .int a3, .int a4] n K I P G jj_noR (jj_E "java/lang/IllegalArgumentException" n K I P G)) (hr : w_rb rmy) (hk1 : K 1 = some (5, 0)) (hk : K 161 = some (11, 1)) :
    jj_Met l D yL_bring (jj_wsH yL_bring cL_bring 7 (some .int) [(0, 14, 17, 13), (0, 14, 21, 15)]) { frames := 9, cells := 1, slots := 6, locals := 160 } [.ref 1, .int a1, .int a2, .int a3, .int a4, .ref 161] n K I P G (w_x 2 n K I P G) jj_noX := by
  obtain ⟨r1, r2, r3, r4⟩ := hr
  refine jj_ofH hfl (by decide +kernel) [some (.ref 1), some (.int a1), some (.int a2), some (.int a3), some (.int a4), some (.ref 161), none] rfl rfl ?_
  intro X hXl hX hSt
  subst hXl
  refine jr_aload hX dL_bring_0 rfl ?_
  refine jr_iconst (v := 0) hX dL_bring_2 (by decide) ?_
  refine jr_aload_n hX dL_bring_3 rfl ?_
  refine jr_iload_n hX dL_bring_4 rfl ?_
  refine jr_iload_n hX dL_bring_5 rfl ?_
  refine jr_iload_n hX dL_bring_6 rfl ?_
  refine jr_iload hX dL_bring_7 rfl ?_
  refine jr_gen (jr_runV hX hSt kM_L_36 hM rfl rfl hk1 ⟨_, _, rfl, by decide⟩ dL_bring_9 (jj_rb (by dsimp only; omega) (by dsimp only; omega)) ⟨by dsimp only; omega, by dsimp only; omega⟩ rfl) (fun E n1 K1 I1 P1 G1 h => ?_) (fun _ _ _ _ _ _ h => h.elim)
  obtain ⟨rfl, hn, rfl, rfl, rfl, rfl⟩ := h
  refine jr_catch hX hSt [⟨0, 14, 17, 13⟩] ⟨0, 14, 21, 15⟩ [] rfl (fun z hz => by
    rcases List.mem_singleton.mp hz with rfl
    exact ⟨by decide, "java/lang/IndexOutOfBoundsException", kw_397, by simp [jj_nc]⟩) rfl (by decide) kw_398 (by simp [jj_trav]) dL_bring_21 rfl rfl ?_
  refine jr_iconst (v := 2) hX dL_bring_23 (by decide) ?_
  exact jr_iret hX dL_bring_24 (Nat.ble_eq.mpr (by dsimp only; omega)) (Nat.ble_eq.mpr (by dsimp only; omega)) ⟨rfl, hn, rfl, rfl, rfl, rfl⟩
set_option maxHeartbeats 4000000 in
set_option maxRecDepth 100000 in
theorem w_sell_ok {l : Launch} (hfl : l.stackTraces = false) {D : jj_D} {n : Nat} {K : jj_K} {I : jj_I} {P : jj_P} {G : jj_G} {a1 a2 a3 a4 : Int32} {rmy : Room} {S : Option Value → jj_I → Prop} (hM : jj_Met l D yX5_sell (jj_ws yX5_sell cX5_sell 6 (some .int)) rmy [.ref 1, .int a1, .int a2, .int a3, .int a4] n K I P G (jj_RS S n K P G) jj_noX) (hS : ∀ r J, S r J → ∃ v : Int32, r = some (.int v)) (hr : w_rb rmy) (hk1 : K 1 = some (5, 0)) (hk : K 161 = some (11, 1)) :
    jj_Met l D yL_sell (jj_wsH yL_sell cL_sell 7 (some .int) [(0, 14, 17, 13), (0, 14, 21, 15), (0, 14, 25, 20)]) { frames := 9, cells := 1, slots := 6, locals := 160 } [.ref 1, .int a1, .int a2, .int a3, .int a4, .ref 161] n K I P G (w_ok S n K P G) jj_noX := by
  obtain ⟨r1, r2, r3, r4⟩ := hr
  refine jj_ofH hfl (by decide +kernel) [some (.ref 1), some (.int a1), some (.int a2), some (.int a3), some (.int a4), some (.ref 161), none] rfl rfl ?_
  intro X hXl hX hSt
  subst hXl
  refine jr_aload hX dL_sell_0 rfl ?_
  refine jr_iconst (v := 0) hX dL_sell_2 (by decide) ?_
  refine jr_aload_n hX dL_sell_3 rfl ?_
  refine jr_iload_n hX dL_sell_4 rfl ?_
  refine jr_iload_n hX dL_sell_5 rfl ?_
  refine jr_iload_n hX dL_sell_6 rfl ?_
  refine jr_iload hX dL_sell_7 rfl ?_
  refine jr_rel (jr_runV hX hSt kM_L_40 hM rfl rfl hk1 ⟨_, _, rfl, by decide⟩ dL_sell_9 (jj_rb (by dsimp only; omega) (by dsimp only; omega)) ⟨by dsimp only; omega, by dsimp only; omega⟩ rfl) ?_
  intro r I1 h1
  obtain ⟨v, rfl⟩ := hS r I1 h1
  simp only [Option.toList, List.cons_append, List.nil_append]
  refine jr_i2l hX dL_sell_12 ?_
  refine jr_last hX hk (by decide) (show _ = nI 0 from rfl) (by decide) dL_sell_13 ?_
  refine jr_goto (tgt := 29) hX dL_sell_14 (by decide) ?_
  refine jr_iconst (v := 0) hX dL_sell_29 (by decide) ?_
  exact jr_iret hX dL_sell_30 (Nat.ble_eq.mpr (by dsimp only; omega)) (Nat.ble_eq.mpr (by dsimp only; omega)) ⟨rfl, rfl, rfl, rfl, v, h1, rfl⟩
set_option maxHeartbeats 4000000 in
set_option maxRecDepth 100000 in
theorem w_sell_x0 {l : Launch} (hfl : l.stackTraces = false) {D : jj_D} {n : Nat} {K : jj_K} {I : jj_I} {P : jj_P} {G : jj_G} {a1 a2 a3 a4 : Int32} {rmy : Room} (hM : jj_Met l D yX5_sell (jj_ws yX5_sell cX5_sell 6 (some .int)) rmy [.ref 1, .int a1, .int a2, .int a3, .int a4] n K I P G jj_noR (jj_E "java/lang/IndexOutOfBoundsException" n K I P G)) (hr : w_rb rmy) (hk1 : K 1 = some (5, 0)) (hk : K 161 = some (11, 1)) :
    jj_Met l D yL_sell (jj_wsH yL_sell cL_sell 7 (some .int) [(0, 14, 17, 13), (0, 14, 21, 15), (0, 14, 25, 20)]) { frames := 9, cells := 1, slots := 6, locals := 160 } [.ref 1, .int a1, .int a2, .int a3, .int a4, .ref 161] n K I P G (w_x 1 n K I P G) jj_noX := by
  obtain ⟨r1, r2, r3, r4⟩ := hr
  refine jj_ofH hfl (by decide +kernel) [some (.ref 1), some (.int a1), some (.int a2), some (.int a3), some (.int a4), some (.ref 161), none] rfl rfl ?_
  intro X hXl hX hSt
  subst hXl
  refine jr_aload hX dL_sell_0 rfl ?_
  refine jr_iconst (v := 0) hX dL_sell_2 (by decide) ?_
  refine jr_aload_n hX dL_sell_3 rfl ?_
  refine jr_iload_n hX dL_sell_4 rfl ?_
  refine jr_iload_n hX dL_sell_5 rfl ?_
  refine jr_iload_n hX dL_sell_6 rfl ?_
  refine jr_iload hX dL_sell_7 rfl ?_
  refine jr_gen (jr_runV hX hSt kM_L_40 hM rfl rfl hk1 ⟨_, _, rfl, by decide⟩ dL_sell_9 (jj_rb (by dsimp only; omega) (by dsimp only; omega)) ⟨by dsimp only; omega, by dsimp only; omega⟩ rfl) (fun E n1 K1 I1 P1 G1 h => ?_) (fun _ _ _ _ _ _ h => h.elim)
  obtain ⟨rfl, hn, rfl, rfl, rfl, rfl⟩ := h
  refine jr_catch hX hSt [] ⟨0, 14, 17, 13⟩ [⟨0, 14, 21, 15⟩, ⟨0, 14, 25, 20⟩] rfl (fun z hz => absurd hz (by simp)) rfl (by decide) kw_397 (by simp [jj_trav]) dL_sell_17 rfl rfl ?_
  refine jr_iconst (v := 1) hX dL_sell_19 (by decide) ?_
  exact jr_iret hX dL_sell_20 (Nat.ble_eq.mpr (by dsimp only; omega)) (Nat.ble_eq.mpr (by dsimp only; omega)) ⟨rfl, hn, rfl, rfl, rfl, rfl⟩
set_option maxHeartbeats 4000000 in
set_option maxRecDepth 100000 in
theorem w_sell_x1 {l : Launch} (hfl : l.stackTraces = false) {D : jj_D} {n : Nat} {K : jj_K} {I : jj_I} {P : jj_P} {G : jj_G} {a1 a2 a3 a4 : Int32} {rmy : Room} (hM : jj_Met l D yX5_sell (jj_ws yX5_sell cX5_sell 6 (some .int)) rmy [.ref 1, .int a1, .int a2, .int a3, .int a4] n K I P G jj_noR (jj_E "java/lang/IllegalArgumentException" n K I P G)) (hr : w_rb rmy) (hk1 : K 1 = some (5, 0)) (hk : K 161 = some (11, 1)) :
    jj_Met l D yL_sell (jj_wsH yL_sell cL_sell 7 (some .int) [(0, 14, 17, 13), (0, 14, 21, 15), (0, 14, 25, 20)]) { frames := 9, cells := 1, slots := 6, locals := 160 } [.ref 1, .int a1, .int a2, .int a3, .int a4, .ref 161] n K I P G (w_x 2 n K I P G) jj_noX := by
  obtain ⟨r1, r2, r3, r4⟩ := hr
  refine jj_ofH hfl (by decide +kernel) [some (.ref 1), some (.int a1), some (.int a2), some (.int a3), some (.int a4), some (.ref 161), none] rfl rfl ?_
  intro X hXl hX hSt
  subst hXl
  refine jr_aload hX dL_sell_0 rfl ?_
  refine jr_iconst (v := 0) hX dL_sell_2 (by decide) ?_
  refine jr_aload_n hX dL_sell_3 rfl ?_
  refine jr_iload_n hX dL_sell_4 rfl ?_
  refine jr_iload_n hX dL_sell_5 rfl ?_
  refine jr_iload_n hX dL_sell_6 rfl ?_
  refine jr_iload hX dL_sell_7 rfl ?_
  refine jr_gen (jr_runV hX hSt kM_L_40 hM rfl rfl hk1 ⟨_, _, rfl, by decide⟩ dL_sell_9 (jj_rb (by dsimp only; omega) (by dsimp only; omega)) ⟨by dsimp only; omega, by dsimp only; omega⟩ rfl) (fun E n1 K1 I1 P1 G1 h => ?_) (fun _ _ _ _ _ _ h => h.elim)
  obtain ⟨rfl, hn, rfl, rfl, rfl, rfl⟩ := h
  refine jr_catch hX hSt [⟨0, 14, 17, 13⟩] ⟨0, 14, 21, 15⟩ [⟨0, 14, 25, 20⟩] rfl (fun z hz => by
    rcases List.mem_singleton.mp hz with rfl
    exact ⟨by decide, "java/lang/IndexOutOfBoundsException", kw_397, by simp [jj_nc]⟩) rfl (by decide) kw_398 (by simp [jj_trav]) dL_sell_21 rfl rfl ?_
  refine jr_iconst (v := 2) hX dL_sell_23 (by decide) ?_
  exact jr_iret hX dL_sell_24 (Nat.ble_eq.mpr (by dsimp only; omega)) (Nat.ble_eq.mpr (by dsimp only; omega)) ⟨rfl, hn, rfl, rfl, rfl, rfl⟩
set_option maxHeartbeats 4000000 in
set_option maxRecDepth 100000 in
theorem w_sell_x2 {l : Launch} (hfl : l.stackTraces = false) {D : jj_D} {n : Nat} {K : jj_K} {I : jj_I} {P : jj_P} {G : jj_G} {a1 a2 a3 a4 : Int32} {rmy : Room} (hM : jj_Met l D yX5_sell (jj_ws yX5_sell cX5_sell 6 (some .int)) rmy [.ref 1, .int a1, .int a2, .int a3, .int a4] n K I P G jj_noR (jj_E "java/lang/IllegalStateException" n K I P G)) (hr : w_rb rmy) (hk1 : K 1 = some (5, 0)) (hk : K 161 = some (11, 1)) :
    jj_Met l D yL_sell (jj_wsH yL_sell cL_sell 7 (some .int) [(0, 14, 17, 13), (0, 14, 21, 15), (0, 14, 25, 20)]) { frames := 9, cells := 1, slots := 6, locals := 160 } [.ref 1, .int a1, .int a2, .int a3, .int a4, .ref 161] n K I P G (w_x 3 n K I P G) jj_noX := by
  obtain ⟨r1, r2, r3, r4⟩ := hr
  refine jj_ofH hfl (by decide +kernel) [some (.ref 1), some (.int a1), some (.int a2), some (.int a3), some (.int a4), some (.ref 161), none] rfl rfl ?_
  intro X hXl hX hSt
  subst hXl
  refine jr_aload hX dL_sell_0 rfl ?_
  refine jr_iconst (v := 0) hX dL_sell_2 (by decide) ?_
  refine jr_aload_n hX dL_sell_3 rfl ?_
  refine jr_iload_n hX dL_sell_4 rfl ?_
  refine jr_iload_n hX dL_sell_5 rfl ?_
  refine jr_iload_n hX dL_sell_6 rfl ?_
  refine jr_iload hX dL_sell_7 rfl ?_
  refine jr_gen (jr_runV hX hSt kM_L_40 hM rfl rfl hk1 ⟨_, _, rfl, by decide⟩ dL_sell_9 (jj_rb (by dsimp only; omega) (by dsimp only; omega)) ⟨by dsimp only; omega, by dsimp only; omega⟩ rfl) (fun E n1 K1 I1 P1 G1 h => ?_) (fun _ _ _ _ _ _ h => h.elim)
  obtain ⟨rfl, hn, rfl, rfl, rfl, rfl⟩ := h
  refine jr_catch hX hSt [⟨0, 14, 17, 13⟩, ⟨0, 14, 21, 15⟩] ⟨0, 14, 25, 20⟩ [] rfl (fun z hz => by
    simp only [List.mem_cons, List.not_mem_nil, or_false] at hz
    rcases hz with rfl | rfl
    · exact ⟨by decide, "java/lang/IndexOutOfBoundsException", kw_397, by simp [jj_nc]⟩
    · exact ⟨by decide, "java/lang/IllegalArgumentException", kw_398, by simp [jj_nc]⟩) rfl (by decide) kw_496 (by simp [jj_trav]) dL_sell_25 rfl rfl ?_
  refine jr_iconst (v := 3) hX dL_sell_27 (by decide) ?_
  exact jr_iret hX dL_sell_28 (Nat.ble_eq.mpr (by dsimp only; omega)) (Nat.ble_eq.mpr (by dsimp only; omega)) ⟨rfl, hn, rfl, rfl, rfl, rfl⟩
set_option maxHeartbeats 4000000 in
set_option maxRecDepth 100000 in
theorem w_stock_ok {l : Launch} (hfl : l.stackTraces = false) {D : jj_D} {n : Nat} {K : jj_K} {I : jj_I} {P : jj_P} {G : jj_G} {a1 a2 a3 : Int32} {rmy : Room} {S : Option Value → jj_I → Prop} (hM : jj_Met l D yX5_stock (jj_ws yX5_stock cX5_stock 4 (some .int)) rmy [.ref 1, .int a1, .int a2, .int a3] n K I P G (jj_RS S n K P G) jj_noX) (hS : ∀ r J, S r J → ∃ v : Int32, r = some (.int v)) (hr : w_rb rmy) (hk1 : K 1 = some (5, 0)) (hk : K 161 = some (11, 1)) :
    jj_Met l D yL_stock (jj_wsH yL_stock cL_stock 6 (some .int) [(0, 12, 15, 13)]) { frames := 9, cells := 1, slots := 6, locals := 160 } [.ref 1, .int a1, .int a2, .int a3, .ref 161] n K I P G (w_ok S n K P G) jj_noX := by
  obtain ⟨r1, r2, r3, r4⟩ := hr
  refine jj_ofH hfl (by decide +kernel) [some (.ref 1), some (.int a1), some (.int a2), some (.int a3), some (.ref 161), none] rfl rfl ?_
  intro X hXl hX hSt
  subst hXl
  refine jr_aload hX dL_stock_0 rfl ?_
  refine jr_iconst (v := 0) hX dL_stock_2 (by decide) ?_
  refine jr_aload_n hX dL_stock_3 rfl ?_
  refine jr_iload_n hX dL_stock_4 rfl ?_
  refine jr_iload_n hX dL_stock_5 rfl ?_
  refine jr_iload_n hX dL_stock_6 rfl ?_
  refine jr_rel (jr_runV hX hSt kM_L_43 hM rfl rfl hk1 ⟨_, _, rfl, by decide⟩ dL_stock_7 (jj_rb (by dsimp only; omega) (by dsimp only; omega)) ⟨by dsimp only; omega, by dsimp only; omega⟩ rfl) ?_
  intro r I1 h1
  obtain ⟨v, rfl⟩ := hS r I1 h1
  simp only [Option.toList, List.cons_append, List.nil_append]
  refine jr_i2l hX dL_stock_10 ?_
  refine jr_last hX hk (by decide) (show _ = nI 0 from rfl) (by decide) dL_stock_11 ?_
  refine jr_goto (tgt := 19) hX dL_stock_12 (by decide) ?_
  refine jr_iconst (v := 0) hX dL_stock_19 (by decide) ?_
  exact jr_iret hX dL_stock_20 (Nat.ble_eq.mpr (by dsimp only; omega)) (Nat.ble_eq.mpr (by dsimp only; omega)) ⟨rfl, rfl, rfl, rfl, v, h1, rfl⟩
set_option maxHeartbeats 4000000 in
set_option maxRecDepth 100000 in
theorem w_stock_x0 {l : Launch} (hfl : l.stackTraces = false) {D : jj_D} {n : Nat} {K : jj_K} {I : jj_I} {P : jj_P} {G : jj_G} {a1 a2 a3 : Int32} {rmy : Room} (hM : jj_Met l D yX5_stock (jj_ws yX5_stock cX5_stock 4 (some .int)) rmy [.ref 1, .int a1, .int a2, .int a3] n K I P G jj_noR (jj_E "java/lang/IndexOutOfBoundsException" n K I P G)) (hr : w_rb rmy) (hk1 : K 1 = some (5, 0)) (hk : K 161 = some (11, 1)) :
    jj_Met l D yL_stock (jj_wsH yL_stock cL_stock 6 (some .int) [(0, 12, 15, 13)]) { frames := 9, cells := 1, slots := 6, locals := 160 } [.ref 1, .int a1, .int a2, .int a3, .ref 161] n K I P G (w_x 1 n K I P G) jj_noX := by
  obtain ⟨r1, r2, r3, r4⟩ := hr
  refine jj_ofH hfl (by decide +kernel) [some (.ref 1), some (.int a1), some (.int a2), some (.int a3), some (.ref 161), none] rfl rfl ?_
  intro X hXl hX hSt
  subst hXl
  refine jr_aload hX dL_stock_0 rfl ?_
  refine jr_iconst (v := 0) hX dL_stock_2 (by decide) ?_
  refine jr_aload_n hX dL_stock_3 rfl ?_
  refine jr_iload_n hX dL_stock_4 rfl ?_
  refine jr_iload_n hX dL_stock_5 rfl ?_
  refine jr_iload_n hX dL_stock_6 rfl ?_
  refine jr_gen (jr_runV hX hSt kM_L_43 hM rfl rfl hk1 ⟨_, _, rfl, by decide⟩ dL_stock_7 (jj_rb (by dsimp only; omega) (by dsimp only; omega)) ⟨by dsimp only; omega, by dsimp only; omega⟩ rfl) (fun E n1 K1 I1 P1 G1 h => ?_) (fun _ _ _ _ _ _ h => h.elim)
  obtain ⟨rfl, hn, rfl, rfl, rfl, rfl⟩ := h
  refine jr_catch hX hSt [] ⟨0, 12, 15, 13⟩ [] rfl (fun z hz => absurd hz (by simp)) rfl (by decide) kw_397 (by simp [jj_trav]) dL_stock_15 rfl rfl ?_
  refine jr_iconst (v := 1) hX dL_stock_17 (by decide) ?_
  exact jr_iret hX dL_stock_18 (Nat.ble_eq.mpr (by dsimp only; omega)) (Nat.ble_eq.mpr (by dsimp only; omega)) ⟨rfl, hn, rfl, rfl, rfl, rfl⟩
set_option maxHeartbeats 4000000 in
set_option maxRecDepth 100000 in
theorem w_merchant_ok {l : Launch} (hfl : l.stackTraces = false) {D : jj_D} {n : Nat} {K : jj_K} {I : jj_I} {P : jj_P} {G : jj_G} {a1 a2 : Int32} {rmy : Room} {S : Option Value → jj_I → Prop} (hM : jj_Met l D yX5_merchant (jj_ws yX5_merchant cX5_merchant 3 (some .int)) rmy [.ref 1, .int a1, .int a2] n K I P G (jj_RS S n K P G) jj_noX) (hS : ∀ r J, S r J → ∃ v : Int32, r = some (.int v)) (hr : w_rb rmy) (hk1 : K 1 = some (5, 0)) (hk : K 161 = some (11, 1)) :
    jj_Met l D yL_merchant (jj_wsH yL_merchant cL_merchant 5 (some .int) [(0, 10, 13, 13)]) { frames := 9, cells := 1, slots := 6, locals := 160 } [.ref 1, .int a1, .int a2, .ref 161] n K I P G (w_ok S n K P G) jj_noX := by
  obtain ⟨r1, r2, r3, r4⟩ := hr
  refine jj_ofH hfl (by decide +kernel) [some (.ref 1), some (.int a1), some (.int a2), some (.ref 161), none] rfl rfl ?_
  intro X hXl hX hSt
  subst hXl
  refine jr_aload_n hX dL_merchant_0 rfl ?_
  refine jr_iconst (v := 0) hX dL_merchant_1 (by decide) ?_
  refine jr_aload_n hX dL_merchant_2 rfl ?_
  refine jr_iload_n hX dL_merchant_3 rfl ?_
  refine jr_iload_n hX dL_merchant_4 rfl ?_
  refine jr_rel (jr_runV hX hSt kM_L_46 hM rfl rfl hk1 ⟨_, _, rfl, by decide⟩ dL_merchant_5 (jj_rb (by dsimp only; omega) (by dsimp only; omega)) ⟨by dsimp only; omega, by dsimp only; omega⟩ rfl) ?_
  intro r I1 h1
  obtain ⟨v, rfl⟩ := hS r I1 h1
  simp only [Option.toList, List.cons_append, List.nil_append]
  refine jr_i2l hX dL_merchant_8 ?_
  refine jr_last hX hk (by decide) (show _ = nI 0 from rfl) (by decide) dL_merchant_9 ?_
  refine jr_goto (tgt := 17) hX dL_merchant_10 (by decide) ?_
  refine jr_iconst (v := 0) hX dL_merchant_17 (by decide) ?_
  exact jr_iret hX dL_merchant_18 (Nat.ble_eq.mpr (by dsimp only; omega)) (Nat.ble_eq.mpr (by dsimp only; omega)) ⟨rfl, rfl, rfl, rfl, v, h1, rfl⟩
set_option maxHeartbeats 4000000 in
set_option maxRecDepth 100000 in
theorem w_merchant_x0 {l : Launch} (hfl : l.stackTraces = false) {D : jj_D} {n : Nat} {K : jj_K} {I : jj_I} {P : jj_P} {G : jj_G} {a1 a2 : Int32} {rmy : Room} (hM : jj_Met l D yX5_merchant (jj_ws yX5_merchant cX5_merchant 3 (some .int)) rmy [.ref 1, .int a1, .int a2] n K I P G jj_noR (jj_E "java/lang/IndexOutOfBoundsException" n K I P G)) (hr : w_rb rmy) (hk1 : K 1 = some (5, 0)) (hk : K 161 = some (11, 1)) :
    jj_Met l D yL_merchant (jj_wsH yL_merchant cL_merchant 5 (some .int) [(0, 10, 13, 13)]) { frames := 9, cells := 1, slots := 6, locals := 160 } [.ref 1, .int a1, .int a2, .ref 161] n K I P G (w_x 1 n K I P G) jj_noX := by
  obtain ⟨r1, r2, r3, r4⟩ := hr
  refine jj_ofH hfl (by decide +kernel) [some (.ref 1), some (.int a1), some (.int a2), some (.ref 161), none] rfl rfl ?_
  intro X hXl hX hSt
  subst hXl
  refine jr_aload_n hX dL_merchant_0 rfl ?_
  refine jr_iconst (v := 0) hX dL_merchant_1 (by decide) ?_
  refine jr_aload_n hX dL_merchant_2 rfl ?_
  refine jr_iload_n hX dL_merchant_3 rfl ?_
  refine jr_iload_n hX dL_merchant_4 rfl ?_
  refine jr_gen (jr_runV hX hSt kM_L_46 hM rfl rfl hk1 ⟨_, _, rfl, by decide⟩ dL_merchant_5 (jj_rb (by dsimp only; omega) (by dsimp only; omega)) ⟨by dsimp only; omega, by dsimp only; omega⟩ rfl) (fun E n1 K1 I1 P1 G1 h => ?_) (fun _ _ _ _ _ _ h => h.elim)
  obtain ⟨rfl, hn, rfl, rfl, rfl, rfl⟩ := h
  refine jr_catch hX hSt [] ⟨0, 10, 13, 13⟩ [] rfl (fun z hz => absurd hz (by simp)) rfl (by decide) kw_397 (by simp [jj_trav]) dL_merchant_13 rfl rfl ?_
  refine jr_iconst (v := 1) hX dL_merchant_15 (by decide) ?_
  exact jr_iret hX dL_merchant_16 (Nat.ble_eq.mpr (by dsimp only; omega)) (Nat.ble_eq.mpr (by dsimp only; omega)) ⟨rfl, hn, rfl, rfl, rfl, rfl⟩
set_option maxHeartbeats 4000000 in
set_option maxRecDepth 100000 in
theorem w_build_ok {l : Launch} (hfl : l.stackTraces = false) {D : jj_D} {n : Nat} {K : jj_K} {I : jj_I} {P : jj_P} {G : jj_G} {a1 a2 a3 : Int32} {rmy : Room} {S : Option Value → jj_I → Prop} (hM : jj_Met l D yX5_build (jj_ws yX5_build cX5_build 5 (some .int)) rmy [.ref 1, .int a1, .int a2, .int a3] n K I P G (jj_RS S n K P G) jj_noX) (hS : ∀ r J, S r J → ∃ v : Int32, r = some (.int v)) (hr : w_rb rmy) (hk1 : K 1 = some (5, 0)) (hk : K 161 = some (11, 1)) :
    jj_Met l D yL_build (jj_wsH yL_build cL_build 6 (some .int) [(0, 12, 15, 13), (0, 12, 19, 15), (0, 12, 23, 20)]) { frames := 9, cells := 1, slots := 6, locals := 160 } [.ref 1, .int a1, .int a2, .int a3, .ref 161] n K I P G (w_ok S n K P G) jj_noX := by
  obtain ⟨r1, r2, r3, r4⟩ := hr
  refine jj_ofH hfl (by decide +kernel) [some (.ref 1), some (.int a1), some (.int a2), some (.int a3), some (.ref 161), none] rfl rfl ?_
  intro X hXl hX hSt
  subst hXl
  refine jr_aload hX dL_build_0 rfl ?_
  refine jr_iconst (v := 0) hX dL_build_2 (by decide) ?_
  refine jr_aload_n hX dL_build_3 rfl ?_
  refine jr_iload_n hX dL_build_4 rfl ?_
  refine jr_iload_n hX dL_build_5 rfl ?_
  refine jr_iload_n hX dL_build_6 rfl ?_
  refine jr_rel (jr_runV hX hSt kM_L_49 hM rfl rfl hk1 ⟨_, _, rfl, by decide⟩ dL_build_7 (jj_rb (by dsimp only; omega) (by dsimp only; omega)) ⟨by dsimp only; omega, by dsimp only; omega⟩ rfl) ?_
  intro r I1 h1
  obtain ⟨v, rfl⟩ := hS r I1 h1
  simp only [Option.toList, List.cons_append, List.nil_append]
  refine jr_i2l hX dL_build_10 ?_
  refine jr_last hX hk (by decide) (show _ = nI 0 from rfl) (by decide) dL_build_11 ?_
  refine jr_goto (tgt := 27) hX dL_build_12 (by decide) ?_
  refine jr_iconst (v := 0) hX dL_build_27 (by decide) ?_
  exact jr_iret hX dL_build_28 (Nat.ble_eq.mpr (by dsimp only; omega)) (Nat.ble_eq.mpr (by dsimp only; omega)) ⟨rfl, rfl, rfl, rfl, v, h1, rfl⟩
set_option maxHeartbeats 4000000 in
set_option maxRecDepth 100000 in
theorem w_build_x0 {l : Launch} (hfl : l.stackTraces = false) {D : jj_D} {n : Nat} {K : jj_K} {I : jj_I} {P : jj_P} {G : jj_G} {a1 a2 a3 : Int32} {rmy : Room} (hM : jj_Met l D yX5_build (jj_ws yX5_build cX5_build 5 (some .int)) rmy [.ref 1, .int a1, .int a2, .int a3] n K I P G jj_noR (jj_E "java/lang/IndexOutOfBoundsException" n K I P G)) (hr : w_rb rmy) (hk1 : K 1 = some (5, 0)) (hk : K 161 = some (11, 1)) :
    jj_Met l D yL_build (jj_wsH yL_build cL_build 6 (some .int) [(0, 12, 15, 13), (0, 12, 19, 15), (0, 12, 23, 20)]) { frames := 9, cells := 1, slots := 6, locals := 160 } [.ref 1, .int a1, .int a2, .int a3, .ref 161] n K I P G (w_x 1 n K I P G) jj_noX := by
  obtain ⟨r1, r2, r3, r4⟩ := hr
  refine jj_ofH hfl (by decide +kernel) [some (.ref 1), some (.int a1), some (.int a2), some (.int a3), some (.ref 161), none] rfl rfl ?_
  intro X hXl hX hSt
  subst hXl
  refine jr_aload hX dL_build_0 rfl ?_
  refine jr_iconst (v := 0) hX dL_build_2 (by decide) ?_
  refine jr_aload_n hX dL_build_3 rfl ?_
  refine jr_iload_n hX dL_build_4 rfl ?_
  refine jr_iload_n hX dL_build_5 rfl ?_
  refine jr_iload_n hX dL_build_6 rfl ?_
  refine jr_gen (jr_runV hX hSt kM_L_49 hM rfl rfl hk1 ⟨_, _, rfl, by decide⟩ dL_build_7 (jj_rb (by dsimp only; omega) (by dsimp only; omega)) ⟨by dsimp only; omega, by dsimp only; omega⟩ rfl) (fun E n1 K1 I1 P1 G1 h => ?_) (fun _ _ _ _ _ _ h => h.elim)
  obtain ⟨rfl, hn, rfl, rfl, rfl, rfl⟩ := h
  refine jr_catch hX hSt [] ⟨0, 12, 15, 13⟩ [⟨0, 12, 19, 15⟩, ⟨0, 12, 23, 20⟩] rfl (fun z hz => absurd hz (by simp)) rfl (by decide) kw_397 (by simp [jj_trav]) dL_build_15 rfl rfl ?_
  refine jr_iconst (v := 1) hX dL_build_17 (by decide) ?_
  exact jr_iret hX dL_build_18 (Nat.ble_eq.mpr (by dsimp only; omega)) (Nat.ble_eq.mpr (by dsimp only; omega)) ⟨rfl, hn, rfl, rfl, rfl, rfl⟩
set_option maxHeartbeats 4000000 in
set_option maxRecDepth 100000 in
theorem w_build_x1 {l : Launch} (hfl : l.stackTraces = false) {D : jj_D} {n : Nat} {K : jj_K} {I : jj_I} {P : jj_P} {G : jj_G} {a1 a2 a3 : Int32} {rmy : Room} (hM : jj_Met l D yX5_build (jj_ws yX5_build cX5_build 5 (some .int)) rmy [.ref 1, .int a1, .int a2, .int a3] n K I P G jj_noR (jj_E "java/lang/IllegalArgumentException" n K I P G)) (hr : w_rb rmy) (hk1 : K 1 = some (5, 0)) (hk : K 161 = some (11, 1)) :
    jj_Met l D yL_build (jj_wsH yL_build cL_build 6 (some .int) [(0, 12, 15, 13), (0, 12, 19, 15), (0, 12, 23, 20)]) { frames := 9, cells := 1, slots := 6, locals := 160 } [.ref 1, .int a1, .int a2, .int a3, .ref 161] n K I P G (w_x 2 n K I P G) jj_noX := by
  obtain ⟨r1, r2, r3, r4⟩ := hr
  refine jj_ofH hfl (by decide +kernel) [some (.ref 1), some (.int a1), some (.int a2), some (.int a3), some (.ref 161), none] rfl rfl ?_
  intro X hXl hX hSt
  subst hXl
  refine jr_aload hX dL_build_0 rfl ?_
  refine jr_iconst (v := 0) hX dL_build_2 (by decide) ?_
  refine jr_aload_n hX dL_build_3 rfl ?_
  refine jr_iload_n hX dL_build_4 rfl ?_
  refine jr_iload_n hX dL_build_5 rfl ?_
  refine jr_iload_n hX dL_build_6 rfl ?_
  refine jr_gen (jr_runV hX hSt kM_L_49 hM rfl rfl hk1 ⟨_, _, rfl, by decide⟩ dL_build_7 (jj_rb (by dsimp only; omega) (by dsimp only; omega)) ⟨by dsimp only; omega, by dsimp only; omega⟩ rfl) (fun E n1 K1 I1 P1 G1 h => ?_) (fun _ _ _ _ _ _ h => h.elim)
  obtain ⟨rfl, hn, rfl, rfl, rfl, rfl⟩ := h
  refine jr_catch hX hSt [⟨0, 12, 15, 13⟩] ⟨0, 12, 19, 15⟩ [⟨0, 12, 23, 20⟩] rfl (fun z hz => by
    rcases List.mem_singleton.mp hz with rfl
    exact ⟨by decide, "java/lang/IndexOutOfBoundsException", kw_397, by simp [jj_nc]⟩) rfl (by decide) kw_398 (by simp [jj_trav]) dL_build_19 rfl rfl ?_
  refine jr_iconst (v := 2) hX dL_build_21 (by decide) ?_
  exact jr_iret hX dL_build_22 (Nat.ble_eq.mpr (by dsimp only; omega)) (Nat.ble_eq.mpr (by dsimp only; omega)) ⟨rfl, hn, rfl, rfl, rfl, rfl⟩
set_option maxHeartbeats 4000000 in
set_option maxRecDepth 100000 in
theorem w_build_x2 {l : Launch} (hfl : l.stackTraces = false) {D : jj_D} {n : Nat} {K : jj_K} {I : jj_I} {P : jj_P} {G : jj_G} {a1 a2 a3 : Int32} {rmy : Room} (hM : jj_Met l D yX5_build (jj_ws yX5_build cX5_build 5 (some .int)) rmy [.ref 1, .int a1, .int a2, .int a3] n K I P G jj_noR (jj_E "java/lang/IllegalStateException" n K I P G)) (hr : w_rb rmy) (hk1 : K 1 = some (5, 0)) (hk : K 161 = some (11, 1)) :
    jj_Met l D yL_build (jj_wsH yL_build cL_build 6 (some .int) [(0, 12, 15, 13), (0, 12, 19, 15), (0, 12, 23, 20)]) { frames := 9, cells := 1, slots := 6, locals := 160 } [.ref 1, .int a1, .int a2, .int a3, .ref 161] n K I P G (w_x 3 n K I P G) jj_noX := by
  obtain ⟨r1, r2, r3, r4⟩ := hr
  refine jj_ofH hfl (by decide +kernel) [some (.ref 1), some (.int a1), some (.int a2), some (.int a3), some (.ref 161), none] rfl rfl ?_
  intro X hXl hX hSt
  subst hXl
  refine jr_aload hX dL_build_0 rfl ?_
  refine jr_iconst (v := 0) hX dL_build_2 (by decide) ?_
  refine jr_aload_n hX dL_build_3 rfl ?_
  refine jr_iload_n hX dL_build_4 rfl ?_
  refine jr_iload_n hX dL_build_5 rfl ?_
  refine jr_iload_n hX dL_build_6 rfl ?_
  refine jr_gen (jr_runV hX hSt kM_L_49 hM rfl rfl hk1 ⟨_, _, rfl, by decide⟩ dL_build_7 (jj_rb (by dsimp only; omega) (by dsimp only; omega)) ⟨by dsimp only; omega, by dsimp only; omega⟩ rfl) (fun E n1 K1 I1 P1 G1 h => ?_) (fun _ _ _ _ _ _ h => h.elim)
  obtain ⟨rfl, hn, rfl, rfl, rfl, rfl⟩ := h
  refine jr_catch hX hSt [⟨0, 12, 15, 13⟩, ⟨0, 12, 19, 15⟩] ⟨0, 12, 23, 20⟩ [] rfl (fun z hz => by
    simp only [List.mem_cons, List.not_mem_nil, or_false] at hz
    rcases hz with rfl | rfl
    · exact ⟨by decide, "java/lang/IndexOutOfBoundsException", kw_397, by simp [jj_nc]⟩
    · exact ⟨by decide, "java/lang/IllegalArgumentException", kw_398, by simp [jj_nc]⟩) rfl (by decide) kw_496 (by simp [jj_trav]) dL_build_23 rfl rfl ?_
  refine jr_iconst (v := 3) hX dL_build_25 (by decide) ?_
  exact jr_iret hX dL_build_26 (Nat.ble_eq.mpr (by dsimp only; omega)) (Nat.ble_eq.mpr (by dsimp only; omega)) ⟨rfl, hn, rfl, rfl, rfl, rfl⟩
set_option maxHeartbeats 4000000 in
set_option maxRecDepth 100000 in
theorem w_load_ok {l : Launch} (hfl : l.stackTraces = false) {D : jj_D} {n : Nat} {K : jj_K} {I : jj_I} {P : jj_P} {G : jj_G} {a1 a2 a3 : Int32} {rmy : Room} {S : Option Value → jj_I → Prop} (hM : jj_Met l D yX5_load (jj_ws yX5_load cX5_load 7 (some .int)) rmy [.ref 1, .int a1, .int a2, .int a3] n K I P G (jj_RS S n K P G) jj_noX) (hS : ∀ r J, S r J → ∃ v : Int32, r = some (.int v)) (hr : w_rb rmy) (hk1 : K 1 = some (5, 0)) (hk : K 161 = some (11, 1)) :
    jj_Met l D yL_load (jj_wsH yL_load cL_load 6 (some .int) [(0, 12, 15, 13), (0, 12, 19, 15), (0, 12, 23, 20)]) { frames := 9, cells := 1, slots := 6, locals := 160 } [.ref 1, .int a1, .int a2, .int a3, .ref 161] n K I P G (w_ok S n K P G) jj_noX := by
  obtain ⟨r1, r2, r3, r4⟩ := hr
  refine jj_ofH hfl (by decide +kernel) [some (.ref 1), some (.int a1), some (.int a2), some (.int a3), some (.ref 161), none] rfl rfl ?_
  intro X hXl hX hSt
  subst hXl
  refine jr_aload hX dL_load_0 rfl ?_
  refine jr_iconst (v := 0) hX dL_load_2 (by decide) ?_
  refine jr_aload_n hX dL_load_3 rfl ?_
  refine jr_iload_n hX dL_load_4 rfl ?_
  refine jr_iload_n hX dL_load_5 rfl ?_
  refine jr_iload_n hX dL_load_6 rfl ?_
  refine jr_rel (jr_runV hX hSt kM_L_52 hM rfl rfl hk1 ⟨_, _, rfl, by decide⟩ dL_load_7 (jj_rb (by dsimp only; omega) (by dsimp only; omega)) ⟨by dsimp only; omega, by dsimp only; omega⟩ rfl) ?_
  intro r I1 h1
  obtain ⟨v, rfl⟩ := hS r I1 h1
  simp only [Option.toList, List.cons_append, List.nil_append]
  refine jr_i2l hX dL_load_10 ?_
  refine jr_last hX hk (by decide) (show _ = nI 0 from rfl) (by decide) dL_load_11 ?_
  refine jr_goto (tgt := 27) hX dL_load_12 (by decide) ?_
  refine jr_iconst (v := 0) hX dL_load_27 (by decide) ?_
  exact jr_iret hX dL_load_28 (Nat.ble_eq.mpr (by dsimp only; omega)) (Nat.ble_eq.mpr (by dsimp only; omega)) ⟨rfl, rfl, rfl, rfl, v, h1, rfl⟩
set_option maxHeartbeats 4000000 in
set_option maxRecDepth 100000 in
theorem w_load_x0 {l : Launch} (hfl : l.stackTraces = false) {D : jj_D} {n : Nat} {K : jj_K} {I : jj_I} {P : jj_P} {G : jj_G} {a1 a2 a3 : Int32} {rmy : Room} (hM : jj_Met l D yX5_load (jj_ws yX5_load cX5_load 7 (some .int)) rmy [.ref 1, .int a1, .int a2, .int a3] n K I P G jj_noR (jj_E "java/lang/IndexOutOfBoundsException" n K I P G)) (hr : w_rb rmy) (hk1 : K 1 = some (5, 0)) (hk : K 161 = some (11, 1)) :
    jj_Met l D yL_load (jj_wsH yL_load cL_load 6 (some .int) [(0, 12, 15, 13), (0, 12, 19, 15), (0, 12, 23, 20)]) { frames := 9, cells := 1, slots := 6, locals := 160 } [.ref 1, .int a1, .int a2, .int a3, .ref 161] n K I P G (w_x 1 n K I P G) jj_noX := by
  obtain ⟨r1, r2, r3, r4⟩ := hr
  refine jj_ofH hfl (by decide +kernel) [some (.ref 1), some (.int a1), some (.int a2), some (.int a3), some (.ref 161), none] rfl rfl ?_
  intro X hXl hX hSt
  subst hXl
  refine jr_aload hX dL_load_0 rfl ?_
  refine jr_iconst (v := 0) hX dL_load_2 (by decide) ?_
  refine jr_aload_n hX dL_load_3 rfl ?_
  refine jr_iload_n hX dL_load_4 rfl ?_
  refine jr_iload_n hX dL_load_5 rfl ?_
  refine jr_iload_n hX dL_load_6 rfl ?_
  refine jr_gen (jr_runV hX hSt kM_L_52 hM rfl rfl hk1 ⟨_, _, rfl, by decide⟩ dL_load_7 (jj_rb (by dsimp only; omega) (by dsimp only; omega)) ⟨by dsimp only; omega, by dsimp only; omega⟩ rfl) (fun E n1 K1 I1 P1 G1 h => ?_) (fun _ _ _ _ _ _ h => h.elim)
  obtain ⟨rfl, hn, rfl, rfl, rfl, rfl⟩ := h
  refine jr_catch hX hSt [] ⟨0, 12, 15, 13⟩ [⟨0, 12, 19, 15⟩, ⟨0, 12, 23, 20⟩] rfl (fun z hz => absurd hz (by simp)) rfl (by decide) kw_397 (by simp [jj_trav]) dL_load_15 rfl rfl ?_
  refine jr_iconst (v := 1) hX dL_load_17 (by decide) ?_
  exact jr_iret hX dL_load_18 (Nat.ble_eq.mpr (by dsimp only; omega)) (Nat.ble_eq.mpr (by dsimp only; omega)) ⟨rfl, hn, rfl, rfl, rfl, rfl⟩
set_option maxHeartbeats 4000000 in
set_option maxRecDepth 100000 in
theorem w_load_x1 {l : Launch} (hfl : l.stackTraces = false) {D : jj_D} {n : Nat} {K : jj_K} {I : jj_I} {P : jj_P} {G : jj_G} {a1 a2 a3 : Int32} {rmy : Room} (hM : jj_Met l D yX5_load (jj_ws yX5_load cX5_load 7 (some .int)) rmy [.ref 1, .int a1, .int a2, .int a3] n K I P G jj_noR (jj_E "java/lang/IllegalArgumentException" n K I P G)) (hr : w_rb rmy) (hk1 : K 1 = some (5, 0)) (hk : K 161 = some (11, 1)) :
    jj_Met l D yL_load (jj_wsH yL_load cL_load 6 (some .int) [(0, 12, 15, 13), (0, 12, 19, 15), (0, 12, 23, 20)]) { frames := 9, cells := 1, slots := 6, locals := 160 } [.ref 1, .int a1, .int a2, .int a3, .ref 161] n K I P G (w_x 2 n K I P G) jj_noX := by
  obtain ⟨r1, r2, r3, r4⟩ := hr
  refine jj_ofH hfl (by decide +kernel) [some (.ref 1), some (.int a1), some (.int a2), some (.int a3), some (.ref 161), none] rfl rfl ?_
  intro X hXl hX hSt
  subst hXl
  refine jr_aload hX dL_load_0 rfl ?_
  refine jr_iconst (v := 0) hX dL_load_2 (by decide) ?_
  refine jr_aload_n hX dL_load_3 rfl ?_
  refine jr_iload_n hX dL_load_4 rfl ?_
  refine jr_iload_n hX dL_load_5 rfl ?_
  refine jr_iload_n hX dL_load_6 rfl ?_
  refine jr_gen (jr_runV hX hSt kM_L_52 hM rfl rfl hk1 ⟨_, _, rfl, by decide⟩ dL_load_7 (jj_rb (by dsimp only; omega) (by dsimp only; omega)) ⟨by dsimp only; omega, by dsimp only; omega⟩ rfl) (fun E n1 K1 I1 P1 G1 h => ?_) (fun _ _ _ _ _ _ h => h.elim)
  obtain ⟨rfl, hn, rfl, rfl, rfl, rfl⟩ := h
  refine jr_catch hX hSt [⟨0, 12, 15, 13⟩] ⟨0, 12, 19, 15⟩ [⟨0, 12, 23, 20⟩] rfl (fun z hz => by
    rcases List.mem_singleton.mp hz with rfl
    exact ⟨by decide, "java/lang/IndexOutOfBoundsException", kw_397, by simp [jj_nc]⟩) rfl (by decide) kw_398 (by simp [jj_trav]) dL_load_19 rfl rfl ?_
  refine jr_iconst (v := 2) hX dL_load_21 (by decide) ?_
  exact jr_iret hX dL_load_22 (Nat.ble_eq.mpr (by dsimp only; omega)) (Nat.ble_eq.mpr (by dsimp only; omega)) ⟨rfl, hn, rfl, rfl, rfl, rfl⟩
set_option maxHeartbeats 4000000 in
set_option maxRecDepth 100000 in
theorem w_load_x2 {l : Launch} (hfl : l.stackTraces = false) {D : jj_D} {n : Nat} {K : jj_K} {I : jj_I} {P : jj_P} {G : jj_G} {a1 a2 a3 : Int32} {rmy : Room} (hM : jj_Met l D yX5_load (jj_ws yX5_load cX5_load 7 (some .int)) rmy [.ref 1, .int a1, .int a2, .int a3] n K I P G jj_noR (jj_E "java/lang/IllegalStateException" n K I P G)) (hr : w_rb rmy) (hk1 : K 1 = some (5, 0)) (hk : K 161 = some (11, 1)) :
    jj_Met l D yL_load (jj_wsH yL_load cL_load 6 (some .int) [(0, 12, 15, 13), (0, 12, 19, 15), (0, 12, 23, 20)]) { frames := 9, cells := 1, slots := 6, locals := 160 } [.ref 1, .int a1, .int a2, .int a3, .ref 161] n K I P G (w_x 3 n K I P G) jj_noX := by
  obtain ⟨r1, r2, r3, r4⟩ := hr
  refine jj_ofH hfl (by decide +kernel) [some (.ref 1), some (.int a1), some (.int a2), some (.int a3), some (.ref 161), none] rfl rfl ?_
  intro X hXl hX hSt
  subst hXl
  refine jr_aload hX dL_load_0 rfl ?_
  refine jr_iconst (v := 0) hX dL_load_2 (by decide) ?_
  refine jr_aload_n hX dL_load_3 rfl ?_
  refine jr_iload_n hX dL_load_4 rfl ?_
  refine jr_iload_n hX dL_load_5 rfl ?_
  refine jr_iload_n hX dL_load_6 rfl ?_
  refine jr_gen (jr_runV hX hSt kM_L_52 hM rfl rfl hk1 ⟨_, _, rfl, by decide⟩ dL_load_7 (jj_rb (by dsimp only; omega) (by dsimp only; omega)) ⟨by dsimp only; omega, by dsimp only; omega⟩ rfl) (fun E n1 K1 I1 P1 G1 h => ?_) (fun _ _ _ _ _ _ h => h.elim)
  obtain ⟨rfl, hn, rfl, rfl, rfl, rfl⟩ := h
  refine jr_catch hX hSt [⟨0, 12, 15, 13⟩, ⟨0, 12, 19, 15⟩] ⟨0, 12, 23, 20⟩ [] rfl (fun z hz => by
    simp only [List.mem_cons, List.not_mem_nil, or_false] at hz
    rcases hz with rfl | rfl
    · exact ⟨by decide, "java/lang/IndexOutOfBoundsException", kw_397, by simp [jj_nc]⟩
    · exact ⟨by decide, "java/lang/IllegalArgumentException", kw_398, by simp [jj_nc]⟩) rfl (by decide) kw_496 (by simp [jj_trav]) dL_load_23 rfl rfl ?_
  refine jr_iconst (v := 3) hX dL_load_25 (by decide) ?_
  exact jr_iret hX dL_load_26 (Nat.ble_eq.mpr (by dsimp only; omega)) (Nat.ble_eq.mpr (by dsimp only; omega)) ⟨rfl, hn, rfl, rfl, rfl, rfl⟩
set_option maxHeartbeats 4000000 in
set_option maxRecDepth 100000 in
theorem w_send_ok {l : Launch} (hfl : l.stackTraces = false) {D : jj_D} {n : Nat} {K : jj_K} {I : jj_I} {P : jj_P} {G : jj_G} {a1 a2 : Int32} {rmy : Room} {S : Option Value → jj_I → Prop} (hM : jj_Met l D yX5_send (jj_ws yX5_send cX5_send 4 (some .int)) rmy [.ref 1, .int a1, .int a2] n K I P G (jj_RS S n K P G) jj_noX) (hS : ∀ r J, S r J → ∃ v : Int32, r = some (.int v)) (hr : w_rb rmy) (hk1 : K 1 = some (5, 0)) (hk : K 161 = some (11, 1)) :
    jj_Met l D yL_send (jj_wsH yL_send cL_send 5 (some .int) [(0, 10, 13, 13), (0, 10, 17, 20)]) { frames := 9, cells := 1, slots := 6, locals := 160 } [.ref 1, .int a1, .int a2, .ref 161] n K I P G (w_ok S n K P G) jj_noX := by
  obtain ⟨r1, r2, r3, r4⟩ := hr
  refine jj_ofH hfl (by decide +kernel) [some (.ref 1), some (.int a1), some (.int a2), some (.ref 161), none] rfl rfl ?_
  intro X hXl hX hSt
  subst hXl
  refine jr_aload_n hX dL_send_0 rfl ?_
  refine jr_iconst (v := 0) hX dL_send_1 (by decide) ?_
  refine jr_aload_n hX dL_send_2 rfl ?_
  refine jr_iload_n hX dL_send_3 rfl ?_
  refine jr_iload_n hX dL_send_4 rfl ?_
  refine jr_rel (jr_runV hX hSt kM_L_55 hM rfl rfl hk1 ⟨_, _, rfl, by decide⟩ dL_send_5 (jj_rb (by dsimp only; omega) (by dsimp only; omega)) ⟨by dsimp only; omega, by dsimp only; omega⟩ rfl) ?_
  intro r I1 h1
  obtain ⟨v, rfl⟩ := hS r I1 h1
  simp only [Option.toList, List.cons_append, List.nil_append]
  refine jr_i2l hX dL_send_8 ?_
  refine jr_last hX hk (by decide) (show _ = nI 0 from rfl) (by decide) dL_send_9 ?_
  refine jr_goto (tgt := 21) hX dL_send_10 (by decide) ?_
  refine jr_iconst (v := 0) hX dL_send_21 (by decide) ?_
  exact jr_iret hX dL_send_22 (Nat.ble_eq.mpr (by dsimp only; omega)) (Nat.ble_eq.mpr (by dsimp only; omega)) ⟨rfl, rfl, rfl, rfl, v, h1, rfl⟩
set_option maxHeartbeats 4000000 in
set_option maxRecDepth 100000 in
theorem w_send_x0 {l : Launch} (hfl : l.stackTraces = false) {D : jj_D} {n : Nat} {K : jj_K} {I : jj_I} {P : jj_P} {G : jj_G} {a1 a2 : Int32} {rmy : Room} (hM : jj_Met l D yX5_send (jj_ws yX5_send cX5_send 4 (some .int)) rmy [.ref 1, .int a1, .int a2] n K I P G jj_noR (jj_E "java/lang/IndexOutOfBoundsException" n K I P G)) (hr : w_rb rmy) (hk1 : K 1 = some (5, 0)) (hk : K 161 = some (11, 1)) :
    jj_Met l D yL_send (jj_wsH yL_send cL_send 5 (some .int) [(0, 10, 13, 13), (0, 10, 17, 20)]) { frames := 9, cells := 1, slots := 6, locals := 160 } [.ref 1, .int a1, .int a2, .ref 161] n K I P G (w_x 1 n K I P G) jj_noX := by
  obtain ⟨r1, r2, r3, r4⟩ := hr
  refine jj_ofH hfl (by decide +kernel) [some (.ref 1), some (.int a1), some (.int a2), some (.ref 161), none] rfl rfl ?_
  intro X hXl hX hSt
  subst hXl
  refine jr_aload_n hX dL_send_0 rfl ?_
  refine jr_iconst (v := 0) hX dL_send_1 (by decide) ?_
  refine jr_aload_n hX dL_send_2 rfl ?_
  refine jr_iload_n hX dL_send_3 rfl ?_
  refine jr_iload_n hX dL_send_4 rfl ?_
  refine jr_gen (jr_runV hX hSt kM_L_55 hM rfl rfl hk1 ⟨_, _, rfl, by decide⟩ dL_send_5 (jj_rb (by dsimp only; omega) (by dsimp only; omega)) ⟨by dsimp only; omega, by dsimp only; omega⟩ rfl) (fun E n1 K1 I1 P1 G1 h => ?_) (fun _ _ _ _ _ _ h => h.elim)
  obtain ⟨rfl, hn, rfl, rfl, rfl, rfl⟩ := h
  refine jr_catch hX hSt [] ⟨0, 10, 13, 13⟩ [⟨0, 10, 17, 20⟩] rfl (fun z hz => absurd hz (by simp)) rfl (by decide) kw_397 (by simp [jj_trav]) dL_send_13 rfl rfl ?_
  refine jr_iconst (v := 1) hX dL_send_15 (by decide) ?_
  exact jr_iret hX dL_send_16 (Nat.ble_eq.mpr (by dsimp only; omega)) (Nat.ble_eq.mpr (by dsimp only; omega)) ⟨rfl, hn, rfl, rfl, rfl, rfl⟩
set_option maxHeartbeats 4000000 in
set_option maxRecDepth 100000 in
theorem w_send_x1 {l : Launch} (hfl : l.stackTraces = false) {D : jj_D} {n : Nat} {K : jj_K} {I : jj_I} {P : jj_P} {G : jj_G} {a1 a2 : Int32} {rmy : Room} (hM : jj_Met l D yX5_send (jj_ws yX5_send cX5_send 4 (some .int)) rmy [.ref 1, .int a1, .int a2] n K I P G jj_noR (jj_E "java/lang/IllegalStateException" n K I P G)) (hr : w_rb rmy) (hk1 : K 1 = some (5, 0)) (hk : K 161 = some (11, 1)) :
    jj_Met l D yL_send (jj_wsH yL_send cL_send 5 (some .int) [(0, 10, 13, 13), (0, 10, 17, 20)]) { frames := 9, cells := 1, slots := 6, locals := 160 } [.ref 1, .int a1, .int a2, .ref 161] n K I P G (w_x 2 n K I P G) jj_noX := by
  obtain ⟨r1, r2, r3, r4⟩ := hr
  refine jj_ofH hfl (by decide +kernel) [some (.ref 1), some (.int a1), some (.int a2), some (.ref 161), none] rfl rfl ?_
  intro X hXl hX hSt
  subst hXl
  refine jr_aload_n hX dL_send_0 rfl ?_
  refine jr_iconst (v := 0) hX dL_send_1 (by decide) ?_
  refine jr_aload_n hX dL_send_2 rfl ?_
  refine jr_iload_n hX dL_send_3 rfl ?_
  refine jr_iload_n hX dL_send_4 rfl ?_
  refine jr_gen (jr_runV hX hSt kM_L_55 hM rfl rfl hk1 ⟨_, _, rfl, by decide⟩ dL_send_5 (jj_rb (by dsimp only; omega) (by dsimp only; omega)) ⟨by dsimp only; omega, by dsimp only; omega⟩ rfl) (fun E n1 K1 I1 P1 G1 h => ?_) (fun _ _ _ _ _ _ h => h.elim)
  obtain ⟨rfl, hn, rfl, rfl, rfl, rfl⟩ := h
  refine jr_catch hX hSt [⟨0, 10, 13, 13⟩] ⟨0, 10, 17, 20⟩ [] rfl (fun z hz => by
    rcases List.mem_singleton.mp hz with rfl
    exact ⟨by decide, "java/lang/IndexOutOfBoundsException", kw_397, by simp [jj_nc]⟩) rfl (by decide) kw_496 (by simp [jj_trav]) dL_send_17 rfl rfl ?_
  refine jr_iconst (v := 2) hX dL_send_19 (by decide) ?_
  exact jr_iret hX dL_send_20 (Nat.ble_eq.mpr (by dsimp only; omega)) (Nat.ble_eq.mpr (by dsimp only; omega)) ⟨rfl, hn, rfl, rfl, rfl, rfl⟩
set_option maxHeartbeats 4000000 in
set_option maxRecDepth 100000 in
theorem w_berth_ok {l : Launch} (hfl : l.stackTraces = false) {D : jj_D} {n : Nat} {K : jj_K} {I : jj_I} {P : jj_P} {G : jj_G} {a1 a2 : Int32} {rmy : Room} {S : Option Value → jj_I → Prop} (hM : jj_Met l D yX5_berth (jj_ws yX5_berth cX5_berth 4 (some .int)) rmy [.ref 1, .int a1, .int a2] n K I P G (jj_RS S n K P G) jj_noX) (hS : ∀ r J, S r J → ∃ v : Int32, r = some (.int v)) (hr : w_rb rmy) (hk1 : K 1 = some (5, 0)) (hk : K 161 = some (11, 1)) :
    jj_Met l D yL_berth (jj_wsH yL_berth cL_berth 5 (some .int) [(0, 10, 13, 13), (0, 10, 17, 20)]) { frames := 9, cells := 1, slots := 6, locals := 160 } [.ref 1, .int a1, .int a2, .ref 161] n K I P G (w_ok S n K P G) jj_noX := by
  obtain ⟨r1, r2, r3, r4⟩ := hr
  refine jj_ofH hfl (by decide +kernel) [some (.ref 1), some (.int a1), some (.int a2), some (.ref 161), none] rfl rfl ?_
  intro X hXl hX hSt
  subst hXl
  refine jr_aload_n hX dL_berth_0 rfl ?_
  refine jr_iconst (v := 0) hX dL_berth_1 (by decide) ?_
  refine jr_aload_n hX dL_berth_2 rfl ?_
  refine jr_iload_n hX dL_berth_3 rfl ?_
  refine jr_iload_n hX dL_berth_4 rfl ?_
  refine jr_rel (jr_runV hX hSt kM_L_58 hM rfl rfl hk1 ⟨_, _, rfl, by decide⟩ dL_berth_5 (jj_rb (by dsimp only; omega) (by dsimp only; omega)) ⟨by dsimp only; omega, by dsimp only; omega⟩ rfl) ?_
  intro r I1 h1
  obtain ⟨v, rfl⟩ := hS r I1 h1
  simp only [Option.toList, List.cons_append, List.nil_append]
  refine jr_i2l hX dL_berth_8 ?_
  refine jr_last hX hk (by decide) (show _ = nI 0 from rfl) (by decide) dL_berth_9 ?_
  refine jr_goto (tgt := 21) hX dL_berth_10 (by decide) ?_
  refine jr_iconst (v := 0) hX dL_berth_21 (by decide) ?_
  exact jr_iret hX dL_berth_22 (Nat.ble_eq.mpr (by dsimp only; omega)) (Nat.ble_eq.mpr (by dsimp only; omega)) ⟨rfl, rfl, rfl, rfl, v, h1, rfl⟩
set_option maxHeartbeats 4000000 in
set_option maxRecDepth 100000 in
theorem w_berth_x0 {l : Launch} (hfl : l.stackTraces = false) {D : jj_D} {n : Nat} {K : jj_K} {I : jj_I} {P : jj_P} {G : jj_G} {a1 a2 : Int32} {rmy : Room} (hM : jj_Met l D yX5_berth (jj_ws yX5_berth cX5_berth 4 (some .int)) rmy [.ref 1, .int a1, .int a2] n K I P G jj_noR (jj_E "java/lang/IndexOutOfBoundsException" n K I P G)) (hr : w_rb rmy) (hk1 : K 1 = some (5, 0)) (hk : K 161 = some (11, 1)) :
    jj_Met l D yL_berth (jj_wsH yL_berth cL_berth 5 (some .int) [(0, 10, 13, 13), (0, 10, 17, 20)]) { frames := 9, cells := 1, slots := 6, locals := 160 } [.ref 1, .int a1, .int a2, .ref 161] n K I P G (w_x 1 n K I P G) jj_noX := by
  obtain ⟨r1, r2, r3, r4⟩ := hr
  refine jj_ofH hfl (by decide +kernel) [some (.ref 1), some (.int a1), some (.int a2), some (.ref 161), none] rfl rfl ?_
  intro X hXl hX hSt
  subst hXl
  refine jr_aload_n hX dL_berth_0 rfl ?_
  refine jr_iconst (v := 0) hX dL_berth_1 (by decide) ?_
  refine jr_aload_n hX dL_berth_2 rfl ?_
  refine jr_iload_n hX dL_berth_3 rfl ?_
  refine jr_iload_n hX dL_berth_4 rfl ?_
  refine jr_gen (jr_runV hX hSt kM_L_58 hM rfl rfl hk1 ⟨_, _, rfl, by decide⟩ dL_berth_5 (jj_rb (by dsimp only; omega) (by dsimp only; omega)) ⟨by dsimp only; omega, by dsimp only; omega⟩ rfl) (fun E n1 K1 I1 P1 G1 h => ?_) (fun _ _ _ _ _ _ h => h.elim)
  obtain ⟨rfl, hn, rfl, rfl, rfl, rfl⟩ := h
  refine jr_catch hX hSt [] ⟨0, 10, 13, 13⟩ [⟨0, 10, 17, 20⟩] rfl (fun z hz => absurd hz (by simp)) rfl (by decide) kw_397 (by simp [jj_trav]) dL_berth_13 rfl rfl ?_
  refine jr_iconst (v := 1) hX dL_berth_15 (by decide) ?_
  exact jr_iret hX dL_berth_16 (Nat.ble_eq.mpr (by dsimp only; omega)) (Nat.ble_eq.mpr (by dsimp only; omega)) ⟨rfl, hn, rfl, rfl, rfl, rfl⟩
set_option maxHeartbeats 4000000 in
set_option maxRecDepth 100000 in
theorem w_berth_x1 {l : Launch} (hfl : l.stackTraces = false) {D : jj_D} {n : Nat} {K : jj_K} {I : jj_I} {P : jj_P} {G : jj_G} {a1 a2 : Int32} {rmy : Room} (hM : jj_Met l D yX5_berth (jj_ws yX5_berth cX5_berth 4 (some .int)) rmy [.ref 1, .int a1, .int a2] n K I P G jj_noR (jj_E "java/lang/IllegalStateException" n K I P G)) (hr : w_rb rmy) (hk1 : K 1 = some (5, 0)) (hk : K 161 = some (11, 1)) :
    jj_Met l D yL_berth (jj_wsH yL_berth cL_berth 5 (some .int) [(0, 10, 13, 13), (0, 10, 17, 20)]) { frames := 9, cells := 1, slots := 6, locals := 160 } [.ref 1, .int a1, .int a2, .ref 161] n K I P G (w_x 2 n K I P G) jj_noX := by
  obtain ⟨r1, r2, r3, r4⟩ := hr
  refine jj_ofH hfl (by decide +kernel) [some (.ref 1), some (.int a1), some (.int a2), some (.ref 161), none] rfl rfl ?_
  intro X hXl hX hSt
  subst hXl
  refine jr_aload_n hX dL_berth_0 rfl ?_
  refine jr_iconst (v := 0) hX dL_berth_1 (by decide) ?_
  refine jr_aload_n hX dL_berth_2 rfl ?_
  refine jr_iload_n hX dL_berth_3 rfl ?_
  refine jr_iload_n hX dL_berth_4 rfl ?_
  refine jr_gen (jr_runV hX hSt kM_L_58 hM rfl rfl hk1 ⟨_, _, rfl, by decide⟩ dL_berth_5 (jj_rb (by dsimp only; omega) (by dsimp only; omega)) ⟨by dsimp only; omega, by dsimp only; omega⟩ rfl) (fun E n1 K1 I1 P1 G1 h => ?_) (fun _ _ _ _ _ _ h => h.elim)
  obtain ⟨rfl, hn, rfl, rfl, rfl, rfl⟩ := h
  refine jr_catch hX hSt [⟨0, 10, 13, 13⟩] ⟨0, 10, 17, 20⟩ [] rfl (fun z hz => by
    rcases List.mem_singleton.mp hz with rfl
    exact ⟨by decide, "java/lang/IndexOutOfBoundsException", kw_397, by simp [jj_nc]⟩) rfl (by decide) kw_496 (by simp [jj_trav]) dL_berth_17 rfl rfl ?_
  refine jr_iconst (v := 2) hX dL_berth_19 (by decide) ?_
  exact jr_iret hX dL_berth_20 (Nat.ble_eq.mpr (by dsimp only; omega)) (Nat.ble_eq.mpr (by dsimp only; omega)) ⟨rfl, hn, rfl, rfl, rfl, rfl⟩
set_option maxHeartbeats 4000000 in
set_option maxRecDepth 100000 in
theorem w_mend_ok {l : Launch} (hfl : l.stackTraces = false) {D : jj_D} {n : Nat} {K : jj_K} {I : jj_I} {P : jj_P} {G : jj_G} {a1 : Int32} {rmy : Room} {S : Option Value → jj_I → Prop} (hM : jj_Met l D yX5_mend (jj_ws yX5_mend cX5_mend 5 (some .int)) rmy [.ref 1, .int a1] n K I P G (jj_RS S n K P G) jj_noX) (hS : ∀ r J, S r J → ∃ v : Int32, r = some (.int v)) (hr : w_rb rmy) (hk1 : K 1 = some (5, 0)) (hk : K 161 = some (11, 1)) :
    jj_Met l D yL_mend (jj_wsH yL_mend cL_mend 4 (some .int) [(0, 9, 12, 13), (0, 9, 15, 20)]) { frames := 9, cells := 1, slots := 6, locals := 160 } [.ref 1, .int a1, .ref 161] n K I P G (w_ok S n K P G) jj_noX := by
  obtain ⟨r1, r2, r3, r4⟩ := hr
  refine jj_ofH hfl (by decide +kernel) [some (.ref 1), some (.int a1), some (.ref 161), none] rfl rfl ?_
  intro X hXl hX hSt
  subst hXl
  refine jr_aload_n hX dL_mend_0 rfl ?_
  refine jr_iconst (v := 0) hX dL_mend_1 (by decide) ?_
  refine jr_aload_n hX dL_mend_2 rfl ?_
  refine jr_iload_n hX dL_mend_3 rfl ?_
  refine jr_rel (jr_runV hX hSt kM_L_62 hM rfl rfl hk1 ⟨_, _, rfl, by decide⟩ dL_mend_4 (jj_rb (by dsimp only; omega) (by dsimp only; omega)) ⟨by dsimp only; omega, by dsimp only; omega⟩ rfl) ?_
  intro r I1 h1
  obtain ⟨v, rfl⟩ := hS r I1 h1
  simp only [Option.toList, List.cons_append, List.nil_append]
  refine jr_i2l hX dL_mend_7 ?_
  refine jr_last hX hk (by decide) (show _ = nI 0 from rfl) (by decide) dL_mend_8 ?_
  refine jr_goto (tgt := 18) hX dL_mend_9 (by decide) ?_
  refine jr_iconst (v := 0) hX dL_mend_18 (by decide) ?_
  exact jr_iret hX dL_mend_19 (Nat.ble_eq.mpr (by dsimp only; omega)) (Nat.ble_eq.mpr (by dsimp only; omega)) ⟨rfl, rfl, rfl, rfl, v, h1, rfl⟩
set_option maxHeartbeats 4000000 in
set_option maxRecDepth 100000 in
theorem w_mend_x0 {l : Launch} (hfl : l.stackTraces = false) {D : jj_D} {n : Nat} {K : jj_K} {I : jj_I} {P : jj_P} {G : jj_G} {a1 : Int32} {rmy : Room} (hM : jj_Met l D yX5_mend (jj_ws yX5_mend cX5_mend 5 (some .int)) rmy [.ref 1, .int a1] n K I P G jj_noR (jj_E "java/lang/IndexOutOfBoundsException" n K I P G)) (hr : w_rb rmy) (hk1 : K 1 = some (5, 0)) (hk : K 161 = some (11, 1)) :
    jj_Met l D yL_mend (jj_wsH yL_mend cL_mend 4 (some .int) [(0, 9, 12, 13), (0, 9, 15, 20)]) { frames := 9, cells := 1, slots := 6, locals := 160 } [.ref 1, .int a1, .ref 161] n K I P G (w_x 1 n K I P G) jj_noX := by
  obtain ⟨r1, r2, r3, r4⟩ := hr
  refine jj_ofH hfl (by decide +kernel) [some (.ref 1), some (.int a1), some (.ref 161), none] rfl rfl ?_
  intro X hXl hX hSt
  subst hXl
  refine jr_aload_n hX dL_mend_0 rfl ?_
  refine jr_iconst (v := 0) hX dL_mend_1 (by decide) ?_
  refine jr_aload_n hX dL_mend_2 rfl ?_
  refine jr_iload_n hX dL_mend_3 rfl ?_
  refine jr_gen (jr_runV hX hSt kM_L_62 hM rfl rfl hk1 ⟨_, _, rfl, by decide⟩ dL_mend_4 (jj_rb (by dsimp only; omega) (by dsimp only; omega)) ⟨by dsimp only; omega, by dsimp only; omega⟩ rfl) (fun E n1 K1 I1 P1 G1 h => ?_) (fun _ _ _ _ _ _ h => h.elim)
  obtain ⟨rfl, hn, rfl, rfl, rfl, rfl⟩ := h
  refine jr_catch_n hX hSt [] ⟨0, 9, 12, 13⟩ [⟨0, 9, 15, 20⟩] rfl (fun z hz => absurd hz (by simp)) rfl (by decide) kw_397 (by simp [jj_trav]) dL_mend_12 rfl rfl ?_
  refine jr_iconst (v := 1) hX dL_mend_13 (by decide) ?_
  exact jr_iret hX dL_mend_14 (Nat.ble_eq.mpr (by dsimp only; omega)) (Nat.ble_eq.mpr (by dsimp only; omega)) ⟨rfl, hn, rfl, rfl, rfl, rfl⟩
set_option maxHeartbeats 4000000 in
set_option maxRecDepth 100000 in
theorem w_mend_x1 {l : Launch} (hfl : l.stackTraces = false) {D : jj_D} {n : Nat} {K : jj_K} {I : jj_I} {P : jj_P} {G : jj_G} {a1 : Int32} {rmy : Room} (hM : jj_Met l D yX5_mend (jj_ws yX5_mend cX5_mend 5 (some .int)) rmy [.ref 1, .int a1] n K I P G jj_noR (jj_E "java/lang/IllegalStateException" n K I P G)) (hr : w_rb rmy) (hk1 : K 1 = some (5, 0)) (hk : K 161 = some (11, 1)) :
    jj_Met l D yL_mend (jj_wsH yL_mend cL_mend 4 (some .int) [(0, 9, 12, 13), (0, 9, 15, 20)]) { frames := 9, cells := 1, slots := 6, locals := 160 } [.ref 1, .int a1, .ref 161] n K I P G (w_x 2 n K I P G) jj_noX := by
  obtain ⟨r1, r2, r3, r4⟩ := hr
  refine jj_ofH hfl (by decide +kernel) [some (.ref 1), some (.int a1), some (.ref 161), none] rfl rfl ?_
  intro X hXl hX hSt
  subst hXl
  refine jr_aload_n hX dL_mend_0 rfl ?_
  refine jr_iconst (v := 0) hX dL_mend_1 (by decide) ?_
  refine jr_aload_n hX dL_mend_2 rfl ?_
  refine jr_iload_n hX dL_mend_3 rfl ?_
  refine jr_gen (jr_runV hX hSt kM_L_62 hM rfl rfl hk1 ⟨_, _, rfl, by decide⟩ dL_mend_4 (jj_rb (by dsimp only; omega) (by dsimp only; omega)) ⟨by dsimp only; omega, by dsimp only; omega⟩ rfl) (fun E n1 K1 I1 P1 G1 h => ?_) (fun _ _ _ _ _ _ h => h.elim)
  obtain ⟨rfl, hn, rfl, rfl, rfl, rfl⟩ := h
  refine jr_catch_n hX hSt [⟨0, 9, 12, 13⟩] ⟨0, 9, 15, 20⟩ [] rfl (fun z hz => by
    rcases List.mem_singleton.mp hz with rfl
    exact ⟨by decide, "java/lang/IndexOutOfBoundsException", kw_397, by simp [jj_nc]⟩) rfl (by decide) kw_496 (by simp [jj_trav]) dL_mend_15 rfl rfl ?_
  refine jr_iconst (v := 2) hX dL_mend_16 (by decide) ?_
  exact jr_iret hX dL_mend_17 (Nat.ble_eq.mpr (by dsimp only; omega)) (Nat.ble_eq.mpr (by dsimp only; omega)) ⟨rfl, hn, rfl, rfl, rfl, rfl⟩
set_option maxHeartbeats 4000000 in
set_option maxRecDepth 100000 in
theorem w_boat_ok {l : Launch} (hfl : l.stackTraces = false) {D : jj_D} {n : Nat} {K : jj_K} {I : jj_I} {P : jj_P} {G : jj_G} {a1 a2 : Int32} {rmy : Room} {S : Option Value → jj_I → Prop} (hM : jj_Met l D yX5_boat (jj_ws yX5_boat cX5_boat 3 (some .int)) rmy [.ref 1, .int a1, .int a2] n K I P G (jj_RS S n K P G) jj_noX) (hS : ∀ r J, S r J → ∃ v : Int32, r = some (.int v)) (hr : w_rb rmy) (hk1 : K 1 = some (5, 0)) (hk : K 161 = some (11, 1)) :
    jj_Met l D yL_boat (jj_wsH yL_boat cL_boat 5 (some .int) [(0, 10, 13, 13)]) { frames := 9, cells := 1, slots := 6, locals := 160 } [.ref 1, .int a1, .int a2, .ref 161] n K I P G (w_ok S n K P G) jj_noX := by
  obtain ⟨r1, r2, r3, r4⟩ := hr
  refine jj_ofH hfl (by decide +kernel) [some (.ref 1), some (.int a1), some (.int a2), some (.ref 161), none] rfl rfl ?_
  intro X hXl hX hSt
  subst hXl
  refine jr_aload_n hX dL_boat_0 rfl ?_
  refine jr_iconst (v := 0) hX dL_boat_1 (by decide) ?_
  refine jr_aload_n hX dL_boat_2 rfl ?_
  refine jr_iload_n hX dL_boat_3 rfl ?_
  refine jr_iload_n hX dL_boat_4 rfl ?_
  refine jr_rel (jr_runV hX hSt kM_L_65 hM rfl rfl hk1 ⟨_, _, rfl, by decide⟩ dL_boat_5 (jj_rb (by dsimp only; omega) (by dsimp only; omega)) ⟨by dsimp only; omega, by dsimp only; omega⟩ rfl) ?_
  intro r I1 h1
  obtain ⟨v, rfl⟩ := hS r I1 h1
  simp only [Option.toList, List.cons_append, List.nil_append]
  refine jr_i2l hX dL_boat_8 ?_
  refine jr_last hX hk (by decide) (show _ = nI 0 from rfl) (by decide) dL_boat_9 ?_
  refine jr_goto (tgt := 17) hX dL_boat_10 (by decide) ?_
  refine jr_iconst (v := 0) hX dL_boat_17 (by decide) ?_
  exact jr_iret hX dL_boat_18 (Nat.ble_eq.mpr (by dsimp only; omega)) (Nat.ble_eq.mpr (by dsimp only; omega)) ⟨rfl, rfl, rfl, rfl, v, h1, rfl⟩
set_option maxHeartbeats 4000000 in
set_option maxRecDepth 100000 in
theorem w_boat_x0 {l : Launch} (hfl : l.stackTraces = false) {D : jj_D} {n : Nat} {K : jj_K} {I : jj_I} {P : jj_P} {G : jj_G} {a1 a2 : Int32} {rmy : Room} (hM : jj_Met l D yX5_boat (jj_ws yX5_boat cX5_boat 3 (some .int)) rmy [.ref 1, .int a1, .int a2] n K I P G jj_noR (jj_E "java/lang/IndexOutOfBoundsException" n K I P G)) (hr : w_rb rmy) (hk1 : K 1 = some (5, 0)) (hk : K 161 = some (11, 1)) :
    jj_Met l D yL_boat (jj_wsH yL_boat cL_boat 5 (some .int) [(0, 10, 13, 13)]) { frames := 9, cells := 1, slots := 6, locals := 160 } [.ref 1, .int a1, .int a2, .ref 161] n K I P G (w_x 1 n K I P G) jj_noX := by
  obtain ⟨r1, r2, r3, r4⟩ := hr
  refine jj_ofH hfl (by decide +kernel) [some (.ref 1), some (.int a1), some (.int a2), some (.ref 161), none] rfl rfl ?_
  intro X hXl hX hSt
  subst hXl
  refine jr_aload_n hX dL_boat_0 rfl ?_
  refine jr_iconst (v := 0) hX dL_boat_1 (by decide) ?_
  refine jr_aload_n hX dL_boat_2 rfl ?_
  refine jr_iload_n hX dL_boat_3 rfl ?_
  refine jr_iload_n hX dL_boat_4 rfl ?_
  refine jr_gen (jr_runV hX hSt kM_L_65 hM rfl rfl hk1 ⟨_, _, rfl, by decide⟩ dL_boat_5 (jj_rb (by dsimp only; omega) (by dsimp only; omega)) ⟨by dsimp only; omega, by dsimp only; omega⟩ rfl) (fun E n1 K1 I1 P1 G1 h => ?_) (fun _ _ _ _ _ _ h => h.elim)
  obtain ⟨rfl, hn, rfl, rfl, rfl, rfl⟩ := h
  refine jr_catch hX hSt [] ⟨0, 10, 13, 13⟩ [] rfl (fun z hz => absurd hz (by simp)) rfl (by decide) kw_397 (by simp [jj_trav]) dL_boat_13 rfl rfl ?_
  refine jr_iconst (v := 1) hX dL_boat_15 (by decide) ?_
  exact jr_iret hX dL_boat_16 (Nat.ble_eq.mpr (by dsimp only; omega)) (Nat.ble_eq.mpr (by dsimp only; omega)) ⟨rfl, hn, rfl, rfl, rfl, rfl⟩
set_option maxHeartbeats 4000000 in
set_option maxRecDepth 100000 in
theorem w_lend_ok {l : Launch} (hfl : l.stackTraces = false) {D : jj_D} {n : Nat} {K : jj_K} {I : jj_I} {P : jj_P} {G : jj_G} {a1 a2 a3 a4 a5 a6 : Int32} {rmy : Room} {S : Option Value → jj_I → Prop} (hM : jj_Met l D yX5_lend (jj_ws yX5_lend cX5_lend 8 (some .int)) rmy [.ref 1, .int a1, .int a2, .int a3, .int a4, .int a5, .int a6] n K I P G (jj_RS S n K P G) jj_noX) (hS : ∀ r J, S r J → ∃ v : Int32, r = some (.int v)) (hr : w_rb rmy) (hk1 : K 1 = some (5, 0)) (hk : K 161 = some (11, 1)) :
    jj_Met l D yL_lend (jj_wsH yL_lend cL_lend 9 (some .int) [(0, 18, 21, 13), (0, 18, 25, 15), (0, 18, 29, 20)]) { frames := 9, cells := 1, slots := 6, locals := 160 } [.ref 1, .int a1, .int a2, .int a3, .int a4, .int a5, .int a6, .ref 161] n K I P G (w_ok S n K P G) jj_noX := by
  obtain ⟨r1, r2, r3, r4⟩ := hr
  refine jj_ofH hfl (by decide +kernel) [some (.ref 1), some (.int a1), some (.int a2), some (.int a3), some (.int a4), some (.int a5), some (.int a6), some (.ref 161), none] rfl rfl ?_
  intro X hXl hX hSt
  subst hXl
  refine jr_aload hX dL_lend_0 rfl ?_
  refine jr_iconst (v := 0) hX dL_lend_2 (by decide) ?_
  refine jr_aload_n hX dL_lend_3 rfl ?_
  refine jr_iload_n hX dL_lend_4 rfl ?_
  refine jr_iload_n hX dL_lend_5 rfl ?_
  refine jr_iload_n hX dL_lend_6 rfl ?_
  refine jr_iload hX dL_lend_7 rfl ?_
  refine jr_iload hX dL_lend_9 rfl ?_
  refine jr_iload hX dL_lend_11 rfl ?_
  refine jr_rel (jr_runV hX hSt kM_L_68 hM rfl rfl hk1 ⟨_, _, rfl, by decide⟩ dL_lend_13 (jj_rb (by dsimp only; omega) (by dsimp only; omega)) ⟨by dsimp only; omega, by dsimp only; omega⟩ rfl) ?_
  intro r I1 h1
  obtain ⟨v, rfl⟩ := hS r I1 h1
  simp only [Option.toList, List.cons_append, List.nil_append]
  refine jr_i2l hX dL_lend_16 ?_
  refine jr_last hX hk (by decide) (show _ = nI 0 from rfl) (by decide) dL_lend_17 ?_
  refine jr_goto (tgt := 33) hX dL_lend_18 (by decide) ?_
  refine jr_iconst (v := 0) hX dL_lend_33 (by decide) ?_
  exact jr_iret hX dL_lend_34 (Nat.ble_eq.mpr (by dsimp only; omega)) (Nat.ble_eq.mpr (by dsimp only; omega)) ⟨rfl, rfl, rfl, rfl, v, h1, rfl⟩
set_option maxHeartbeats 4000000 in
set_option maxRecDepth 100000 in
theorem w_lend_x0 {l : Launch} (hfl : l.stackTraces = false) {D : jj_D} {n : Nat} {K : jj_K} {I : jj_I} {P : jj_P} {G : jj_G} {a1 a2 a3 a4 a5 a6 : Int32} {rmy : Room} (hM : jj_Met l D yX5_lend (jj_ws yX5_lend cX5_lend 8 (some .int)) rmy [.ref 1, .int a1, .int a2, .int a3, .int a4, .int a5, .int a6] n K I P G jj_noR (jj_E "java/lang/IndexOutOfBoundsException" n K I P G)) (hr : w_rb rmy) (hk1 : K 1 = some (5, 0)) (hk : K 161 = some (11, 1)) :
    jj_Met l D yL_lend (jj_wsH yL_lend cL_lend 9 (some .int) [(0, 18, 21, 13), (0, 18, 25, 15), (0, 18, 29, 20)]) { frames := 9, cells := 1, slots := 6, locals := 160 } [.ref 1, .int a1, .int a2, .int a3, .int a4, .int a5, .int a6, .ref 161] n K I P G (w_x 1 n K I P G) jj_noX := by
  obtain ⟨r1, r2, r3, r4⟩ := hr
  refine jj_ofH hfl (by decide +kernel) [some (.ref 1), some (.int a1), some (.int a2), some (.int a3), some (.int a4), some (.int a5), some (.int a6), some (.ref 161), none] rfl rfl ?_
  intro X hXl hX hSt
  subst hXl
  refine jr_aload hX dL_lend_0 rfl ?_
  refine jr_iconst (v := 0) hX dL_lend_2 (by decide) ?_
  refine jr_aload_n hX dL_lend_3 rfl ?_
  refine jr_iload_n hX dL_lend_4 rfl ?_
  refine jr_iload_n hX dL_lend_5 rfl ?_
  refine jr_iload_n hX dL_lend_6 rfl ?_
  refine jr_iload hX dL_lend_7 rfl ?_
  refine jr_iload hX dL_lend_9 rfl ?_
  refine jr_iload hX dL_lend_11 rfl ?_
  refine jr_gen (jr_runV hX hSt kM_L_68 hM rfl rfl hk1 ⟨_, _, rfl, by decide⟩ dL_lend_13 (jj_rb (by dsimp only; omega) (by dsimp only; omega)) ⟨by dsimp only; omega, by dsimp only; omega⟩ rfl) (fun E n1 K1 I1 P1 G1 h => ?_) (fun _ _ _ _ _ _ h => h.elim)
  obtain ⟨rfl, hn, rfl, rfl, rfl, rfl⟩ := h
  refine jr_catch hX hSt [] ⟨0, 18, 21, 13⟩ [⟨0, 18, 25, 15⟩, ⟨0, 18, 29, 20⟩] rfl (fun z hz => absurd hz (by simp)) rfl (by decide) kw_397 (by simp [jj_trav]) dL_lend_21 rfl rfl ?_
  refine jr_iconst (v := 1) hX dL_lend_23 (by decide) ?_
  exact jr_iret hX dL_lend_24 (Nat.ble_eq.mpr (by dsimp only; omega)) (Nat.ble_eq.mpr (by dsimp only; omega)) ⟨rfl, hn, rfl, rfl, rfl, rfl⟩
set_option maxHeartbeats 4000000 in
set_option maxRecDepth 100000 in
theorem w_lend_x1 {l : Launch} (hfl : l.stackTraces = false) {D : jj_D} {n : Nat} {K : jj_K} {I : jj_I} {P : jj_P} {G : jj_G} {a1 a2 a3 a4 a5 a6 : Int32} {rmy : Room} (hM : jj_Met l D yX5_lend (jj_ws yX5_lend cX5_lend 8 (some .int)) rmy [.ref 1, .int a1, .int a2, .int a3, .int a4, .int a5, .int a6] n K I P G jj_noR (jj_E "java/lang/IllegalArgumentException" n K I P G)) (hr : w_rb rmy) (hk1 : K 1 = some (5, 0)) (hk : K 161 = some (11, 1)) :
    jj_Met l D yL_lend (jj_wsH yL_lend cL_lend 9 (some .int) [(0, 18, 21, 13), (0, 18, 25, 15), (0, 18, 29, 20)]) { frames := 9, cells := 1, slots := 6, locals := 160 } [.ref 1, .int a1, .int a2, .int a3, .int a4, .int a5, .int a6, .ref 161] n K I P G (w_x 2 n K I P G) jj_noX := by
  obtain ⟨r1, r2, r3, r4⟩ := hr
  refine jj_ofH hfl (by decide +kernel) [some (.ref 1), some (.int a1), some (.int a2), some (.int a3), some (.int a4), some (.int a5), some (.int a6), some (.ref 161), none] rfl rfl ?_
  intro X hXl hX hSt
  subst hXl
  refine jr_aload hX dL_lend_0 rfl ?_
  refine jr_iconst (v := 0) hX dL_lend_2 (by decide) ?_
  refine jr_aload_n hX dL_lend_3 rfl ?_
  refine jr_iload_n hX dL_lend_4 rfl ?_
  refine jr_iload_n hX dL_lend_5 rfl ?_
  refine jr_iload_n hX dL_lend_6 rfl ?_
  refine jr_iload hX dL_lend_7 rfl ?_
  refine jr_iload hX dL_lend_9 rfl ?_
  refine jr_iload hX dL_lend_11 rfl ?_
  refine jr_gen (jr_runV hX hSt kM_L_68 hM rfl rfl hk1 ⟨_, _, rfl, by decide⟩ dL_lend_13 (jj_rb (by dsimp only; omega) (by dsimp only; omega)) ⟨by dsimp only; omega, by dsimp only; omega⟩ rfl) (fun E n1 K1 I1 P1 G1 h => ?_) (fun _ _ _ _ _ _ h => h.elim)
  obtain ⟨rfl, hn, rfl, rfl, rfl, rfl⟩ := h
  refine jr_catch hX hSt [⟨0, 18, 21, 13⟩] ⟨0, 18, 25, 15⟩ [⟨0, 18, 29, 20⟩] rfl (fun z hz => by
    rcases List.mem_singleton.mp hz with rfl
    exact ⟨by decide, "java/lang/IndexOutOfBoundsException", kw_397, by simp [jj_nc]⟩) rfl (by decide) kw_398 (by simp [jj_trav]) dL_lend_25 rfl rfl ?_
  refine jr_iconst (v := 2) hX dL_lend_27 (by decide) ?_
  exact jr_iret hX dL_lend_28 (Nat.ble_eq.mpr (by dsimp only; omega)) (Nat.ble_eq.mpr (by dsimp only; omega)) ⟨rfl, hn, rfl, rfl, rfl, rfl⟩
set_option maxHeartbeats 4000000 in
set_option maxRecDepth 100000 in
theorem w_lend_x2 {l : Launch} (hfl : l.stackTraces = false) {D : jj_D} {n : Nat} {K : jj_K} {I : jj_I} {P : jj_P} {G : jj_G} {a1 a2 a3 a4 a5 a6 : Int32} {rmy : Room} (hM : jj_Met l D yX5_lend (jj_ws yX5_lend cX5_lend 8 (some .int)) rmy [.ref 1, .int a1, .int a2, .int a3, .int a4, .int a5, .int a6] n K I P G jj_noR (jj_E "java/lang/IllegalStateException" n K I P G)) (hr : w_rb rmy) (hk1 : K 1 = some (5, 0)) (hk : K 161 = some (11, 1)) :
    jj_Met l D yL_lend (jj_wsH yL_lend cL_lend 9 (some .int) [(0, 18, 21, 13), (0, 18, 25, 15), (0, 18, 29, 20)]) { frames := 9, cells := 1, slots := 6, locals := 160 } [.ref 1, .int a1, .int a2, .int a3, .int a4, .int a5, .int a6, .ref 161] n K I P G (w_x 3 n K I P G) jj_noX := by
  obtain ⟨r1, r2, r3, r4⟩ := hr
  refine jj_ofH hfl (by decide +kernel) [some (.ref 1), some (.int a1), some (.int a2), some (.int a3), some (.int a4), some (.int a5), some (.int a6), some (.ref 161), none] rfl rfl ?_
  intro X hXl hX hSt
  subst hXl
  refine jr_aload hX dL_lend_0 rfl ?_
  refine jr_iconst (v := 0) hX dL_lend_2 (by decide) ?_
  refine jr_aload_n hX dL_lend_3 rfl ?_
  refine jr_iload_n hX dL_lend_4 rfl ?_
  refine jr_iload_n hX dL_lend_5 rfl ?_
  refine jr_iload_n hX dL_lend_6 rfl ?_
  refine jr_iload hX dL_lend_7 rfl ?_
  refine jr_iload hX dL_lend_9 rfl ?_
  refine jr_iload hX dL_lend_11 rfl ?_
  refine jr_gen (jr_runV hX hSt kM_L_68 hM rfl rfl hk1 ⟨_, _, rfl, by decide⟩ dL_lend_13 (jj_rb (by dsimp only; omega) (by dsimp only; omega)) ⟨by dsimp only; omega, by dsimp only; omega⟩ rfl) (fun E n1 K1 I1 P1 G1 h => ?_) (fun _ _ _ _ _ _ h => h.elim)
  obtain ⟨rfl, hn, rfl, rfl, rfl, rfl⟩ := h
  refine jr_catch hX hSt [⟨0, 18, 21, 13⟩, ⟨0, 18, 25, 15⟩] ⟨0, 18, 29, 20⟩ [] rfl (fun z hz => by
    simp only [List.mem_cons, List.not_mem_nil, or_false] at hz
    rcases hz with rfl | rfl
    · exact ⟨by decide, "java/lang/IndexOutOfBoundsException", kw_397, by simp [jj_nc]⟩
    · exact ⟨by decide, "java/lang/IllegalArgumentException", kw_398, by simp [jj_nc]⟩) rfl (by decide) kw_496 (by simp [jj_trav]) dL_lend_29 rfl rfl ?_
  refine jr_iconst (v := 3) hX dL_lend_31 (by decide) ?_
  exact jr_iret hX dL_lend_32 (Nat.ble_eq.mpr (by dsimp only; omega)) (Nat.ble_eq.mpr (by dsimp only; omega)) ⟨rfl, hn, rfl, rfl, rfl, rfl⟩
set_option maxHeartbeats 4000000 in
set_option maxRecDepth 100000 in
theorem w_repay_ok {l : Launch} (hfl : l.stackTraces = false) {D : jj_D} {n : Nat} {K : jj_K} {I : jj_I} {P : jj_P} {G : jj_G} {a1 a2 : Int32} {rmy : Room} {S : Option Value → jj_I → Prop} (hM : jj_Met l D yX5_repay (jj_ws yX5_repay cX5_repay 5 (some .int)) rmy [.ref 1, .int a1, .int a2] n K I P G (jj_RS S n K P G) jj_noX) (hS : ∀ r J, S r J → ∃ v : Int32, r = some (.int v)) (hr : w_rb rmy) (hk1 : K 1 = some (5, 0)) (hk : K 161 = some (11, 1)) :
    jj_Met l D yL_repay (jj_wsH yL_repay cL_repay 5 (some .int) [(0, 10, 13, 13), (0, 10, 17, 20)]) { frames := 9, cells := 1, slots := 6, locals := 160 } [.ref 1, .int a1, .int a2, .ref 161] n K I P G (w_ok S n K P G) jj_noX := by
  obtain ⟨r1, r2, r3, r4⟩ := hr
  refine jj_ofH hfl (by decide +kernel) [some (.ref 1), some (.int a1), some (.int a2), some (.ref 161), none] rfl rfl ?_
  intro X hXl hX hSt
  subst hXl
  refine jr_aload_n hX dL_repay_0 rfl ?_
  refine jr_iconst (v := 0) hX dL_repay_1 (by decide) ?_
  refine jr_aload_n hX dL_repay_2 rfl ?_
  refine jr_iload_n hX dL_repay_3 rfl ?_
  refine jr_iload_n hX dL_repay_4 rfl ?_
  refine jr_rel (jr_runV hX hSt kM_L_72 hM rfl rfl hk1 ⟨_, _, rfl, by decide⟩ dL_repay_5 (jj_rb (by dsimp only; omega) (by dsimp only; omega)) ⟨by dsimp only; omega, by dsimp only; omega⟩ rfl) ?_
  intro r I1 h1
  obtain ⟨v, rfl⟩ := hS r I1 h1
  simp only [Option.toList, List.cons_append, List.nil_append]
  refine jr_i2l hX dL_repay_8 ?_
  refine jr_last hX hk (by decide) (show _ = nI 0 from rfl) (by decide) dL_repay_9 ?_
  refine jr_goto (tgt := 21) hX dL_repay_10 (by decide) ?_
  refine jr_iconst (v := 0) hX dL_repay_21 (by decide) ?_
  exact jr_iret hX dL_repay_22 (Nat.ble_eq.mpr (by dsimp only; omega)) (Nat.ble_eq.mpr (by dsimp only; omega)) ⟨rfl, rfl, rfl, rfl, v, h1, rfl⟩
set_option maxHeartbeats 4000000 in
set_option maxRecDepth 100000 in
theorem w_repay_x0 {l : Launch} (hfl : l.stackTraces = false) {D : jj_D} {n : Nat} {K : jj_K} {I : jj_I} {P : jj_P} {G : jj_G} {a1 a2 : Int32} {rmy : Room} (hM : jj_Met l D yX5_repay (jj_ws yX5_repay cX5_repay 5 (some .int)) rmy [.ref 1, .int a1, .int a2] n K I P G jj_noR (jj_E "java/lang/IndexOutOfBoundsException" n K I P G)) (hr : w_rb rmy) (hk1 : K 1 = some (5, 0)) (hk : K 161 = some (11, 1)) :
    jj_Met l D yL_repay (jj_wsH yL_repay cL_repay 5 (some .int) [(0, 10, 13, 13), (0, 10, 17, 20)]) { frames := 9, cells := 1, slots := 6, locals := 160 } [.ref 1, .int a1, .int a2, .ref 161] n K I P G (w_x 1 n K I P G) jj_noX := by
  obtain ⟨r1, r2, r3, r4⟩ := hr
  refine jj_ofH hfl (by decide +kernel) [some (.ref 1), some (.int a1), some (.int a2), some (.ref 161), none] rfl rfl ?_
  intro X hXl hX hSt
  subst hXl
  refine jr_aload_n hX dL_repay_0 rfl ?_
  refine jr_iconst (v := 0) hX dL_repay_1 (by decide) ?_
  refine jr_aload_n hX dL_repay_2 rfl ?_
  refine jr_iload_n hX dL_repay_3 rfl ?_
  refine jr_iload_n hX dL_repay_4 rfl ?_
  refine jr_gen (jr_runV hX hSt kM_L_72 hM rfl rfl hk1 ⟨_, _, rfl, by decide⟩ dL_repay_5 (jj_rb (by dsimp only; omega) (by dsimp only; omega)) ⟨by dsimp only; omega, by dsimp only; omega⟩ rfl) (fun E n1 K1 I1 P1 G1 h => ?_) (fun _ _ _ _ _ _ h => h.elim)
  obtain ⟨rfl, hn, rfl, rfl, rfl, rfl⟩ := h
  refine jr_catch hX hSt [] ⟨0, 10, 13, 13⟩ [⟨0, 10, 17, 20⟩] rfl (fun z hz => absurd hz (by simp)) rfl (by decide) kw_397 (by simp [jj_trav]) dL_repay_13 rfl rfl ?_
  refine jr_iconst (v := 1) hX dL_repay_15 (by decide) ?_
  exact jr_iret hX dL_repay_16 (Nat.ble_eq.mpr (by dsimp only; omega)) (Nat.ble_eq.mpr (by dsimp only; omega)) ⟨rfl, hn, rfl, rfl, rfl, rfl⟩
set_option maxHeartbeats 4000000 in
set_option maxRecDepth 100000 in
theorem w_repay_x1 {l : Launch} (hfl : l.stackTraces = false) {D : jj_D} {n : Nat} {K : jj_K} {I : jj_I} {P : jj_P} {G : jj_G} {a1 a2 : Int32} {rmy : Room} (hM : jj_Met l D yX5_repay (jj_ws yX5_repay cX5_repay 5 (some .int)) rmy [.ref 1, .int a1, .int a2] n K I P G jj_noR (jj_E "java/lang/IllegalStateException" n K I P G)) (hr : w_rb rmy) (hk1 : K 1 = some (5, 0)) (hk : K 161 = some (11, 1)) :
    jj_Met l D yL_repay (jj_wsH yL_repay cL_repay 5 (some .int) [(0, 10, 13, 13), (0, 10, 17, 20)]) { frames := 9, cells := 1, slots := 6, locals := 160 } [.ref 1, .int a1, .int a2, .ref 161] n K I P G (w_x 2 n K I P G) jj_noX := by
  obtain ⟨r1, r2, r3, r4⟩ := hr
  refine jj_ofH hfl (by decide +kernel) [some (.ref 1), some (.int a1), some (.int a2), some (.ref 161), none] rfl rfl ?_
  intro X hXl hX hSt
  subst hXl
  refine jr_aload_n hX dL_repay_0 rfl ?_
  refine jr_iconst (v := 0) hX dL_repay_1 (by decide) ?_
  refine jr_aload_n hX dL_repay_2 rfl ?_
  refine jr_iload_n hX dL_repay_3 rfl ?_
  refine jr_iload_n hX dL_repay_4 rfl ?_
  refine jr_gen (jr_runV hX hSt kM_L_72 hM rfl rfl hk1 ⟨_, _, rfl, by decide⟩ dL_repay_5 (jj_rb (by dsimp only; omega) (by dsimp only; omega)) ⟨by dsimp only; omega, by dsimp only; omega⟩ rfl) (fun E n1 K1 I1 P1 G1 h => ?_) (fun _ _ _ _ _ _ h => h.elim)
  obtain ⟨rfl, hn, rfl, rfl, rfl, rfl⟩ := h
  refine jr_catch hX hSt [⟨0, 10, 13, 13⟩] ⟨0, 10, 17, 20⟩ [] rfl (fun z hz => by
    rcases List.mem_singleton.mp hz with rfl
    exact ⟨by decide, "java/lang/IndexOutOfBoundsException", kw_397, by simp [jj_nc]⟩) rfl (by decide) kw_496 (by simp [jj_trav]) dL_repay_17 rfl rfl ?_
  refine jr_iconst (v := 2) hX dL_repay_19 (by decide) ?_
  exact jr_iret hX dL_repay_20 (Nat.ble_eq.mpr (by dsimp only; omega)) (Nat.ble_eq.mpr (by dsimp only; omega)) ⟨rfl, hn, rfl, rfl, rfl, rfl⟩
set_option maxHeartbeats 4000000 in
set_option maxRecDepth 100000 in
theorem w_debt_ok {l : Launch} (hfl : l.stackTraces = false) {D : jj_D} {n : Nat} {K : jj_K} {I : jj_I} {P : jj_P} {G : jj_G} {a1 a2 : Int32} {rmy : Room} {S : Option Value → jj_I → Prop} (hM : jj_Met l D yX5_debt (jj_ws yX5_debt cX5_debt 3 (some .int)) rmy [.ref 1, .int a1, .int a2] n K I P G (jj_RS S n K P G) jj_noX) (hS : ∀ r J, S r J → ∃ v : Int32, r = some (.int v)) (hr : w_rb rmy) (hk1 : K 1 = some (5, 0)) (hk : K 161 = some (11, 1)) :
    jj_Met l D yL_debt (jj_wsH yL_debt cL_debt 5 (some .int) [(0, 10, 13, 13)]) { frames := 9, cells := 1, slots := 6, locals := 160 } [.ref 1, .int a1, .int a2, .ref 161] n K I P G (w_ok S n K P G) jj_noX := by
  obtain ⟨r1, r2, r3, r4⟩ := hr
  refine jj_ofH hfl (by decide +kernel) [some (.ref 1), some (.int a1), some (.int a2), some (.ref 161), none] rfl rfl ?_
  intro X hXl hX hSt
  subst hXl
  refine jr_aload_n hX dL_debt_0 rfl ?_
  refine jr_iconst (v := 0) hX dL_debt_1 (by decide) ?_
  refine jr_aload_n hX dL_debt_2 rfl ?_
  refine jr_iload_n hX dL_debt_3 rfl ?_
  refine jr_iload_n hX dL_debt_4 rfl ?_
  refine jr_rel (jr_runV hX hSt kM_L_75 hM rfl rfl hk1 ⟨_, _, rfl, by decide⟩ dL_debt_5 (jj_rb (by dsimp only; omega) (by dsimp only; omega)) ⟨by dsimp only; omega, by dsimp only; omega⟩ rfl) ?_
  intro r I1 h1
  obtain ⟨v, rfl⟩ := hS r I1 h1
  simp only [Option.toList, List.cons_append, List.nil_append]
  refine jr_i2l hX dL_debt_8 ?_
  refine jr_last hX hk (by decide) (show _ = nI 0 from rfl) (by decide) dL_debt_9 ?_
  refine jr_goto (tgt := 17) hX dL_debt_10 (by decide) ?_
  refine jr_iconst (v := 0) hX dL_debt_17 (by decide) ?_
  exact jr_iret hX dL_debt_18 (Nat.ble_eq.mpr (by dsimp only; omega)) (Nat.ble_eq.mpr (by dsimp only; omega)) ⟨rfl, rfl, rfl, rfl, v, h1, rfl⟩
set_option maxHeartbeats 4000000 in
set_option maxRecDepth 100000 in
theorem w_debt_x0 {l : Launch} (hfl : l.stackTraces = false) {D : jj_D} {n : Nat} {K : jj_K} {I : jj_I} {P : jj_P} {G : jj_G} {a1 a2 : Int32} {rmy : Room} (hM : jj_Met l D yX5_debt (jj_ws yX5_debt cX5_debt 3 (some .int)) rmy [.ref 1, .int a1, .int a2] n K I P G jj_noR (jj_E "java/lang/IndexOutOfBoundsException" n K I P G)) (hr : w_rb rmy) (hk1 : K 1 = some (5, 0)) (hk : K 161 = some (11, 1)) :
    jj_Met l D yL_debt (jj_wsH yL_debt cL_debt 5 (some .int) [(0, 10, 13, 13)]) { frames := 9, cells := 1, slots := 6, locals := 160 } [.ref 1, .int a1, .int a2, .ref 161] n K I P G (w_x 1 n K I P G) jj_noX := by
  obtain ⟨r1, r2, r3, r4⟩ := hr
  refine jj_ofH hfl (by decide +kernel) [some (.ref 1), some (.int a1), some (.int a2), some (.ref 161), none] rfl rfl ?_
  intro X hXl hX hSt
  subst hXl
  refine jr_aload_n hX dL_debt_0 rfl ?_
  refine jr_iconst (v := 0) hX dL_debt_1 (by decide) ?_
  refine jr_aload_n hX dL_debt_2 rfl ?_
  refine jr_iload_n hX dL_debt_3 rfl ?_
  refine jr_iload_n hX dL_debt_4 rfl ?_
  refine jr_gen (jr_runV hX hSt kM_L_75 hM rfl rfl hk1 ⟨_, _, rfl, by decide⟩ dL_debt_5 (jj_rb (by dsimp only; omega) (by dsimp only; omega)) ⟨by dsimp only; omega, by dsimp only; omega⟩ rfl) (fun E n1 K1 I1 P1 G1 h => ?_) (fun _ _ _ _ _ _ h => h.elim)
  obtain ⟨rfl, hn, rfl, rfl, rfl, rfl⟩ := h
  refine jr_catch hX hSt [] ⟨0, 10, 13, 13⟩ [] rfl (fun z hz => absurd hz (by simp)) rfl (by decide) kw_397 (by simp [jj_trav]) dL_debt_13 rfl rfl ?_
  refine jr_iconst (v := 1) hX dL_debt_15 (by decide) ?_
  exact jr_iret hX dL_debt_16 (Nat.ble_eq.mpr (by dsimp only; omega)) (Nat.ble_eq.mpr (by dsimp only; omega)) ⟨rfl, hn, rfl, rfl, rfl, rfl⟩
set_option maxHeartbeats 4000000 in
set_option maxRecDepth 100000 in
theorem w_pass_ok {l : Launch} (hfl : l.stackTraces = false) {D : jj_D} {n : Nat} {K : jj_K} {I : jj_I} {P : jj_P} {G : jj_G} {a1 : Int32} {rmy : Room} {S : Option Value → jj_I → Prop} (hM : jj_Met l D yX5_pass (jj_ws yX5_pass cX5_pass 4 (some .int)) rmy [.ref 1, .int a1] n K I P G (jj_RS S n K P G) jj_noX) (hS : ∀ r J, S r J → ∃ v : Int32, r = some (.int v)) (hr : w_rb rmy) (hk1 : K 1 = some (5, 0)) (hk : K 161 = some (11, 1)) :
    jj_Met l D yL_pass (jj_wsH yL_pass cL_pass 4 (some .int) [(0, 9, 12, 15)]) { frames := 9, cells := 1, slots := 6, locals := 160 } [.ref 1, .int a1, .ref 161] n K I P G (w_ok S n K P G) jj_noX := by
  obtain ⟨r1, r2, r3, r4⟩ := hr
  refine jj_ofH hfl (by decide +kernel) [some (.ref 1), some (.int a1), some (.ref 161), none] rfl rfl ?_
  intro X hXl hX hSt
  subst hXl
  refine jr_aload_n hX dL_pass_0 rfl ?_
  refine jr_iconst (v := 0) hX dL_pass_1 (by decide) ?_
  refine jr_aload_n hX dL_pass_2 rfl ?_
  refine jr_iload_n hX dL_pass_3 rfl ?_
  refine jr_rel (jr_runV hX hSt kM_L_78 hM rfl rfl hk1 ⟨_, _, rfl, by decide⟩ dL_pass_4 (jj_rb (by dsimp only; omega) (by dsimp only; omega)) ⟨by dsimp only; omega, by dsimp only; omega⟩ rfl) ?_
  intro r I1 h1
  obtain ⟨v, rfl⟩ := hS r I1 h1
  simp only [Option.toList, List.cons_append, List.nil_append]
  refine jr_i2l hX dL_pass_7 ?_
  refine jr_last hX hk (by decide) (show _ = nI 0 from rfl) (by decide) dL_pass_8 ?_
  refine jr_goto (tgt := 15) hX dL_pass_9 (by decide) ?_
  refine jr_iconst (v := 0) hX dL_pass_15 (by decide) ?_
  exact jr_iret hX dL_pass_16 (Nat.ble_eq.mpr (by dsimp only; omega)) (Nat.ble_eq.mpr (by dsimp only; omega)) ⟨rfl, rfl, rfl, rfl, v, h1, rfl⟩
set_option maxHeartbeats 4000000 in
set_option maxRecDepth 100000 in
theorem w_pass_x0 {l : Launch} (hfl : l.stackTraces = false) {D : jj_D} {n : Nat} {K : jj_K} {I : jj_I} {P : jj_P} {G : jj_G} {a1 : Int32} {rmy : Room} (hM : jj_Met l D yX5_pass (jj_ws yX5_pass cX5_pass 4 (some .int)) rmy [.ref 1, .int a1] n K I P G jj_noR (jj_E "java/lang/IllegalArgumentException" n K I P G)) (hr : w_rb rmy) (hk1 : K 1 = some (5, 0)) (hk : K 161 = some (11, 1)) :
    jj_Met l D yL_pass (jj_wsH yL_pass cL_pass 4 (some .int) [(0, 9, 12, 15)]) { frames := 9, cells := 1, slots := 6, locals := 160 } [.ref 1, .int a1, .ref 161] n K I P G (w_x 1 n K I P G) jj_noX := by
  obtain ⟨r1, r2, r3, r4⟩ := hr
  refine jj_ofH hfl (by decide +kernel) [some (.ref 1), some (.int a1), some (.ref 161), none] rfl rfl ?_
  intro X hXl hX hSt
  subst hXl
  refine jr_aload_n hX dL_pass_0 rfl ?_
  refine jr_iconst (v := 0) hX dL_pass_1 (by decide) ?_
  refine jr_aload_n hX dL_pass_2 rfl ?_
  refine jr_iload_n hX dL_pass_3 rfl ?_
  refine jr_gen (jr_runV hX hSt kM_L_78 hM rfl rfl hk1 ⟨_, _, rfl, by decide⟩ dL_pass_4 (jj_rb (by dsimp only; omega) (by dsimp only; omega)) ⟨by dsimp only; omega, by dsimp only; omega⟩ rfl) (fun E n1 K1 I1 P1 G1 h => ?_) (fun _ _ _ _ _ _ h => h.elim)
  obtain ⟨rfl, hn, rfl, rfl, rfl, rfl⟩ := h
  refine jr_catch_n hX hSt [] ⟨0, 9, 12, 15⟩ [] rfl (fun z hz => absurd hz (by simp)) rfl (by decide) kw_398 (by simp [jj_trav]) dL_pass_12 rfl rfl ?_
  refine jr_iconst (v := 1) hX dL_pass_13 (by decide) ?_
  exact jr_iret hX dL_pass_14 (Nat.ble_eq.mpr (by dsimp only; omega)) (Nat.ble_eq.mpr (by dsimp only; omega)) ⟨rfl, hn, rfl, rfl, rfl, rfl⟩
set_option maxHeartbeats 4000000 in
set_option maxRecDepth 100000 in
theorem w_count_ok {l : Launch} (hfl : l.stackTraces = false) {D : jj_D} {n : Nat} {K : jj_K} {I : jj_I} {P : jj_P} {G : jj_G} {a1 : Int32} {rmy : Room} {S : Option Value → jj_I → Prop} (hM : jj_Met l D yX5_count (jj_ws yX5_count cX5_count 2 (some .int)) rmy [.ref 1, .int a1] n K I P G (jj_RS S n K P G) jj_noX) (hS : ∀ r J, S r J → ∃ v : Int32, r = some (.int v)) (hr : w_rb rmy) (hk1 : K 1 = some (5, 0)) (hk : K 161 = some (11, 1)) :
    jj_Met l D yL_count (jj_wsH yL_count cL_count 4 (some .int) [(0, 9, 12, 13)]) { frames := 9, cells := 1, slots := 6, locals := 160 } [.ref 1, .int a1, .ref 161] n K I P G (w_ok S n K P G) jj_noX := by
  obtain ⟨r1, r2, r3, r4⟩ := hr
  refine jj_ofH hfl (by decide +kernel) [some (.ref 1), some (.int a1), some (.ref 161), none] rfl rfl ?_
  intro X hXl hX hSt
  subst hXl
  refine jr_aload_n hX dL_count_0 rfl ?_
  refine jr_iconst (v := 0) hX dL_count_1 (by decide) ?_
  refine jr_aload_n hX dL_count_2 rfl ?_
  refine jr_iload_n hX dL_count_3 rfl ?_
  refine jr_rel (jr_runV hX hSt kM_L_81 hM rfl rfl hk1 ⟨_, _, rfl, by decide⟩ dL_count_4 (jj_rb (by dsimp only; omega) (by dsimp only; omega)) ⟨by dsimp only; omega, by dsimp only; omega⟩ rfl) ?_
  intro r I1 h1
  obtain ⟨v, rfl⟩ := hS r I1 h1
  simp only [Option.toList, List.cons_append, List.nil_append]
  refine jr_i2l hX dL_count_7 ?_
  refine jr_last hX hk (by decide) (show _ = nI 0 from rfl) (by decide) dL_count_8 ?_
  refine jr_goto (tgt := 15) hX dL_count_9 (by decide) ?_
  refine jr_iconst (v := 0) hX dL_count_15 (by decide) ?_
  exact jr_iret hX dL_count_16 (Nat.ble_eq.mpr (by dsimp only; omega)) (Nat.ble_eq.mpr (by dsimp only; omega)) ⟨rfl, rfl, rfl, rfl, v, h1, rfl⟩
set_option maxHeartbeats 4000000 in
set_option maxRecDepth 100000 in
theorem w_count_x0 {l : Launch} (hfl : l.stackTraces = false) {D : jj_D} {n : Nat} {K : jj_K} {I : jj_I} {P : jj_P} {G : jj_G} {a1 : Int32} {rmy : Room} (hM : jj_Met l D yX5_count (jj_ws yX5_count cX5_count 2 (some .int)) rmy [.ref 1, .int a1] n K I P G jj_noR (jj_E "java/lang/IndexOutOfBoundsException" n K I P G)) (hr : w_rb rmy) (hk1 : K 1 = some (5, 0)) (hk : K 161 = some (11, 1)) :
    jj_Met l D yL_count (jj_wsH yL_count cL_count 4 (some .int) [(0, 9, 12, 13)]) { frames := 9, cells := 1, slots := 6, locals := 160 } [.ref 1, .int a1, .ref 161] n K I P G (w_x 1 n K I P G) jj_noX := by
  obtain ⟨r1, r2, r3, r4⟩ := hr
  refine jj_ofH hfl (by decide +kernel) [some (.ref 1), some (.int a1), some (.ref 161), none] rfl rfl ?_
  intro X hXl hX hSt
  subst hXl
  refine jr_aload_n hX dL_count_0 rfl ?_
  refine jr_iconst (v := 0) hX dL_count_1 (by decide) ?_
  refine jr_aload_n hX dL_count_2 rfl ?_
  refine jr_iload_n hX dL_count_3 rfl ?_
  refine jr_gen (jr_runV hX hSt kM_L_81 hM rfl rfl hk1 ⟨_, _, rfl, by decide⟩ dL_count_4 (jj_rb (by dsimp only; omega) (by dsimp only; omega)) ⟨by dsimp only; omega, by dsimp only; omega⟩ rfl) (fun E n1 K1 I1 P1 G1 h => ?_) (fun _ _ _ _ _ _ h => h.elim)
  obtain ⟨rfl, hn, rfl, rfl, rfl, rfl⟩ := h
  refine jr_catch_n hX hSt [] ⟨0, 9, 12, 13⟩ [] rfl (fun z hz => absurd hz (by simp)) rfl (by decide) kw_397 (by simp [jj_trav]) dL_count_12 rfl rfl ?_
  refine jr_iconst (v := 1) hX dL_count_13 (by decide) ?_
  exact jr_iret hX dL_count_14 (Nat.ble_eq.mpr (by dsimp only; omega)) (Nat.ble_eq.mpr (by dsimp only; omega)) ⟨rfl, hn, rfl, rfl, rfl, rfl⟩
set_option maxHeartbeats 4000000 in
set_option maxRecDepth 100000 in
theorem w_opens_ok {l : Launch} (hfl : l.stackTraces = false) {D : jj_D} {n : Nat} {K : jj_K} {I : jj_I} {P : jj_P} {G : jj_G} {a1 : Int32} {rmy : Room} {S : Option Value → jj_I → Prop} (hM : jj_Met l D yX5_opens (jj_ws yX5_opens cX5_opens 4 (some .int)) rmy [.ref 1, .int a1] n K I P G (jj_RS S n K P G) jj_noX) (hS : ∀ r J, S r J → ∃ v : Int32, r = some (.int v)) (hr : w_rb rmy) (hk1 : K 1 = some (5, 0)) (hk : K 161 = some (11, 1)) :
    jj_Met l D yL_opens (jj_wsH yL_opens cL_opens 4 (some .int) [(0, 9, 12, 13)]) { frames := 9, cells := 1, slots := 6, locals := 160 } [.ref 1, .int a1, .ref 161] n K I P G (w_ok S n K P G) jj_noX := by
  obtain ⟨r1, r2, r3, r4⟩ := hr
  refine jj_ofH hfl (by decide +kernel) [some (.ref 1), some (.int a1), some (.ref 161), none] rfl rfl ?_
  intro X hXl hX hSt
  subst hXl
  refine jr_aload_n hX dL_opens_0 rfl ?_
  refine jr_iconst (v := 0) hX dL_opens_1 (by decide) ?_
  refine jr_aload_n hX dL_opens_2 rfl ?_
  refine jr_iload_n hX dL_opens_3 rfl ?_
  refine jr_rel (jr_runV hX hSt kM_L_84 hM rfl rfl hk1 ⟨_, _, rfl, by decide⟩ dL_opens_4 (jj_rb (by dsimp only; omega) (by dsimp only; omega)) ⟨by dsimp only; omega, by dsimp only; omega⟩ rfl) ?_
  intro r I1 h1
  obtain ⟨v, rfl⟩ := hS r I1 h1
  simp only [Option.toList, List.cons_append, List.nil_append]
  refine jr_i2l hX dL_opens_7 ?_
  refine jr_last hX hk (by decide) (show _ = nI 0 from rfl) (by decide) dL_opens_8 ?_
  refine jr_goto (tgt := 15) hX dL_opens_9 (by decide) ?_
  refine jr_iconst (v := 0) hX dL_opens_15 (by decide) ?_
  exact jr_iret hX dL_opens_16 (Nat.ble_eq.mpr (by dsimp only; omega)) (Nat.ble_eq.mpr (by dsimp only; omega)) ⟨rfl, rfl, rfl, rfl, v, h1, rfl⟩
set_option maxHeartbeats 4000000 in
set_option maxRecDepth 100000 in
theorem w_opens_x0 {l : Launch} (hfl : l.stackTraces = false) {D : jj_D} {n : Nat} {K : jj_K} {I : jj_I} {P : jj_P} {G : jj_G} {a1 : Int32} {rmy : Room} (hM : jj_Met l D yX5_opens (jj_ws yX5_opens cX5_opens 4 (some .int)) rmy [.ref 1, .int a1] n K I P G jj_noR (jj_E "java/lang/IndexOutOfBoundsException" n K I P G)) (hr : w_rb rmy) (hk1 : K 1 = some (5, 0)) (hk : K 161 = some (11, 1)) :
    jj_Met l D yL_opens (jj_wsH yL_opens cL_opens 4 (some .int) [(0, 9, 12, 13)]) { frames := 9, cells := 1, slots := 6, locals := 160 } [.ref 1, .int a1, .ref 161] n K I P G (w_x 1 n K I P G) jj_noX := by
  obtain ⟨r1, r2, r3, r4⟩ := hr
  refine jj_ofH hfl (by decide +kernel) [some (.ref 1), some (.int a1), some (.ref 161), none] rfl rfl ?_
  intro X hXl hX hSt
  subst hXl
  refine jr_aload_n hX dL_opens_0 rfl ?_
  refine jr_iconst (v := 0) hX dL_opens_1 (by decide) ?_
  refine jr_aload_n hX dL_opens_2 rfl ?_
  refine jr_iload_n hX dL_opens_3 rfl ?_
  refine jr_gen (jr_runV hX hSt kM_L_84 hM rfl rfl hk1 ⟨_, _, rfl, by decide⟩ dL_opens_4 (jj_rb (by dsimp only; omega) (by dsimp only; omega)) ⟨by dsimp only; omega, by dsimp only; omega⟩ rfl) (fun E n1 K1 I1 P1 G1 h => ?_) (fun _ _ _ _ _ _ h => h.elim)
  obtain ⟨rfl, hn, rfl, rfl, rfl, rfl⟩ := h
  refine jr_catch_n hX hSt [] ⟨0, 9, 12, 13⟩ [] rfl (fun z hz => absurd hz (by simp)) rfl (by decide) kw_397 (by simp [jj_trav]) dL_opens_12 rfl rfl ?_
  refine jr_iconst (v := 1) hX dL_opens_13 (by decide) ?_
  exact jr_iret hX dL_opens_14 (Nat.ble_eq.mpr (by dsimp only; omega)) (Nat.ble_eq.mpr (by dsimp only; omega)) ⟨rfl, hn, rfl, rfl, rfl, rfl⟩
set_option maxHeartbeats 4000000 in
set_option maxRecDepth 100000 in
theorem w_arrives_ok {l : Launch} (hfl : l.stackTraces = false) {D : jj_D} {n : Nat} {K : jj_K} {I : jj_I} {P : jj_P} {G : jj_G} {a1 : Int32} {rmy : Room} {S : Option Value → jj_I → Prop} (hM : jj_Met l D yX5_arrives (jj_ws yX5_arrives cX5_arrives 4 (some .int)) rmy [.ref 1, .int a1] n K I P G (jj_RS S n K P G) jj_noX) (hS : ∀ r J, S r J → ∃ v : Int32, r = some (.int v)) (hr : w_rb rmy) (hk1 : K 1 = some (5, 0)) (hk : K 161 = some (11, 1)) :
    jj_Met l D yL_arrives (jj_wsH yL_arrives cL_arrives 4 (some .int) [(0, 9, 12, 13)]) { frames := 9, cells := 1, slots := 6, locals := 160 } [.ref 1, .int a1, .ref 161] n K I P G (w_ok S n K P G) jj_noX := by
  obtain ⟨r1, r2, r3, r4⟩ := hr
  refine jj_ofH hfl (by decide +kernel) [some (.ref 1), some (.int a1), some (.ref 161), none] rfl rfl ?_
  intro X hXl hX hSt
  subst hXl
  refine jr_aload_n hX dL_arrives_0 rfl ?_
  refine jr_iconst (v := 0) hX dL_arrives_1 (by decide) ?_
  refine jr_aload_n hX dL_arrives_2 rfl ?_
  refine jr_iload_n hX dL_arrives_3 rfl ?_
  refine jr_rel (jr_runV hX hSt kM_L_87 hM rfl rfl hk1 ⟨_, _, rfl, by decide⟩ dL_arrives_4 (jj_rb (by dsimp only; omega) (by dsimp only; omega)) ⟨by dsimp only; omega, by dsimp only; omega⟩ rfl) ?_
  intro r I1 h1
  obtain ⟨v, rfl⟩ := hS r I1 h1
  simp only [Option.toList, List.cons_append, List.nil_append]
  refine jr_i2l hX dL_arrives_7 ?_
  refine jr_last hX hk (by decide) (show _ = nI 0 from rfl) (by decide) dL_arrives_8 ?_
  refine jr_goto (tgt := 15) hX dL_arrives_9 (by decide) ?_
  refine jr_iconst (v := 0) hX dL_arrives_15 (by decide) ?_
  exact jr_iret hX dL_arrives_16 (Nat.ble_eq.mpr (by dsimp only; omega)) (Nat.ble_eq.mpr (by dsimp only; omega)) ⟨rfl, rfl, rfl, rfl, v, h1, rfl⟩
set_option maxHeartbeats 4000000 in
set_option maxRecDepth 100000 in
theorem w_arrives_x0 {l : Launch} (hfl : l.stackTraces = false) {D : jj_D} {n : Nat} {K : jj_K} {I : jj_I} {P : jj_P} {G : jj_G} {a1 : Int32} {rmy : Room} (hM : jj_Met l D yX5_arrives (jj_ws yX5_arrives cX5_arrives 4 (some .int)) rmy [.ref 1, .int a1] n K I P G jj_noR (jj_E "java/lang/IndexOutOfBoundsException" n K I P G)) (hr : w_rb rmy) (hk1 : K 1 = some (5, 0)) (hk : K 161 = some (11, 1)) :
    jj_Met l D yL_arrives (jj_wsH yL_arrives cL_arrives 4 (some .int) [(0, 9, 12, 13)]) { frames := 9, cells := 1, slots := 6, locals := 160 } [.ref 1, .int a1, .ref 161] n K I P G (w_x 1 n K I P G) jj_noX := by
  obtain ⟨r1, r2, r3, r4⟩ := hr
  refine jj_ofH hfl (by decide +kernel) [some (.ref 1), some (.int a1), some (.ref 161), none] rfl rfl ?_
  intro X hXl hX hSt
  subst hXl
  refine jr_aload_n hX dL_arrives_0 rfl ?_
  refine jr_iconst (v := 0) hX dL_arrives_1 (by decide) ?_
  refine jr_aload_n hX dL_arrives_2 rfl ?_
  refine jr_iload_n hX dL_arrives_3 rfl ?_
  refine jr_gen (jr_runV hX hSt kM_L_87 hM rfl rfl hk1 ⟨_, _, rfl, by decide⟩ dL_arrives_4 (jj_rb (by dsimp only; omega) (by dsimp only; omega)) ⟨by dsimp only; omega, by dsimp only; omega⟩ rfl) (fun E n1 K1 I1 P1 G1 h => ?_) (fun _ _ _ _ _ _ h => h.elim)
  obtain ⟨rfl, hn, rfl, rfl, rfl, rfl⟩ := h
  refine jr_catch_n hX hSt [] ⟨0, 9, 12, 13⟩ [] rfl (fun z hz => absurd hz (by simp)) rfl (by decide) kw_397 (by simp [jj_trav]) dL_arrives_12 rfl rfl ?_
  refine jr_iconst (v := 1) hX dL_arrives_13 (by decide) ?_
  exact jr_iret hX dL_arrives_14 (Nat.ble_eq.mpr (by dsimp only; omega)) (Nat.ble_eq.mpr (by dsimp only; omega)) ⟨rfl, hn, rfl, rfl, rfl, rfl⟩
set_option maxHeartbeats 4000000 in
set_option maxRecDepth 100000 in
theorem w_latest_ok {l : Launch} (hfl : l.stackTraces = false) {D : jj_D} {n : Nat} {K : jj_K} {I : jj_I} {P : jj_P} {G : jj_G} {a1 a2 : Int32} {rmy : Room} {S : Option Value → jj_I → Prop} (hM : jj_Met l D yX5_latest (jj_ws yX5_latest cX5_latest 4 (some .int)) rmy [.ref 1, .int a1, .int a2] n K I P G (jj_RS S n K P G) jj_noX) (hS : ∀ r J, S r J → ∃ v : Int32, r = some (.int v)) (hr : w_rb rmy) (hk1 : K 1 = some (5, 0)) (hk : K 161 = some (11, 1)) :
    jj_Met l D yL_latest (jj_wsH yL_latest cL_latest 5 (some .int) [(0, 10, 13, 13)]) { frames := 9, cells := 1, slots := 6, locals := 160 } [.ref 1, .int a1, .int a2, .ref 161] n K I P G (w_ok S n K P G) jj_noX := by
  obtain ⟨r1, r2, r3, r4⟩ := hr
  refine jj_ofH hfl (by decide +kernel) [some (.ref 1), some (.int a1), some (.int a2), some (.ref 161), none] rfl rfl ?_
  intro X hXl hX hSt
  subst hXl
  refine jr_aload_n hX dL_latest_0 rfl ?_
  refine jr_iconst (v := 0) hX dL_latest_1 (by decide) ?_
  refine jr_aload_n hX dL_latest_2 rfl ?_
  refine jr_iload_n hX dL_latest_3 rfl ?_
  refine jr_iload_n hX dL_latest_4 rfl ?_
  refine jr_rel (jr_runV hX hSt kM_L_90 hM rfl rfl hk1 ⟨_, _, rfl, by decide⟩ dL_latest_5 (jj_rb (by dsimp only; omega) (by dsimp only; omega)) ⟨by dsimp only; omega, by dsimp only; omega⟩ rfl) ?_
  intro r I1 h1
  obtain ⟨v, rfl⟩ := hS r I1 h1
  simp only [Option.toList, List.cons_append, List.nil_append]
  refine jr_i2l hX dL_latest_8 ?_
  refine jr_last hX hk (by decide) (show _ = nI 0 from rfl) (by decide) dL_latest_9 ?_
  refine jr_goto (tgt := 17) hX dL_latest_10 (by decide) ?_
  refine jr_iconst (v := 0) hX dL_latest_17 (by decide) ?_
  exact jr_iret hX dL_latest_18 (Nat.ble_eq.mpr (by dsimp only; omega)) (Nat.ble_eq.mpr (by dsimp only; omega)) ⟨rfl, rfl, rfl, rfl, v, h1, rfl⟩
set_option maxHeartbeats 4000000 in
set_option maxRecDepth 100000 in
theorem w_latest_x0 {l : Launch} (hfl : l.stackTraces = false) {D : jj_D} {n : Nat} {K : jj_K} {I : jj_I} {P : jj_P} {G : jj_G} {a1 a2 : Int32} {rmy : Room} (hM : jj_Met l D yX5_latest (jj_ws yX5_latest cX5_latest 4 (some .int)) rmy [.ref 1, .int a1, .int a2] n K I P G jj_noR (jj_E "java/lang/IndexOutOfBoundsException" n K I P G)) (hr : w_rb rmy) (hk1 : K 1 = some (5, 0)) (hk : K 161 = some (11, 1)) :
    jj_Met l D yL_latest (jj_wsH yL_latest cL_latest 5 (some .int) [(0, 10, 13, 13)]) { frames := 9, cells := 1, slots := 6, locals := 160 } [.ref 1, .int a1, .int a2, .ref 161] n K I P G (w_x 1 n K I P G) jj_noX := by
  obtain ⟨r1, r2, r3, r4⟩ := hr
  refine jj_ofH hfl (by decide +kernel) [some (.ref 1), some (.int a1), some (.int a2), some (.ref 161), none] rfl rfl ?_
  intro X hXl hX hSt
  subst hXl
  refine jr_aload_n hX dL_latest_0 rfl ?_
  refine jr_iconst (v := 0) hX dL_latest_1 (by decide) ?_
  refine jr_aload_n hX dL_latest_2 rfl ?_
  refine jr_iload_n hX dL_latest_3 rfl ?_
  refine jr_iload_n hX dL_latest_4 rfl ?_
  refine jr_gen (jr_runV hX hSt kM_L_90 hM rfl rfl hk1 ⟨_, _, rfl, by decide⟩ dL_latest_5 (jj_rb (by dsimp only; omega) (by dsimp only; omega)) ⟨by dsimp only; omega, by dsimp only; omega⟩ rfl) (fun E n1 K1 I1 P1 G1 h => ?_) (fun _ _ _ _ _ _ h => h.elim)
  obtain ⟨rfl, hn, rfl, rfl, rfl, rfl⟩ := h
  refine jr_catch hX hSt [] ⟨0, 10, 13, 13⟩ [] rfl (fun z hz => absurd hz (by simp)) rfl (by decide) kw_397 (by simp [jj_trav]) dL_latest_13 rfl rfl ?_
  refine jr_iconst (v := 1) hX dL_latest_15 (by decide) ?_
  exact jr_iret hX dL_latest_16 (Nat.ble_eq.mpr (by dsimp only; omega)) (Nat.ble_eq.mpr (by dsimp only; omega)) ⟨rfl, hn, rfl, rfl, rfl, rfl⟩
set_option maxHeartbeats 4000000 in
set_option maxRecDepth 100000 in
theorem w_advise_ok {l : Launch} (hfl : l.stackTraces = false) {D : jj_D} {n : Nat} {K : jj_K} {I : jj_I} {P : jj_P} {G : jj_G} {a1 a2 : Int32} {rmy : Room} {S : Option Value → jj_I → Prop} (hM : jj_Met l D yX5_advise (jj_ws yX5_advise cX5_advise 7 (some .int)) rmy [.ref 1, .int a1, .int a2] n K I P G (jj_RS S n K P G) jj_noX) (hS : ∀ r J, S r J → ∃ v : Int32, r = some (.int v)) (hr : w_rb rmy) (hk1 : K 1 = some (5, 0)) (hk : K 161 = some (11, 1)) :
    jj_Met l D yL_advise (jj_wsH yL_advise cL_advise 5 (some .int) [(0, 10, 13, 13), (0, 10, 17, 15)]) { frames := 9, cells := 1, slots := 6, locals := 160 } [.ref 1, .int a1, .int a2, .ref 161] n K I P G (w_ok S n K P G) jj_noX := by
  obtain ⟨r1, r2, r3, r4⟩ := hr
  refine jj_ofH hfl (by decide +kernel) [some (.ref 1), some (.int a1), some (.int a2), some (.ref 161), none] rfl rfl ?_
  intro X hXl hX hSt
  subst hXl
  refine jr_aload_n hX dL_advise_0 rfl ?_
  refine jr_iconst (v := 0) hX dL_advise_1 (by decide) ?_
  refine jr_aload_n hX dL_advise_2 rfl ?_
  refine jr_iload_n hX dL_advise_3 rfl ?_
  refine jr_iload_n hX dL_advise_4 rfl ?_
  refine jr_rel (jr_runV hX hSt kM_L_93 hM rfl rfl hk1 ⟨_, _, rfl, by decide⟩ dL_advise_5 (jj_rb (by dsimp only; omega) (by dsimp only; omega)) ⟨by dsimp only; omega, by dsimp only; omega⟩ rfl) ?_
  intro r I1 h1
  obtain ⟨v, rfl⟩ := hS r I1 h1
  simp only [Option.toList, List.cons_append, List.nil_append]
  refine jr_i2l hX dL_advise_8 ?_
  refine jr_last hX hk (by decide) (show _ = nI 0 from rfl) (by decide) dL_advise_9 ?_
  refine jr_goto (tgt := 21) hX dL_advise_10 (by decide) ?_
  refine jr_iconst (v := 0) hX dL_advise_21 (by decide) ?_
  exact jr_iret hX dL_advise_22 (Nat.ble_eq.mpr (by dsimp only; omega)) (Nat.ble_eq.mpr (by dsimp only; omega)) ⟨rfl, rfl, rfl, rfl, v, h1, rfl⟩
set_option maxHeartbeats 4000000 in
set_option maxRecDepth 100000 in
theorem w_advise_x0 {l : Launch} (hfl : l.stackTraces = false) {D : jj_D} {n : Nat} {K : jj_K} {I : jj_I} {P : jj_P} {G : jj_G} {a1 a2 : Int32} {rmy : Room} (hM : jj_Met l D yX5_advise (jj_ws yX5_advise cX5_advise 7 (some .int)) rmy [.ref 1, .int a1, .int a2] n K I P G jj_noR (jj_E "java/lang/IndexOutOfBoundsException" n K I P G)) (hr : w_rb rmy) (hk1 : K 1 = some (5, 0)) (hk : K 161 = some (11, 1)) :
    jj_Met l D yL_advise (jj_wsH yL_advise cL_advise 5 (some .int) [(0, 10, 13, 13), (0, 10, 17, 15)]) { frames := 9, cells := 1, slots := 6, locals := 160 } [.ref 1, .int a1, .int a2, .ref 161] n K I P G (w_x 1 n K I P G) jj_noX := by
  obtain ⟨r1, r2, r3, r4⟩ := hr
  refine jj_ofH hfl (by decide +kernel) [some (.ref 1), some (.int a1), some (.int a2), some (.ref 161), none] rfl rfl ?_
  intro X hXl hX hSt
  subst hXl
  refine jr_aload_n hX dL_advise_0 rfl ?_
  refine jr_iconst (v := 0) hX dL_advise_1 (by decide) ?_
  refine jr_aload_n hX dL_advise_2 rfl ?_
  refine jr_iload_n hX dL_advise_3 rfl ?_
  refine jr_iload_n hX dL_advise_4 rfl ?_
  refine jr_gen (jr_runV hX hSt kM_L_93 hM rfl rfl hk1 ⟨_, _, rfl, by decide⟩ dL_advise_5 (jj_rb (by dsimp only; omega) (by dsimp only; omega)) ⟨by dsimp only; omega, by dsimp only; omega⟩ rfl) (fun E n1 K1 I1 P1 G1 h => ?_) (fun _ _ _ _ _ _ h => h.elim)
  obtain ⟨rfl, hn, rfl, rfl, rfl, rfl⟩ := h
  refine jr_catch hX hSt [] ⟨0, 10, 13, 13⟩ [⟨0, 10, 17, 15⟩] rfl (fun z hz => absurd hz (by simp)) rfl (by decide) kw_397 (by simp [jj_trav]) dL_advise_13 rfl rfl ?_
  refine jr_iconst (v := 1) hX dL_advise_15 (by decide) ?_
  exact jr_iret hX dL_advise_16 (Nat.ble_eq.mpr (by dsimp only; omega)) (Nat.ble_eq.mpr (by dsimp only; omega)) ⟨rfl, hn, rfl, rfl, rfl, rfl⟩
set_option maxHeartbeats 4000000 in
set_option maxRecDepth 100000 in
theorem w_advise_x1 {l : Launch} (hfl : l.stackTraces = false) {D : jj_D} {n : Nat} {K : jj_K} {I : jj_I} {P : jj_P} {G : jj_G} {a1 a2 : Int32} {rmy : Room} (hM : jj_Met l D yX5_advise (jj_ws yX5_advise cX5_advise 7 (some .int)) rmy [.ref 1, .int a1, .int a2] n K I P G jj_noR (jj_E "java/lang/IllegalArgumentException" n K I P G)) (hr : w_rb rmy) (hk1 : K 1 = some (5, 0)) (hk : K 161 = some (11, 1)) :
    jj_Met l D yL_advise (jj_wsH yL_advise cL_advise 5 (some .int) [(0, 10, 13, 13), (0, 10, 17, 15)]) { frames := 9, cells := 1, slots := 6, locals := 160 } [.ref 1, .int a1, .int a2, .ref 161] n K I P G (w_x 2 n K I P G) jj_noX := by
  obtain ⟨r1, r2, r3, r4⟩ := hr
  refine jj_ofH hfl (by decide +kernel) [some (.ref 1), some (.int a1), some (.int a2), some (.ref 161), none] rfl rfl ?_
  intro X hXl hX hSt
  subst hXl
  refine jr_aload_n hX dL_advise_0 rfl ?_
  refine jr_iconst (v := 0) hX dL_advise_1 (by decide) ?_
  refine jr_aload_n hX dL_advise_2 rfl ?_
  refine jr_iload_n hX dL_advise_3 rfl ?_
  refine jr_iload_n hX dL_advise_4 rfl ?_
  refine jr_gen (jr_runV hX hSt kM_L_93 hM rfl rfl hk1 ⟨_, _, rfl, by decide⟩ dL_advise_5 (jj_rb (by dsimp only; omega) (by dsimp only; omega)) ⟨by dsimp only; omega, by dsimp only; omega⟩ rfl) (fun E n1 K1 I1 P1 G1 h => ?_) (fun _ _ _ _ _ _ h => h.elim)
  obtain ⟨rfl, hn, rfl, rfl, rfl, rfl⟩ := h
  refine jr_catch hX hSt [⟨0, 10, 13, 13⟩] ⟨0, 10, 17, 15⟩ [] rfl (fun z hz => by
    rcases List.mem_singleton.mp hz with rfl
    exact ⟨by decide, "java/lang/IndexOutOfBoundsException", kw_397, by simp [jj_nc]⟩) rfl (by decide) kw_398 (by simp [jj_trav]) dL_advise_17 rfl rfl ?_
  refine jr_iconst (v := 2) hX dL_advise_19 (by decide) ?_
  exact jr_iret hX dL_advise_20 (Nat.ble_eq.mpr (by dsimp only; omega)) (Nat.ble_eq.mpr (by dsimp only; omega)) ⟨rfl, hn, rfl, rfl, rfl, rfl⟩
