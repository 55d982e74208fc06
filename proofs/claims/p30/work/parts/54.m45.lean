/-! makers: the class's object -/
/-- all that the class's object holds is made -/
def wx (K0 : jj_K) (I0 : jj_I) (P0 : jj_P) (K : jj_K) (I : jj_I) (P : jj_P) : Prop :=
  (∀ a kd, a < 150 → ly_K0 a = some kd → K a = some kd) ∧ (∀ a k q, a < 150 → ly_P0 a k = some q → P a k = some q) ∧
  (∀ w, w < 2 → ∀ o, o < 70 → (ly_Kw o).1 ≤ 10 → ∀ k, I (aW w + o) k = if o = 2 ∧ k < 40 then 4 else 0) ∧ (K 0 = K0 0 ∧ I 0 = I0 0 ∧ P 0 = P0 0) ∧ ∀ b, 150 ≤ b → K b = K0 b
theorem wi_P {w : Nat} {K0 K : jj_K} {I0 I : jj_I} {P0 P : jj_P} (h : wi w 70 (fun _ => True) K0 I0 P0 K I P) (hw : w < 2) {o k q : Nat} (ho : o < 70) (e : ly_Pw w o k = some q) : P (aW w + o) k = some q := by
  obtain ⟨t, t1, t2, rfl, hR⟩ := ly_Pw_R hw ho e
  exact wi_p h t1 t2 trivial hR
theorem wx_mk {K K1 K2 K3 K4 : jj_K} {I I1 I2 I3 I4 : jj_I} {P P1 P2 P3 P4 P5 : jj_P} (hk : K 1 = some (5, 0)) (w0 : wi 0 70 (fun _ => True) K1 I1 P1 K2 I2 P2) (w1 : wi 1 70 (fun _ => True) K3 I3 P3 K4 I4 P4)
    (k1 : ∀ b, b ≠ 2 → K1 b = K b) (i1 : ∀ b, b ≠ 2 → I1 b = I b) (p1 : ∀ b, b ≠ 2 → P1 b = P b) (k3 : ∀ b, b ≠ 72 → K3 b = K2 b) (i3 : ∀ b, b ≠ 72 → I3 b = I2 b) (p3 : ∀ b, b ≠ 72 → b ≠ 1 → P3 b = P2 b)
    (q0 : P3 1 0 = some 2) (q1 : P3 1 1 = some 3) (q2 : P5 1 2 = some 72) (q3 : P5 1 3 = some 142) (q4 : ∀ k, k < 2 → P5 1 k = P4 1 k) (p5 : ∀ b, b ≠ 1 → b < 142 → P5 b = P4 b) (q5 : ∀ k, k < 7 → P5 142 k = some (143 + k)) :
    wx K I P (mnK K4 142 7 187) (mnI I4 142 7) P5 := by
  have a0 : aW 0 = 2 := rfl
  have a1 : aW 1 = 72 := rfl
  have e4 := w1.2.2.2.2.1
  have e2 := w0.2.2.2.2.1
  rw [a1] at e4
  rw [a0] at e2
  refine ⟨fun a kd ha h => ?_, fun a k q ha h => ?_, fun w hw o ho hc k => ?_, ⟨?_, ?_, ?_⟩, fun b hb => ?_⟩
  · unfold mnK
    by_cases c1 : a = 1
    · subst c1
      rw [if_neg (by omega), if_neg (by omega), (e4 1 (by omega)).1, k3 1 (by omega), (e2 1 (by omega)).1, k1 1 (by omega), hk]
      exact h
    · unfold ly_K0 at h
      rw [if_neg c1] at h
      by_cases c2 : 2 ≤ a ∧ a < 72
      · rw [if_pos c2] at h
        cases h
        rw [if_neg (by omega), if_neg (by omega), (e4 a (by omega)).1, k3 a (by omega), show a = aW 0 + (a - 2) by omega, w0.2.1 (a - 2) (by omega), show aW 0 + (a - 2) - 2 = a - 2 by omega]
      · rw [if_neg c2] at h
        by_cases c3 : 72 ≤ a ∧ a < 142
        · rw [if_pos c3] at h
          cases h
          rw [if_neg (by omega), if_neg (by omega), show a = aW 1 + (a - 72) by omega, w1.2.1 (a - 72) (by omega), show aW 1 + (a - 72) - 72 = a - 72 by omega]
        · rw [if_neg c3] at h
          by_cases c4 : a = 142
          · rw [if_pos c4] at h
            rw [if_pos c4]
            exact h
          · rw [if_neg c4] at h
            by_cases c5 : 143 ≤ a ∧ a < 150
            · rw [if_pos c5] at h
              rw [if_neg c4, if_pos (show 142 < a ∧ a ≤ 142 + 7 by omega)]
              exact h
            · rw [if_neg c5] at h
              exact absurd h (by simp)
  · unfold ly_P0 at h
    by_cases c1 : a = 1
    · subst c1
      rw [if_pos rfl] at h
      by_cases d0 : k = 0
      · subst d0
        rw [q4 0 (by omega), (e4 1 (by omega)).2.2, q0]
        exact h
      · rw [if_neg d0] at h
        by_cases d1 : k = 1
        · subst d1
          rw [q4 1 (by omega), (e4 1 (by omega)).2.2, q1]
          exact h
        · rw [if_neg d1] at h
          by_cases d2 : k = 2
          · subst d2
            rw [q2]
            exact h
          · rw [if_neg d2] at h
            by_cases d3 : k = 3
            · subst d3
              rw [q3]
              exact h
            · rw [if_neg d3] at h
              exact absurd h (by simp)
    · rw [if_neg c1] at h
      by_cases c2 : 2 ≤ a ∧ a < 72
      · rw [if_pos c2] at h
        rw [p5 a (by omega) (by omega), (e4 a (by omega)).2.2, p3 a (by omega) (by omega), show a = aW 0 + (a - 2) by omega]
        exact wi_P w0 (by omega) (by omega) h
      · rw [if_neg c2] at h
        by_cases c3 : 72 ≤ a ∧ a < 142
        · rw [if_pos c3] at h
          rw [p5 a (by omega) (by omega), show a = aW 1 + (a - 72) by omega]
          exact wi_P w1 (by omega) (by omega) h
        · rw [if_neg c3] at h
          by_cases c4 : a = 142
          · subst c4
            rw [if_pos rfl] at h
            by_cases d : k < 7
            · rw [if_pos d] at h
              rw [q5 k d]
              exact h
            · rw [if_neg d] at h
              exact absurd h (by simp)
          · rw [if_neg c4] at h
            exact absurd h (by simp)
  · unfold mnI
    obtain rfl | rfl : w = 0 ∨ w = 1 := by omega
    · rw [if_neg (by omega), (e4 _ (by omega)).2.1, i3 _ (by omega)]
      exact w0.2.2.2.1 o ho hc k
    · rw [if_neg (by omega)]
      exact w1.2.2.2.1 o ho hc k
  · unfold mnK
    rw [if_neg (by omega), if_neg (by omega), (e4 0 (by omega)).1, k3 0 (by omega), (e2 0 (by omega)).1, k1 0 (by omega)]
  · unfold mnI
    rw [if_neg (by omega), (e4 0 (by omega)).2.1, i3 0 (by omega), (e2 0 (by omega)).2.1, i1 0 (by omega)]
  · rw [p5 0 (by omega) (by omega), (e4 0 (by omega)).2.2, p3 0 (by omega) (by omega), (e2 0 (by omega)).2.2, p1 0 (by omega)]
  · unfold mnK
    rw [if_neg (by omega), if_neg (by omega), w1.2.2.2.2.2 b (by omega), k3 b (by omega), w0.2.2.2.2.2 b (by omega), k1 b (by omega)]
set_option maxHeartbeats 4000000 in
set_option maxRecDepth 100000 in
theorem c_X5_init {l : Launch} (hfl : l.stackTraces = false) {D : jj_D} {n : Nat} {K : jj_K} {I : jj_I} {P : jj_P} {G : jj_G}  (hk : K 1 = some (5, 0)) (hn : n = 2) :
    jj_Met l D yX5_init (jj_ws yX5_init cX5_init 1 none) { frames := 3, cells := 148, slots := 2642, locals := 62 } [.ref 1] n K I P G (fun r n1 K1 I1 P1 G1 => r = none ∧ n1 = 150 ∧ wx K I P K1 I1 P1 ∧ G1 = G) jj_noX := by
  refine jj_of hfl (by decide +kernel) [some (.ref 1)] rfl rfl ?_
  intro X hXl hX hSt
  subst hn
  refine jr_aload_n hX dX5_init_0 rfl ?_
  refine jr_obj hX kM_X5_3 dX5_init_1 rfl ?_
  refine jr_aload_n hX dX5_init_4 rfl ?_
  refine jr_new hX kN_X5_9 dX5_init_5 ⟨jj_b1 rfl, jj_b1 rfl⟩ ?_
  refine jr_dup hX dX5_init_8 rfl ?_
  refine jr_relM (jr_runI hX hSt kM_X5_11 (c_X4_init (jj_fl hX) (w := 0) (if_pos rfl) (fun k => if_pos rfl) rfl) rfl rfl dX5_init_9 rfl ⟨jj_b1 rfl, jj_b1 rfl⟩ rfl) ?_
  rintro r n1 K2 I2 P2 G2 ⟨rfl, rfl, w0, hG⟩
  subst hG
  simp only [Option.toList, List.nil_append]
  refine jj_gn (show _ = 72 from rfl) ?_
  have k21 : K2 1 = some (5, 0) := (w0.2.2.2.2.1 1 (by decide)).1.trans ((if_neg (by decide)).trans hk)
  refine jr_putF hX kF_X5_12 rfl rfl k21 (by decide) dX5_init_12 ?_
  refine jr_aload_n hX dX5_init_15 rfl ?_
  refine jr_aload_n hX dX5_init_16 rfl ?_
  refine jr_getr hX kF_X5_12 rfl k21 jj_u_eq dX5_init_17 ?_
  refine jr_getr hX kF_X5_16 rfl (wi_k w0 (o := 0) (by decide) rfl) ((congrFun (jj_u_ne (show 2 ≠ 1 by decide)) 0).trans (wi_p w0 (t := 1) (by decide) (by decide) trivial rfl)) dX5_init_20 ?_
  refine jr_putF hX kF_X5_20 rfl rfl k21 (by decide) dX5_init_23 ?_
  refine jr_aload_n hX dX5_init_26 rfl ?_
  refine jr_new hX kN_X5_9 dX5_init_27 ⟨jj_b1 rfl, jj_b1 rfl⟩ ?_
  refine jr_dup hX dX5_init_30 rfl ?_
  refine jr_relM (jr_runI hX hSt kM_X5_11 (c_X4_init (jj_fl hX) (w := 1) (if_pos rfl) (fun k => if_pos rfl) rfl) rfl rfl dX5_init_31 rfl ⟨jj_b1 rfl, jj_b1 rfl⟩ rfl) ?_
  rintro r n1 K4 I4 P4 G4 ⟨rfl, rfl, w1, hG⟩
  subst hG
  simp only [Option.toList, List.nil_append]
  refine jj_gn (show _ = 142 from rfl) ?_
  have k41 : K4 1 = some (5, 0) := (w1.2.2.2.2.1 1 (by decide)).1.trans ((if_neg (by decide)).trans k21)
  refine jr_putF hX kF_X5_21 rfl rfl k41 (by decide) dX5_init_34 ?_
  refine jr_aload_n hX dX5_init_37 rfl ?_
  refine jr_bipush (v := 7) hX dX5_init_38 (by decide) ?_
  refine jr_sipush (v := 187) hX dX5_init_40 (by decide) ?_
  refine jr_mna hX hSt kC_X5_24 kA_int (show _ = nI 7 from rfl) (show _ = nI 187 from rfl) (by decide) dX5_init_43 ⟨jj_b1 rfl, jj_b1 rfl⟩ ?_
  refine jr_putF hX kF_X5_26 rfl rfl ((if_neg (by decide)).trans ((if_neg (by decide)).trans k41)) (by decide) dX5_init_47 ?_
  refine jr_vret hX dX5_init_50 rfl rfl ?_
  refine ⟨rfl, rfl, wx_mk hk w0 w1 (fun b hb => if_neg hb) (fun b hb => jj_uR_ne hb) (fun b hb => jj_uR_ne hb) (fun b hb => if_neg hb) (fun b hb => jj_uR_ne hb) (fun b hb hb1 => ?_) ?_ ?_ ?_ ?_ (fun k hk2 => ?_) (fun b hb hb1 => ?_) (fun k hk2 => ?_), rfl⟩
  · rw [jj_uR_ne hb, jj_u_ne hb1, jj_u_ne hb1]
  · exact (congrFun (jj_uR_ne (by decide)) 0).trans ((jj_u_nk (by decide)).trans jj_u_eq)
  · exact (congrFun (jj_uR_ne (by decide)) 1).trans jj_u_eq
  · refine (jj_u_nk (by decide)).trans ?_
    unfold mnP
    rw [if_neg (by decide), jj_u_eq]
  · rw [jj_u_eq]
  · refine (jj_u_nk (by omega)).trans ?_
    unfold mnP
    rw [if_neg (by decide), jj_u_nk (by omega)]
  · refine (jj_u_ne hb).trans ?_
    unfold mnP
    rw [if_neg (by omega), jj_u_ne hb]
  · refine (congrFun (jj_u_ne (by decide)) k).trans ?_
    unfold mnP
    rw [if_pos rfl, if_pos hk2]
