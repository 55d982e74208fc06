/-! class and model, call by call -/
set_option maxHeartbeats 4000000 in
set_option maxRecDepth 100000 in
theorem lj_setWarm {l : Launch} (hfl : l.stackTraces = false) {D : jj_D} {K : jj_K} {P : jj_P} {tt : Nat} {I : jj_I} (hly : ly K P) (hk161 : K 161 = some (11, 1)) (hKn0 : ∀ a, 162 ≤ a → K a = none) (hI : li tt I) (ht : tt + 1 ≤ 512) (d y : Int32) :
    lj l D K P tt I yL_setWarm (jj_wsH yL_setWarm cL_setWarm 5 (some .int) [(0, 10, 13, 13), (0, 10, 17, 15)]) [.ref 1, .int d, .int y, .ref 161] yX6_setWarm (jj_ws yX6_setWarm cX6_setWarm 4 (some .int)) [.ref 150, .int d, .int y] := by
  have hk1 : K 1 = some (5, 0) := ly_kI hly
  obtain ⟨H, M, B, N, hc, hm, hz⟩ := id hI
  obtain ⟨z1, z2, z3⟩ := id (sf_Z hc.1)
  have zz := sf_Z hc.1
  obtain ⟨hs, hk, ⟨d0, d1, hd⟩, hg, hb⟩ := id hc
  have hH8 := hs.1.2
  by_cases f : d < 0 ∨ nI 40 ≤ d
  · have h_d := f
    exact lj_x 1 (by decide) hI ht (fun n G hn => w_setWarm_x0 hfl (c_setWarm_x1 (n := n) (G := G) hfl (hly := hly) (hs := hs) (h_d := h_d)) ⟨by decide, by decide, by decide, by decide⟩ hk1 hk161) (fun n G hn => ⟨_, _, ⟨by decide, by decide, by decide, by decide⟩, m_setWarm_x1 (n := n) (G := G) hfl (hly := hly) (hs := hs) (hk := hk) (hm := hm) (hz := hz) (h_d := h_d)⟩)
  obtain ⟨d, h_d, rfl⟩ := tn_ix f (by omega)
  by_cases f : y < -9 ∨ 9 < y
  · have h_y := f
    exact lj_x 2 (by decide) hI ht (fun n G hn => w_setWarm_x1 hfl (c_setWarm_x2 (n := n) (G := G) hfl (hly := hly) (hs := hs) (h_d := h_d) (h_y := h_y)) ⟨by decide, by decide, by decide, by decide⟩ hk1 hk161) (fun n G hn => ⟨_, _, ⟨by decide, by decide, by decide, by decide⟩, m_setWarm_x2 (n := n) (G := G) hfl (hly := hly) (hs := hs) (hk := hk) (hm := hm) (hz := hz) (h_d := h_d) (h_y := h_y)⟩)
  have h_y := tn_nr f
  refine lj_ok (fun r J => r = some (.int (I (aWm 0) d)) ∧ J = jj_u I (aWm 0) d y) (fun n G hn => w_setWarm_ok hfl (jj_toRS (c_setWarm_ok (n := n) (G := G) hfl (hly := hly) (hs := hs) (h_d := h_d) (h_y := h_y))) (fun r J h => ⟨_, h.1⟩) ⟨by decide, by decide, by decide, by decide⟩ hk1 hk161) (fun v J hS n G hn => ?_)
  obtain ⟨e1, rfl⟩ := hS
  have e1 := tn_iv e1
  subst e1
  have off : ∀ a9, 150 ≤ a9 → (jj_u I (aWm 0) d y) a9 = I a9 := fun a ha => jj_u_ne (by simp only [aWm]; omega)
  have hm := ml_of zz hm off
  have hz := mz_of hz off
  have hn : 161 ≤ n := by omega
  have hKn : ∀ a, n ≤ a → K a = none := fun a ha => hKn0 a (by omega)
  exact ⟨_, _, jj_u I (aWm 0) d y, H, M, B, N, ⟨by decide, by decide, by decide, by decide⟩, by omega, tc_warm hc ht, fun _ _ => rfl, m_setWarm_ok (n := n) (G := G) hfl (hly := hly) (hs := hs) (hk := hk) (hm := hm) (hz := hz) (h_d := h_d) (h_y := h_y)⟩
set_option maxHeartbeats 4000000 in
set_option maxRecDepth 100000 in
theorem lj_addHarbour {l : Launch} (hfl : l.stackTraces = false) {D : jj_D} {K : jj_K} {P : jj_P} {tt : Nat} {I : jj_I} (hly : ly K P) (hk161 : K 161 = some (11, 1)) (hKn0 : ∀ a, 162 ≤ a → K a = none) (hI : li tt I) (ht : tt + 1 ≤ 512) (y z : Int32) :
    lj l D K P tt I yL_addHarbour (jj_wsH yL_addHarbour cL_addHarbour 5 (some .int) [(0, 10, 13, 15), (0, 10, 17, 20)]) [.ref 1, .int y, .int z, .ref 161] yX6_addHarbour (jj_ws yX6_addHarbour cX6_addHarbour 3 (some .int)) [.ref 150, .int y, .int z] := by
  have hk1 : K 1 = some (5, 0) := ly_kI hly
  obtain ⟨H, M, B, N, hc, hm, hz⟩ := id hI
  obtain ⟨z1, z2, z3⟩ := id (sf_Z hc.1)
  have zz := sf_Z hc.1
  obtain ⟨hs, hk, ⟨d0, d1, hd⟩, hg, hb⟩ := id hc
  have hH8 := hs.1.2
  by_cases f : y < 1 ∨ 9 < y
  · have h_y := f
    exact lj_x 1 (by decide) hI ht (fun n G hn => w_addHarbour_x0 hfl (c_addHarbour_x1 (n := n) (G := G) hfl (hly := hly) (hs := hs) (h_y := h_y)) ⟨by decide, by decide, by decide, by decide⟩ hk1 hk161) (fun n G hn => ⟨_, _, ⟨by decide, by decide, by decide, by decide⟩, m_addHarbour_x1 (n := n) (G := G) hfl (hly := hly) (hs := hs) (hk := hk) (hm := hm) (hz := hz) (h_y := h_y)⟩)
  have h_y := tn_nr f
  by_cases f : z < 0 ∨ 5 < z
  · have h_z := f
    exact lj_x 1 (by decide) hI ht (fun n G hn => w_addHarbour_x0 hfl (c_addHarbour_x2 (n := n) (G := G) hfl (hly := hly) (hs := hs) (h_y := h_y) (h_z := h_z)) ⟨by decide, by decide, by decide, by decide⟩ hk1 hk161) (fun n G hn => ⟨_, _, ⟨by decide, by decide, by decide, by decide⟩, m_addHarbour_x2 (n := n) (G := G) hfl (hly := hly) (hs := hs) (hk := hk) (hm := hm) (hz := hz) (h_y := h_y) (h_z := h_z)⟩)
  have h_z := tn_nr f
  by_cases f : H = 8
  · have h_r := f
    exact lj_x 2 (by decide) hI ht (fun n G hn => w_addHarbour_x1 hfl (c_addHarbour_x3 (n := n) (G := G) hfl (hly := hly) (hs := hs) (h_y := h_y) (h_z := h_z) (h_r := h_r)) ⟨by decide, by decide, by decide, by decide⟩ hk1 hk161) (fun n G hn => ⟨_, _, ⟨by decide, by decide, by decide, by decide⟩, m_addHarbour_x3 (n := n) (G := G) hfl (hly := hly) (hs := hs) (hk := hk) (hm := hm) (hz := hz) (h_y := h_y) (h_z := h_z) (h_r := h_r)⟩)
  have h_r : H < 8 := by omega
  refine lj_ok (fun r J => r = some (.int (nI H)) ∧ J = f_gr 0 H y z I) (fun n G hn => w_addHarbour_ok hfl (jj_toRS (c_addHarbour_ok (n := n) (G := G) hfl (hly := hly) (hs := hs) (h_y := h_y) (h_z := h_z) (h_r := h_r))) (fun r J h => ⟨_, h.1⟩) ⟨by decide, by decide, by decide, by decide⟩ hk1 hk161) (fun v J hS n G hn => ?_)
  obtain ⟨e1, rfl⟩ := hS
  have e1 := tn_iv e1
  subst e1
  have off : ∀ a9, 150 ≤ a9 → (f_gr 0 H y z I) a9 = I a9 := fun a ha => by
      unfold f_gr
      rw [jj_u_ne (by simp only [aR]; omega), jj_u_ne (by simp only [aBe]; omega)]
      split
      · rw [jj_u_ne (by simp only [aLd]; omega)]
      · rfl
  have hm := ml_of zz hm off
  have hz := mz_of hz off
  have hn : 161 ≤ n := by omega
  have hKn : ∀ a, n ≤ a → K a = none := fun a ha => hKn0 a (by omega)
  exact ⟨_, _, f_gr 0 H y z I, (H + 1), M, B, N, ⟨by decide, by decide, by decide, by decide⟩, by omega, tc_grow hc ht h_y h_z h_r, fun _ _ => rfl, m_addHarbour_ok (n := n) (G := G) hfl (hly := hly) (hs := hs) (hk := hk) (hm := hm) (hz := hz) (h_y := h_y) (h_z := h_z) (h_r := h_r)⟩
set_option maxHeartbeats 4000000 in
set_option maxRecDepth 100000 in
theorem lj_setPrice {l : Launch} (hfl : l.stackTraces = false) {D : jj_D} {K : jj_K} {P : jj_P} {tt : Nat} {I : jj_I} (hly : ly K P) (hk161 : K 161 = some (11, 1)) (hKn0 : ∀ a, 162 ≤ a → K a = none) (hI : li tt I) (ht : tt + 1 ≤ 512) (h g y : Int32) :
    lj l D K P tt I yL_setPrice (jj_wsH yL_setPrice cL_setPrice 6 (some .int) [(0, 12, 15, 13), (0, 12, 19, 15)]) [.ref 1, .int h, .int g, .int y, .ref 161] yX6_setPrice (jj_ws yX6_setPrice cX6_setPrice 5 (some .int)) [.ref 150, .int h, .int g, .int y] := by
  have hk1 : K 1 = some (5, 0) := ly_kI hly
  obtain ⟨H, M, B, N, hc, hm, hz⟩ := id hI
  obtain ⟨z1, z2, z3⟩ := id (sf_Z hc.1)
  have zz := sf_Z hc.1
  obtain ⟨hs, hk, ⟨d0, d1, hd⟩, hg, hb⟩ := id hc
  have hH8 := hs.1.2
  by_cases f : h < 0 ∨ nI H ≤ h
  · have h_h := f
    exact lj_x 1 (by decide) hI ht (fun n G hn => w_setPrice_x0 hfl (c_setPrice_x1 (n := n) (G := G) hfl (hly := hly) (hs := hs) (h_h := h_h)) ⟨by decide, by decide, by decide, by decide⟩ hk1 hk161) (fun n G hn => ⟨_, _, ⟨by decide, by decide, by decide, by decide⟩, m_setPrice_x1 (n := n) (G := G) hfl (hly := hly) (hs := hs) (hk := hk) (hm := hm) (hz := hz) (h_h := h_h)⟩)
  obtain ⟨h, h_h, rfl⟩ := tn_ix f (by omega)
  by_cases f : g < 0 ∨ nI 4 ≤ g
  · have h_g := f
    exact lj_x 1 (by decide) hI ht (fun n G hn => w_setPrice_x0 hfl (c_setPrice_x2 (n := n) (G := G) hfl (hly := hly) (hs := hs) (h_h := h_h) (h_g := h_g)) ⟨by decide, by decide, by decide, by decide⟩ hk1 hk161) (fun n G hn => ⟨_, _, ⟨by decide, by decide, by decide, by decide⟩, m_setPrice_x2 (n := n) (G := G) hfl (hly := hly) (hs := hs) (hk := hk) (hm := hm) (hz := hz) (h_h := h_h) (h_g := h_g)⟩)
  obtain ⟨g, h_g, rfl⟩ := tn_ix f (by omega)
  by_cases f : y < 0 ∨ 50 < y
  · have h_y := f
    exact lj_x 2 (by decide) hI ht (fun n G hn => w_setPrice_x1 hfl (c_setPrice_x3 (n := n) (G := G) hfl (hly := hly) (hs := hs) (h_h := h_h) (h_g := h_g) (h_y := h_y)) ⟨by decide, by decide, by decide, by decide⟩ hk1 hk161) (fun n G hn => ⟨_, _, ⟨by decide, by decide, by decide, by decide⟩, m_setPrice_x3 (n := n) (G := G) hfl (hly := hly) (hs := hs) (hk := hk) (hm := hm) (hz := hz) (h_h := h_h) (h_g := h_g) (h_y := h_y)⟩)
  have h_y := tn_nr f
  refine lj_ok (fun r J => r = some (.int (I (aPr 0) (h * 4 + g))) ∧ J = jj_u I (aPr 0) (h * 4 + g) y) (fun n G hn => w_setPrice_ok hfl (jj_toRS (c_setPrice_ok (n := n) (G := G) hfl (hly := hly) (hs := hs) (h_h := h_h) (h_g := h_g) (h_y := h_y))) (fun r J h => ⟨_, h.1⟩) ⟨by decide, by decide, by decide, by decide⟩ hk1 hk161) (fun v J hS n G hn => ?_)
  obtain ⟨e1, rfl⟩ := hS
  have e1 := tn_iv e1
  subst e1
  have off : ∀ a9, 150 ≤ a9 → (jj_u I (aPr 0) (h * 4 + g) y) a9 = I a9 := fun a ha => jj_u_ne (by simp only [aPr]; omega)
  have hm := ml_of zz hm off
  have hz := mz_of hz off
  have hn : 161 ≤ n := by omega
  have hKn : ∀ a, n ≤ a → K a = none := fun a ha => hKn0 a (by omega)
  exact ⟨_, _, jj_u I (aPr 0) (h * 4 + g) y, H, M, B, N, ⟨by decide, by decide, by decide, by decide⟩, by omega, tc_price hc ht h_y, fun _ _ => rfl, m_setPrice_ok (n := n) (G := G) hfl (hly := hly) (hs := hs) (hk := hk) (hm := hm) (hz := hz) (h_h := h_h) (h_g := h_g) (h_y := h_y)⟩
set_option maxHeartbeats 4000000 in
set_option maxRecDepth 100000 in
theorem lj_harbour {l : Launch} (hfl : l.stackTraces = false) {D : jj_D} {K : jj_K} {P : jj_P} {tt : Nat} {I : jj_I} (hly : ly K P) (hk161 : K 161 = some (11, 1)) (hKn0 : ∀ a, 162 ≤ a → K a = none) (hI : li tt I) (ht : tt + 1 ≤ 512) (h t : Int32) :
    lj l D K P tt I yL_harbour (jj_wsH yL_harbour cL_harbour 5 (some .int) [(0, 10, 13, 13)]) [.ref 1, .int h, .int t, .ref 161] yX6_harbour (jj_ws yX6_harbour cX6_harbour 3 (some .int)) [.ref 150, .int h, .int t] := by
  have hk1 : K 1 = some (5, 0) := ly_kI hly
  obtain ⟨H, M, B, N, hc, hm, hz⟩ := id hI
  obtain ⟨z1, z2, z3⟩ := id (sf_Z hc.1)
  have zz := sf_Z hc.1
  obtain ⟨hs, hk, ⟨d0, d1, hd⟩, hg, hb⟩ := id hc
  have hH8 := hs.1.2
  by_cases f : h < 0 ∨ nI H ≤ h
  · have h_h := f
    exact lj_x 1 (by decide) hI ht (fun n G hn => w_harbour_x0 hfl (c_harbour_x1 (n := n) (G := G) hfl (hly := hly) (hs := hs) (h_h := h_h)) ⟨by decide, by decide, by decide, by decide⟩ hk1 hk161) (fun n G hn => ⟨_, _, ⟨by decide, by decide, by decide, by decide⟩, m_harbour_x1 (n := n) (G := G) hfl (hly := hly) (hs := hs) (hk := hk) (hm := hm) (hz := hz) (h_h := h_h)⟩)
  obtain ⟨h, h_h, rfl⟩ := tn_ix f (by omega)
  by_cases f : t < 0 ∨ nI 8 ≤ t
  · have h_t := f
    exact lj_x 1 (by decide) hI ht (fun n G hn => w_harbour_x0 hfl (c_harbour_x2 (n := n) (G := G) hfl (hly := hly) (hs := hs) (h_h := h_h) (h_t := h_t)) ⟨by decide, by decide, by decide, by decide⟩ hk1 hk161) (fun n G hn => ⟨_, _, ⟨by decide, by decide, by decide, by decide⟩, m_harbour_x2 (n := n) (G := G) hfl (hly := hly) (hs := hs) (hk := hk) (hm := hm) (hz := hz) (h_h := h_h) (h_t := h_t)⟩)
  obtain ⟨t, h_t, rfl⟩ := tn_ix f (by omega)
  refine lj_ok (fun r J => r = some (.int (q_hf h H B I t)) ∧ J = I) (fun n G hn => w_harbour_ok hfl (jj_toRS (c_harbour_ok (n := n) (G := G) hfl (hly := hly) (hs := hs) (h_h := h_h) (h_t := h_t))) (fun r J h => ⟨_, h.1⟩) ⟨by decide, by decide, by decide, by decide⟩ hk1 hk161) (fun v J hS n G hn => ?_)
  obtain ⟨e1, rfl⟩ := hS
  have e1 := tn_iv e1
  subst e1
  have hn : 161 ≤ n := by omega
  have hKn : ∀ a, n ≤ a → K a = none := fun a ha => hKn0 a (by omega)
  exact ⟨_, _, J, H, M, B, N, ⟨by decide, by decide, by decide, by decide⟩, by omega, tc_S hc ht, fun _ _ => rfl, m_harbour_ok (n := n) (G := G) hfl (hly := hly) (hs := hs) (hk := hk) (hm := hm) (hz := hz) (h_h := h_h) (h_t := h_t)⟩
set_option maxHeartbeats 4000000 in
set_option maxRecDepth 100000 in
theorem lj_leg {l : Launch} (hfl : l.stackTraces = false) {D : jj_D} {K : jj_K} {P : jj_P} {tt : Nat} {I : jj_I} (hly : ly K P) (hk161 : K 161 = some (11, 1)) (hKn0 : ∀ a, 162 ≤ a → K a = none) (hI : li tt I) (ht : tt + 1 ≤ 512) (h t : Int32) :
    lj l D K P tt I yL_leg (jj_wsH yL_leg cL_leg 5 (some .int) [(0, 10, 13, 13)]) [.ref 1, .int h, .int t, .ref 161] yX6_leg (jj_ws yX6_leg cX6_leg 3 (some .int)) [.ref 150, .int h, .int t] := by
  have hk1 : K 1 = some (5, 0) := ly_kI hly
  obtain ⟨H, M, B, N, hc, hm, hz⟩ := id hI
  obtain ⟨z1, z2, z3⟩ := id (sf_Z hc.1)
  have zz := sf_Z hc.1
  obtain ⟨hs, hk, ⟨d0, d1, hd⟩, hg, hb⟩ := id hc
  have hH8 := hs.1.2
  by_cases f : h < 0 ∨ nI (H - 1) ≤ h
  · have h_h := f
    exact lj_x 1 (by decide) hI ht (fun n G hn => w_leg_x0 hfl (c_leg_x1 (n := n) (G := G) hfl (hly := hly) (hs := hs) (h_h := h_h)) ⟨by decide, by decide, by decide, by decide⟩ hk1 hk161) (fun n G hn => ⟨_, _, ⟨by decide, by decide, by decide, by decide⟩, m_leg_x1 (n := n) (G := G) hfl (hly := hly) (hs := hs) (hk := hk) (hm := hm) (hz := hz) (h_h := h_h)⟩)
  obtain ⟨h, h_h, rfl⟩ := tn_ix f (by omega)
  by_cases f : t < 0 ∨ nI 4 ≤ t
  · have h_t := f
    exact lj_x 1 (by decide) hI ht (fun n G hn => w_leg_x0 hfl (c_leg_x2 (n := n) (G := G) hfl (hly := hly) (hs := hs) (h_h := h_h) (h_t := h_t)) ⟨by decide, by decide, by decide, by decide⟩ hk1 hk161) (fun n G hn => ⟨_, _, ⟨by decide, by decide, by decide, by decide⟩, m_leg_x2 (n := n) (G := G) hfl (hly := hly) (hs := hs) (hk := hk) (hm := hm) (hz := hz) (h_h := h_h) (h_t := h_t)⟩)
  obtain ⟨t, h_t, rfl⟩ := tn_ix f (by omega)
  refine lj_ok (fun r J => r = some (.int (q_lf h B I t)) ∧ J = I) (fun n G hn => w_leg_ok hfl (jj_toRS (c_leg_ok (n := n) (G := G) hfl (hly := hly) (hs := hs) (h_h := h_h) (h_t := h_t))) (fun r J h => ⟨_, h.1⟩) ⟨by decide, by decide, by decide, by decide⟩ hk1 hk161) (fun v J hS n G hn => ?_)
  obtain ⟨e1, rfl⟩ := hS
  have e1 := tn_iv e1
  subst e1
  have hn : 161 ≤ n := by omega
  have hKn : ∀ a, n ≤ a → K a = none := fun a ha => hKn0 a (by omega)
  exact ⟨_, _, J, H, M, B, N, ⟨by decide, by decide, by decide, by decide⟩, by omega, tc_S hc ht, fun _ _ => rfl, m_leg_ok (n := n) (G := G) hfl (hly := hly) (hs := hs) (hk := hk) (hm := hm) (hz := hz) (h_h := h_h) (h_t := h_t)⟩
set_option maxHeartbeats 4000000 in
set_option maxRecDepth 100000 in
theorem lj_addMerchant {l : Launch} (hfl : l.stackTraces = false) {D : jj_D} {K : jj_K} {P : jj_P} {tt : Nat} {I : jj_I} (hly : ly K P) (hk161 : K 161 = some (11, 1)) (hKn0 : ∀ a, 162 ≤ a → K a = none) (hI : li tt I) (ht : tt + 1 ≤ 512) (y : Int32) :
    lj l D K P tt I yL_addMerchant (jj_wsH yL_addMerchant cL_addMerchant 4 (some .int) [(0, 9, 12, 15), (0, 9, 15, 20)]) [.ref 1, .int y, .ref 161] yX6_addMerchant (jj_ws yX6_addMerchant cX6_addMerchant 2 (some .int)) [.ref 150, .int y] := by
  have hk1 : K 1 = some (5, 0) := ly_kI hly
  obtain ⟨H, M, B, N, hc, hm, hz⟩ := id hI
  obtain ⟨z1, z2, z3⟩ := id (sf_Z hc.1)
  have zz := sf_Z hc.1
  obtain ⟨hs, hk, ⟨d0, d1, hd⟩, hg, hb⟩ := id hc
  have hH8 := hs.1.2
  by_cases f : y < 0 ∨ 5000 < y
  · have h_y := f
    exact lj_x 1 (by decide) hI ht (fun n G hn => w_addMerchant_x0 hfl (c_addMerchant_x1 (n := n) (G := G) hfl (hly := hly) (hs := hs) (h_y := h_y)) ⟨by decide, by decide, by decide, by decide⟩ hk1 hk161) (fun n G hn => ⟨_, _, ⟨by decide, by decide, by decide, by decide⟩, m_addMerchant_x1 (n := n) (G := G) hfl (hly := hly) (hs := hs) (hk := hk) (hm := hm) (hz := hz) (h_y := h_y)⟩)
  have h_y := tn_nr f
  by_cases f : M = 5
  · have h_r := f
    exact lj_x 2 (by decide) hI ht (fun n G hn => w_addMerchant_x1 hfl (c_addMerchant_x2 (n := n) (G := G) hfl (hly := hly) (hs := hs) (h_y := h_y) (h_r := h_r)) ⟨by decide, by decide, by decide, by decide⟩ hk1 hk161) (fun n G hn => ⟨_, _, ⟨by decide, by decide, by decide, by decide⟩, m_addMerchant_x2 (n := n) (G := G) hfl (hly := hly) (hs := hs) (hk := hk) (hm := hm) (hz := hz) (h_y := h_y) (h_r := h_r)⟩)
  have h_r : M < 5 := by omega
  refine lj_ok (fun r J => r = some (.int (nI M)) ∧ J = jj_u (jj_u I (aM 0 M) 0 y) (aW 0) 1 (nI (M + 1))) (fun n G hn => w_addMerchant_ok hfl (jj_toRS (c_addMerchant_ok (n := n) (G := G) hfl (hly := hly) (hs := hs) (h_y := h_y) (h_r := h_r))) (fun r J h => ⟨_, h.1⟩) ⟨by decide, by decide, by decide, by decide⟩ hk1 hk161) (fun v J hS n G hn => ?_)
  obtain ⟨e1, rfl⟩ := hS
  have e1 := tn_iv e1
  subst e1
  have off : ∀ a9, 150 ≤ a9 → (jj_u (jj_u I (aM 0 M) 0 y) (aW 0) 1 (nI (M + 1))) a9 = I a9 := fun a ha => by rw [jj_u_ne (by simp only [aW]; omega), jj_u_ne (by simp only [aM]; omega)]
  have hm := ml_of zz hm off
  have hz := mz_of hz off
  have hn : 161 ≤ n := by omega
  have hKn : ∀ a, n ≤ a → K a = none := fun a ha => hKn0 a (by omega)
  exact ⟨_, _, jj_u (jj_u I (aM 0 M) 0 y) (aW 0) 1 (nI (M + 1)), H, (M + 1), B, N, ⟨by decide, by decide, by decide, by decide⟩, by omega, tc_mer2 hc ht h_y h_r, fun _ _ => rfl, m_addMerchant_ok (n := n) (G := G) hfl (hly := hly) (hs := hs) (hk := hk) (hm := hm) (hz := hz) (h_y := h_y) (h_r := h_r)⟩
set_option maxHeartbeats 4000000 in
set_option maxRecDepth 100000 in
theorem lj_bring {l : Launch} (hfl : l.stackTraces = false) {D : jj_D} {K : jj_K} {P : jj_P} {tt : Nat} {I : jj_I} (hly : ly K P) (hk161 : K 161 = some (11, 1)) (hKn0 : ∀ a, 162 ≤ a → K a = none) (hI : li tt I) (ht : tt + 1 ≤ 512) (m h g y : Int32) :
    lj l D K P tt I yL_bring (jj_wsH yL_bring cL_bring 7 (some .int) [(0, 14, 17, 13), (0, 14, 21, 15)]) [.ref 1, .int m, .int h, .int g, .int y, .ref 161] yX6_bring (jj_ws yX6_bring cX6_bring 5 (some .int)) [.ref 150, .int m, .int h, .int g, .int y] := by
  have hk1 : K 1 = some (5, 0) := ly_kI hly
  obtain ⟨H, M, B, N, hc, hm, hz⟩ := id hI
  obtain ⟨z1, z2, z3⟩ := id (sf_Z hc.1)
  have zz := sf_Z hc.1
  obtain ⟨hs, hk, ⟨d0, d1, hd⟩, hg, hb⟩ := id hc
  have hH8 := hs.1.2
  by_cases f : m < 0 ∨ nI M ≤ m
  · have h_m := f
    exact lj_x 1 (by decide) hI ht (fun n G hn => w_bring_x0 hfl (c_bring_x1 (n := n) (G := G) hfl (hly := hly) (hs := hs) (h_m := h_m)) ⟨by decide, by decide, by decide, by decide⟩ hk1 hk161) (fun n G hn => ⟨_, _, ⟨by decide, by decide, by decide, by decide⟩, m_bring_x1 (n := n) (G := G) hfl (hly := hly) (hs := hs) (hk := hk) (hm := hm) (hz := hz) (h_m := h_m)⟩)
  obtain ⟨m, h_m, rfl⟩ := tn_ix f (by omega)
  by_cases f : h < 0 ∨ nI H ≤ h
  · have h_h := f
    exact lj_x 1 (by decide) hI ht (fun n G hn => w_bring_x0 hfl (c_bring_x2 (n := n) (G := G) hfl (hly := hly) (hs := hs) (h_m := h_m) (h_h := h_h)) ⟨by decide, by decide, by decide, by decide⟩ hk1 hk161) (fun n G hn => ⟨_, _, ⟨by decide, by decide, by decide, by decide⟩, m_bring_x2 (n := n) (G := G) hfl (hly := hly) (hs := hs) (hk := hk) (hm := hm) (hz := hz) (h_m := h_m) (h_h := h_h)⟩)
  obtain ⟨h, h_h, rfl⟩ := tn_ix f (by omega)
  by_cases f : g < 0 ∨ nI 4 ≤ g
  · have h_g := f
    exact lj_x 1 (by decide) hI ht (fun n G hn => w_bring_x0 hfl (c_bring_x3 (n := n) (G := G) hfl (hly := hly) (hs := hs) (h_m := h_m) (h_h := h_h) (h_g := h_g)) ⟨by decide, by decide, by decide, by decide⟩ hk1 hk161) (fun n G hn => ⟨_, _, ⟨by decide, by decide, by decide, by decide⟩, m_bring_x3 (n := n) (G := G) hfl (hly := hly) (hs := hs) (hk := hk) (hm := hm) (hz := hz) (h_m := h_m) (h_h := h_h) (h_g := h_g)⟩)
  obtain ⟨g, h_g, rfl⟩ := tn_ix f (by omega)
  by_cases f : y < 1 ∨ 100 < y
  · have h_y := f
    exact lj_x 2 (by decide) hI ht (fun n G hn => w_bring_x1 hfl (c_bring_x4 (n := n) (G := G) hfl (hly := hly) (hs := hs) (h_m := h_m) (h_h := h_h) (h_g := h_g) (h_y := h_y)) ⟨by decide, by decide, by decide, by decide⟩ hk1 hk161) (fun n G hn => ⟨_, _, ⟨by decide, by decide, by decide, by decide⟩, m_bring_x4 (n := n) (G := G) hfl (hly := hly) (hs := hs) (hk := hk) (hm := hm) (hz := hz) (h_m := h_m) (h_h := h_h) (h_g := h_g) (h_y := h_y)⟩)
  have h_y := tn_nr f
  refine lj_ok (fun r J => r = some (.int (jj_u I (aMt 0 m) (h * 4 + g) (I (aMt 0 m) (h * 4 + g) + y) (aMt 0 m) (h * 4 + g))) ∧ J = jj_u I (aMt 0 m) (h * 4 + g) (I (aMt 0 m) (h * 4 + g) + y)) (fun n G hn => w_bring_ok hfl (jj_toRS (c_bring_ok (n := n) (G := G) hfl (hly := hly) (hs := hs) (h_m := h_m) (h_h := h_h) (h_g := h_g) (h_y := h_y))) (fun r J h => ⟨_, h.1⟩) ⟨by decide, by decide, by decide, by decide⟩ hk1 hk161) (fun v J hS n G hn => ?_)
  obtain ⟨e1, rfl⟩ := hS
  have e1 := tn_iv e1
  subst e1
  have off : ∀ a9, 150 ≤ a9 → (jj_u I (aMt 0 m) (h * 4 + g) (I (aMt 0 m) (h * 4 + g) + y)) a9 = I a9 := fun a ha => jj_u_ne (by simp only [aMt]; omega)
  have hm := ml_of zz hm off
  have hz := mz_of hz off
  have hn : 161 ≤ n := by omega
  have hKn : ∀ a, n ≤ a → K a = none := fun a ha => hKn0 a (by omega)
  exact ⟨_, _, jj_u I (aMt 0 m) (h * 4 + g) (I (aMt 0 m) (h * 4 + g) + y), H, M, B, N, ⟨by decide, by decide, by decide, by decide⟩, by omega, tc_bring hc ht (by omega) (by omega) h_y, fun _ _ => rfl, m_bring_ok (n := n) (G := G) hfl (hly := hly) (hs := hs) (hk := hk) (hm := hm) (hz := hz) (h_m := h_m) (h_h := h_h) (h_g := h_g) (h_y := h_y)⟩
set_option maxHeartbeats 4000000 in
set_option maxRecDepth 100000 in
theorem lj_sell {l : Launch} (hfl : l.stackTraces = false) {D : jj_D} {K : jj_K} {P : jj_P} {tt : Nat} {I : jj_I} (hly : ly K P) (hk161 : K 161 = some (11, 1)) (hKn0 : ∀ a, 162 ≤ a → K a = none) (hI : li tt I) (ht : tt + 1 ≤ 512) (m h g y : Int32) :
    lj l D K P tt I yL_sell (jj_wsH yL_sell cL_sell 7 (some .int) [(0, 14, 17, 13), (0, 14, 21, 15), (0, 14, 25, 20)]) [.ref 1, .int m, .int h, .int g, .int y, .ref 161] yX6_sell (jj_ws yX6_sell cX6_sell 5 (some .int)) [.ref 150, .int m, .int h, .int g, .int y] := by
  have hk1 : K 1 = some (5, 0) := ly_kI hly
  obtain ⟨H, M, B, N, hc, hm, hz⟩ := id hI
  obtain ⟨z1, z2, z3⟩ := id (sf_Z hc.1)
  have zz := sf_Z hc.1
  obtain ⟨hs, hk, ⟨d0, d1, hd⟩, hg, hb⟩ := id hc
  have hH8 := hs.1.2
  by_cases f : m < 0 ∨ nI M ≤ m
  · have h_m := f
    exact lj_x 1 (by decide) hI ht (fun n G hn => w_sell_x0 hfl (c_sell_x1 (n := n) (G := G) hfl (hly := hly) (hs := hs) (h_m := h_m)) ⟨by decide, by decide, by decide, by decide⟩ hk1 hk161) (fun n G hn => ⟨_, _, ⟨by decide, by decide, by decide, by decide⟩, m_sell_x1 (n := n) (G := G) hfl (hly := hly) (hs := hs) (hk := hk) (hm := hm) (hz := hz) (h_m := h_m)⟩)
  obtain ⟨m, h_m, rfl⟩ := tn_ix f (by omega)
  by_cases f : h < 0 ∨ nI H ≤ h
  · have h_h := f
    exact lj_x 1 (by decide) hI ht (fun n G hn => w_sell_x0 hfl (c_sell_x2 (n := n) (G := G) hfl (hly := hly) (hs := hs) (h_m := h_m) (h_h := h_h)) ⟨by decide, by decide, by decide, by decide⟩ hk1 hk161) (fun n G hn => ⟨_, _, ⟨by decide, by decide, by decide, by decide⟩, m_sell_x2 (n := n) (G := G) hfl (hly := hly) (hs := hs) (hk := hk) (hm := hm) (hz := hz) (h_m := h_m) (h_h := h_h)⟩)
  obtain ⟨h, h_h, rfl⟩ := tn_ix f (by omega)
  by_cases f : g < 0 ∨ nI 4 ≤ g
  · have h_g := f
    exact lj_x 1 (by decide) hI ht (fun n G hn => w_sell_x0 hfl (c_sell_x3 (n := n) (G := G) hfl (hly := hly) (hs := hs) (h_m := h_m) (h_h := h_h) (h_g := h_g)) ⟨by decide, by decide, by decide, by decide⟩ hk1 hk161) (fun n G hn => ⟨_, _, ⟨by decide, by decide, by decide, by decide⟩, m_sell_x3 (n := n) (G := G) hfl (hly := hly) (hs := hs) (hk := hk) (hm := hm) (hz := hz) (h_m := h_m) (h_h := h_h) (h_g := h_g)⟩)
  obtain ⟨g, h_g, rfl⟩ := tn_ix f (by omega)
  by_cases f : y < 1
  · have h_y := f
    exact lj_x 2 (by decide) hI ht (fun n G hn => w_sell_x1 hfl (c_sell_x4 (n := n) (G := G) hfl (hly := hly) (hs := hs) (h_m := h_m) (h_h := h_h) (h_g := h_g) (h_y := h_y)) ⟨by decide, by decide, by decide, by decide⟩ hk1 hk161) (fun n G hn => ⟨_, _, ⟨by decide, by decide, by decide, by decide⟩, m_sell_x4 (n := n) (G := G) hfl (hly := hly) (hs := hs) (hk := hk) (hm := hm) (hz := hz) (h_m := h_m) (h_h := h_h) (h_g := h_g) (h_y := h_y)⟩)
  have h_y : 1 ≤ y := Int32.not_lt.mp f
  by_cases f : I (aMt 0 m) (h * 4 + g) < y
  · have h_e := f
    exact lj_x 3 (by decide) hI ht (fun n G hn => w_sell_x2 hfl (c_sell_x5 (n := n) (G := G) hfl (hly := hly) (hs := hs) (h_m := h_m) (h_h := h_h) (h_g := h_g) (h_y := h_y) (h_e := h_e)) ⟨by decide, by decide, by decide, by decide⟩ hk1 hk161) (fun n G hn => ⟨_, _, ⟨by decide, by decide, by decide, by decide⟩, m_sell_x5 (n := n) (G := G) hfl (hly := hly) (hs := hs) (hk := hk) (hm := hm) (hz := hz) (h_m := h_m) (h_h := h_h) (h_g := h_g) (h_y := h_y) (h_e := h_e)⟩)
  have h_e : y ≤ I (aMt 0 m) (h * 4 + g) := Int32.not_lt.mp f
  refine lj_ok (fun r J => r = some (.int (f_sell m (h * 4 + g) y I (aM 0 m) 0)) ∧ J = f_sell m (h * 4 + g) y I) (fun n G hn => w_sell_ok hfl (jj_toRS (c_sell_ok (n := n) (G := G) hfl (hly := hly) (hs := hs) (h_m := h_m) (h_h := h_h) (h_g := h_g) (h_y := h_y) (h_e := h_e))) (fun r J h => ⟨_, h.1⟩) ⟨by decide, by decide, by decide, by decide⟩ hk1 hk161) (fun v J hS n G hn => ?_)
  obtain ⟨e1, rfl⟩ := hS
  have e1 := tn_iv e1
  subst e1
  have off : ∀ a9, 150 ≤ a9 → (f_sell m (h * 4 + g) y I) a9 = I a9 := fun a ha => by
      unfold f_sell
      rw [jj_u_ne (by simp only [aM]; omega), jj_u_ne (by simp only [aMt]; omega)]
  have hm := ml_of zz hm off
  have hz := mz_of hz off
  have hn : 161 ≤ n := by omega
  have hKn : ∀ a, n ≤ a → K a = none := fun a ha => hKn0 a (by omega)
  exact ⟨_, _, f_sell m (h * 4 + g) y I, H, M, B, N, ⟨by decide, by decide, by decide, by decide⟩, by omega, tc_sell hc ht (by omega) (by omega) h_y h_e, fun _ _ => rfl, m_sell_ok (n := n) (G := G) hfl (hly := hly) (hs := hs) (hk := hk) (hm := hm) (hz := hz) (h_m := h_m) (h_h := h_h) (h_g := h_g) (h_y := h_y) (h_e := h_e)⟩
set_option maxHeartbeats 4000000 in
set_option maxRecDepth 100000 in
theorem lj_stock {l : Launch} (hfl : l.stackTraces = false) {D : jj_D} {K : jj_K} {P : jj_P} {tt : Nat} {I : jj_I} (hly : ly K P) (hk161 : K 161 = some (11, 1)) (hKn0 : ∀ a, 162 ≤ a → K a = none) (hI : li tt I) (ht : tt + 1 ≤ 512) (m h g : Int32) :
    lj l D K P tt I yL_stock (jj_wsH yL_stock cL_stock 6 (some .int) [(0, 12, 15, 13)]) [.ref 1, .int m, .int h, .int g, .ref 161] yX6_stock (jj_ws yX6_stock cX6_stock 4 (some .int)) [.ref 150, .int m, .int h, .int g] := by
  have hk1 : K 1 = some (5, 0) := ly_kI hly
  obtain ⟨H, M, B, N, hc, hm, hz⟩ := id hI
  obtain ⟨z1, z2, z3⟩ := id (sf_Z hc.1)
  have zz := sf_Z hc.1
  obtain ⟨hs, hk, ⟨d0, d1, hd⟩, hg, hb⟩ := id hc
  have hH8 := hs.1.2
  by_cases f : m < 0 ∨ nI M ≤ m
  · have h_m := f
    exact lj_x 1 (by decide) hI ht (fun n G hn => w_stock_x0 hfl (c_stock_x1 (n := n) (G := G) hfl (hly := hly) (hs := hs) (h_m := h_m)) ⟨by decide, by decide, by decide, by decide⟩ hk1 hk161) (fun n G hn => ⟨_, _, ⟨by decide, by decide, by decide, by decide⟩, m_stock_x1 (n := n) (G := G) hfl (hly := hly) (hs := hs) (hk := hk) (hm := hm) (hz := hz) (h_m := h_m)⟩)
  obtain ⟨m, h_m, rfl⟩ := tn_ix f (by omega)
  by_cases f : h < 0 ∨ nI H ≤ h
  · have h_h := f
    exact lj_x 1 (by decide) hI ht (fun n G hn => w_stock_x0 hfl (c_stock_x2 (n := n) (G := G) hfl (hly := hly) (hs := hs) (h_m := h_m) (h_h := h_h)) ⟨by decide, by decide, by decide, by decide⟩ hk1 hk161) (fun n G hn => ⟨_, _, ⟨by decide, by decide, by decide, by decide⟩, m_stock_x2 (n := n) (G := G) hfl (hly := hly) (hs := hs) (hk := hk) (hm := hm) (hz := hz) (h_m := h_m) (h_h := h_h)⟩)
  obtain ⟨h, h_h, rfl⟩ := tn_ix f (by omega)
  by_cases f : g < 0 ∨ nI 4 ≤ g
  · have h_g := f
    exact lj_x 1 (by decide) hI ht (fun n G hn => w_stock_x0 hfl (c_stock_x3 (n := n) (G := G) hfl (hly := hly) (hs := hs) (h_m := h_m) (h_h := h_h) (h_g := h_g)) ⟨by decide, by decide, by decide, by decide⟩ hk1 hk161) (fun n G hn => ⟨_, _, ⟨by decide, by decide, by decide, by decide⟩, m_stock_x3 (n := n) (G := G) hfl (hly := hly) (hs := hs) (hk := hk) (hm := hm) (hz := hz) (h_m := h_m) (h_h := h_h) (h_g := h_g)⟩)
  obtain ⟨g, h_g, rfl⟩ := tn_ix f (by omega)
  refine lj_ok (fun r J => r = some (.int (I (aMt 0 m) (h * 4 + g))) ∧ J = I) (fun n G hn => w_stock_ok hfl (jj_toRS (c_stock_ok (n := n) (G := G) hfl (hly := hly) (hs := hs) (h_m := h_m) (h_h := h_h) (h_g := h_g))) (fun r J h => ⟨_, h.1⟩) ⟨by decide, by decide, by decide, by decide⟩ hk1 hk161) (fun v J hS n G hn => ?_)
  obtain ⟨e1, rfl⟩ := hS
  have e1 := tn_iv e1
  subst e1
  have hn : 161 ≤ n := by omega
  have hKn : ∀ a, n ≤ a → K a = none := fun a ha => hKn0 a (by omega)
  exact ⟨_, _, J, H, M, B, N, ⟨by decide, by decide, by decide, by decide⟩, by omega, tc_S hc ht, fun _ _ => rfl, m_stock_ok (n := n) (G := G) hfl (hly := hly) (hs := hs) (hk := hk) (hm := hm) (hz := hz) (h_m := h_m) (h_h := h_h) (h_g := h_g)⟩
set_option maxHeartbeats 4000000 in
set_option maxRecDepth 100000 in
theorem lj_merchant {l : Launch} (hfl : l.stackTraces = false) {D : jj_D} {K : jj_K} {P : jj_P} {tt : Nat} {I : jj_I} (hly : ly K P) (hk161 : K 161 = some (11, 1)) (hKn0 : ∀ a, 162 ≤ a → K a = none) (hI : li tt I) (ht : tt + 1 ≤ 512) (m t : Int32) :
    lj l D K P tt I yL_merchant (jj_wsH yL_merchant cL_merchant 5 (some .int) [(0, 10, 13, 13)]) [.ref 1, .int m, .int t, .ref 161] yX6_merchant (jj_ws yX6_merchant cX6_merchant 3 (some .int)) [.ref 150, .int m, .int t] := by
  have hk1 : K 1 = some (5, 0) := ly_kI hly
  obtain ⟨H, M, B, N, hc, hm, hz⟩ := id hI
  obtain ⟨z1, z2, z3⟩ := id (sf_Z hc.1)
  have zz := sf_Z hc.1
  obtain ⟨hs, hk, ⟨d0, d1, hd⟩, hg, hb⟩ := id hc
  have hH8 := hs.1.2
  by_cases f : m < 0 ∨ nI M ≤ m
  · have h_m := f
    exact lj_x 1 (by decide) hI ht (fun n G hn => w_merchant_x0 hfl (c_merchant_x1 (n := n) (G := G) hfl (hly := hly) (hs := hs) (h_m := h_m)) ⟨by decide, by decide, by decide, by decide⟩ hk1 hk161) (fun n G hn => ⟨_, _, ⟨by decide, by decide, by decide, by decide⟩, m_merchant_x1 (n := n) (G := G) hfl (hly := hly) (hs := hs) (hk := hk) (hm := hm) (hz := hz) (h_m := h_m)⟩)
  obtain ⟨m, h_m, rfl⟩ := tn_ix f (by omega)
  by_cases f : t < 0 ∨ nI 6 ≤ t
  · have h_t := f
    exact lj_x 1 (by decide) hI ht (fun n G hn => w_merchant_x0 hfl (c_merchant_x2 (n := n) (G := G) hfl (hly := hly) (hs := hs) (h_m := h_m) (h_t := h_t)) ⟨by decide, by decide, by decide, by decide⟩ hk1 hk161) (fun n G hn => ⟨_, _, ⟨by decide, by decide, by decide, by decide⟩, m_merchant_x2 (n := n) (G := G) hfl (hly := hly) (hs := hs) (hk := hk) (hm := hm) (hz := hz) (h_m := h_m) (h_t := h_t)⟩)
  obtain ⟨t, h_t, rfl⟩ := tn_ix f (by omega)
  refine lj_ok (fun r J => r = some (.int (q_mf m B N I t)) ∧ J = I) (fun n G hn => w_merchant_ok hfl (jj_toRS (c_merchant_ok (n := n) (G := G) hfl (hly := hly) (hs := hs) (h_m := h_m) (h_t := h_t))) (fun r J h => ⟨_, h.1⟩) ⟨by decide, by decide, by decide, by decide⟩ hk1 hk161) (fun v J hS n G hn => ?_)
  obtain ⟨e1, rfl⟩ := hS
  have e1 := tn_iv e1
  subst e1
  have hn : 161 ≤ n := by omega
  have hKn : ∀ a, n ≤ a → K a = none := fun a ha => hKn0 a (by omega)
  exact ⟨_, _, J, H, M, B, N, ⟨by decide, by decide, by decide, by decide⟩, by omega, tc_S hc ht, fun _ _ => rfl, m_merchant_ok (n := n) (G := G) hfl (hly := hly) (hs := hs) (hk := hk) (hm := hm) (hz := hz) (h_m := h_m) (h_t := h_t)⟩
set_option maxHeartbeats 4000000 in
set_option maxRecDepth 100000 in
theorem lj_build {l : Launch} (hfl : l.stackTraces = false) {D : jj_D} {K : jj_K} {P : jj_P} {tt : Nat} {I : jj_I} (hly : ly K P) (hk161 : K 161 = some (11, 1)) (hKn0 : ∀ a, 162 ≤ a → K a = none) (hI : li tt I) (ht : tt + 1 ≤ 512) (m h y : Int32) :
    lj l D K P tt I yL_build (jj_wsH yL_build cL_build 6 (some .int) [(0, 12, 15, 13), (0, 12, 19, 15), (0, 12, 23, 20)]) [.ref 1, .int m, .int h, .int y, .ref 161] yX6_build (jj_ws yX6_build cX6_build 5 (some .int)) [.ref 150, .int m, .int h, .int y] := by
  have hk1 : K 1 = some (5, 0) := ly_kI hly
  obtain ⟨H, M, B, N, hc, hm, hz⟩ := id hI
  obtain ⟨z1, z2, z3⟩ := id (sf_Z hc.1)
  have zz := sf_Z hc.1
  obtain ⟨hs, hk, ⟨d0, d1, hd⟩, hg, hb⟩ := id hc
  have hH8 := hs.1.2
  by_cases f : m < 0 ∨ nI M ≤ m
  · have h_m := f
    exact lj_x 1 (by decide) hI ht (fun n G hn => w_build_x0 hfl (c_build_x1 (n := n) (G := G) hfl (hly := hly) (hs := hs) (h_m := h_m)) ⟨by decide, by decide, by decide, by decide⟩ hk1 hk161) (fun n G hn => ⟨_, _, ⟨by decide, by decide, by decide, by decide⟩, m_build_x1 (n := n) (G := G) hfl (hly := hly) (hs := hs) (hk := hk) (hm := hm) (hz := hz) (h_m := h_m)⟩)
  obtain ⟨m, h_m, rfl⟩ := tn_ix f (by omega)
  by_cases f : h < 0 ∨ nI H ≤ h
  · have h_h := f
    exact lj_x 1 (by decide) hI ht (fun n G hn => w_build_x0 hfl (c_build_x2 (n := n) (G := G) hfl (hly := hly) (hs := hs) (h_m := h_m) (h_h := h_h)) ⟨by decide, by decide, by decide, by decide⟩ hk1 hk161) (fun n G hn => ⟨_, _, ⟨by decide, by decide, by decide, by decide⟩, m_build_x2 (n := n) (G := G) hfl (hly := hly) (hs := hs) (hk := hk) (hm := hm) (hz := hz) (h_m := h_m) (h_h := h_h)⟩)
  obtain ⟨h, h_h, rfl⟩ := tn_ix f (by omega)
  by_cases f : y < 1 ∨ 60 < y
  · have h_y := f
    exact lj_x 2 (by decide) hI ht (fun n G hn => w_build_x1 hfl (c_build_x3 (n := n) (G := G) hfl (hly := hly) (hs := hs) (h_m := h_m) (h_h := h_h) (h_y := h_y)) ⟨by decide, by decide, by decide, by decide⟩ hk1 hk161) (fun n G hn => ⟨_, _, ⟨by decide, by decide, by decide, by decide⟩, m_build_x3 (n := n) (G := G) hfl (hly := hly) (hs := hs) (hk := hk) (hm := hm) (hz := hz) (h_m := h_m) (h_h := h_h) (h_y := h_y)⟩)
  have h_y := tn_nr f
  by_cases f : B = 10
  · have h_r := f
    exact lj_x 3 (by decide) hI ht (fun n G hn => w_build_x2 hfl (c_build_x4 (n := n) (G := G) hfl (hly := hly) (hs := hs) (h_m := h_m) (h_h := h_h) (h_y := h_y) (h_r := h_r)) ⟨by decide, by decide, by decide, by decide⟩ hk1 hk161) (fun n G hn => ⟨_, _, ⟨by decide, by decide, by decide, by decide⟩, m_build_x4 (n := n) (G := G) hfl (hly := hly) (hs := hs) (hk := hk) (hm := hm) (hz := hz) (h_m := h_m) (h_h := h_h) (h_y := h_y) (h_r := h_r)⟩)
  have h_r : B < 10 := by omega
  have f7 := (hb.2.1 B (Nat.le_refl _) h_r).1
  have fc := (hb.2.1 B (Nat.le_refl _) h_r).2
  refine lj_ok (fun r J => r = some (.int (nI B)) ∧ J = jj_u (f_la 0 B (nI m) (nI h) y I) (aW 0) 2 (nI (B + 1))) (fun n G hn => w_build_ok hfl (jj_toRS (c_build_ok (n := n) (G := G) hfl (hly := hly) (hs := hs) (h_m := h_m) (h_h := h_h) (h_y := h_y) (h_r := h_r))) (fun r J h => ⟨_, h.1⟩) ⟨by decide, by decide, by decide, by decide⟩ hk1 hk161) (fun v J hS n G hn => ?_)
  obtain ⟨e1, rfl⟩ := hS
  have e1 := tn_iv e1
  subst e1
  have off : ∀ a9, 150 ≤ a9 → (jj_u (f_la 0 B (nI m) (nI h) y I) (aW 0) 2 (nI (B + 1))) a9 = I a9 := fun a ha => by
      unfold f_la
      rw [jj_u_ne (by simp only [aW]; omega), jj_u_ne (by simp only [aB]; omega), jj_u_ne (by simp only [aB]; omega), jj_u_ne (by simp only [aB]; omega), jj_u_ne (by simp only [aB]; omega), jj_u_ne (by simp only [aB]; omega), jj_u_ne (by simp only [aB]; omega)]
  have hm := ml_of zz hm off
  have hz := mz_of hz off
  have hn : 161 ≤ n := by omega
  have hKn : ∀ a, n ≤ a → K a = none := fun a ha => hKn0 a (by omega)
  exact ⟨_, _, jj_u (f_la 0 B (nI m) (nI h) y I) (aW 0) 2 (nI (B + 1)), H, M, (B + 1), N, ⟨by decide, by decide, by decide, by decide⟩, by omega, tc_build hc ht h_m h_h h_y h_r, fun _ _ => rfl, m_build_ok (n := n) (G := G) hfl (hly := hly) (hs := hs) (hk := hk) (hm := hm) (hz := hz) (h_m := h_m) (h_h := h_h) (h_y := h_y) (h_r := h_r) (hn := hn) (hKn := hKn) (f7 := f7) (fc := fc)⟩
set_option maxHeartbeats 4000000 in
set_option maxRecDepth 100000 in
theorem lj_load {l : Launch} (hfl : l.stackTraces = false) {D : jj_D} {K : jj_K} {P : jj_P} {tt : Nat} {I : jj_I} (hly : ly K P) (hk161 : K 161 = some (11, 1)) (hKn0 : ∀ a, 162 ≤ a → K a = none) (hI : li tt I) (ht : tt + 1 ≤ 512) (b g y : Int32) :
    lj l D K P tt I yL_load (jj_wsH yL_load cL_load 6 (some .int) [(0, 12, 15, 13), (0, 12, 19, 15), (0, 12, 23, 20)]) [.ref 1, .int b, .int g, .int y, .ref 161] yX6_load (jj_ws yX6_load cX6_load 5 (some .int)) [.ref 150, .int b, .int g, .int y] := by
  have hk1 : K 1 = some (5, 0) := ly_kI hly
  obtain ⟨H, M, B, N, hc, hm, hz⟩ := id hI
  obtain ⟨z1, z2, z3⟩ := id (sf_Z hc.1)
  have zz := sf_Z hc.1
  obtain ⟨hs, hk, ⟨d0, d1, hd⟩, hg, hb⟩ := id hc
  have hH8 := hs.1.2
  by_cases f : b < 0 ∨ nI B ≤ b
  · have h_b := f
    exact lj_x 1 (by decide) hI ht (fun n G hn => w_load_x0 hfl (c_load_x1 (n := n) (G := G) hfl (hly := hly) (hs := hs) (h_b := h_b)) ⟨by decide, by decide, by decide, by decide⟩ hk1 hk161) (fun n G hn => ⟨_, _, ⟨by decide, by decide, by decide, by decide⟩, m_load_x1 (n := n) (G := G) hfl (hly := hly) (hs := hs) (hk := hk) (hm := hm) (hz := hz) (h_b := h_b)⟩)
  obtain ⟨b, h_b, rfl⟩ := tn_ix f (by omega)
  by_cases f : g < 0 ∨ nI 4 ≤ g
  · have h_g := f
    exact lj_x 1 (by decide) hI ht (fun n G hn => w_load_x0 hfl (c_load_x2 (n := n) (G := G) hfl (hly := hly) (hs := hs) (h_b := h_b) (h_g := h_g)) ⟨by decide, by decide, by decide, by decide⟩ hk1 hk161) (fun n G hn => ⟨_, _, ⟨by decide, by decide, by decide, by decide⟩, m_load_x2 (n := n) (G := G) hfl (hly := hly) (hs := hs) (hk := hk) (hm := hm) (hz := hz) (h_b := h_b) (h_g := h_g)⟩)
  obtain ⟨g, h_g, rfl⟩ := tn_ix f (by omega)
  by_cases f : y < -60 ∨ 60 < y
  · have h_y := f
    exact lj_x 2 (by decide) hI ht (fun n G hn => w_load_x1 hfl (c_load_x3 (n := n) (G := G) hfl (hly := hly) (hs := hs) (h_b := h_b) (h_g := h_g) (h_y := h_y)) ⟨by decide, by decide, by decide, by decide⟩ hk1 hk161) (fun n G hn => ⟨_, _, ⟨by decide, by decide, by decide, by decide⟩, m_load_x3 (n := n) (G := G) hfl (hly := hly) (hs := hs) (hk := hk) (hm := hm) (hz := hz) (h_b := h_b) (h_g := h_g) (h_y := h_y)⟩)
  have h_y := tn_nr f
  by_cases f : y = 0
  · have h_0 := f
    exact lj_x 2 (by decide) hI ht (fun n G hn => w_load_x1 hfl (c_load_x4 (n := n) (G := G) hfl (hly := hly) (hs := hs) (h_b := h_b) (h_g := h_g) (h_y := h_y) (h_0 := h_0)) ⟨by decide, by decide, by decide, by decide⟩ hk1 hk161) (fun n G hn => ⟨_, _, ⟨by decide, by decide, by decide, by decide⟩, m_load_x4 (n := n) (G := G) hfl (hly := hly) (hs := hs) (hk := hk) (hm := hm) (hz := hz) (h_b := h_b) (h_g := h_g) (h_y := h_y) (h_0 := h_0)⟩)
  have h_0 : ¬ y = 0 := f
  by_cases f : ¬ (I (aB 0 b) 3 = 0 ∨ I (aB 0 b) 3 = 1)
  · have h_i := f
    exact lj_x 3 (by decide) hI ht (fun n G hn => w_load_x2 hfl (c_load_x5 (n := n) (G := G) hfl (hly := hly) (hs := hs) (h_b := h_b) (h_g := h_g) (h_y := h_y) (h_0 := h_0) (h_i := h_i)) ⟨by decide, by decide, by decide, by decide⟩ hk1 hk161) (fun n G hn => ⟨_, _, ⟨by decide, by decide, by decide, by decide⟩, m_load_x5 (n := n) (G := G) hfl (hly := hly) (hs := hs) (hk := hk) (hm := hm) (hz := hz) (h_b := h_b) (h_g := h_g) (h_y := h_y) (h_0 := h_0) (h_i := h_i)⟩)
  have h_i : I (aB 0 b) 3 = 0 ∨ I (aB 0 b) 3 = 1 := Classical.not_not.mp f
  by_cases f : (if 0 < y then I (aMt 0 (nv (I (aB 0 b) 0))) (nv (I (aB 0 b) 4) * 4 + g) else I (aBc 0 b) g) < (if 0 ≤ y then y else 0 - y)
  · have h_e := f
    exact lj_x 3 (by decide) hI ht (fun n G hn => w_load_x2 hfl (c_load_x6 (n := n) (G := G) hfl (hly := hly) (hs := hs) (h_b := h_b) (h_g := h_g) (h_y := h_y) (h_0 := h_0) (h_i := h_i) (h_e := h_e)) ⟨by decide, by decide, by decide, by decide⟩ hk1 hk161) (fun n G hn => ⟨_, _, ⟨by decide, by decide, by decide, by decide⟩, m_load_x6 (n := n) (G := G) hfl (hly := hly) (hs := hs) (hk := hk) (hm := hm) (hz := hz) (h_b := h_b) (h_g := h_g) (h_y := h_y) (h_0 := h_0) (h_i := h_i) (h_e := h_e)⟩)
  have h_e : (if 0 ≤ y then y else 0 - y) ≤ (if 0 < y then I (aMt 0 (nv (I (aB 0 b) 0))) (nv (I (aB 0 b) 4) * 4 + g) else I (aBc 0 b) g) := Int32.not_lt.mp f
  by_cases f : I (aB 0 b) 2 - sm (I (aBc 0 b)) 4 < y
  · have h_f := f
    obtain ⟨-, -, -, -, -, -, hst, hca, s9, r9, q1, q2, q3, q4, -⟩ := tc_ld hc h_b h_g h_i
    have hlo : ∃ s r, s ≤ r ∧ r ≤ 60 ∧ sm (I (aBc 0 b)) 4 = nI s ∧ I (aB 0 b) 2 = nI r := ⟨s9, r9, q1, q2, q3, q4⟩
    exact lj_x 3 (by decide) hI ht (fun n G hn => w_load_x2 hfl (c_load_x7 (n := n) (G := G) hfl (hly := hly) (hs := hs) (h_b := h_b) (h_g := h_g) (h_y := h_y) (h_0 := h_0) (h_i := h_i) (h_e := h_e) (h_f := h_f)) ⟨by decide, by decide, by decide, by decide⟩ hk1 hk161) (fun n G hn => ⟨_, _, ⟨by decide, by decide, by decide, by decide⟩, m_load_x7 (n := n) (G := G) hfl (hly := hly) (hs := hs) (hk := hk) (hm := hm) (hz := hz) (h_b := h_b) (h_g := h_g) (h_y := h_y) (h_0 := h_0) (h_i := h_i) (h_e := h_e) (h_f := h_f) (hst := hst) (hca := hca) (hlo := hlo)⟩)
  have h_f : y ≤ I (aB 0 b) 2 - sm (I (aBc 0 b)) 4 := Int32.not_lt.mp f
  obtain ⟨-, -, -, -, -, -, hst, hca, s9, r9, q1, q2, q3, q4, -⟩ := tc_ld hc h_b h_g h_i
  have hlo : ∃ s r, s ≤ r ∧ r ≤ 60 ∧ sm (I (aBc 0 b)) 4 = nI s ∧ I (aB 0 b) 2 = nI r := ⟨s9, r9, q1, q2, q3, q4⟩
  refine lj_ok (fun r J => r = some (.int (sm (f_load b g y I (aBc 0 b)) 4)) ∧ J = f_load b g y I) (fun n G hn => w_load_ok hfl (jj_toRS (c_load_ok (n := n) (G := G) hfl (hly := hly) (hs := hs) (h_b := h_b) (h_g := h_g) (h_y := h_y) (h_0 := h_0) (h_i := h_i) (h_e := h_e) (h_f := h_f))) (fun r J h => ⟨_, h.1⟩) ⟨by decide, by decide, by decide, by decide⟩ hk1 hk161) (fun v J hS n G hn => ?_)
  obtain ⟨e1, rfl⟩ := hS
  have e1 := tn_iv e1
  subst e1
  have off : ∀ a9, 150 ≤ a9 → (f_load b g y I) a9 = I a9 := fun a ha => by
      obtain ⟨o, x, o1, x1, eo, ex, -⟩ := tc_ld hc h_b h_g h_i
      rw [fload_eq eo ex o1 (by omega) (by omega), jj_u_ne (by simp only [aBc]; omega), jj_u_ne (by simp only [aMt]; omega)]
  have hm := ml_of zz hm off
  have hz := mz_of hz off
  have hn : 161 ≤ n := by omega
  have hKn : ∀ a, n ≤ a → K a = none := fun a ha => hKn0 a (by omega)
  exact ⟨_, _, f_load b g y I, H, M, B, N, ⟨by decide, by decide, by decide, by decide⟩, by omega, tc_load hc ht h_b h_g h_y h_0 h_i h_e h_f, fun _ _ => rfl, m_load_ok (n := n) (G := G) hfl (hly := hly) (hs := hs) (hk := hk) (hm := hm) (hz := hz) (h_b := h_b) (h_g := h_g) (h_y := h_y) (h_0 := h_0) (h_i := h_i) (h_e := h_e) (h_f := h_f) (hst := hst) (hca := hca) (hlo := hlo)⟩
