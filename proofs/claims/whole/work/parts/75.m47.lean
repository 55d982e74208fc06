/-! class and model, call by call: the rest -/
set_option maxHeartbeats 4000000 in
set_option maxRecDepth 100000 in
theorem lj_send {l : Launch} (hfl : l.stackTraces = false) {D : jj_D} {K : jj_K} {P : jj_P} {tt : Nat} {I : jj_I} (hly : ly K P) (hk161 : K 161 = some (11, 1)) (hKn0 : ∀ a, 162 ≤ a → K a = none) (hI : li tt I) (ht : tt + 1 ≤ 512) (b h : Int32) :
    lj l D K P tt I yL_send (jj_wsH yL_send cL_send 5 (some .int) [(0, 10, 13, 13), (0, 10, 17, 20)]) [.ref 1, .int b, .int h, .ref 161] yX6_send (jj_ws yX6_send cX6_send 3 (some .int)) [.ref 150, .int b, .int h] := by
  have hk1 : K 1 = some (5, 0) := ly_kI hly
  obtain ⟨H, M, B, N, hc, hm, hz⟩ := id hI
  obtain ⟨z1, z2, z3⟩ := id (sf_Z hc.1)
  have zz := sf_Z hc.1
  obtain ⟨hs, hk, ⟨d0, d1, hd⟩, hg, hb⟩ := id hc
  have hH8 := hs.1.2
  by_cases f : b < 0 ∨ nI B ≤ b
  · have h_b := f
    exact lj_x 1 (by decide) hI ht (fun n G hn => w_send_x0 hfl (c_send_x1 (n := n) (G := G) hfl (hly := hly) (hs := hs) (h_b := h_b)) ⟨by decide, by decide, by decide, by decide⟩ hk1 hk161) (fun n G hn => ⟨_, _, ⟨by decide, by decide, by decide, by decide⟩, m_send_x1 (n := n) (G := G) hfl (hly := hly) (hs := hs) (hk := hk) (hm := hm) (hz := hz) (h_b := h_b)⟩)
  obtain ⟨b, h_b, rfl⟩ := tn_ix f (by omega)
  by_cases f : h < 0 ∨ nI H ≤ h
  · have h_h := f
    exact lj_x 1 (by decide) hI ht (fun n G hn => w_send_x0 hfl (c_send_x2 (n := n) (G := G) hfl (hly := hly) (hs := hs) (h_b := h_b) (h_h := h_h)) ⟨by decide, by decide, by decide, by decide⟩ hk1 hk161) (fun n G hn => ⟨_, _, ⟨by decide, by decide, by decide, by decide⟩, m_send_x2 (n := n) (G := G) hfl (hly := hly) (hs := hs) (hk := hk) (hm := hm) (hz := hz) (h_b := h_b) (h_h := h_h)⟩)
  obtain ⟨h, h_h, rfl⟩ := tn_ix f (by omega)
  by_cases f : I (aB 0 b) 3 = 3
  · have h_s := f
    exact lj_x 2 (by decide) hI ht (fun n G hn => w_send_x1 hfl (c_send_x3 (n := n) (G := G) hfl (hly := hly) (hs := hs) (h_b := h_b) (h_h := h_h) (h_s := h_s)) ⟨by decide, by decide, by decide, by decide⟩ hk1 hk161) (fun n G hn => ⟨_, _, ⟨by decide, by decide, by decide, by decide⟩, m_send_x3 (n := n) (G := G) hfl (hly := hly) (hs := hs) (hk := hk) (hm := hm) (hz := hz) (h_b := h_b) (h_h := h_h) (h_s := h_s)⟩)
  have h_s : ¬ I (aB 0 b) 3 = 3 := f
  refine lj_ok (fun r J => r = some (.int (jj_u I (aB 0 b) 6 (nI h) (aB 0 b) 7 + f_wd 0 (nv (I (aB 0 b) 4)) h (jj_u I (aB 0 b) 6 (nI h)))) ∧ J = jj_u I (aB 0 b) 6 (nI h)) (fun n G hn => w_send_ok hfl (jj_toRS (c_send_ok (n := n) (G := G) hfl (hly := hly) (hs := hs) (h_b := h_b) (h_h := h_h) (h_s := h_s))) (fun r J h => ⟨_, h.1⟩) ⟨by decide, by decide, by decide, by decide⟩ hk1 hk161) (fun v J hS n G hn => ?_)
  obtain ⟨e1, rfl⟩ := hS
  have e1 := tn_iv e1
  subst e1
  have off : ∀ a9, 150 ≤ a9 → (jj_u I (aB 0 b) 6 (nI h)) a9 = I a9 := fun a ha => jj_u_ne (by simp only [aB]; omega)
  have hm := ml_of zz hm off
  have hz := mz_of hz off
  have hn : 161 ≤ n := by omega
  have hKn : ∀ a, n ≤ a → K a = none := fun a ha => hKn0 a (by omega)
  exact ⟨_, _, jj_u I (aB 0 b) 6 (nI h), H, M, B, N, ⟨by decide, by decide, by decide, by decide⟩, by omega, tc_send hc ht h_b h_h, fun _ _ => rfl, m_send_ok (n := n) (G := G) hfl (hly := hly) (hs := hs) (hk := hk) (hm := hm) (hz := hz) (h_b := h_b) (h_h := h_h) (h_s := h_s)⟩
set_option maxHeartbeats 4000000 in
set_option maxRecDepth 100000 in
theorem lj_berth {l : Launch} (hfl : l.stackTraces = false) {D : jj_D} {K : jj_K} {P : jj_P} {tt : Nat} {I : jj_I} (hly : ly K P) (hk161 : K 161 = some (11, 1)) (hKn0 : ∀ a, 162 ≤ a → K a = none) (hI : li tt I) (ht : tt + 1 ≤ 512) (b z : Int32) :
    lj l D K P tt I yL_berth (jj_wsH yL_berth cL_berth 5 (some .int) [(0, 10, 13, 13), (0, 10, 17, 20)]) [.ref 1, .int b, .int z, .ref 161] yX6_berth (jj_ws yX6_berth cX6_berth 4 (some .int)) [.ref 150, .int b, .int z] := by
  have hk1 : K 1 = some (5, 0) := ly_kI hly
  obtain ⟨H, M, B, N, hc, hm, hz⟩ := id hI
  obtain ⟨z1, z2, z3⟩ := id (sf_Z hc.1)
  have zz := sf_Z hc.1
  obtain ⟨hs, hk, ⟨d0, d1, hd⟩, hg, hb⟩ := id hc
  have hH8 := hs.1.2
  by_cases f : b < 0 ∨ nI B ≤ b
  · have h_b := f
    exact lj_x 1 (by decide) hI ht (fun n G hn => w_berth_x0 hfl (c_berth_x1 (n := n) (G := G) hfl (hly := hly) (hs := hs) (h_b := h_b)) ⟨by decide, by decide, by decide, by decide⟩ hk1 hk161) (fun n G hn => ⟨_, _, ⟨by decide, by decide, by decide, by decide⟩, m_berth_x1 (n := n) (G := G) hfl (hly := hly) (hs := hs) (hk := hk) (hm := hm) (hz := hz) (h_b := h_b)⟩)
  obtain ⟨b, h_b, rfl⟩ := tn_ix f (by omega)
  by_cases f : ¬ (I (aB 0 b) 3 = 0 ∨ I (aB 0 b) 3 = 1)
  · have h_i := f
    exact lj_x 2 (by decide) hI ht (fun n G hn => w_berth_x1 hfl (c_berth_x2 (n := n) (G := G) hfl (hly := hly) (hs := hs) (h_b := h_b) (h_i := h_i)) ⟨by decide, by decide, by decide, by decide⟩ hk1 hk161) (fun n G hn => ⟨_, _, ⟨by decide, by decide, by decide, by decide⟩, m_berth_x2 (n := n) (G := G) hfl (hly := hly) (hs := hs) (hk := hk) (hm := hm) (hz := hz) (h_b := h_b) (h_i := h_i)⟩)
  have h_i : I (aB 0 b) 3 = 0 ∨ I (aB 0 b) 3 = 1 := Classical.not_not.mp f
  by_cases f : ¬ z = 0 ∧ ¬ I (aB 0 b) 3 = 1 ∧ I (aBe 0) (nv (I (aB 0 b) 4)) - sm (q_bl 0 (I (aB 0 b) 4) 1 I) B < 1
  · obtain ⟨h_z, h_n, h_f⟩ := f
    have hv := fun f => tc_hv hc h_b h_i f
    exact lj_x 2 (by decide) hI ht (fun n G hn => w_berth_x1 hfl (c_berth_x3 (n := n) (G := G) hfl (hly := hly) (hs := hs) (h_b := h_b) (h_i := h_i) (h_z := h_z) (h_n := h_n) (h_f := h_f)) ⟨by decide, by decide, by decide, by decide⟩ hk1 hk161) (fun n G hn => ⟨_, _, ⟨by decide, by decide, by decide, by decide⟩, m_berth_x3 (n := n) (G := G) hfl (hly := hly) (hs := hs) (hk := hk) (hm := hm) (hz := hz) (h_b := h_b) (h_i := h_i) (h_z := h_z) (h_n := h_n) (h_f := h_f) (hv := hv)⟩)
  have h_f : ¬ z = 0 → ¬ I (aB 0 b) 3 = 1 → 1 ≤ I (aBe 0) (nv (I (aB 0 b) 4)) - sm (q_bl 0 (I (aB 0 b) 4) 1 I) B := fun p q => Int32.not_lt.mp (fun r => f ⟨p, q, r⟩)
  refine lj_ok (fun r J => r = some (.int (f_berth b z I (aBe 0) (nv (I (aB 0 b) 4)) - sm (q_bl 0 (f_berth b z I (aB 0 b) 4) 1 (f_berth b z I)) B)) ∧ J = f_berth b z I) (fun n G hn => w_berth_ok hfl (jj_toRS (c_berth_ok (n := n) (G := G) hfl (hly := hly) (hs := hs) (h_b := h_b) (h_i := h_i) (h_f := h_f))) (fun r J h => ⟨_, h.1⟩) ⟨by decide, by decide, by decide, by decide⟩ hk1 hk161) (fun v J hS n G hn => ?_)
  obtain ⟨e1, rfl⟩ := hS
  have e1 := tn_iv e1
  subst e1
  have off : ∀ a9, 150 ≤ a9 → (f_berth b z I) a9 = I a9 := fun a ha => by
      unfold f_berth
      rw [jj_u_ne (by simp only [aB]; omega)]
  have hm := ml_of zz hm off
  have hz := mz_of hz off
  have hn : 161 ≤ n := by omega
  have hKn : ∀ a, n ≤ a → K a = none := fun a ha => hKn0 a (by omega)
  exact ⟨_, _, f_berth b z I, H, M, B, N, ⟨by decide, by decide, by decide, by decide⟩, by omega, tc_berth hc ht h_b h_i h_f, fun _ _ => rfl, m_berth_ok (n := n) (G := G) hfl (hly := hly) (hs := hs) (hk := hk) (hm := hm) (hz := hz) (h_b := h_b) (h_i := h_i) (h_f := h_f)⟩
set_option maxHeartbeats 4000000 in
set_option maxRecDepth 100000 in
theorem lj_mend {l : Launch} (hfl : l.stackTraces = false) {D : jj_D} {K : jj_K} {P : jj_P} {tt : Nat} {I : jj_I} (hly : ly K P) (hk161 : K 161 = some (11, 1)) (hKn0 : ∀ a, 162 ≤ a → K a = none) (hI : li tt I) (ht : tt + 1 ≤ 512) (b : Int32) :
    lj l D K P tt I yL_mend (jj_wsH yL_mend cL_mend 4 (some .int) [(0, 9, 12, 13), (0, 9, 15, 20)]) [.ref 1, .int b, .ref 161] yX6_mend (jj_ws yX6_mend cX6_mend 4 (some .int)) [.ref 150, .int b] := by
  have hk1 : K 1 = some (5, 0) := ly_kI hly
  obtain ⟨H, M, B, N, hc, hm, hz⟩ := id hI
  obtain ⟨z1, z2, z3⟩ := id (sf_Z hc.1)
  have zz := sf_Z hc.1
  obtain ⟨hs, hk, ⟨d0, d1, hd⟩, hg, hb⟩ := id hc
  have hH8 := hs.1.2
  by_cases f : b < 0 ∨ nI B ≤ b
  · have h_b := f
    exact lj_x 1 (by decide) hI ht (fun n G hn => w_mend_x0 hfl (c_mend_x1 (n := n) (G := G) hfl (hly := hly) (hs := hs) (h_b := h_b)) ⟨by decide, by decide, by decide, by decide⟩ hk1 hk161) (fun n G hn => ⟨_, _, ⟨by decide, by decide, by decide, by decide⟩, m_mend_x1 (n := n) (G := G) hfl (hly := hly) (hs := hs) (hk := hk) (hm := hm) (hz := hz) (h_b := h_b)⟩)
  obtain ⟨b, h_b, rfl⟩ := tn_ix f (by omega)
  by_cases f : ¬ (I (aB 0 b) 3 = 0 ∨ I (aB 0 b) 3 = 1)
  · have h_i := f
    exact lj_x 2 (by decide) hI ht (fun n G hn => w_mend_x1 hfl (c_mend_x2 (n := n) (G := G) hfl (hly := hly) (hs := hs) (h_b := h_b) (h_i := h_i)) ⟨by decide, by decide, by decide, by decide⟩ hk1 hk161) (fun n G hn => ⟨_, _, ⟨by decide, by decide, by decide, by decide⟩, m_mend_x2 (n := n) (G := G) hfl (hly := hly) (hs := hs) (hk := hk) (hm := hm) (hz := hz) (h_b := h_b) (h_i := h_i)⟩)
  have h_i : I (aB 0 b) 3 = 0 ∨ I (aB 0 b) 3 = 1 := Classical.not_not.mp f
  refine lj_ok (fun r J => r = some (.int (f_mend b I (aB 0 b) 1)) ∧ J = f_mend b I) (fun n G hn => w_mend_ok hfl (jj_toRS (c_mend_ok (n := n) (G := G) hfl (hly := hly) (hs := hs) (h_b := h_b) (h_i := h_i))) (fun r J h => ⟨_, h.1⟩) ⟨by decide, by decide, by decide, by decide⟩ hk1 hk161) (fun v J hS n G hn => ?_)
  obtain ⟨e1, rfl⟩ := hS
  have e1 := tn_iv e1
  subst e1
  have off : ∀ a9, 150 ≤ a9 → (f_mend b I) a9 = I a9 := fun a ha => by
      obtain ⟨⟨o, o1, o2⟩, -⟩ := hs.2.2.2.2.1 b h_b
      unfold f_mend
      rw [o2, nv_nI (by omega), jj_u_ne (by simp only [aB]; omega), jj_u_ne (by simp only [aM]; omega)]
  have hm := ml_of zz hm off
  have hz := mz_of hz off
  have hn : 161 ≤ n := by omega
  have hKn : ∀ a, n ≤ a → K a = none := fun a ha => hKn0 a (by omega)
  exact ⟨_, _, f_mend b I, H, M, B, N, ⟨by decide, by decide, by decide, by decide⟩, by omega, tc_mend hc ht h_b h_i, fun _ _ => rfl, m_mend_ok (n := n) (G := G) hfl (hly := hly) (hs := hs) (hk := hk) (hm := hm) (hz := hz) (h_b := h_b) (h_i := h_i)⟩
set_option maxHeartbeats 4000000 in
set_option maxRecDepth 100000 in
theorem lj_boat {l : Launch} (hfl : l.stackTraces = false) {D : jj_D} {K : jj_K} {P : jj_P} {tt : Nat} {I : jj_I} (hly : ly K P) (hk161 : K 161 = some (11, 1)) (hKn0 : ∀ a, 162 ≤ a → K a = none) (hI : li tt I) (ht : tt + 1 ≤ 512) (b t : Int32) :
    lj l D K P tt I yL_boat (jj_wsH yL_boat cL_boat 5 (some .int) [(0, 10, 13, 13)]) [.ref 1, .int b, .int t, .ref 161] yX6_boat (jj_ws yX6_boat cX6_boat 3 (some .int)) [.ref 150, .int b, .int t] := by
  have hk1 : K 1 = some (5, 0) := ly_kI hly
  obtain ⟨H, M, B, N, hc, hm, hz⟩ := id hI
  obtain ⟨z1, z2, z3⟩ := id (sf_Z hc.1)
  have zz := sf_Z hc.1
  obtain ⟨hs, hk, ⟨d0, d1, hd⟩, hg, hb⟩ := id hc
  have hH8 := hs.1.2
  by_cases f : b < 0 ∨ nI B ≤ b
  · have h_b := f
    exact lj_x 1 (by decide) hI ht (fun n G hn => w_boat_x0 hfl (c_boat_x1 (n := n) (G := G) hfl (hly := hly) (hs := hs) (h_b := h_b)) ⟨by decide, by decide, by decide, by decide⟩ hk1 hk161) (fun n G hn => ⟨_, _, ⟨by decide, by decide, by decide, by decide⟩, m_boat_x1 (n := n) (G := G) hfl (hly := hly) (hs := hs) (hk := hk) (hm := hm) (hz := hz) (h_b := h_b)⟩)
  obtain ⟨b, h_b, rfl⟩ := tn_ix f (by omega)
  by_cases f : t < 0 ∨ nI 12 ≤ t
  · have h_t := f
    exact lj_x 1 (by decide) hI ht (fun n G hn => w_boat_x0 hfl (c_boat_x2 (n := n) (G := G) hfl (hly := hly) (hs := hs) (h_b := h_b) (h_t := h_t)) ⟨by decide, by decide, by decide, by decide⟩ hk1 hk161) (fun n G hn => ⟨_, _, ⟨by decide, by decide, by decide, by decide⟩, m_boat_x2 (n := n) (G := G) hfl (hly := hly) (hs := hs) (hk := hk) (hm := hm) (hz := hz) (h_b := h_b) (h_t := h_t)⟩)
  obtain ⟨t, h_t, rfl⟩ := tn_ix f (by omega)
  refine lj_ok (fun r J => r = some (.int (q_bf b I t)) ∧ J = I) (fun n G hn => w_boat_ok hfl (jj_toRS (c_boat_ok (n := n) (G := G) hfl (hly := hly) (hs := hs) (h_b := h_b) (h_t := h_t))) (fun r J h => ⟨_, h.1⟩) ⟨by decide, by decide, by decide, by decide⟩ hk1 hk161) (fun v J hS n G hn => ?_)
  obtain ⟨e1, rfl⟩ := hS
  have e1 := tn_iv e1
  subst e1
  have hn : 161 ≤ n := by omega
  have hKn : ∀ a, n ≤ a → K a = none := fun a ha => hKn0 a (by omega)
  exact ⟨_, _, J, H, M, B, N, ⟨by decide, by decide, by decide, by decide⟩, by omega, tc_S hc ht, fun _ _ => rfl, m_boat_ok (n := n) (G := G) hfl (hly := hly) (hs := hs) (hk := hk) (hm := hm) (hz := hz) (h_b := h_b) (h_t := h_t)⟩
set_option maxHeartbeats 4000000 in
set_option maxRecDepth 100000 in
theorem lj_lend {l : Launch} (hfl : l.stackTraces = false) {D : jj_D} {K : jj_K} {P : jj_P} {tt : Nat} {I : jj_I} (hly : ly K P) (hk161 : K 161 = some (11, 1)) (hKn0 : ∀ a, 162 ≤ a → K a = none) (hI : li tt I) (ht : tt + 1 ≤ 512) (a b h g y t : Int32) :
    lj l D K P tt I yL_lend (jj_wsH yL_lend cL_lend 9 (some .int) [(0, 18, 21, 13), (0, 18, 25, 15), (0, 18, 29, 20)]) [.ref 1, .int a, .int b, .int h, .int g, .int y, .int t, .ref 161] yX6_lend (jj_ws yX6_lend cX6_lend 8 (some .int)) [.ref 150, .int a, .int b, .int h, .int g, .int y, .int t] := by
  have hk1 : K 1 = some (5, 0) := ly_kI hly
  obtain ⟨H, M, B, N, hc, hm, hz⟩ := id hI
  obtain ⟨z1, z2, z3⟩ := id (sf_Z hc.1)
  have zz := sf_Z hc.1
  obtain ⟨hs, hk, ⟨d0, d1, hd⟩, hg, hb⟩ := id hc
  have hH8 := hs.1.2
  by_cases f : a < 0 ∨ nI M ≤ a
  · have h_a := f
    exact lj_x 1 (by decide) hI ht (fun n G hn => w_lend_x0 hfl (c_lend_x1 (n := n) (G := G) hfl (hly := hly) (hs := hs) (h_a := h_a)) ⟨by decide, by decide, by decide, by decide⟩ hk1 hk161) (fun n G hn => ⟨_, _, ⟨by decide, by decide, by decide, by decide⟩, m_lend_x1 (n := n) (G := G) hfl (hly := hly) (hs := hs) (hk := hk) (hm := hm) (hz := hz) (h_a := h_a)⟩)
  obtain ⟨a, h_a, rfl⟩ := tn_ix f (by omega)
  by_cases f : b < 0 ∨ nI M ≤ b
  · have h_b := f
    exact lj_x 1 (by decide) hI ht (fun n G hn => w_lend_x0 hfl (c_lend_x2 (n := n) (G := G) hfl (hly := hly) (hs := hs) (h_a := h_a) (h_b := h_b)) ⟨by decide, by decide, by decide, by decide⟩ hk1 hk161) (fun n G hn => ⟨_, _, ⟨by decide, by decide, by decide, by decide⟩, m_lend_x2 (n := n) (G := G) hfl (hly := hly) (hs := hs) (hk := hk) (hm := hm) (hz := hz) (h_a := h_a) (h_b := h_b)⟩)
  obtain ⟨b, h_b, rfl⟩ := tn_ix f (by omega)
  by_cases f : h < 0 ∨ nI H ≤ h
  · have h_h := f
    exact lj_x 1 (by decide) hI ht (fun n G hn => w_lend_x0 hfl (c_lend_x3 (n := n) (G := G) hfl (hly := hly) (hs := hs) (h_a := h_a) (h_b := h_b) (h_h := h_h)) ⟨by decide, by decide, by decide, by decide⟩ hk1 hk161) (fun n G hn => ⟨_, _, ⟨by decide, by decide, by decide, by decide⟩, m_lend_x3 (n := n) (G := G) hfl (hly := hly) (hs := hs) (hk := hk) (hm := hm) (hz := hz) (h_a := h_a) (h_b := h_b) (h_h := h_h)⟩)
  obtain ⟨h, h_h, rfl⟩ := tn_ix f (by omega)
  by_cases f : g < 0 ∨ nI 4 ≤ g
  · have h_g := f
    exact lj_x 1 (by decide) hI ht (fun n G hn => w_lend_x0 hfl (c_lend_x4 (n := n) (G := G) hfl (hly := hly) (hs := hs) (h_a := h_a) (h_b := h_b) (h_h := h_h) (h_g := h_g)) ⟨by decide, by decide, by decide, by decide⟩ hk1 hk161) (fun n G hn => ⟨_, _, ⟨by decide, by decide, by decide, by decide⟩, m_lend_x4 (n := n) (G := G) hfl (hly := hly) (hs := hs) (hk := hk) (hm := hm) (hz := hz) (h_a := h_a) (h_b := h_b) (h_h := h_h) (h_g := h_g)⟩)
  obtain ⟨g, h_g, rfl⟩ := tn_ix f (by omega)
  by_cases f : a = b
  · have h_ab := f
    exact lj_x 2 (by decide) hI ht (fun n G hn => w_lend_x1 hfl (c_lend_x5 (n := n) (G := G) hfl (hly := hly) (hs := hs) (h_a := h_a) (h_b := h_b) (h_h := h_h) (h_g := h_g) (h_ab := h_ab)) ⟨by decide, by decide, by decide, by decide⟩ hk1 hk161) (fun n G hn => ⟨_, _, ⟨by decide, by decide, by decide, by decide⟩, m_lend_x5 (n := n) (G := G) hfl (hly := hly) (hs := hs) (hk := hk) (hm := hm) (hz := hz) (h_a := h_a) (h_b := h_b) (h_h := h_h) (h_g := h_g) (h_ab := h_ab)⟩)
  have h_ab : ¬ a = b := f
  by_cases f : y < 1
  · have h_y := f
    exact lj_x 2 (by decide) hI ht (fun n G hn => w_lend_x1 hfl (c_lend_x6 (n := n) (G := G) hfl (hly := hly) (hs := hs) (h_a := h_a) (h_b := h_b) (h_h := h_h) (h_g := h_g) (h_ab := h_ab) (h_y := h_y)) ⟨by decide, by decide, by decide, by decide⟩ hk1 hk161) (fun n G hn => ⟨_, _, ⟨by decide, by decide, by decide, by decide⟩, m_lend_x6 (n := n) (G := G) hfl (hly := hly) (hs := hs) (hk := hk) (hm := hm) (hz := hz) (h_a := h_a) (h_b := h_b) (h_h := h_h) (h_g := h_g) (h_ab := h_ab) (h_y := h_y)⟩)
  have h_y : 1 ≤ y := Int32.not_lt.mp f
  by_cases f : t < I (aR 0) 0
  · have h_t := f
    exact lj_x 2 (by decide) hI ht (fun n G hn => w_lend_x1 hfl (c_lend_x7 (n := n) (G := G) hfl (hly := hly) (hs := hs) (h_a := h_a) (h_b := h_b) (h_h := h_h) (h_g := h_g) (h_ab := h_ab) (h_y := h_y) (h_t := h_t)) ⟨by decide, by decide, by decide, by decide⟩ hk1 hk161) (fun n G hn => ⟨_, _, ⟨by decide, by decide, by decide, by decide⟩, m_lend_x7 (n := n) (G := G) hfl (hly := hly) (hs := hs) (hk := hk) (hm := hm) (hz := hz) (h_a := h_a) (h_b := h_b) (h_h := h_h) (h_g := h_g) (h_ab := h_ab) (h_y := h_y) (h_t := h_t)⟩)
  have h_t : I (aR 0) 0 ≤ t := Int32.not_lt.mp f
  by_cases f : N = 30
  · have h_r := f
    exact lj_x 3 (by decide) hI ht (fun n G hn => w_lend_x2 hfl (c_lend_x8 (n := n) (G := G) hfl (hly := hly) (hs := hs) (h_a := h_a) (h_b := h_b) (h_h := h_h) (h_g := h_g) (h_ab := h_ab) (h_y := h_y) (h_t := h_t) (h_r := h_r)) ⟨by decide, by decide, by decide, by decide⟩ hk1 hk161) (fun n G hn => ⟨_, _, ⟨by decide, by decide, by decide, by decide⟩, m_lend_x8 (n := n) (G := G) hfl (hly := hly) (hs := hs) (hk := hk) (hm := hm) (hz := hz) (h_a := h_a) (h_b := h_b) (h_h := h_h) (h_g := h_g) (h_ab := h_ab) (h_y := h_y) (h_t := h_t) (h_r := h_r)⟩)
  have h_r : N < 30 := by omega
  by_cases f : I (aMt 0 a) (h * 4 + g) < y
  · have h_e := f
    exact lj_x 3 (by decide) hI ht (fun n G hn => w_lend_x2 hfl (c_lend_x9 (n := n) (G := G) hfl (hly := hly) (hs := hs) (h_a := h_a) (h_b := h_b) (h_h := h_h) (h_g := h_g) (h_ab := h_ab) (h_y := h_y) (h_t := h_t) (h_r := h_r) (h_e := h_e)) ⟨by decide, by decide, by decide, by decide⟩ hk1 hk161) (fun n G hn => ⟨_, _, ⟨by decide, by decide, by decide, by decide⟩, m_lend_x9 (n := n) (G := G) hfl (hly := hly) (hs := hs) (hk := hk) (hm := hm) (hz := hz) (h_a := h_a) (h_b := h_b) (h_h := h_h) (h_g := h_g) (h_ab := h_ab) (h_y := h_y) (h_t := h_t) (h_r := h_r) (h_e := h_e)⟩)
  have h_e : y ≤ I (aMt 0 a) (h * 4 + g) := Int32.not_lt.mp f
  refine lj_ok (fun r J => r = some (.int (nI N)) ∧ J = f_lend a b h g N y t I) (fun n G hn => w_lend_ok hfl (jj_toRS (c_lend_ok (n := n) (G := G) hfl (hly := hly) (hs := hs) (h_a := h_a) (h_b := h_b) (h_h := h_h) (h_g := h_g) (h_ab := h_ab) (h_y := h_y) (h_t := h_t) (h_r := h_r) (h_e := h_e))) (fun r J h => ⟨_, h.1⟩) ⟨by decide, by decide, by decide, by decide⟩ hk1 hk161) (fun v J hS n G hn => ?_)
  obtain ⟨e1, rfl⟩ := hS
  have e1 := tn_iv e1
  subst e1
  have off : ∀ a9, 150 ≤ a9 → (f_lend a b h g N y t I) a9 = I a9 := fun x hx => by
      unfold f_lend f_hd
      rw [jj_u_ne (by simp only [aW]; omega), fr_op (by simp only [aD]; omega), jj_u_ne (by simp only [aMt]; omega), jj_u_ne (by simp only [aMt]; omega)]
  have hm := ml_of zz hm off
  have hz := mz_of hz off
  have hn : 161 ≤ n := by omega
  have hKn : ∀ a, n ≤ a → K a = none := fun a ha => hKn0 a (by omega)
  exact ⟨_, _, f_lend a b h g N y t I, H, M, B, (N + 1), ⟨by decide, by decide, by decide, by decide⟩, by omega, tc_lend hc ht h_a h_b h_h h_g h_r h_y h_e, fun _ _ => rfl, m_lend_ok (n := n) (G := G) hfl (hly := hly) (hs := hs) (hk := hk) (hm := hm) (hz := hz) (h_a := h_a) (h_b := h_b) (h_h := h_h) (h_g := h_g) (h_ab := h_ab) (h_y := h_y) (h_t := h_t) (h_r := h_r) (h_e := h_e) (hn := hn) (hKn := hKn)⟩
set_option maxHeartbeats 4000000 in
set_option maxRecDepth 100000 in
theorem lj_repay {l : Launch} (hfl : l.stackTraces = false) {D : jj_D} {K : jj_K} {P : jj_P} {tt : Nat} {I : jj_I} (hly : ly K P) (hk161 : K 161 = some (11, 1)) (hKn0 : ∀ a, 162 ≤ a → K a = none) (hI : li tt I) (ht : tt + 1 ≤ 512) (k h : Int32) :
    lj l D K P tt I yL_repay (jj_wsH yL_repay cL_repay 5 (some .int) [(0, 10, 13, 13), (0, 10, 17, 20)]) [.ref 1, .int k, .int h, .ref 161] yX6_repay (jj_ws yX6_repay cX6_repay 3 (some .int)) [.ref 150, .int k, .int h] := by
  have hk1 : K 1 = some (5, 0) := ly_kI hly
  obtain ⟨H, M, B, N, hc, hm, hz⟩ := id hI
  obtain ⟨z1, z2, z3⟩ := id (sf_Z hc.1)
  have zz := sf_Z hc.1
  obtain ⟨hs, hk, ⟨d0, d1, hd⟩, hg, hb⟩ := id hc
  have hH8 := hs.1.2
  by_cases f : k < 0 ∨ nI N ≤ k
  · have h_k := f
    exact lj_x 1 (by decide) hI ht (fun n G hn => w_repay_x0 hfl (c_repay_x1 (n := n) (G := G) hfl (hly := hly) (hs := hs) (h_k := h_k)) ⟨by decide, by decide, by decide, by decide⟩ hk1 hk161) (fun n G hn => ⟨_, _, ⟨by decide, by decide, by decide, by decide⟩, m_repay_x1 (n := n) (G := G) hfl (hly := hly) (hs := hs) (hk := hk) (hm := hm) (hz := hz) (h_k := h_k)⟩)
  obtain ⟨k, h_k, rfl⟩ := tn_ix f (by omega)
  by_cases f : h < 0 ∨ nI H ≤ h
  · have h_h := f
    exact lj_x 1 (by decide) hI ht (fun n G hn => w_repay_x0 hfl (c_repay_x2 (n := n) (G := G) hfl (hly := hly) (hs := hs) (h_k := h_k) (h_h := h_h)) ⟨by decide, by decide, by decide, by decide⟩ hk1 hk161) (fun n G hn => ⟨_, _, ⟨by decide, by decide, by decide, by decide⟩, m_repay_x2 (n := n) (G := G) hfl (hly := hly) (hs := hs) (hk := hk) (hm := hm) (hz := hz) (h_k := h_k) (h_h := h_h)⟩)
  obtain ⟨h, h_h, rfl⟩ := tn_ix f (by omega)
  by_cases f : ¬ I (aD 0 k) 6 = 0
  · have h_s := f
    exact lj_x 2 (by decide) hI ht (fun n G hn => w_repay_x1 hfl (c_repay_x3 (n := n) (G := G) hfl (hly := hly) (hs := hs) (h_k := h_k) (h_h := h_h) (h_s := h_s)) ⟨by decide, by decide, by decide, by decide⟩ hk1 hk161) (fun n G hn => ⟨_, _, ⟨by decide, by decide, by decide, by decide⟩, m_repay_x3 (n := n) (G := G) hfl (hly := hly) (hs := hs) (hk := hk) (hm := hm) (hz := hz) (h_k := h_k) (h_h := h_h) (h_s := h_s)⟩)
  have h_s : I (aD 0 k) 6 = 0 := Classical.not_not.mp f
  by_cases f : I (aMt 0 (nv (I (aD 0 k) 1))) (h * 4 + nv (I (aD 0 k) 3)) < I (aD 0 k) 4
  · have h_e := f
    exact lj_x 2 (by decide) hI ht (fun n G hn => w_repay_x1 hfl (c_repay_x4 (n := n) (G := G) hfl (hly := hly) (hs := hs) (h_k := h_k) (h_h := h_h) (h_s := h_s) (h_e := h_e)) ⟨by decide, by decide, by decide, by decide⟩ hk1 hk161) (fun n G hn => ⟨_, _, ⟨by decide, by decide, by decide, by decide⟩, m_repay_x4 (n := n) (G := G) hfl (hly := hly) (hs := hs) (hk := hk) (hm := hm) (hz := hz) (h_k := h_k) (h_h := h_h) (h_s := h_s) (h_e := h_e)⟩)
  have h_e : I (aD 0 k) 4 ≤ I (aMt 0 (nv (I (aD 0 k) 1))) (h * 4 + nv (I (aD 0 k) 3)) := Int32.not_lt.mp f
  refine lj_ok (fun r J => r = some (.int (f_repay k h I (aD 0 k) 4)) ∧ J = f_repay k h I) (fun n G hn => w_repay_ok hfl (jj_toRS (c_repay_ok (n := n) (G := G) hfl (hly := hly) (hs := hs) (h_k := h_k) (h_h := h_h) (h_s := h_s) (h_e := h_e))) (fun r J h => ⟨_, h.1⟩) ⟨by decide, by decide, by decide, by decide⟩ hk1 hk161) (fun v J hS n G hn => ?_)
  obtain ⟨e1, rfl⟩ := hS
  have e1 := tn_iv e1
  subst e1
  have off : ∀ a9, 150 ≤ a9 → (f_repay k h I) a9 = I a9 := fun a ha => by
      obtain ⟨⟨x, x1, x2⟩, ⟨q, q1, q2⟩, -⟩ := hs.2.2.2.2.2 k h_k
      unfold f_repay f_hd
      rw [x2, q2, nv_nI (by omega), nv_nI (by omega), jj_u_ne (by simp only [aD]; omega), jj_u_ne (by simp only [aMt]; omega), jj_u_ne (by simp only [aMt]; omega)]
  have hm := ml_of zz hm off
  have hz := mz_of hz off
  have hn : 161 ≤ n := by omega
  have hKn : ∀ a, n ≤ a → K a = none := fun a ha => hKn0 a (by omega)
  exact ⟨_, _, f_repay k h I, H, M, B, N, ⟨by decide, by decide, by decide, by decide⟩, by omega, tc_repay hc ht h_k h_h h_e, fun _ _ => rfl, m_repay_ok (n := n) (G := G) hfl (hly := hly) (hs := hs) (hk := hk) (hm := hm) (hz := hz) (h_k := h_k) (h_h := h_h) (h_s := h_s) (h_e := h_e)⟩
set_option maxHeartbeats 4000000 in
set_option maxRecDepth 100000 in
theorem lj_debt {l : Launch} (hfl : l.stackTraces = false) {D : jj_D} {K : jj_K} {P : jj_P} {tt : Nat} {I : jj_I} (hly : ly K P) (hk161 : K 161 = some (11, 1)) (hKn0 : ∀ a, 162 ≤ a → K a = none) (hI : li tt I) (ht : tt + 1 ≤ 512) (k t : Int32) :
    lj l D K P tt I yL_debt (jj_wsH yL_debt cL_debt 5 (some .int) [(0, 10, 13, 13)]) [.ref 1, .int k, .int t, .ref 161] yX6_debt (jj_ws yX6_debt cX6_debt 3 (some .int)) [.ref 150, .int k, .int t] := by
  have hk1 : K 1 = some (5, 0) := ly_kI hly
  obtain ⟨H, M, B, N, hc, hm, hz⟩ := id hI
  obtain ⟨z1, z2, z3⟩ := id (sf_Z hc.1)
  have zz := sf_Z hc.1
  obtain ⟨hs, hk, ⟨d0, d1, hd⟩, hg, hb⟩ := id hc
  have hH8 := hs.1.2
  by_cases f : k < 0 ∨ nI N ≤ k
  · have h_k := f
    exact lj_x 1 (by decide) hI ht (fun n G hn => w_debt_x0 hfl (c_debt_x1 (n := n) (G := G) hfl (hly := hly) (hs := hs) (h_k := h_k)) ⟨by decide, by decide, by decide, by decide⟩ hk1 hk161) (fun n G hn => ⟨_, _, ⟨by decide, by decide, by decide, by decide⟩, m_debt_x1 (n := n) (G := G) hfl (hly := hly) (hs := hs) (hk := hk) (hm := hm) (hz := hz) (h_k := h_k)⟩)
  obtain ⟨k, h_k, rfl⟩ := tn_ix f (by omega)
  by_cases f : t < 0 ∨ nI 7 ≤ t
  · have h_t := f
    exact lj_x 1 (by decide) hI ht (fun n G hn => w_debt_x0 hfl (c_debt_x2 (n := n) (G := G) hfl (hly := hly) (hs := hs) (h_k := h_k) (h_t := h_t)) ⟨by decide, by decide, by decide, by decide⟩ hk1 hk161) (fun n G hn => ⟨_, _, ⟨by decide, by decide, by decide, by decide⟩, m_debt_x2 (n := n) (G := G) hfl (hly := hly) (hs := hs) (hk := hk) (hm := hm) (hz := hz) (h_k := h_k) (h_t := h_t)⟩)
  obtain ⟨t, h_t, rfl⟩ := tn_ix f (by omega)
  refine lj_ok (fun r J => r = some (.int (I (aD 0 k) t)) ∧ J = I) (fun n G hn => w_debt_ok hfl (jj_toRS (c_debt_ok (n := n) (G := G) hfl (hly := hly) (hs := hs) (h_k := h_k) (h_t := h_t))) (fun r J h => ⟨_, h.1⟩) ⟨by decide, by decide, by decide, by decide⟩ hk1 hk161) (fun v J hS n G hn => ?_)
  obtain ⟨e1, rfl⟩ := hS
  have e1 := tn_iv e1
  subst e1
  have hn : 161 ≤ n := by omega
  have hKn : ∀ a, n ≤ a → K a = none := fun a ha => hKn0 a (by omega)
  exact ⟨_, _, J, H, M, B, N, ⟨by decide, by decide, by decide, by decide⟩, by omega, tc_S hc ht, fun _ _ => rfl, m_debt_ok (n := n) (G := G) hfl (hly := hly) (hs := hs) (hk := hk) (hm := hm) (hz := hz) (h_k := h_k) (h_t := h_t)⟩
set_option maxHeartbeats 4000000 in
set_option maxRecDepth 100000 in
theorem lj_pass {l : Launch} (hfl : l.stackTraces = false) {D : jj_D} {K : jj_K} {P : jj_P} {tt : Nat} {I : jj_I} (hly : ly K P) (hk161 : K 161 = some (11, 1)) (hKn0 : ∀ a, 162 ≤ a → K a = none) (hI : li tt I) (ht : tt + 1 ≤ 512) (y : Int32) :
    lj l D K P tt I yL_pass (jj_wsH yL_pass cL_pass 4 (some .int) [(0, 9, 12, 15)]) [.ref 1, .int y, .ref 161] yX6_pass (jj_ws yX6_pass cX6_pass 4 (some .int)) [.ref 150, .int y] := by
  have hk1 : K 1 = some (5, 0) := ly_kI hly
  obtain ⟨H, M, B, N, hc, hm, hz⟩ := id hI
  obtain ⟨z1, z2, z3⟩ := id (sf_Z hc.1)
  have zz := sf_Z hc.1
  obtain ⟨hs, hk, ⟨d, d1, hd⟩, hg, hb⟩ := id hc
  have hH8 := hs.1.2
  have hd2 : d < 2000000000 := by omega
  by_cases f : y < 1 ∨ 200 < y
  · have h_y := f
    exact lj_x 1 (by decide) hI ht (fun n G hn => w_pass_x0 hfl (c_pass_x1 (n := n) (G := G) hfl (hly := hly) (hs := hs) (hd := hd) (hd2 := hd2) (h_y := h_y)) ⟨by decide, by decide, by decide, by decide⟩ hk1 hk161) (fun n G hn => ⟨_, _, ⟨by decide, by decide, by decide, by decide⟩, m_pass_x1 (n := n) (G := G) hfl (hly := hly) (hs := hs) (hk := hk) (hm := hm) (hz := hz) (h_y := h_y)⟩)
  obtain ⟨y, v1, v2, rfl⟩ := tn_rg (a := 1) (b := 200) (tn_nr f) rfl rfl (by decide) (by decide)
  have h_y : 1 ≤ y ∧ y ≤ 200 := ⟨v1, v2⟩
  refine lj_ok (fun r J => r = some (.int (sm (q_bi 0 3 (f_ds 0 H B N d I y)) B - sm (q_bi 0 3 I) B)) ∧ J = f_ds 0 H B N d I y) (fun n G hn => w_pass_ok hfl (jj_toRS (c_pass_ok (n := n) (G := G) hfl (hly := hly) (hs := hs) (hd := hd) (hd2 := hd2) (h_y := h_y))) (fun r J h => ⟨_, h.1⟩) ⟨by decide, by decide, by decide, by decide⟩ hk1 hk161) (fun v J hS n G hn => ?_)
  obtain ⟨e1, rfl⟩ := hS
  have e1 := tn_iv e1
  subst e1
  have off : ∀ a9, 150 ≤ a9 → (f_ds 0 H B N d I y) a9 = I a9 := fun a ha => (ds_ok hs (by decide) hd y).2.2 a (by omega)
  have hm := ml_of zz hm off
  have hz := mz_of hz off
  have hn : 161 ≤ n := by omega
  have hKn : ∀ a, n ≤ a → K a = none := fun a ha => hKn0 a (by omega)
  exact ⟨_, _, f_ds 0 H B N d I y, H, M, B, N, ⟨by decide, by decide, by decide, by decide⟩, by omega, tc_pass hc ht hd d1 h_y.2, fun _ _ => rfl, m_pass_ok (n := n) (G := G) hfl (hly := hly) (hs := hs) (hk := hk) (hm := hm) (hz := hz) (hd := hd) (hd2 := hd2) (h_y := h_y)⟩
set_option maxHeartbeats 4000000 in
set_option maxRecDepth 100000 in
theorem lj_count {l : Launch} (hfl : l.stackTraces = false) {D : jj_D} {K : jj_K} {P : jj_P} {tt : Nat} {I : jj_I} (hly : ly K P) (hk161 : K 161 = some (11, 1)) (hKn0 : ∀ a, 162 ≤ a → K a = none) (hI : li tt I) (ht : tt + 1 ≤ 512) (t : Int32) :
    lj l D K P tt I yL_count (jj_wsH yL_count cL_count 4 (some .int) [(0, 9, 12, 13)]) [.ref 1, .int t, .ref 161] yX6_count (jj_ws yX6_count cX6_count 2 (some .int)) [.ref 150, .int t] := by
  have hk1 : K 1 = some (5, 0) := ly_kI hly
  obtain ⟨H, M, B, N, hc, hm, hz⟩ := id hI
  obtain ⟨z1, z2, z3⟩ := id (sf_Z hc.1)
  have zz := sf_Z hc.1
  obtain ⟨hs, hk, ⟨d0, d1, hd⟩, hg, hb⟩ := id hc
  have hH8 := hs.1.2
  by_cases f : t < 0 ∨ nI 10 ≤ t
  · have h_t := f
    exact lj_x 1 (by decide) hI ht (fun n G hn => w_count_x0 hfl (c_count_x1 (n := n) (G := G) hfl (hly := hly) (hs := hs) (h_t := h_t)) ⟨by decide, by decide, by decide, by decide⟩ hk1 hk161) (fun n G hn => ⟨_, _, ⟨by decide, by decide, by decide, by decide⟩, m_count_x1 (n := n) (G := G) hfl (hly := hly) (hs := hs) (hk := hk) (hm := hm) (hz := hz) (h_t := h_t)⟩)
  obtain ⟨t, h_t, rfl⟩ := tn_ix f (by omega)
  refine lj_ok (fun r J => r = some (.int (q_cf H M B N I t)) ∧ J = I) (fun n G hn => w_count_ok hfl (jj_toRS (c_count_ok (n := n) (G := G) hfl (hly := hly) (hs := hs) (h_t := h_t))) (fun r J h => ⟨_, h.1⟩) ⟨by decide, by decide, by decide, by decide⟩ hk1 hk161) (fun v J hS n G hn => ?_)
  obtain ⟨e1, rfl⟩ := hS
  have e1 := tn_iv e1
  subst e1
  have hn : 161 ≤ n := by omega
  have hKn : ∀ a, n ≤ a → K a = none := fun a ha => hKn0 a (by omega)
  exact ⟨_, _, J, H, M, B, N, ⟨by decide, by decide, by decide, by decide⟩, by omega, tc_S hc ht, fun _ _ => rfl, m_count_ok (n := n) (G := G) hfl (hly := hly) (hs := hs) (hk := hk) (hm := hm) (hz := hz) (h_t := h_t)⟩
set_option maxHeartbeats 4000000 in
set_option maxRecDepth 100000 in
theorem lj_opens {l : Launch} (hfl : l.stackTraces = false) {D : jj_D} {K : jj_K} {P : jj_P} {tt : Nat} {I : jj_I} (hly : ly K P) (hk161 : K 161 = some (11, 1)) (hKn0 : ∀ a, 162 ≤ a → K a = none) (hI : li tt I) (ht : tt + 1 ≤ 512) (h : Int32) :
    lj l D K P tt I yL_opens (jj_wsH yL_opens cL_opens 4 (some .int) [(0, 9, 12, 13)]) [.ref 1, .int h, .ref 161] yX6_opens (jj_ws yX6_opens cX6_opens 5 (some .int)) [.ref 150, .int h] := by
  have hk1 : K 1 = some (5, 0) := ly_kI hly
  obtain ⟨H, M, B, N, hc, hm, hz⟩ := id hI
  obtain ⟨z1, z2, z3⟩ := id (sf_Z hc.1)
  have zz := sf_Z hc.1
  obtain ⟨hs, hk, ⟨d, d1, hd⟩, hg, hb⟩ := id hc
  have hH8 := hs.1.2
  have hd2 : d < 2000000000 := by omega
  by_cases f : h < 0 ∨ nI (H - 1) ≤ h
  · have h_h := f
    exact lj_x 1 (by decide) hI ht (fun n G hn => w_opens_x0 hfl (c_opens_x1 (n := n) (G := G) hfl (hly := hly) (hs := hs) (hd := hd) (hd2 := hd2) (h_h := h_h)) ⟨by decide, by decide, by decide, by decide⟩ hk1 hk161) (fun n G hn => ⟨_, _, ⟨by decide, by decide, by decide, by decide⟩, m_opens_x1 (n := n) (G := G) hfl (hly := hly) (hs := hs) (hk := hk) (hm := hm) (hz := hz) (h_h := h_h)⟩)
  obtain ⟨h, h_h, rfl⟩ := tn_ix f (by omega)
  refine lj_ok (fun r J => r = some (.int (f_fs (g_op h d I) 121 0)) ∧ J = I) (fun n G hn => w_opens_ok hfl (jj_toRS (c_opens_ok (n := n) (G := G) hfl (hly := hly) (hs := hs) (hd := hd) (hd2 := hd2) (h_h := h_h))) (fun r J h => ⟨_, h.1⟩) ⟨by decide, by decide, by decide, by decide⟩ hk1 hk161) (fun v J hS n G hn => ?_)
  obtain ⟨e1, rfl⟩ := hS
  have e1 := tn_iv e1
  subst e1
  have hn : 161 ≤ n := by omega
  have hKn : ∀ a, n ≤ a → K a = none := fun a ha => hKn0 a (by omega)
  exact ⟨_, _, J, H, M, B, N, ⟨by decide, by decide, by decide, by decide⟩, by omega, tc_S hc ht, fun _ _ => rfl, m_opens_ok (n := n) (G := G) hfl (hly := hly) (hs := hs) (hk := hk) (hm := hm) (hz := hz) (hd := hd) (hd2 := hd2) (hn := hn) (hKn := hKn) (h_h := h_h)⟩
set_option maxHeartbeats 4000000 in
set_option maxRecDepth 100000 in
theorem lj_arrives {l : Launch} (hfl : l.stackTraces = false) {D : jj_D} {K : jj_K} {P : jj_P} {tt : Nat} {I : jj_I} (hly : ly K P) (hk161 : K 161 = some (11, 1)) (hKn0 : ∀ a, 162 ≤ a → K a = none) (hI : li tt I) (ht : tt + 1 ≤ 512) (b : Int32) :
    lj l D K P tt I yL_arrives (jj_wsH yL_arrives cL_arrives 4 (some .int) [(0, 9, 12, 13)]) [.ref 1, .int b, .ref 161] yX6_arrives (jj_ws yX6_arrives cX6_arrives 4 (some .int)) [.ref 150, .int b] := by
  have hk1 : K 1 = some (5, 0) := ly_kI hly
  obtain ⟨H, M, B, N, hc, hm, hz⟩ := id hI
  obtain ⟨z1, z2, z3⟩ := id (sf_Z hc.1)
  have zz := sf_Z hc.1
  obtain ⟨hs, hk, ⟨d, d1, hd⟩, hg, hb⟩ := id hc
  have hH8 := hs.1.2
  have hd2 : d < 2000000000 := by omega
  by_cases f : b < 0 ∨ nI B ≤ b
  · have h_b := f
    exact lj_x 1 (by decide) hI ht (fun n G hn => w_arrives_x0 hfl (c_arrives_x1 (n := n) (G := G) hfl (hly := hly) (hs := hs) (hd := hd) (hd2 := hd2) (h_b := h_b)) ⟨by decide, by decide, by decide, by decide⟩ hk1 hk161) (fun n G hn => ⟨_, _, ⟨by decide, by decide, by decide, by decide⟩, m_arrives_x1 (n := n) (G := G) hfl (hly := hly) (hs := hs) (hk := hk) (hm := hm) (hz := hz) (h_b := h_b)⟩)
  obtain ⟨b, h_b, rfl⟩ := tn_ix f (by omega)
  refine lj_ok (fun r J => r = some (.int (f_fs (g_ar H M B N b d I) 201 0)) ∧ ∀ a, offT a → J a = I a) (fun n G hn => w_arrives_ok hfl (c_arrives_ok (n := n) (G := G) hfl (hly := hly) (hs := hs) (hd := hd) (hd2 := hd2) (h_b := h_b)) (fun r J h => ⟨_, h.1⟩) ⟨by decide, by decide, by decide, by decide⟩ hk1 hk161) (fun v J hS n G hn => ?_)
  obtain ⟨q2, q3⟩ := hS
  have e1 := tn_iv q2
  rw [arrives_eq hs hk hd h_b] at e1
  subst e1
  have off : ∀ x, 150 ≤ x → J x = I x := fun x hx => q3 x (by unfold offT; omega)
  have hm := ml_of zz hm off
  have hz := mz_of hz off
  have hn : 161 ≤ n := by omega
  have hKn : ∀ a, n ≤ a → K a = none := fun a ha => hKn0 a (by omega)
  exact ⟨_, _, I, H, M, B, N, ⟨by decide, by decide, by decide, by decide⟩, by omega, tc_S hc ht, fun x hx => q3 x (by unfold offT; omega), m_arrives_ok (n := n) (G := G) hfl (hly := hly) (hs := hs) (hk := hk) (hm := hm) (hz := hz) (hd := hd) (hd2 := hd2) (hn := hn) (hKn := hKn) (h_b := h_b)⟩
set_option maxHeartbeats 4000000 in
set_option maxRecDepth 100000 in
theorem lj_latest {l : Launch} (hfl : l.stackTraces = false) {D : jj_D} {K : jj_K} {P : jj_P} {tt : Nat} {I : jj_I} (hly : ly K P) (hk161 : K 161 = some (11, 1)) (hKn0 : ∀ a, 162 ≤ a → K a = none) (hI : li tt I) (ht : tt + 1 ≤ 512) (a b : Int32) :
    lj l D K P tt I yL_latest (jj_wsH yL_latest cL_latest 5 (some .int) [(0, 10, 13, 13)]) [.ref 1, .int a, .int b, .ref 161] yX6_latest (jj_ws yX6_latest cX6_latest 8 (some .int)) [.ref 150, .int a, .int b] := by
  have hk1 : K 1 = some (5, 0) := ly_kI hly
  obtain ⟨H, M, B, N, hc, hm, hz⟩ := id hI
  obtain ⟨z1, z2, z3⟩ := id (sf_Z hc.1)
  have zz := sf_Z hc.1
  obtain ⟨hs, hk, ⟨d, d1, hd⟩, hg, hb⟩ := id hc
  have hH8 := hs.1.2
  have hd2 : d < 2000000000 := by omega
  have hL := hk.1
  by_cases f : a < 0 ∨ nI H ≤ a
  · have h_a := f
    exact lj_x 1 (by decide) hI ht (fun n G hn => w_latest_x0 hfl (c_latest_x1 (n := n) (G := G) hfl (hly := hly) (hs := hs) (hd := hd) (hd2 := hd2) (h_a := h_a)) ⟨by decide, by decide, by decide, by decide⟩ hk1 hk161) (fun n G hn => ⟨_, _, ⟨by decide, by decide, by decide, by decide⟩, m_latest_x1 (n := n) (G := G) hfl (hly := hly) (hs := hs) (hk := hk) (hm := hm) (hz := hz) (h_a := h_a)⟩)
  obtain ⟨a, h_a, rfl⟩ := tn_ix f (by omega)
  by_cases f : b < 0 ∨ nI H ≤ b
  · have h_b := f
    exact lj_x 1 (by decide) hI ht (fun n G hn => w_latest_x0 hfl (c_latest_x2 (n := n) (G := G) hfl (hly := hly) (hs := hs) (hd := hd) (hd2 := hd2) (h_a := h_a) (h_b := h_b)) ⟨by decide, by decide, by decide, by decide⟩ hk1 hk161) (fun n G hn => ⟨_, _, ⟨by decide, by decide, by decide, by decide⟩, m_latest_x2 (n := n) (G := G) hfl (hly := hly) (hs := hs) (hk := hk) (hm := hm) (hz := hz) (h_a := h_a) (h_b := h_b)⟩)
  obtain ⟨b, h_b, rfl⟩ := tn_ix f (by omega)
  refine lj_ok (fun r J => r = some (.int (f_lt (fun wt => f_fwb a b wt J) 61)) ∧ fIc d I (H - 1) 0 J) (fun n G hn => w_latest_ok hfl (c_latest_ok (n := n) (G := G) hfl (hly := hly) (hs := hs) (hd := hd) (hd2 := hd2) (hL := hL) (h_a := h_a) (h_b := h_b)) (fun r J h => ⟨_, h.1⟩) ⟨by decide, by decide, by decide, by decide⟩ hk1 hk161) (fun v J hS n G hn => ?_)
  obtain ⟨q2, q3⟩ := hS
  have e1 := tn_iv q2
  rw [latest_eq q3 hL hH8 h_a h_b] at e1
  subst e1
  have off : ∀ x, 150 ≤ x → J x = I x := fun x hx => q3.1 x (by unfold offA; omega)
  have hm := ml_of zz hm off
  have hz := mz_of hz off
  have hn : 161 ≤ n := by omega
  have hKn : ∀ a, n ≤ a → K a = none := fun a ha => hKn0 a (by omega)
  exact ⟨_, _, I, H, M, B, N, ⟨by decide, by decide, by decide, by decide⟩, by omega, tc_S hc ht, fun x hx => q3.1 x (by unfold offA; omega), m_latest_ok (n := n) (G := G) hfl (hly := hly) (hs := hs) (hk := hk) (hm := hm) (hz := hz) (hd := hd) (hd2 := hd2) (hn := hn) (hKn := hKn) (hL := hL) (h_a := h_a) (h_b := h_b)⟩
set_option maxHeartbeats 4000000 in
set_option maxRecDepth 100000 in
theorem lj_advise {l : Launch} (hfl : l.stackTraces = false) {D : jj_D} {K : jj_K} {P : jj_P} {tt : Nat} {I : jj_I} (hly : ly K P) (hk161 : K 161 = some (11, 1)) (hKn0 : ∀ a, 162 ≤ a → K a = none) (hI : li tt I) (ht : tt + 1 ≤ 512) (b y : Int32) :
    lj l D K P tt I yL_advise (jj_wsH yL_advise cL_advise 5 (some .int) [(0, 10, 13, 13), (0, 10, 17, 15)]) [.ref 1, .int b, .int y, .ref 161] yX6_advise (jj_ws yX6_advise cX6_advise 8 (some .int)) [.ref 150, .int b, .int y] := by
  have hk1 : K 1 = some (5, 0) := ly_kI hly
  obtain ⟨H, M, B, N, hc, hm, hz⟩ := id hI
  obtain ⟨z1, z2, z3⟩ := id (sf_Z hc.1)
  have zz := sf_Z hc.1
  obtain ⟨hs, hk, ⟨d, d1, hd⟩, hg, hb⟩ := id hc
  have hH8 := hs.1.2
  have hd2 : d < 2000000000 := by omega
  by_cases f : b < 0 ∨ nI B ≤ b
  · have h_b := f
    exact lj_x 1 (by decide) hI ht (fun n G hn => w_advise_x0 hfl (c_advise_x1 (n := n) (G := G) hfl (hly := hly) (hs := hs) (hd := hd) (hd2 := hd2) (h_b := h_b)) ⟨by decide, by decide, by decide, by decide⟩ hk1 hk161) (fun n G hn => ⟨_, _, ⟨by decide, by decide, by decide, by decide⟩, m_advise_x1 (n := n) (G := G) hfl (hly := hly) (hs := hs) (hk := hk) (hm := hm) (hz := hz) (h_b := h_b)⟩)
  obtain ⟨b, h_b, rfl⟩ := tn_ix f (by omega)
  by_cases f : y < 1 ∨ 120 < y
  · have h_y := f
    exact lj_x 2 (by decide) hI ht (fun n G hn => w_advise_x1 hfl (c_advise_x2 (n := n) (G := G) hfl (hly := hly) (hs := hs) (hd := hd) (hd2 := hd2) (h_b := h_b) (h_y := h_y)) ⟨by decide, by decide, by decide, by decide⟩ hk1 hk161) (fun n G hn => ⟨_, _, ⟨by decide, by decide, by decide, by decide⟩, m_advise_x2 (n := n) (G := G) hfl (hly := hly) (hs := hs) (hk := hk) (hm := hm) (hz := hz) (h_b := h_b) (h_y := h_y)⟩)
  obtain ⟨y, v1, v2, rfl⟩ := tn_rg (a := 1) (b := 120) (tn_nr f) rfl rfl (by decide) (by decide)
  have h_y : 1 ≤ y ∧ y ≤ 120 := ⟨v1, v2⟩
  by_cases h3 : I (aB 0 b) 3 = 3
  · refine lj_ok (fun r J => (∃ Js : Nat → jj_I, (∀ k a, offT a → Js k a = I a) ∧ r = some (.int (f_av (fun j => f_hl H M B N b d y j (Js j)) H).1)) ∧ ∀ a, offT a → J a = I a) (fun n G hn => w_advise_ok hfl (c_advise_ok (n := n) (G := G) hfl (hly := hly) (hs := hs) (hd := hd) (hd2 := hd2) (h_b := h_b) (h_y := h_y)) (fun r J h => by
      obtain ⟨Js, q1, q2⟩ := h.1
      exact ⟨_, q2⟩) ⟨by decide, by decide, by decide, by decide⟩ hk1 hk161) (fun v J hS n G hn => ?_)
    obtain ⟨⟨Js, q1, q2⟩, q3⟩ := hS
    have e1 := tn_iv q2
    have e2 : f_av (fun j => f_hl H M B N b d y j (Js j)) H = (-1, 0) := av_0 (fun k _ => hl_s (tc_eq hc (fun a ha => q1 k a (by unfold offT; omega))) h_b (by rw [q1 k _ (by unfold offT; simp only [aB]; omega)]; exact h3))
    rw [e2] at e1
    subst e1
    have off : ∀ a, 150 ≤ a → J a = I a := fun a ha => q3 a (by unfold offT; omega)
    have hm := ml_of zz hm off
    have hz := mz_of hz off
    refine ⟨_, n, I, H, M, B, N, ⟨by decide, by decide, by decide, by decide⟩, Nat.le_refl _, tc_S hc ht, fun a ha => q3 a (by unfold offT; omega), jj_mono (m_advise_s (n := n) (G := G) hfl (hly := hly) (hs := hs) (hk := hk) (hm := hm) (hz := hz) (h_b := h_b) (h_y := h_y) (h3 := h3)) (fun r n1 K1 I1 P1 G1 q => ?_)⟩
    obtain ⟨g1, g2, g3, g4, g5, g6⟩ := q
    exact ⟨⟨g1, by rw [g4, jj_u_eq], by rw [g4]; exact ml_th hm zz, by rw [g4]; exact mz_th hz, fun a ha => by rw [g4, jj_u_ne (by unfold offN at ha; omega)]⟩, g2, g3, g5, g6⟩
  · refine lj_ok (fun r J => (∃ Js : Nat → jj_I, (∀ k a, offT a → Js k a = I a) ∧ r = some (.int (f_av (fun j => f_hl H M B N b d y j (Js j)) H).1)) ∧ ∀ a, offT a → J a = I a) (fun n G hn => w_advise_ok hfl (c_advise_ok (n := n) (G := G) hfl (hly := hly) (hs := hs) (hd := hd) (hd2 := hd2) (h_b := h_b) (h_y := h_y)) (fun r J h => by
      obtain ⟨Js, q1, q2⟩ := h.1
      exact ⟨_, q2⟩) ⟨by decide, by decide, by decide, by decide⟩ hk1 hk161) (fun v J hS n G hn => ?_)
    obtain ⟨⟨Js, hJs, q2⟩, q3⟩ := hS
    have e1 := tn_iv q2
    rw [av_eq hc hd h_b hJs] at e1
    subst e1
    have off : ∀ a, 150 ≤ a → J a = I a := fun a ha => q3 a (by unfold offT; omega)
    have hm := ml_of zz hm off
    have hz := mz_of hz off
    have he := tc_E hc
    have hk0 := hk
    have hn : 161 ≤ n := by omega
    have hKn : ∀ a, n ≤ a → K a = none := fun a ha => hKn0 a (by omega)
    exact ⟨_, _, I, H, M, B, N, ⟨by decide, by decide, by decide, by decide⟩, by omega, tc_S hc ht, fun a ha => q3 a (by unfold offT; omega), m_advise_ok (n := n) (G := G) hfl (hly := hly) (hs := hs) (hk0 := hk0) (hm := hm) (hz := hz) (hd := hd) (hd2 := hd2) (hn := hn) (hKn := hKn) (he := he) (hJs := hJs) (h_b := h_b) (h_y := h_y) (h3 := h3)⟩
