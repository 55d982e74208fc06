/-! the model: small methods -/
theorem jm_i {a c : Nat} (h : a < c) (hc : c < 2147483648) : 0 ≤ nI a ∧ nI a ≤ nI c - 1 := by
  obtain ⟨m, rfl⟩ : ∃ m, c = m + 1 := ⟨c - 1, by omega⟩
  rw [nI_pred]
  exact ⟨nI_pos' (by omega), nI_le (by omega) (by omega)⟩
theorem jm_x {x : Int32} {c : Nat} (h : x < 0 ∨ nI c ≤ x) (hc : c < 2147483648) : ¬ (0 ≤ x ∧ x ≤ nI c - 1) := by
  rintro ⟨h1, h2⟩
  rcases h with h | h
  · exact absurd h1 (Int32.not_le.mpr h)
  · cases c with
    | zero =>
      rw [show nI 0 - 1 = (-1 : Int32) from rfl] at h2
      exact absurd (Int32.le_trans h1 h2) (by decide)
    | succ m =>
      rw [nI_pred] at h2
      exact absurd (Int32.le_trans h h2) (nI_ge (by omega) (by omega))
def m_ia (h H : Nat) (I : jj_I) : Int32 := if H = 1 then 0 else I 155 (if h < H - 2 then h else H - 2)
def m_t1 (x : Int32) (I : jj_I) (b : Nat) : Int32 := if I 158 (12 * b + 4) = x ∧ I 158 (12 * b + 3) = 1 then 1 else 0
def m_t0 (x : Int32) (I : jj_I) (b : Nat) : Int32 := if I 158 (12 * b + 4) = x ∧ I 158 (12 * b + 3) < 2 then 1 else 0
def m_on (x : Int32) (I : jj_I) (b : Nat) : Int32 := if I 158 (12 * b + 3) = 2 ∧ I 158 (12 * b + 7) = x then 1 else 0
def m_st (p : Int32) (I : jj_I) (b : Nat) : Int32 := if I 158 (12 * b + 3) = p then 1 else 0
def m_ld (b : Nat) (I : jj_I) : Int32 := sm (fun g => I 158 (12 * b + (8 + g))) 4
def m_af (x : Int32) (I : jj_I) (b : Nat) : Int32 := if I 158 (12 * b + 0) = x then (if I 158 (12 * b + 3) = 3 then 0 else 1) else 0
def m_co (x : Int32) (I : jj_I) (b : Nat) : Int32 := if I 158 (12 * b + 0) = x then m_ld b I else 0
def m_do (x s : Int32) (I : jj_I) (d : Nat) : Int32 := if I 159 (7 * d + 1) = x ∧ I 159 (7 * d + 6) = s then 1 else 0
def m_op (I : jj_I) (d : Nat) : Int32 := if I 159 (7 * d + 6) = 0 then 1 else 0
def m_ol (I : jj_I) (l : Nat) : Int32 := if I 155 l ≤ 10 then 1 else 0
def m_wy (a b : Nat) (I : jj_I) : Int32 := let lo := if a < b then a else b; let hi := if a < b then b else a; sm (fun j => if a < b then I 152 (lo + j) else 2 * I 152 (lo + j)) (hi - lo)
def m_fb (i x : Int32) : Int32 := let a := i - (if x < 0 then x else 2 * x); let b := if a < 60 then a else 60; if 0 < b then b else 0
def m_fr (H d : Nat) (I : jj_I) : jj_I := it (fun l J => jj_u J 155 l (m_fb (J 155 l) (I 151 (d % 40)))) I (H - 1)
def m_th (I : jj_I) (b : Nat) : Int32 := if I 158 (12 * b + 3) < 2 ∧ I 158 (12 * b + 4) = I 158 (12 * b + 5) then 1 else 0
set_option maxHeartbeats 4000000 in
set_option maxRecDepth 100000 in
theorem c_thrown {l : Launch} (hfl : l.stackTraces = false) {D : jj_D} {n : Nat} {K : jj_K} {I : jj_I} {P : jj_P} {G : jj_G} (hly : ly K P)  :
    jj_Met l D yX6_thrown (jj_ws yX6_thrown cX6_thrown 1 (some .int)) { frames := 0, cells := 0, slots := 0, locals := 0 } [.ref 150] n K I P G (jj_R (some (.int (I 150 0))) (n) (K) (I) (P) (G)) jj_noX := by
  refine jj_of hfl (by decide +kernel) [some (.ref 150)] rfl rfl ?_
  intro X hXl hX hSt
  refine jr_aload_n hX dX6_thrown_0 rfl ?_
  refine jr_geti hX kF_X6_40 rfl (ly_kMo hly) dX6_thrown_1 ?_
  exact jr_iret hX dX6_thrown_4 rfl rfl ⟨rfl, rfl, rfl, rfl, rfl, rfl⟩
set_option maxHeartbeats 4000000 in
set_option maxRecDepth 100000 in
theorem c_fail {l : Launch} (hfl : l.stackTraces = false) {D : jj_D} {n : Nat} {K : jj_K} {I : jj_I} {P : jj_P} {G : jj_G} (hly : ly K P) {x : Int32} :
    jj_Met l D yX6_fail (jj_ws yX6_fail cX6_fail 2 (some .int)) { frames := 0, cells := 0, slots := 0, locals := 0 } [.ref 150, .int x] n K I P G (jj_R (some (.int 0)) (n) (K) (jj_u I 150 0 x) (P) (G)) jj_noX := by
  refine jj_of hfl (by decide +kernel) [some (.ref 150), some (.int x)] rfl rfl ?_
  intro X hXl hX hSt
  refine jr_aload_n hX dX6_fail_0 rfl ?_
  refine jr_iload_n hX dX6_fail_1 rfl ?_
  refine jr_puti hX kF_X6_40 rfl (ly_kMo hly) (by decide) dX6_fail_2 ?_
  refine jr_iconst (v := 0) hX dX6_fail_5 (by decide) ?_
  exact jr_iret hX dX6_fail_6 rfl rfl ⟨rfl, rfl, rfl, rfl, rfl, rfl⟩
set_option maxHeartbeats 4000000 in
set_option maxRecDepth 100000 in
theorem c_isIn_ok {l : Launch} (hfl : l.stackTraces = false) {D : jj_D} {n : Nat} {K : jj_K} {I : jj_I} {P : jj_P} {G : jj_G} {x lo hi : Int32} (h : lo ≤ x ∧ x ≤ hi) :
    jj_Met l D yX6_isIn (jj_ws yX6_isIn cX6_isIn 3 (some .boolean)) { frames := 0, cells := 0, slots := 0, locals := 0 } [.int x, .int lo, .int hi] n K I P G (jj_R (some (.int 1)) (n) (K) (I) (P) (G)) jj_noX := by
  refine jj_of hfl (by decide +kernel) [some (.int x), some (.int lo), some (.int hi)] rfl rfl ?_
  intro X hXl hX hSt
  refine jr_iload_n hX dX6_isIn_0 rfl ?_
  refine jr_iload_n hX dX6_isIn_1 rfl ?_
  refine jr_icmp_lt (tgt := 14) hX dX6_isIn_2 (by decide) (fun c_2 => absurd c_2 (Int32.not_lt.mpr h.1)) (fun c_2 => ?_)
  refine jr_iload_n hX dX6_isIn_5 rfl ?_
  refine jr_iload_n hX dX6_isIn_6 rfl ?_
  refine jr_icmp_gt (tgt := 14) hX dX6_isIn_7 (by decide) (fun c_7 => absurd c_7 (Int32.not_lt.mpr h.2)) (fun c_7 => ?_)
  refine jr_iconst (v := 1) hX dX6_isIn_10 (by decide) ?_
  refine jr_goto (tgt := 15) hX dX6_isIn_11 (by decide) ?_
  exact jr_zret hX (by simp) dX6_isIn_15 rfl rfl ⟨rfl, rfl, rfl, rfl, rfl, rfl⟩
set_option maxHeartbeats 4000000 in
set_option maxRecDepth 100000 in
theorem c_isIn_x {l : Launch} (hfl : l.stackTraces = false) {D : jj_D} {n : Nat} {K : jj_K} {I : jj_I} {P : jj_P} {G : jj_G} {x lo hi : Int32} (h : ¬ (lo ≤ x ∧ x ≤ hi)) :
    jj_Met l D yX6_isIn (jj_ws yX6_isIn cX6_isIn 3 (some .boolean)) { frames := 0, cells := 0, slots := 0, locals := 0 } [.int x, .int lo, .int hi] n K I P G (jj_R (some (.int 0)) (n) (K) (I) (P) (G)) jj_noX := by
  refine jj_of hfl (by decide +kernel) [some (.int x), some (.int lo), some (.int hi)] rfl rfl ?_
  intro X hXl hX hSt
  refine jr_iload_n hX dX6_isIn_0 rfl ?_
  refine jr_iload_n hX dX6_isIn_1 rfl ?_
  refine jr_icmp_lt (tgt := 14) hX dX6_isIn_2 (by decide) (fun c_2 => ?_) (fun c_2 => ?_)
  · refine jr_iconst (v := 0) hX dX6_isIn_14 (by decide) ?_
    exact jr_zret hX (by simp) dX6_isIn_15 rfl rfl ⟨rfl, rfl, rfl, rfl, rfl, rfl⟩
  · refine jr_iload_n hX dX6_isIn_5 rfl ?_
    refine jr_iload_n hX dX6_isIn_6 rfl ?_
    refine jr_icmp_gt (tgt := 14) hX dX6_isIn_7 (by decide) (fun c_7 => ?_) (fun c_7 => absurd ⟨Int32.not_lt.mp c_2, Int32.not_lt.mp c_7⟩ h)
    refine jr_iconst (v := 0) hX dX6_isIn_14 (by decide) ?_
    exact jr_zret hX (by simp) dX6_isIn_15 rfl rfl ⟨rfl, rfl, rfl, rfl, rfl, rfl⟩
set_option maxHeartbeats 4000000 in
set_option maxRecDepth 100000 in
theorem c_isHarbour_ok {l : Launch} (hfl : l.stackTraces = false) {D : jj_D} {n : Nat} {K : jj_K} {I : jj_I} {P : jj_P} {G : jj_G} (hly : ly K P) {a c : Nat} (h : a < c) (hc : I 150 2 = nI c) (hc9 : c < 2147483648) :
    jj_Met l D yX6_isHarbour (jj_ws yX6_isHarbour cX6_isHarbour 2 (some .boolean)) { frames := 1, cells := 0, slots := 0, locals := 22 } [.ref 150, .int (nI a)] n K I P G (jj_R (some (.int 1)) (n) (K) (I) (P) (G)) jj_noX := by
  refine jj_of hfl (by decide +kernel) [some (.ref 150), some (.int (nI a))] rfl rfl ?_
  intro X hXl hX hSt
  refine jr_iload_n hX dX6_isHarbour_0 rfl ?_
  refine jr_iconst (v := 0) hX dX6_isHarbour_1 (by decide) ?_
  refine jr_aload_n hX dX6_isHarbour_2 rfl ?_
  refine jr_geti hX kF_X6_44 rfl (ly_kMo hly) dX6_isHarbour_3 ?_
  refine jr_iconst (v := 1) hX dX6_isHarbour_6 (by decide) ?_
  refine jr_isub hX dX6_isHarbour_7 ?_
  rw [hc]
  refine jr_ret (jr_runS hX hSt kM_X6_47 (c_isIn_ok (jj_fl hX) (jm_i h hc9)) rfl rfl dX6_isHarbour_8 rfl ⟨jj_b1 rfl, jj_b1 rfl⟩ rfl) ?_
  exact jr_zret hX (by simp) dX6_isHarbour_11 rfl rfl ⟨rfl, rfl, rfl, rfl, rfl, rfl⟩
set_option maxHeartbeats 4000000 in
set_option maxRecDepth 100000 in
theorem c_isHarbour_x {l : Launch} (hfl : l.stackTraces = false) {D : jj_D} {n : Nat} {K : jj_K} {I : jj_I} {P : jj_P} {G : jj_G} (hly : ly K P) {x : Int32} {c : Nat} (h : x < 0 ∨ nI c ≤ x) (hc : I 150 2 = nI c) (hc9 : c < 2147483648) :
    jj_Met l D yX6_isHarbour (jj_ws yX6_isHarbour cX6_isHarbour 2 (some .boolean)) { frames := 1, cells := 0, slots := 0, locals := 22 } [.ref 150, .int x] n K I P G (jj_R (some (.int 0)) (n) (K) (I) (P) (G)) jj_noX := by
  refine jj_of hfl (by decide +kernel) [some (.ref 150), some (.int x)] rfl rfl ?_
  intro X hXl hX hSt
  refine jr_iload_n hX dX6_isHarbour_0 rfl ?_
  refine jr_iconst (v := 0) hX dX6_isHarbour_1 (by decide) ?_
  refine jr_aload_n hX dX6_isHarbour_2 rfl ?_
  refine jr_geti hX kF_X6_44 rfl (ly_kMo hly) dX6_isHarbour_3 ?_
  refine jr_iconst (v := 1) hX dX6_isHarbour_6 (by decide) ?_
  refine jr_isub hX dX6_isHarbour_7 ?_
  rw [hc]
  refine jr_ret (jr_runS hX hSt kM_X6_47 (c_isIn_x (jj_fl hX) (jm_x h hc9)) rfl rfl dX6_isHarbour_8 rfl ⟨jj_b1 rfl, jj_b1 rfl⟩ rfl) ?_
  exact jr_zret hX (by simp) dX6_isHarbour_11 rfl rfl ⟨rfl, rfl, rfl, rfl, rfl, rfl⟩
set_option maxHeartbeats 4000000 in
set_option maxRecDepth 100000 in
theorem c_isMerchant_ok {l : Launch} (hfl : l.stackTraces = false) {D : jj_D} {n : Nat} {K : jj_K} {I : jj_I} {P : jj_P} {G : jj_G} (hly : ly K P) {a c : Nat} (h : a < c) (hc : I 150 6 = nI c) (hc9 : c < 2147483648) :
    jj_Met l D yX6_isMerchant (jj_ws yX6_isMerchant cX6_isMerchant 2 (some .boolean)) { frames := 1, cells := 0, slots := 0, locals := 22 } [.ref 150, .int (nI a)] n K I P G (jj_R (some (.int 1)) (n) (K) (I) (P) (G)) jj_noX := by
  refine jj_of hfl (by decide +kernel) [some (.ref 150), some (.int (nI a))] rfl rfl ?_
  intro X hXl hX hSt
  refine jr_iload_n hX dX6_isMerchant_0 rfl ?_
  refine jr_iconst (v := 0) hX dX6_isMerchant_1 (by decide) ?_
  refine jr_aload_n hX dX6_isMerchant_2 rfl ?_
  refine jr_geti hX kF_X6_51 rfl (ly_kMo hly) dX6_isMerchant_3 ?_
  refine jr_iconst (v := 1) hX dX6_isMerchant_6 (by decide) ?_
  refine jr_isub hX dX6_isMerchant_7 ?_
  rw [hc]
  refine jr_ret (jr_runS hX hSt kM_X6_47 (c_isIn_ok (jj_fl hX) (jm_i h hc9)) rfl rfl dX6_isMerchant_8 rfl ⟨jj_b1 rfl, jj_b1 rfl⟩ rfl) ?_
  exact jr_zret hX (by simp) dX6_isMerchant_11 rfl rfl ⟨rfl, rfl, rfl, rfl, rfl, rfl⟩
set_option maxHeartbeats 4000000 in
set_option maxRecDepth 100000 in
theorem c_isMerchant_x {l : Launch} (hfl : l.stackTraces = false) {D : jj_D} {n : Nat} {K : jj_K} {I : jj_I} {P : jj_P} {G : jj_G} (hly : ly K P) {x : Int32} {c : Nat} (h : x < 0 ∨ nI c ≤ x) (hc : I 150 6 = nI c) (hc9 : c < 2147483648) :
    jj_Met l D yX6_isMerchant (jj_ws yX6_isMerchant cX6_isMerchant 2 (some .boolean)) { frames := 1, cells := 0, slots := 0, locals := 22 } [.ref 150, .int x] n K I P G (jj_R (some (.int 0)) (n) (K) (I) (P) (G)) jj_noX := by
  refine jj_of hfl (by decide +kernel) [some (.ref 150), some (.int x)] rfl rfl ?_
  intro X hXl hX hSt
  refine jr_iload_n hX dX6_isMerchant_0 rfl ?_
  refine jr_iconst (v := 0) hX dX6_isMerchant_1 (by decide) ?_
  refine jr_aload_n hX dX6_isMerchant_2 rfl ?_
  refine jr_geti hX kF_X6_51 rfl (ly_kMo hly) dX6_isMerchant_3 ?_
  refine jr_iconst (v := 1) hX dX6_isMerchant_6 (by decide) ?_
  refine jr_isub hX dX6_isMerchant_7 ?_
  rw [hc]
  refine jr_ret (jr_runS hX hSt kM_X6_47 (c_isIn_x (jj_fl hX) (jm_x h hc9)) rfl rfl dX6_isMerchant_8 rfl ⟨jj_b1 rfl, jj_b1 rfl⟩ rfl) ?_
  exact jr_zret hX (by simp) dX6_isMerchant_11 rfl rfl ⟨rfl, rfl, rfl, rfl, rfl, rfl⟩
set_option maxHeartbeats 4000000 in
set_option maxRecDepth 100000 in
theorem c_isBoat_ok {l : Launch} (hfl : l.stackTraces = false) {D : jj_D} {n : Nat} {K : jj_K} {I : jj_I} {P : jj_P} {G : jj_G} (hly : ly K P) {a c : Nat} (h : a < c) (hc : I 150 7 = nI c) (hc9 : c < 2147483648) :
    jj_Met l D yX6_isBoat (jj_ws yX6_isBoat cX6_isBoat 2 (some .boolean)) { frames := 1, cells := 0, slots := 0, locals := 22 } [.ref 150, .int (nI a)] n K I P G (jj_R (some (.int 1)) (n) (K) (I) (P) (G)) jj_noX := by
  refine jj_of hfl (by decide +kernel) [some (.ref 150), some (.int (nI a))] rfl rfl ?_
  intro X hXl hX hSt
  refine jr_iload_n hX dX6_isBoat_0 rfl ?_
  refine jr_iconst (v := 0) hX dX6_isBoat_1 (by decide) ?_
  refine jr_aload_n hX dX6_isBoat_2 rfl ?_
  refine jr_geti hX kF_X6_54 rfl (ly_kMo hly) dX6_isBoat_3 ?_
  refine jr_iconst (v := 1) hX dX6_isBoat_6 (by decide) ?_
  refine jr_isub hX dX6_isBoat_7 ?_
  rw [hc]
  refine jr_ret (jr_runS hX hSt kM_X6_47 (c_isIn_ok (jj_fl hX) (jm_i h hc9)) rfl rfl dX6_isBoat_8 rfl ⟨jj_b1 rfl, jj_b1 rfl⟩ rfl) ?_
  exact jr_zret hX (by simp) dX6_isBoat_11 rfl rfl ⟨rfl, rfl, rfl, rfl, rfl, rfl⟩
set_option maxHeartbeats 4000000 in
set_option maxRecDepth 100000 in
theorem c_isBoat_x {l : Launch} (hfl : l.stackTraces = false) {D : jj_D} {n : Nat} {K : jj_K} {I : jj_I} {P : jj_P} {G : jj_G} (hly : ly K P) {x : Int32} {c : Nat} (h : x < 0 ∨ nI c ≤ x) (hc : I 150 7 = nI c) (hc9 : c < 2147483648) :
    jj_Met l D yX6_isBoat (jj_ws yX6_isBoat cX6_isBoat 2 (some .boolean)) { frames := 1, cells := 0, slots := 0, locals := 22 } [.ref 150, .int x] n K I P G (jj_R (some (.int 0)) (n) (K) (I) (P) (G)) jj_noX := by
  refine jj_of hfl (by decide +kernel) [some (.ref 150), some (.int x)] rfl rfl ?_
  intro X hXl hX hSt
  refine jr_iload_n hX dX6_isBoat_0 rfl ?_
  refine jr_iconst (v := 0) hX dX6_isBoat_1 (by decide) ?_
  refine jr_aload_n hX dX6_isBoat_2 rfl ?_
  refine jr_geti hX kF_X6_54 rfl (ly_kMo hly) dX6_isBoat_3 ?_
  refine jr_iconst (v := 1) hX dX6_isBoat_6 (by decide) ?_
  refine jr_isub hX dX6_isBoat_7 ?_
  rw [hc]
  refine jr_ret (jr_runS hX hSt kM_X6_47 (c_isIn_x (jj_fl hX) (jm_x h hc9)) rfl rfl dX6_isBoat_8 rfl ⟨jj_b1 rfl, jj_b1 rfl⟩ rfl) ?_
  exact jr_zret hX (by simp) dX6_isBoat_11 rfl rfl ⟨rfl, rfl, rfl, rfl, rfl, rfl⟩
set_option maxHeartbeats 4000000 in
set_option maxRecDepth 100000 in
theorem c_isGood_ok {l : Launch} (hfl : l.stackTraces = false) {D : jj_D} {n : Nat} {K : jj_K} {I : jj_I} {P : jj_P} {G : jj_G} {a : Nat} (h : a < 4) :
    jj_Met l D yX6_isGood (jj_ws yX6_isGood cX6_isGood 1 (some .boolean)) { frames := 1, cells := 0, slots := 0, locals := 22 } [.int (nI a)] n K I P G (jj_R (some (.int 1)) (n) (K) (I) (P) (G)) jj_noX := by
  refine jj_of hfl (by decide +kernel) [some (.int (nI a))] rfl rfl ?_
  intro X hXl hX hSt
  refine jr_iload_n hX dX6_isGood_0 rfl ?_
  refine jr_iconst (v := 0) hX dX6_isGood_1 (by decide) ?_
  refine jr_iconst (v := 3) hX dX6_isGood_2 (by decide) ?_
  refine jr_ret (jr_runS hX hSt kM_X6_47 (c_isIn_ok (jj_fl hX) (show _ ≤ nI a ∧ nI a ≤ nI 3 from ⟨nI_pos' (by omega), nI_le (by omega) (by omega)⟩)) rfl rfl dX6_isGood_3 rfl ⟨jj_b1 rfl, jj_b1 rfl⟩ rfl) ?_
  exact jr_zret hX (by simp) dX6_isGood_6 rfl rfl ⟨rfl, rfl, rfl, rfl, rfl, rfl⟩
set_option maxHeartbeats 4000000 in
set_option maxRecDepth 100000 in
theorem c_isGood_x {l : Launch} (hfl : l.stackTraces = false) {D : jj_D} {n : Nat} {K : jj_K} {I : jj_I} {P : jj_P} {G : jj_G} {x : Int32} (h : x < 0 ∨ nI 4 ≤ x) :
    jj_Met l D yX6_isGood (jj_ws yX6_isGood cX6_isGood 1 (some .boolean)) { frames := 1, cells := 0, slots := 0, locals := 22 } [.int x] n K I P G (jj_R (some (.int 0)) (n) (K) (I) (P) (G)) jj_noX := by
  refine jj_of hfl (by decide +kernel) [some (.int x)] rfl rfl ?_
  intro X hXl hX hSt
  refine jr_iload_n hX dX6_isGood_0 rfl ?_
  refine jr_iconst (v := 0) hX dX6_isGood_1 (by decide) ?_
  refine jr_iconst (v := 3) hX dX6_isGood_2 (by decide) ?_
  refine jr_ret (jr_runS hX hSt kM_X6_47 (c_isIn_x (jj_fl hX) (jm_x (c := 4) h (by omega))) rfl rfl dX6_isGood_3 rfl ⟨jj_b1 rfl, jj_b1 rfl⟩ rfl) ?_
  exact jr_zret hX (by simp) dX6_isGood_6 rfl rfl ⟨rfl, rfl, rfl, rfl, rfl, rfl⟩
set_option maxHeartbeats 4000000 in
set_option maxRecDepth 100000 in
theorem c_bo {l : Launch} (hfl : l.stackTraces = false) {D : jj_D} {n : Nat} {K : jj_K} {I : jj_I} {P : jj_P} {G : jj_G} (hly : ly K P) {b k : Nat} {x : Int32} (hb : b < 10) (hx : x = nI k) (hk : k < 12) :
    jj_Met l D yX6_bo (jj_ws yX6_bo cX6_bo 3 (some .int)) { frames := 0, cells := 0, slots := 0, locals := 0 } [.ref 150, .int (nI b), .int x] n K I P G (jj_R (some (.int (I 158 (12 * b + k)))) (n) (K) (I) (P) (G)) jj_noX := by
  refine jj_of hfl (by decide +kernel) [some (.ref 150), some (.int (nI b)), some (.int x)] rfl rfl ?_
  intro X hXl hX hSt
  refine jr_aload_n hX dX6_bo_0 rfl ?_
  refine jr_getr hX kF_X6_31 rfl (ly_kMo hly) (ly_p6_12 hly) dX6_bo_1 ?_
  refine jr_bipush (v := 12) hX dX6_bo_4 (by decide) ?_
  refine jr_iload_n hX dX6_bo_6 rfl ?_
  refine jr_imul hX dX6_bo_7 ?_
  refine jr_iload_n hX dX6_bo_8 rfl ?_
  refine jr_iadd hX dX6_bo_9 ?_
  refine jr_iald hX (by first | with_reducible assumption | with_reducible exact ly_kWm hly (by first | assumption | omega) | with_reducible exact ly_kLd hly (by first | assumption | omega) | with_reducible exact ly_kIc hly (by first | assumption | omega) | with_reducible exact ly_kBe hly (by first | assumption | omega) | with_reducible exact ly_kPr hly (by first | assumption | omega) | with_reducible exact ly_kMt hly (by first | assumption | omega) (by first | assumption | omega) | with_reducible exact ly_kBc hly (by first | assumption | omega) (by first | assumption | omega) | with_reducible exact ly_k151 hly | with_reducible exact ly_k152 hly | with_reducible exact ly_k153 hly | with_reducible exact ly_k154 hly | with_reducible exact ly_k155 hly | with_reducible exact ly_k156 hly | with_reducible exact ly_k157 hly | with_reducible exact ly_k158 hly | with_reducible exact ly_k159 hly | with_reducible exact ly_k160 hly | with_reducible exact ly_kAh hly (by first | assumption | omega)) (show _ = nI (12 * b + k) from by rw [hx, show (12 : Int32) = nI 12 from rfl, pk_mul, nI_add]) (by omega) dX6_bo_10 ?_
  exact jr_iret hX dX6_bo_11 rfl rfl ⟨rfl, rfl, rfl, rfl, rfl, rfl⟩
set_option maxHeartbeats 4000000 in
set_option maxRecDepth 100000 in
theorem c_setBo {l : Launch} (hfl : l.stackTraces = false) {D : jj_D} {n : Nat} {K : jj_K} {I : jj_I} {P : jj_P} {G : jj_G} (hly : ly K P) {b k : Nat} {x v : Int32} (hb : b < 10) (hx : x = nI k) (hk : k < 12) :
    jj_Met l D yX6_setBo (jj_ws yX6_setBo cX6_setBo 4 none) { frames := 0, cells := 0, slots := 0, locals := 0 } [.ref 150, .int (nI b), .int x, .int v] n K I P G (jj_R (none) (n) (K) (jj_u I 158 (12 * b + k) v) (P) (G)) jj_noX := by
  refine jj_of hfl (by decide +kernel) [some (.ref 150), some (.int (nI b)), some (.int x), some (.int v)] rfl rfl ?_
  intro X hXl hX hSt
  refine jr_aload_n hX dX6_setBo_0 rfl ?_
  refine jr_getr hX kF_X6_31 rfl (ly_kMo hly) (ly_p6_12 hly) dX6_setBo_1 ?_
  refine jr_bipush (v := 12) hX dX6_setBo_4 (by decide) ?_
  refine jr_iload_n hX dX6_setBo_6 rfl ?_
  refine jr_imul hX dX6_setBo_7 ?_
  refine jr_iload_n hX dX6_setBo_8 rfl ?_
  refine jr_iadd hX dX6_setBo_9 ?_
  refine jr_iload_n hX dX6_setBo_10 rfl ?_
  refine jr_iast hX (by first | with_reducible assumption | with_reducible exact ly_kWm hly (by first | assumption | omega) | with_reducible exact ly_kLd hly (by first | assumption | omega) | with_reducible exact ly_kIc hly (by first | assumption | omega) | with_reducible exact ly_kBe hly (by first | assumption | omega) | with_reducible exact ly_kPr hly (by first | assumption | omega) | with_reducible exact ly_kMt hly (by first | assumption | omega) (by first | assumption | omega) | with_reducible exact ly_kBc hly (by first | assumption | omega) (by first | assumption | omega) | with_reducible exact ly_k151 hly | with_reducible exact ly_k152 hly | with_reducible exact ly_k153 hly | with_reducible exact ly_k154 hly | with_reducible exact ly_k155 hly | with_reducible exact ly_k156 hly | with_reducible exact ly_k157 hly | with_reducible exact ly_k158 hly | with_reducible exact ly_k159 hly | with_reducible exact ly_k160 hly | with_reducible exact ly_kAh hly (by first | assumption | omega)) (by first | assumption | with_reducible exact aMt_0 | with_reducible exact aBc_0 | with_reducible exact aWm_0 | with_reducible exact aLd_0 | with_reducible exact aIc_0 | with_reducible exact aBe_0 | with_reducible exact aPr_0 | with_reducible exact aAh_0 | decide | omega) (show _ = nI (12 * b + k) from by rw [hx, show (12 : Int32) = nI 12 from rfl, pk_mul, nI_add]) (by omega) dX6_setBo_11 ?_
  exact jr_vret hX dX6_setBo_12 rfl rfl ⟨rfl, rfl, rfl, rfl, rfl, rfl⟩
set_option maxHeartbeats 4000000 in
set_option maxRecDepth 100000 in
theorem c_de {l : Launch} (hfl : l.stackTraces = false) {D : jj_D} {n : Nat} {K : jj_K} {I : jj_I} {P : jj_P} {G : jj_G} (hly : ly K P) {d k : Nat} {x : Int32} (hd : d < 30) (hx : x = nI k) (hk : k < 7) :
    jj_Met l D yX6_de (jj_ws yX6_de cX6_de 3 (some .int)) { frames := 0, cells := 0, slots := 0, locals := 0 } [.ref 150, .int (nI d), .int x] n K I P G (jj_R (some (.int (I 159 (7 * d + k)))) (n) (K) (I) (P) (G)) jj_noX := by
  refine jj_of hfl (by decide +kernel) [some (.ref 150), some (.int (nI d)), some (.int x)] rfl rfl ?_
  intro X hXl hX hSt
  refine jr_aload_n hX dX6_de_0 rfl ?_
  refine jr_getr hX kF_X6_34 rfl (ly_kMo hly) (ly_p6_13 hly) dX6_de_1 ?_
  refine jr_bipush (v := 7) hX dX6_de_4 (by decide) ?_
  refine jr_iload_n hX dX6_de_6 rfl ?_
  refine jr_imul hX dX6_de_7 ?_
  refine jr_iload_n hX dX6_de_8 rfl ?_
  refine jr_iadd hX dX6_de_9 ?_
  refine jr_iald hX (by first | with_reducible assumption | with_reducible exact ly_kWm hly (by first | assumption | omega) | with_reducible exact ly_kLd hly (by first | assumption | omega) | with_reducible exact ly_kIc hly (by first | assumption | omega) | with_reducible exact ly_kBe hly (by first | assumption | omega) | with_reducible exact ly_kPr hly (by first | assumption | omega) | with_reducible exact ly_kMt hly (by first | assumption | omega) (by first | assumption | omega) | with_reducible exact ly_kBc hly (by first | assumption | omega) (by first | assumption | omega) | with_reducible exact ly_k151 hly | with_reducible exact ly_k152 hly | with_reducible exact ly_k153 hly | with_reducible exact ly_k154 hly | with_reducible exact ly_k155 hly | with_reducible exact ly_k156 hly | with_reducible exact ly_k157 hly | with_reducible exact ly_k158 hly | with_reducible exact ly_k159 hly | with_reducible exact ly_k160 hly | with_reducible exact ly_kAh hly (by first | assumption | omega)) (show _ = nI (7 * d + k) from by rw [hx, show (7 : Int32) = nI 7 from rfl, pk_mul, nI_add]) (by omega) dX6_de_10 ?_
  exact jr_iret hX dX6_de_11 rfl rfl ⟨rfl, rfl, rfl, rfl, rfl, rfl⟩
set_option maxHeartbeats 4000000 in
set_option maxRecDepth 100000 in
theorem c_at {l : Launch} (hfl : l.stackTraces = false) {D : jj_D} {n : Nat} {K : jj_K} {I : jj_I} {P : jj_P} {G : jj_G} {m h g : Nat} {x y z : Int32} (hx : x = nI m) (hy : y = nI h) (hz : z = nI g) :
    jj_Met l D yX6_at (jj_ws yX6_at cX6_at 3 (some .int)) { frames := 0, cells := 0, slots := 0, locals := 0 } [.int x, .int y, .int z] n K I P G (jj_R (some (.int (nI (32 * m + (4 * h + g))))) (n) (K) (I) (P) (G)) jj_noX := by
  refine jj_of hfl (by decide +kernel) [some (.int x), some (.int y), some (.int z)] rfl rfl ?_
  intro X hXl hX hSt
  subst hx hy hz
  refine jr_iconst (v := 4) hX dX6_at_0 (by decide) ?_
  refine jr_bipush (v := 8) hX dX6_at_1 (by decide) ?_
  refine jr_iload_n hX dX6_at_3 rfl ?_
  refine jr_imul hX dX6_at_4 ?_
  refine jr_iload_n hX dX6_at_5 rfl ?_
  refine jr_iadd hX dX6_at_6 ?_
  refine jr_imul hX dX6_at_7 ?_
  refine jr_iload_n hX dX6_at_8 rfl ?_
  refine jr_iadd hX dX6_at_9 ?_
  exact jr_iret hX dX6_at_10 rfl rfl ⟨jj_ri (by rw [show (4 : Int32) = nI 4 from rfl, show (8 : Int32) = nI 8 from rfl, pk_mul, nI_add, pk_mul, nI_add]; congr 1; omega), rfl, rfl, rfl, rfl, rfl⟩
set_option maxHeartbeats 4000000 in
set_option maxRecDepth 100000 in
theorem c_iceAt {l : Launch} (hfl : l.stackTraces = false) {D : jj_D} {n : Nat} {K : jj_K} {I : jj_I} {P : jj_P} {G : jj_G} (hly : ly K P) {h H : Nat} (hH : I 150 2 = nI H) (hh : h < H) (hH2 : H ≤ 8) :
    jj_Met l D yX6_iceAt (jj_ws yX6_iceAt cX6_iceAt 2 (some .int)) { frames := 1, cells := 0, slots := 0, locals := 21 } [.ref 150, .int (nI h)] n K I P G (jj_R (some (.int (m_ia h H I))) (n) (K) (I) (P) (G)) jj_noX := by
  refine jj_of hfl (by decide +kernel) [some (.ref 150), some (.int (nI h))] rfl rfl ?_
  intro X hXl hX hSt
  refine jr_aload_n hX dX6_iceAt_0 rfl ?_
  refine jr_geti hX kF_X6_44 rfl (ly_kMo hly) dX6_iceAt_1 ?_
  refine jr_iconst (v := 1) hX dX6_iceAt_4 (by decide) ?_
  rw [hH]
  refine jr_icmp_ne (tgt := 12) hX dX6_iceAt_5 (by decide) (fun c_5 => ?_) (fun c_5 => ?_)
  · refine jr_aload_n hX dX6_iceAt_12 rfl ?_
    refine jr_getr hX kF_X6_22 rfl (ly_kMo hly) (ly_p6_9 hly) dX6_iceAt_13 ?_
    refine jr_iload_n hX dX6_iceAt_16 rfl ?_
    refine jr_aload_n hX dX6_iceAt_17 rfl ?_
    refine jr_geti hX kF_X6_44 rfl (ly_kMo hly) dX6_iceAt_18 ?_
    refine jr_iconst (v := 2) hX dX6_iceAt_21 (by decide) ?_
    have n1 : H ≠ 1 := fun e => c_5 (by rw [e]; rfl)
    refine jr_isub hX dX6_iceAt_22 ?_
    rw [hH, show nI H - 2 = nI (H - 2) by rw [show (2 : Int32) = nI 2 from rfl, pk_sub (by omega)]]
    refine jr_mmin hX kM_X6_68 dX6_iceAt_23 rfl ⟨jj_b1 rfl, jj_b1 rfl⟩ ?_
    rw [jl_min h (H - 2) (by omega) (by omega)]
    have e1 : (if H - 2 < h then H - 2 else h) = if h < H - 2 then h else H - 2 := by split <;> split <;> omega
    rw [e1]
    have e2 : (if h < H - 2 then h else H - 2) < 8 := by split <;> omega
    refine jr_iald hX (by first | with_reducible assumption | with_reducible exact ly_kWm hly (by first | assumption | omega) | with_reducible exact ly_kLd hly (by first | assumption | omega) | with_reducible exact ly_kIc hly (by first | assumption | omega) | with_reducible exact ly_kBe hly (by first | assumption | omega) | with_reducible exact ly_kPr hly (by first | assumption | omega) | with_reducible exact ly_kMt hly (by first | assumption | omega) (by first | assumption | omega) | with_reducible exact ly_kBc hly (by first | assumption | omega) (by first | assumption | omega) | with_reducible exact ly_k151 hly | with_reducible exact ly_k152 hly | with_reducible exact ly_k153 hly | with_reducible exact ly_k154 hly | with_reducible exact ly_k155 hly | with_reducible exact ly_k156 hly | with_reducible exact ly_k157 hly | with_reducible exact ly_k158 hly | with_reducible exact ly_k159 hly | with_reducible exact ly_k160 hly | with_reducible exact ly_kAh hly (by first | assumption | omega)) (by first | with_reducible rfl | with_reducible assumption | rfl) (by omega) dX6_iceAt_26 ?_
    exact jr_iret hX dX6_iceAt_27 rfl rfl ⟨jj_ri (by unfold m_ia; rw [if_neg n1]), rfl, rfl, rfl, rfl, rfl⟩
  · refine jr_iconst (v := 0) hX dX6_iceAt_8 (by decide) ?_
    refine jr_goto (tgt := 27) hX dX6_iceAt_9 (by decide) ?_
    exact jr_iret hX dX6_iceAt_27 rfl rfl ⟨jj_ri (by unfold m_ia; rw [if_pos (show H = 1 from Decidable.byContradiction (fun n => absurd c_5 (fun e => n (by have := nI_toInt (n := H) (by omega); rw [e] at this; have h1 : (1 : Int32).toInt = 1 := rfl; omega))))]), rfl, rfl, rfl, rfl, rfl⟩
set_option maxHeartbeats 4000000 in
set_option maxRecDepth 100000 in
theorem c_isHere {l : Launch} (hfl : l.stackTraces = false) {D : jj_D} {n : Nat} {K : jj_K} {I : jj_I} {P : jj_P} {G : jj_G} (hly : ly K P) {b : Nat} (hb : b < 10) :
    jj_Met l D yX6_isHere (jj_ws yX6_isHere cX6_isHere 2 (some .boolean)) { frames := 1, cells := 0, slots := 0, locals := 22 } [.ref 150, .int (nI b)] n K I P G (jj_R (some (.int (if I 158 (12 * b + 3) < 2 then 1 else 0))) (n) (K) (I) (P) (G)) jj_noX := by
  refine jj_of hfl (by decide +kernel) [some (.ref 150), some (.int (nI b))] rfl rfl ?_
  intro X hXl hX hSt
  refine jr_aload_n hX dX6_isHere_0 rfl ?_
  refine jr_iload_n hX dX6_isHere_1 rfl ?_
  refine jr_iconst (v := 3) hX dX6_isHere_2 (by decide) ?_
  refine jr_ret (jr_runV hX hSt kM_X6_74 (c_bo (jj_fl hX) hly (b := b) (k := 3) hb (show _ = nI 3 from rfl) (by decide)) rfl rfl (ly_kMo hly) ⟨_, _, rfl, by decide⟩ dX6_isHere_3 rfl ⟨jj_b1 rfl, jj_b1 rfl⟩ rfl) ?_
  refine jr_iconst (v := 2) hX dX6_isHere_6 (by decide) ?_
  refine jr_icmp_ge (tgt := 14) hX dX6_isHere_7 (by decide) (fun c_7 => ?_) (fun c_7 => ?_)
  · refine jr_iconst (v := 0) hX dX6_isHere_14 (by decide) ?_
    refine jr_zret hX (by simp) dX6_isHere_15 rfl rfl ?_
    exact ⟨jj_ri (by first | rw [if_pos (Int32.not_le.mp c_7)] | rw [if_neg (Int32.not_lt.mpr c_7)]), rfl, rfl, rfl, rfl, rfl⟩
  · refine jr_iconst (v := 1) hX dX6_isHere_10 (by decide) ?_
    refine jr_goto (tgt := 15) hX dX6_isHere_11 (by decide) ?_
    refine jr_zret hX (by simp) dX6_isHere_15 rfl rfl ?_
    exact ⟨jj_ri (by first | rw [if_pos (Int32.not_le.mp c_7)] | rw [if_neg (Int32.not_lt.mpr c_7)]), rfl, rfl, rfl, rfl, rfl⟩
set_option maxHeartbeats 4000000 in
set_option maxRecDepth 100000 in
theorem c_there1 {l : Launch} (hfl : l.stackTraces = false) {D : jj_D} {n : Nat} {K : jj_K} {I : jj_I} {P : jj_P} {G : jj_G} (hly : ly K P) {B : Nat} {x : Int32} (hB : I 150 7 = nI B) (hB2 : B ≤ 10) :
    jj_Met l D yX6_there (jj_ws yX6_there cX6_there 5 (some .int)) { frames := 2, cells := 0, slots := 0, locals := 43 } [.ref 150, .int x, .int 1] n K I P G (jj_R (some (.int (sm (m_t1 x I) B))) (n) (K) (I) (P) (G)) jj_noX := by
  refine jj_of hfl (by decide +kernel) [some (.ref 150), some (.int x), some (.int 1), none, none] rfl rfl ?_
  intro X hXl hX hSt
  refine jr_iconst (v := 0) hX dX6_there_0 (by decide) ?_
  refine jr_istore_n hX dX6_there_1 rfl ?_
  refine jr_iconst (v := 0) hX dX6_there_2 (by decide) ?_
  refine jr_istore hX dX6_there_3 rfl ?_
  have hloop : ∀ k, k ≤ B → jj_J X D 5 0 0 (jj_MQ X D { frames := 2, cells := 0, slots := 0, locals := 43 } (jj_R (some (.int (sm (m_t1 x I) B))) (n) (K) (I) (P) (G)) jj_noX) (n) (K) (I) (P) (G) 5 [some (.ref 150), some (.int x), some (.int 1), some (.int (sm (m_t1 x I) k)), some (.int (nI k))] [] := by
    refine jj_for (B) _ ?_ (fun k hk ih => ?_)
    · refine jr_iload hX dX6_there_5 rfl ?_
      refine jr_aload_n hX dX6_there_7 rfl ?_
      refine jr_geti hX kF_X6_54 rfl (ly_kMo hly) dX6_there_8 ?_
      refine jr_icmp_ge (tgt := 66) hX dX6_there_11 (by decide) (fun c_11 => ?_) (fun c_11 => absurd (by rw [hB]; exact nI_le (Nat.le_refl _) (by omega)) c_11)
      refine jr_iload_n hX dX6_there_66 rfl ?_
      exact jr_iret hX dX6_there_67 rfl rfl ⟨rfl, rfl, rfl, rfl, rfl, rfl⟩
    · refine jr_iload hX dX6_there_5 rfl ?_
      refine jr_aload_n hX dX6_there_7 rfl ?_
      refine jr_geti hX kF_X6_54 rfl (ly_kMo hly) dX6_there_8 ?_
      refine jr_icmp_ge (tgt := 66) hX dX6_there_11 (by decide) (fun c_11 => absurd c_11 (by rw [hB]; exact nI_ge (by assumption) (by omega))) (fun c_11 => ?_)
      refine jr_iload_n hX dX6_there_14 rfl ?_
      refine jr_aload_n hX dX6_there_15 rfl ?_
      refine jr_iload hX dX6_there_16 rfl ?_
      refine jr_iconst (v := 4) hX dX6_there_18 (by decide) ?_
      refine jr_ret (jr_runV hX hSt kM_X6_74 (c_bo (jj_fl hX) hly (b := k) (k := 4) (by omega) (show _ = nI 4 from rfl) (by decide)) rfl rfl (ly_kMo hly) ⟨_, _, rfl, by decide⟩ dX6_there_19 rfl ⟨jj_b1 rfl, jj_b1 rfl⟩ rfl) ?_
      refine jr_iload_n hX dX6_there_22 rfl ?_
      refine jr_icmp_ne (tgt := 57) hX dX6_there_23 (by decide) (fun c_23 => ?_) (fun c_23 => ?_)
      · refine jr_iconst (v := 0) hX dX6_there_57 (by decide) ?_
        refine jr_iadd hX dX6_there_58 ?_
        refine jr_istore_n hX dX6_there_59 rfl ?_
        refine jr_iinc hX dX6_there_60 rfl (by first | with_reducible exact jj_inc _ | with_reducible exact jj_inc1 _) rfl ?_
        refine jr_goto (tgt := 5) hX dX6_there_63 (by decide) ?_
        rw [sm_1 (show m_t1 x I k = 0 from if_neg (fun e => c_23 e.1))] at ih
        exact ih
      · refine jr_iload_n hX dX6_there_26 rfl ?_
        refine jr_if_eq (tgt := 44) hX dX6_there_27 (by decide) (fun c_27 => absurd c_27 (by decide)) (fun c_27 => ?_)
        refine jr_aload_n hX dX6_there_30 rfl ?_
        refine jr_iload hX dX6_there_31 rfl ?_
        refine jr_iconst (v := 3) hX dX6_there_33 (by decide) ?_
        refine jr_ret (jr_runV hX hSt kM_X6_74 (c_bo (jj_fl hX) hly (b := k) (k := 3) (by omega) (show _ = nI 3 from rfl) (by decide)) rfl rfl (ly_kMo hly) ⟨_, _, rfl, by decide⟩ dX6_there_34 rfl ⟨jj_b1 rfl, jj_b1 rfl⟩ rfl) ?_
        refine jr_iconst (v := 1) hX dX6_there_37 (by decide) ?_
        refine jr_icmp_ne (tgt := 57) hX dX6_there_38 (by decide) (fun c_38 => ?_) (fun c_38 => ?_)
        · refine jr_iconst (v := 0) hX dX6_there_57 (by decide) ?_
          refine jr_iadd hX dX6_there_58 ?_
          refine jr_istore_n hX dX6_there_59 rfl ?_
          refine jr_iinc hX dX6_there_60 rfl (by first | with_reducible exact jj_inc _ | with_reducible exact jj_inc1 _) rfl ?_
          refine jr_goto (tgt := 5) hX dX6_there_63 (by decide) ?_
          rw [sm_1 (show m_t1 x I k = 0 from if_neg (fun e => c_38 e.2))] at ih
          exact ih
        · refine jr_goto (tgt := 53) hX dX6_there_41 (by decide) ?_
          refine jr_iconst (v := 1) hX dX6_there_53 (by decide) ?_
          refine jr_goto (tgt := 58) hX dX6_there_54 (by decide) ?_
          refine jr_iadd hX dX6_there_58 ?_
          refine jr_istore_n hX dX6_there_59 rfl ?_
          refine jr_iinc hX dX6_there_60 rfl (by first | with_reducible exact jj_inc _ | with_reducible exact jj_inc1 _) rfl ?_
          refine jr_goto (tgt := 5) hX dX6_there_63 (by decide) ?_
          rw [sm_1 (show m_t1 x I k = 1 from if_pos ⟨c_23, c_38⟩)] at ih
          exact ih
  exact hloop 0 (Nat.zero_le _)
set_option maxHeartbeats 4000000 in
set_option maxRecDepth 100000 in
theorem c_there0 {l : Launch} (hfl : l.stackTraces = false) {D : jj_D} {n : Nat} {K : jj_K} {I : jj_I} {P : jj_P} {G : jj_G} (hly : ly K P) {B : Nat} {x : Int32} (hB : I 150 7 = nI B) (hB2 : B ≤ 10) :
    jj_Met l D yX6_there (jj_ws yX6_there cX6_there 5 (some .int)) { frames := 2, cells := 0, slots := 0, locals := 43 } [.ref 150, .int x, .int 0] n K I P G (jj_R (some (.int (sm (m_t0 x I) B))) (n) (K) (I) (P) (G)) jj_noX := by
  refine jj_of hfl (by decide +kernel) [some (.ref 150), some (.int x), some (.int 0), none, none] rfl rfl ?_
  intro X hXl hX hSt
  refine jr_iconst (v := 0) hX dX6_there_0 (by decide) ?_
  refine jr_istore_n hX dX6_there_1 rfl ?_
  refine jr_iconst (v := 0) hX dX6_there_2 (by decide) ?_
  refine jr_istore hX dX6_there_3 rfl ?_
  have hloop : ∀ k, k ≤ B → jj_J X D 5 0 0 (jj_MQ X D { frames := 2, cells := 0, slots := 0, locals := 43 } (jj_R (some (.int (sm (m_t0 x I) B))) (n) (K) (I) (P) (G)) jj_noX) (n) (K) (I) (P) (G) 5 [some (.ref 150), some (.int x), some (.int 0), some (.int (sm (m_t0 x I) k)), some (.int (nI k))] [] := by
    refine jj_for (B) _ ?_ (fun k hk ih => ?_)
    · refine jr_iload hX dX6_there_5 rfl ?_
      refine jr_aload_n hX dX6_there_7 rfl ?_
      refine jr_geti hX kF_X6_54 rfl (ly_kMo hly) dX6_there_8 ?_
      refine jr_icmp_ge (tgt := 66) hX dX6_there_11 (by decide) (fun c_11 => ?_) (fun c_11 => absurd (by rw [hB]; exact nI_le (Nat.le_refl _) (by omega)) c_11)
      refine jr_iload_n hX dX6_there_66 rfl ?_
      exact jr_iret hX dX6_there_67 rfl rfl ⟨rfl, rfl, rfl, rfl, rfl, rfl⟩
    · refine jr_iload hX dX6_there_5 rfl ?_
      refine jr_aload_n hX dX6_there_7 rfl ?_
      refine jr_geti hX kF_X6_54 rfl (ly_kMo hly) dX6_there_8 ?_
      refine jr_icmp_ge (tgt := 66) hX dX6_there_11 (by decide) (fun c_11 => absurd c_11 (by rw [hB]; exact nI_ge (by assumption) (by omega))) (fun c_11 => ?_)
      refine jr_iload_n hX dX6_there_14 rfl ?_
      refine jr_aload_n hX dX6_there_15 rfl ?_
      refine jr_iload hX dX6_there_16 rfl ?_
      refine jr_iconst (v := 4) hX dX6_there_18 (by decide) ?_
      refine jr_ret (jr_runV hX hSt kM_X6_74 (c_bo (jj_fl hX) hly (b := k) (k := 4) (by omega) (show _ = nI 4 from rfl) (by decide)) rfl rfl (ly_kMo hly) ⟨_, _, rfl, by decide⟩ dX6_there_19 rfl ⟨jj_b1 rfl, jj_b1 rfl⟩ rfl) ?_
      refine jr_iload_n hX dX6_there_22 rfl ?_
      refine jr_icmp_ne (tgt := 57) hX dX6_there_23 (by decide) (fun c_23 => ?_) (fun c_23 => ?_)
      · refine jr_iconst (v := 0) hX dX6_there_57 (by decide) ?_
        refine jr_iadd hX dX6_there_58 ?_
        refine jr_istore_n hX dX6_there_59 rfl ?_
        refine jr_iinc hX dX6_there_60 rfl (by first | with_reducible exact jj_inc _ | with_reducible exact jj_inc1 _) rfl ?_
        refine jr_goto (tgt := 5) hX dX6_there_63 (by decide) ?_
        rw [sm_1 (show m_t0 x I k = 0 from if_neg (fun e => c_23 e.1))] at ih
        exact ih
      · refine jr_iload_n hX dX6_there_26 rfl ?_
        refine jr_if_eq (tgt := 44) hX dX6_there_27 (by decide) (fun c_27 => ?_) (fun c_27 => absurd rfl c_27)
        refine jr_aload_n hX dX6_there_44 rfl ?_
        refine jr_iload hX dX6_there_45 rfl ?_
        refine jr_ret (jr_runV hX hSt kM_X6_77 (c_isHere (jj_fl hX) hly (by omega)) rfl rfl (ly_kMo hly) ⟨_, _, rfl, by decide⟩ dX6_there_47 rfl ⟨jj_b1 rfl, jj_b1 rfl⟩ rfl) ?_
        refine jr_if_eq (tgt := 57) hX dX6_there_50 (by decide) (fun c_50 => ?_) (fun c_50 => ?_)
        · refine jr_iconst (v := 0) hX dX6_there_57 (by decide) ?_
          refine jr_iadd hX dX6_there_58 ?_
          refine jr_istore_n hX dX6_there_59 rfl ?_
          refine jr_iinc hX dX6_there_60 rfl (by first | with_reducible exact jj_inc _ | with_reducible exact jj_inc1 _) rfl ?_
          refine jr_goto (tgt := 5) hX dX6_there_63 (by decide) ?_
          rw [sm_1 (show m_t0 x I k = 0 from if_neg (fun e => jl_00 c_50 e.2))] at ih
          exact ih
        · refine jr_iconst (v := 1) hX dX6_there_53 (by decide) ?_
          refine jr_goto (tgt := 58) hX dX6_there_54 (by decide) ?_
          refine jr_iadd hX dX6_there_58 ?_
          refine jr_istore_n hX dX6_there_59 rfl ?_
          refine jr_iinc hX dX6_there_60 rfl (by first | with_reducible exact jj_inc _ | with_reducible exact jj_inc1 _) rfl ?_
          refine jr_goto (tgt := 5) hX dX6_there_63 (by decide) ?_
          rw [sm_1 (show m_t0 x I k = 1 from if_pos ⟨c_23, jl_01 c_50⟩)] at ih
          exact ih
  exact hloop 0 (Nat.zero_le _)
set_option maxHeartbeats 4000000 in
set_option maxRecDepth 100000 in
theorem c_isOpen {l : Launch} (hfl : l.stackTraces = false) {D : jj_D} {n : Nat} {K : jj_K} {I : jj_I} {P : jj_P} {G : jj_G} (hly : ly K P) {j : Nat} {x : Int32} (hx : x = nI j) (hj : j < 8) :
    jj_Met l D yX6_isOpen (jj_ws yX6_isOpen cX6_isOpen 2 (some .boolean)) { frames := 0, cells := 0, slots := 0, locals := 0 } [.ref 150, .int x] n K I P G (jj_R (some (.int (m_ol I j))) (n) (K) (I) (P) (G)) jj_noX := by
  refine jj_of hfl (by decide +kernel) [some (.ref 150), some (.int x)] rfl rfl ?_
  intro X hXl hX hSt
  refine jr_aload_n hX dX6_isOpen_0 rfl ?_
  refine jr_getr hX kF_X6_22 rfl (ly_kMo hly) (ly_p6_9 hly) dX6_isOpen_1 ?_
  refine jr_iload_n hX dX6_isOpen_4 rfl ?_
  refine jr_iald hX (by first | with_reducible assumption | with_reducible exact ly_kWm hly (by first | assumption | omega) | with_reducible exact ly_kLd hly (by first | assumption | omega) | with_reducible exact ly_kIc hly (by first | assumption | omega) | with_reducible exact ly_kBe hly (by first | assumption | omega) | with_reducible exact ly_kPr hly (by first | assumption | omega) | with_reducible exact ly_kMt hly (by first | assumption | omega) (by first | assumption | omega) | with_reducible exact ly_kBc hly (by first | assumption | omega) (by first | assumption | omega) | with_reducible exact ly_k151 hly | with_reducible exact ly_k152 hly | with_reducible exact ly_k153 hly | with_reducible exact ly_k154 hly | with_reducible exact ly_k155 hly | with_reducible exact ly_k156 hly | with_reducible exact ly_k157 hly | with_reducible exact ly_k158 hly | with_reducible exact ly_k159 hly | with_reducible exact ly_k160 hly | with_reducible exact ly_kAh hly (by first | assumption | omega)) (by first | with_reducible rfl | with_reducible assumption | rfl) (by omega) dX6_isOpen_5 ?_
  refine jr_bipush (v := 10) hX dX6_isOpen_6 (by decide) ?_
  refine jr_icmp_gt (tgt := 15) hX dX6_isOpen_8 (by decide) (fun c_8 => ?_) (fun c_8 => ?_)
  · refine jr_iconst (v := 0) hX dX6_isOpen_15 (by decide) ?_
    refine jr_zret hX (by simp) dX6_isOpen_16 rfl rfl ?_
    exact ⟨jj_ri (by unfold m_ol; first | rw [if_pos (Int32.not_lt.mp c_8)] | rw [if_neg (Int32.not_le.mpr c_8)]), rfl, rfl, rfl, rfl, rfl⟩
  · refine jr_iconst (v := 1) hX dX6_isOpen_11 (by decide) ?_
    refine jr_goto (tgt := 16) hX dX6_isOpen_12 (by decide) ?_
    refine jr_zret hX (by simp) dX6_isOpen_16 rfl rfl ?_
    exact ⟨jj_ri (by unfold m_ol; first | rw [if_pos (Int32.not_lt.mp c_8)] | rw [if_neg (Int32.not_le.mpr c_8)]), rfl, rfl, rfl, rfl, rfl⟩
set_option maxHeartbeats 4000000 in
set_option maxRecDepth 100000 in
theorem c_loaded {l : Launch} (hfl : l.stackTraces = false) {D : jj_D} {n : Nat} {K : jj_K} {I : jj_I} {P : jj_P} {G : jj_G} (hly : ly K P) {b : Nat} (hb : b < 10) :
    jj_Met l D yX6_loaded (jj_ws yX6_loaded cX6_loaded 4 (some .int)) { frames := 1, cells := 0, slots := 0, locals := 22 } [.ref 150, .int (nI b)] n K I P G (jj_R (some (.int (m_ld b I))) (n) (K) (I) (P) (G)) jj_noX := by
  refine jj_of hfl (by decide +kernel) [some (.ref 150), some (.int (nI b)), none, none] rfl rfl ?_
  intro X hXl hX hSt
  refine jr_iconst (v := 0) hX dX6_loaded_0 (by decide) ?_
  refine jr_istore_n hX dX6_loaded_1 rfl ?_
  refine jr_iconst (v := 0) hX dX6_loaded_2 (by decide) ?_
  refine jr_istore_n hX dX6_loaded_3 rfl ?_
  have hloop : ∀ k, k ≤ 4 → jj_J X D 4 0 0 (jj_MQ X D { frames := 1, cells := 0, slots := 0, locals := 22 } (jj_R (some (.int (m_ld b I))) (n) (K) (I) (P) (G)) jj_noX) (n) (K) (I) (P) (G) 4 [some (.ref 150), some (.int (nI b)), some (.int (sm (fun g => I 158 (12 * b + (8 + g))) k)), some (.int (nI k))] [] := by
    refine jj_for (4) _ ?_ (fun k hk ih => ?_)
    · refine jr_iload_n hX dX6_loaded_4 rfl ?_
      refine jr_iconst (v := 4) hX dX6_loaded_5 (by decide) ?_
      refine jr_icmp_ge (tgt := 27) hX dX6_loaded_6 (by decide) (fun c_6 => ?_) (fun c_6 => absurd (by decide) c_6)
      refine jr_iload_n hX dX6_loaded_27 rfl ?_
      exact jr_iret hX dX6_loaded_28 rfl rfl ⟨rfl, rfl, rfl, rfl, rfl, rfl⟩
    · refine jr_iload_n hX dX6_loaded_4 rfl ?_
      refine jr_iconst (v := 4) hX dX6_loaded_5 (by decide) ?_
      refine jr_icmp_ge (tgt := 27) hX dX6_loaded_6 (by decide) (fun c_6 => absurd c_6 (show ¬ nI 4 ≤ nI k from nI_ge (by assumption) (by omega))) (fun c_6 => ?_)
      refine jr_iload_n hX dX6_loaded_9 rfl ?_
      refine jr_aload_n hX dX6_loaded_10 rfl ?_
      refine jr_iload_n hX dX6_loaded_11 rfl ?_
      refine jr_bipush (v := 8) hX dX6_loaded_12 (by decide) ?_
      refine jr_iload_n hX dX6_loaded_14 rfl ?_
      refine jr_iadd hX dX6_loaded_15 ?_
      refine jr_ret (jr_runV hX hSt kM_X6_74 (c_bo (jj_fl hX) hly (b := b) (k := 8 + k) hb (show _ = nI (8 + k) from by rw [show (8 : Int32) = nI 8 from rfl, nI_add]) (by omega)) rfl rfl (ly_kMo hly) ⟨_, _, rfl, by decide⟩ dX6_loaded_16 rfl ⟨jj_b1 rfl, jj_b1 rfl⟩ rfl) ?_
      refine jr_iadd hX dX6_loaded_19 ?_
      refine jr_istore_n hX dX6_loaded_20 rfl ?_
      refine jr_iinc hX dX6_loaded_21 rfl (by first | with_reducible exact jj_inc _ | with_reducible exact jj_inc1 _) rfl ?_
      refine jr_goto (tgt := 4) hX dX6_loaded_24 (by decide) ?_
      exact ih
  exact hloop 0 (Nat.zero_le _)
set_option maxHeartbeats 4000000 in
set_option maxRecDepth 100000 in
theorem c_sunk {l : Launch} (hfl : l.stackTraces = false) {D : jj_D} {n : Nat} {K : jj_K} {I : jj_I} {P : jj_P} {G : jj_G} (hly : ly K P) {B : Nat} (hB : I 150 7 = nI B) (hB2 : B ≤ 10) :
    jj_Met l D yX6_sunk (jj_ws yX6_sunk cX6_sunk 3 (some .int)) { frames := 1, cells := 0, slots := 0, locals := 22 } [.ref 150] n K I P G (jj_R (some (.int (sm (m_st 3 I) B))) (n) (K) (I) (P) (G)) jj_noX := by
  refine jj_of hfl (by decide +kernel) [some (.ref 150), none, none] rfl rfl ?_
  intro X hXl hX hSt
  refine jr_iconst (v := 0) hX dX6_sunk_0 (by decide) ?_
  refine jr_istore_n hX dX6_sunk_1 rfl ?_
  refine jr_iconst (v := 0) hX dX6_sunk_2 (by decide) ?_
  refine jr_istore_n hX dX6_sunk_3 rfl ?_
  have hloop : ∀ k, k ≤ B → jj_J X D 3 0 0 (jj_MQ X D { frames := 1, cells := 0, slots := 0, locals := 22 } (jj_R (some (.int (sm (m_st 3 I) B))) (n) (K) (I) (P) (G)) jj_noX) (n) (K) (I) (P) (G) 4 [some (.ref 150), some (.int (sm (m_st 3 I) k)), some (.int (nI k))] [] := by
    refine jj_for (B) _ ?_ (fun k hk ih => ?_)
    · refine jr_iload_n hX dX6_sunk_4 rfl ?_
      refine jr_aload_n hX dX6_sunk_5 rfl ?_
      refine jr_geti hX kF_X6_54 rfl (ly_kMo hly) dX6_sunk_6 ?_
      refine jr_icmp_ge (tgt := 36) hX dX6_sunk_9 (by decide) (fun c_9 => ?_) (fun c_9 => absurd (by rw [hB]; exact nI_le (Nat.le_refl _) (by omega)) c_9)
      refine jr_iload_n hX dX6_sunk_36 rfl ?_
      exact jr_iret hX dX6_sunk_37 rfl rfl ⟨rfl, rfl, rfl, rfl, rfl, rfl⟩
    · refine jr_iload_n hX dX6_sunk_4 rfl ?_
      refine jr_aload_n hX dX6_sunk_5 rfl ?_
      refine jr_geti hX kF_X6_54 rfl (ly_kMo hly) dX6_sunk_6 ?_
      refine jr_icmp_ge (tgt := 36) hX dX6_sunk_9 (by decide) (fun c_9 => absurd c_9 (by rw [hB]; exact nI_ge (by assumption) (by omega))) (fun c_9 => ?_)
      refine jr_iload_n hX dX6_sunk_12 rfl ?_
      refine jr_aload_n hX dX6_sunk_13 rfl ?_
      refine jr_iload_n hX dX6_sunk_14 rfl ?_
      refine jr_iconst (v := 3) hX dX6_sunk_15 (by decide) ?_
      refine jr_ret (jr_runV hX hSt kM_X6_74 (c_bo (jj_fl hX) hly (b := k) (k := 3) (by omega) (show _ = nI 3 from rfl) (by decide)) rfl rfl (ly_kMo hly) ⟨_, _, rfl, by decide⟩ dX6_sunk_16 rfl ⟨jj_b1 rfl, jj_b1 rfl⟩ rfl) ?_
      refine jr_iconst (v := 3) hX dX6_sunk_19 (by decide) ?_
      refine jr_icmp_ne (tgt := 27) hX dX6_sunk_20 (by decide) (fun c_20 => ?_) (fun c_20 => ?_)
      · refine jr_iconst (v := 0) hX dX6_sunk_27 (by decide) ?_
        refine jr_iadd hX dX6_sunk_28 ?_
        refine jr_istore_n hX dX6_sunk_29 rfl ?_
        refine jr_iinc hX dX6_sunk_30 rfl (by first | with_reducible exact jj_inc _ | with_reducible exact jj_inc1 _) rfl ?_
        refine jr_goto (tgt := 4) hX dX6_sunk_33 (by decide) ?_
        rw [sm_1 (show m_st 3 I k = 0 from if_neg c_20)] at ih
        exact ih
      · refine jr_iconst (v := 1) hX dX6_sunk_23 (by decide) ?_
        refine jr_goto (tgt := 28) hX dX6_sunk_24 (by decide) ?_
        refine jr_iadd hX dX6_sunk_28 ?_
        refine jr_istore_n hX dX6_sunk_29 rfl ?_
        refine jr_iinc hX dX6_sunk_30 rfl (by first | with_reducible exact jj_inc _ | with_reducible exact jj_inc1 _) rfl ?_
        refine jr_goto (tgt := 4) hX dX6_sunk_33 (by decide) ?_
        rw [sm_1 (show m_st 3 I k = 1 from if_pos (c_20))] at ih
        exact ih
  exact hloop 0 (Nat.zero_le _)
set_option maxHeartbeats 4000000 in
set_option maxRecDepth 100000 in
theorem c_isThere {l : Launch} (hfl : l.stackTraces = false) {D : jj_D} {n : Nat} {K : jj_K} {I : jj_I} {P : jj_P} {G : jj_G} (hly : ly K P) {b : Nat} (hb : b < 10) :
    jj_Met l D yX6_isThere (jj_ws yX6_isThere cX6_isThere 2 (some .boolean)) { frames := 2, cells := 0, slots := 0, locals := 43 } [.ref 150, .int (nI b)] n K I P G (jj_R (some (.int (m_th I b))) (n) (K) (I) (P) (G)) jj_noX := by
  refine jj_of hfl (by decide +kernel) [some (.ref 150), some (.int (nI b))] rfl rfl ?_
  intro X hXl hX hSt
  refine jr_aload_n hX dX6_isThere_0 rfl ?_
  refine jr_iload_n hX dX6_isThere_1 rfl ?_
  refine jr_ret (jr_runV hX hSt kM_X6_77 (c_isHere (jj_fl hX) hly hb) rfl rfl (ly_kMo hly) ⟨_, _, rfl, by decide⟩ dX6_isThere_2 rfl ⟨jj_b1 rfl, jj_b1 rfl⟩ rfl) ?_
  refine jr_if_eq (tgt := 27) hX dX6_isThere_5 (by decide) (fun c_5 => ?_) (fun c_5 => ?_)
  · refine jr_iconst (v := 0) hX dX6_isThere_27 (by decide) ?_
    exact jr_zret hX (by simp) dX6_isThere_28 rfl rfl ⟨jj_ri (by unfold m_th; rw [if_neg (fun e => jl_00 c_5 e.1)]), rfl, rfl, rfl, rfl, rfl⟩
  · refine jr_aload_n hX dX6_isThere_8 rfl ?_
    refine jr_iload_n hX dX6_isThere_9 rfl ?_
    refine jr_iconst (v := 4) hX dX6_isThere_10 (by decide) ?_
    refine jr_ret (jr_runV hX hSt kM_X6_74 (c_bo (jj_fl hX) hly (b := b) (k := 4) hb (show _ = nI 4 from rfl) (by decide)) rfl rfl (ly_kMo hly) ⟨_, _, rfl, by decide⟩ dX6_isThere_11 rfl ⟨jj_b1 rfl, jj_b1 rfl⟩ rfl) ?_
    refine jr_aload_n hX dX6_isThere_14 rfl ?_
    refine jr_iload_n hX dX6_isThere_15 rfl ?_
    refine jr_iconst (v := 5) hX dX6_isThere_16 (by decide) ?_
    refine jr_ret (jr_runV hX hSt kM_X6_74 (c_bo (jj_fl hX) hly (b := b) (k := 5) hb (show _ = nI 5 from rfl) (by decide)) rfl rfl (ly_kMo hly) ⟨_, _, rfl, by decide⟩ dX6_isThere_17 rfl ⟨jj_b1 rfl, jj_b1 rfl⟩ rfl) ?_
    refine jr_icmp_ne (tgt := 27) hX dX6_isThere_20 (by decide) (fun c_20 => ?_) (fun c_20 => ?_)
    · refine jr_iconst (v := 0) hX dX6_isThere_27 (by decide) ?_
      exact jr_zret hX (by simp) dX6_isThere_28 rfl rfl ⟨jj_ri (by unfold m_th; rw [if_neg (fun e => c_20 e.2)]), rfl, rfl, rfl, rfl, rfl⟩
    · refine jr_iconst (v := 1) hX dX6_isThere_23 (by decide) ?_
      refine jr_goto (tgt := 28) hX dX6_isThere_24 (by decide) ?_
      exact jr_zret hX (by simp) dX6_isThere_28 rfl rfl ⟨jj_ri (by unfold m_th; rw [if_pos ⟨jl_01 c_5, c_20⟩]), rfl, rfl, rfl, rfl, rfl⟩
