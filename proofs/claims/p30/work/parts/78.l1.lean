/-! the law: a number below another, a cell of the script; what the class's calls leave alone -/
theorem bw_nn (v : Int32) : ¬ (v &&& 2147483647) < 0 := by
  have h : (v &&& 2147483647).toBitVec.toNat < 2 ^ 31 := by
    rw [Int32.toBitVec_and, BitVec.toNat_and]
    exact Nat.lt_of_le_of_lt Nat.and_le_right (by decide)
  rw [Int32.lt_iff_toInt_lt]
  have h2 : (v &&& 2147483647).toInt = ((v &&& 2147483647).toBitVec.toNat : Int) := by
    show (v &&& 2147483647).toBitVec.toInt = _
    exact BitVec.toInt_eq_toNat_of_lt (by omega)
  rw [h2, show (0 : Int32).toInt = 0 from rfl]
  omega
def bw (v : Int32) (m : Nat) : Nat := nv (v &&& 2147483647) % m
theorem bw_lt {v : Int32} {m : Nat} (h : 0 < m) : bw v m < m := Nat.mod_lt _ h
set_option maxHeartbeats 4000000 in
set_option maxRecDepth 100000 in
theorem l_below {l : Launch} (hfl : l.stackTraces = false) {D : jj_D} {n : Nat} {K : jj_K} {I : jj_I} {P : jj_P} {G : jj_G} {v y : Int32} {m : Nat} (hy : y = nI m) (hm : 0 < m ∧ m < 2147483648) :
    jj_Met l D yL_below (jj_ws yL_below cL_below 2 (some .int)) { frames := 0, cells := 0, slots := 0, locals := 0 } [.int v, .int y] n K I P G (jj_R (some (.int (nI (bw v m)))) n K I P G) jj_noX := by
  subst hy
  refine jj_of hfl (by decide +kernel) [some (.int v), some (.int (nI m))] rfl rfl ?_
  intro X hXl hX hSt
  obtain ⟨j, hj, ej⟩ := nI_of (bw_nn v)
  refine jr_iload_n hX dL_below_0 rfl ?_
  refine jr_ldc hX kc_L_7 dL_below_1 ?_
  refine jr_iand hX dL_below_3 ?_
  refine jr_iload_n hX dL_below_4 rfl ?_
  refine jr_irem hX dL_below_5 (nI_ne0 hm.1 (by omega)) ?_
  rw [ej, pk_rem hj hm.1 (by omega)]
  refine jr_iret hX dL_below_6 rfl rfl ⟨jj_ri ?_, rfl, rfl, rfl, rfl, rfl⟩
  unfold bw
  rw [ej, nv_nI hj]
set_option maxHeartbeats 4000000 in
set_option maxRecDepth 100000 in
theorem l_cell {l : Launch} (hfl : l.stackTraces = false) {D : jj_D} {n : Nat} {K : jj_K} {I : jj_I} {P : jj_P} {G : jj_G} {y : Int32} {k : Nat} (hy : y = nI k) (hk : k < 2147483648) :
    jj_Met l D yL_cell (jj_ws yL_cell cL_cell 2 (some .int)) { frames := 0, cells := 0, slots := 0, locals := 0 } [.ref 0, .int y] n K I P G (fun r n1 K1 I1 P1 G1 => (∃ v, r = some (.int v)) ∧ n = n1 ∧ K = K1 ∧ I = I1 ∧ P = P1 ∧ G = G1) jj_noX := by
  subst hy
  refine jj_of hfl (by decide +kernel) [some (.ref 0), some (.int (nI k))] rfl rfl ?_
  intro X hXl hX hSt
  obtain ⟨S, hS, hlen, hld⟩ := jr_script hX
  refine jr_iload_n hX dL_cell_0 rfl ?_
  refine jr_aload_n hX dL_cell_1 rfl ?_
  refine hlen dL_cell_2 ?_
  refine jr_icmp_ge (tgt := 12) hX dL_cell_3 (by decide) (fun c => ?_) (fun c => ?_)
  · refine jr_ldc hX kc_L_8 dL_cell_12 ?_
    refine jr_iload_n hX dL_cell_14 rfl ?_
    refine jr_iconst (v := 3) hX dL_cell_15 (by decide) ?_
    refine jr_iadd hX dL_cell_16 ?_
    refine jr_imul hX dL_cell_17 ?_
    exact jr_iret hX dL_cell_18 rfl rfl ⟨⟨_, rfl⟩, rfl, rfl, rfl, rfl, rfl⟩
  · refine jr_aload_n hX dL_cell_6 rfl ?_
    refine jr_iload_n hX dL_cell_7 rfl ?_
    refine hld (by have := mt (nI_leI (a := S) (b := k) (by omega) (by omega)).mpr c; omega) dL_cell_8 (fun v => ?_)
    refine jr_goto (tgt := 18) hX dL_cell_9 (by decide) ?_
    exact jr_iret hX dL_cell_18 rfl rfl ⟨⟨_, rfl⟩, rfl, rfl, rfl, rfl, rfl⟩
/-- the class's part of a memory -/
def eqA (J I : jj_I) : Prop := ∀ a, a < 150 → J a = I a
theorem eqA_u {J I : jj_I} (h : eqA J I) {b k : Nat} {v : Int32} : eqA (jj_u J b k v) (jj_u I b k v) := fun a ha => by
  funext j
  unfold jj_u
  rw [h a ha]
theorem eqA_w {J I : jj_I} (h : eqA J I) {b k : Nat} {v : Int32} (hb : 150 ≤ b) : eqA (jj_u J b k v) I := fun a ha => (jj_u_ne (by omega)).trans (h a ha)
theorem eqA_tr {J I L : jj_I} (h : eqA J I) (g : eqA I L) : eqA J L := fun a ha => (h a ha).trans (g a ha)
theorem eqA_sf {J I : jj_I} {H M B N : Nat} (h : eqA J I) (hs : sf 0 H M B N I) : sf 0 H M B N J :=
  sf_cg hs (by rw [h _ (by simp only [aR]; omega)]) (h _ (by simp only [aW]; omega)) (fun b hb => h _ (by simp only [aB]; omega)) (fun d hd => h _ (by simp only [aD]; omega))
theorem eqA_tc {J I : jj_I} {t H M B N : Nat} (h : eqA J I) (ht : t + 1 ≤ 512) (hs : tn_c t H M B N I) : tn_c (t + 1) H M B N J := tc_cg hs ht (fun a ha _ _ => h a (by omega))
theorem ly_b1 {a : Nat} {kd : Nat × Nat} (e : ly_K0 a = some kd) : a < 150 := by
  unfold ly_K0 at e
  repeat' split at e
  all_goals first | (cases e; done) | omega
theorem ly_b2 {a k q : Nat} (e : ly_P0 a k = some q) : a < 150 := by
  unfold ly_P0 at e
  by_cases h : a < 150
  · exact h
  · rw [if_neg (by omega), if_neg (by omega), if_neg (by omega), if_neg (by omega)] at e
    cases e
theorem tc_up {t t' H M B N : Nat} {C : jj_I} (h : tn_c t H M B N C) (h1 : t ≤ t') (h2 : t' ≤ 512) : tn_c t' H M B N C := by
  obtain ⟨k, rfl⟩ : ∃ k, t' = t + k := ⟨t' - t, by omega⟩
  induction k with
  | zero => exact h
  | succ k ih => exact tc_cg (ih (by omega) (by omega)) (by omega) (fun _ _ _ _ => rfl)
section SX
variable {A : Nat → Nat} {H M B N n n' : Nat} {K K' : jj_K} {P P' : jj_P} {C I J : jj_I}
/-- both sides in one memory -/
theorem ms_in (hs : sy A H M B N n K P) (hm : ms A H M B N C I) (h1 : eqA J C) (h2 : ∀ a, 150 ≤ a → a < n → J a = I a) : ms A H M B N J J :=
  ms_cg hs.1 hm (fun t ht => h2 _ (sy_lt hs ht).1 (sy_lt hs ht).2) h1
/-- more cells, none of the river's -/
theorem sy_up (hs : sy A H M B N n K P) (hn : n ≤ n') (hK : ∀ a, a < n → K' a = K a) (hP : ∀ a, a < n → P' a = P a) : sy A H M B N n' K' P' := by
  obtain ⟨h0, h1, h2, h3⟩ := id hs
  have lv : ∀ t k u, sy_P H B N t k = some u → sy_K H M B N t ≠ none := fun t k u e => (sy_live h0 e).1
  refine ⟨h0, fun t kd e => ?_, fun t k u e => ?_, h3⟩
  · obtain ⟨q1, q2⟩ := h1 t kd e
    exact ⟨by omega, by rw [hK _ q1.2]; exact q2⟩
  · rw [hP _ (sy_lt hs (lv t k u e)).2]
    exact h2 t k u e
theorem ly_up (h : ly K P) (hK : ∀ a, a < 150 → K' a = K a) (hP : ∀ a, a < 150 → P' a = P a) : ly K' P' := by
  refine ⟨fun a kd e => ?_, fun a k q e => ?_⟩
  · rw [hK a (ly_b1 e)]; exact h.1 a kd e
  · rw [hP a (ly_b2 e)]; exact h.2 a k q e
end SX
