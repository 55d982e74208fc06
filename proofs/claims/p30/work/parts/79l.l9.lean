/-! the law's doings, all; what both rivers tell -/
set_option maxHeartbeats 4000000 in
set_option maxRecDepth 100000 in
theorem l_act {l : Launch} (hfl : l.stackTraces = false) {D : jj_D} {n : Nat} {K : jj_K} {I : jj_I} {P : jj_P} {G : jj_G} {A : Nat → Nat} {H M B N t : Nat} {x : Int32} (hv : lv A H M B N n t K I P) (ht : t + 2 ≤ 512) :
    jj_Met l D yL_act (jj_ws yL_act cL_act 16 (some .boolean)) { frames := 9, cells := 2, slots := 38, locals := 159 } [.ref 1, .ref (A 0), .int x] n K I P G (fun r n1 K1 I1 P1 G1 => G1 = G ∧ r = some (.int 1) ∧ ∃ A1 N1, A1 0 = A 0 ∧ lv A1 H M B N1 n1 (t + 2) K1 I1 P1) jj_noX := by
  have h := bw_lt (v := x >>> (9 &&& 31)) (m := 10) (by decide)
  rcases (show bw (x >>> (9 &&& 31)) 10 = 0 ∨ bw (x >>> (9 &&& 31)) 10 = 1 ∨ bw (x >>> (9 &&& 31)) 10 = 2 ∨ bw (x >>> (9 &&& 31)) 10 = 3 ∨ bw (x >>> (9 &&& 31)) 10 = 4 ∨ bw (x >>> (9 &&& 31)) 10 = 5 ∨ bw (x >>> (9 &&& 31)) 10 = 6 ∨ bw (x >>> (9 &&& 31)) 10 = 7 ∨ bw (x >>> (9 &&& 31)) 10 = 8 ∨ bw (x >>> (9 &&& 31)) 10 = 9 by omega) with e | e | e | e | e | e | e | e | e | e
  · exact l_act_0 hfl hv ht e
  · exact l_act_1 hfl hv ht e
  · exact l_act_2 hfl hv ht e
  · exact l_act_3 hfl hv ht e
  · exact l_act_4 hfl hv ht e
  · exact l_act_5 hfl hv ht e
  · exact l_act_6 hfl hv ht e
  · exact l_act_7 hfl hv ht e
  · exact l_act_8 hfl hv ht e
  · exact l_act_9 hfl hv ht e
section FA
variable {A : Nat → Nat} {H M B N n t : Nat} {K : jj_K} {P : jj_P} {I J C J2 : jj_I}
/-- a new row, told -/
def s_row (J : jj_I) (n m : Nat) (f : Nat → Int32) : jj_I := it (fun k X => jj_u X n k (f k)) (jj_uR J n (fun _ => 0)) m
theorem s_row_p {f : Nat → Int32} : ∀ {m : Nat}, (∀ k, k < m → s_row J n m f n k = f k) ∧ ∀ b, b ≠ n → s_row J n m f b = J b
  | 0 => ⟨fun k h => absurd h (Nat.not_lt_zero _), fun b hb => jj_uR_ne hb⟩
  | m + 1 => by
    obtain ⟨h1, h2⟩ := s_row_p (f := f) (m := m)
    refine ⟨fun k hk => ?_, fun b hb => ?_⟩
    · show jj_u (s_row J n m f) n m (f m) n k = f k
      by_cases e : k = m
      · subst e; exact jj_u_eq
      · rw [jj_u_nk e]; exact h1 k (by omega)
    · show jj_u (s_row J n m f) n m (f m) b = J b
      rw [jj_u_ne hb]; exact h2 b hb
theorem ms_f (hs : sy A H M B N n K P) (hm : ms A H M B N C J) (h : ∀ a, a < n → J2 a = J a) : ms A H M B N C J2 := ms_cg hs.1 hm (fun t ht => h _ (sy_lt hs ht).2) (fun _ _ => rfl)
theorem s_in_y {x y : Int32} (hm : ms A H M B N C I) : sm (s_in A x y I) B = sm (q_bl 0 x y C) B := sm_congr (fun b hb => by
  obtain ⟨q0, q1, q2, q3, q4, -⟩ := hm.2.2.2.2.2.2.1 b hb
  unfold s_in q_bl
  rw [q3, q4])
theorem su_e (hm : ms A H M B N C I) : sm (s_su A I) B = sm (q_bi 0 3 C) B := sm_congr (fun b hb => by
  obtain ⟨q0, q1, q2, q3, -⟩ := hm.2.2.2.2.2.2.1 b hb
  unfold s_su q_bi
  rw [q3])
/-- the world's own rows -/
def eqT (J I : jj_I) : Prop := ∀ a, a < 72 → J a = I a
theorem eqT_A (h : eqA J I) : eqT J I := fun a ha => h a (by omega)
theorem bl_e {x y : Int32} (hq : eqT J I) (hB : B ≤ 10) : sm (q_bl 0 x y J) B = sm (q_bl 0 x y I) B := sm_congr (fun k hk => by
  unfold q_bl
  rw [hq (aB 0 k) (by simp only [aB]; omega)])
theorem bo_e {x : Int32} (hq : eqT J I) (hB : B ≤ 10) : sm (q_bo 0 x J) B = sm (q_bo 0 x I) B := sm_congr (fun k hk => by
  unfold q_bo
  rw [hq (aB 0 k) (by simp only [aB]; omega)])
theorem ba_e {x : Int32} (hq : eqT J I) (hB : B ≤ 10) : sm (q_ba 0 x J) B = sm (q_ba 0 x I) B := sm_congr (fun k hk => by
  unfold q_ba
  rw [hq (aB 0 k) (by simp only [aB]; omega)])
theorem bi_e {x : Int32} (hq : eqT J I) (hB : B ≤ 10) : sm (q_bi 0 x J) B = sm (q_bi 0 x I) B := sm_congr (fun k hk => by
  unfold q_bi
  rw [hq (aB 0 k) (by simp only [aB]; omega)])
theorem co_e {x : Int32} (hq : eqT J I) (hB : B ≤ 10) : sm (q_co 0 x J) B = sm (q_co 0 x I) B := sm_congr (fun k hk => by
  unfold q_co
  rw [hq (aB 0 k) (by simp only [aB]; omega), hq (aBc 0 k) (by simp only [aBc]; omega)])
theorem do_e {x y : Int32} (hq : eqT J I) (hN : N ≤ 30) : sm (q_do 0 x y J) N = sm (q_do 0 x y I) N := sm_congr (fun k hk => by
  unfold q_do
  rw [hq (aD 0 k) (by simp only [aD]; omega)])
theorem ol1_e {l : Nat} (hq : eqT J I) : q_ol 0 J l = q_ol 0 I l := by
  unfold q_ol
  rw [hq (aIc 0) (by simp only [aIc]; omega)]
theorem hf_e {h w : Nat} (hq : eqT J I) (hB : B ≤ 10) : q_hf h H B J w = q_hf h H B I w := by
  unfold q_hf
  rw [hq (aBe 0) (by simp only [aBe]; omega), bl_e (x := nI h) (y := 1) hq hB, bl_e (x := nI h) (y := 0) hq hB, f_ia_cg (hq (aIc 0) (by simp only [aIc]; omega)), hq (aPr 0) (by simp only [aPr]; omega)]
theorem lf_e {l w : Nat} (hq : eqT J I) (hB : B ≤ 10) : q_lf l B J w = q_lf l B I w := by
  unfold q_lf
  rw [hq (aLd 0) (by simp only [aLd]; omega), hq (aIc 0) (by simp only [aIc]; omega), ol1_e hq, bo_e hq hB]
theorem mf_e {m w : Nat} (hq : eqT J I) (hB : B ≤ 10) (hN : N ≤ 30) (hm : m < 5) : q_mf m B N J w = q_mf m B N I w := by
  unfold q_mf
  rw [hq (aM 0 m) (by simp only [aM]; omega), ba_e hq hB, do_e (y := 0) hq hN, do_e (y := 2) hq hN, hq (aMt 0 m) (by simp only [aMt]; omega), co_e hq hB]
theorem bf_e {b w : Nat} (hq : eqT J I) (hb : b < 10) : q_bf b J w = q_bf b I w := by
  unfold q_bf
  rw [hq (aB 0 b) (by simp only [aB]; omega), hq (aBc 0 b) (by simp only [aBc]; omega)]
theorem cf_e {w : Nat} (hq : eqT J I) (hM : M ≤ 5) (hB : B ≤ 10) (hN : N ≤ 30) : q_cf H M B N J w = q_cf H M B N I w := by
  unfold q_cf
  rw [hq (aR 0) (by simp only [aR]; omega), hq (aW 0) (by simp only [aW]; omega), bi_e (x := 3) hq hB, bi_e (x := 2) hq hB, show sm (fun m => sm (q_do 0 (nI m) 0 J) N) M = sm (fun m => sm (q_do 0 (nI m) 0 I) N) M from sm_congr (fun m _ => do_e hq hN), show sm (fun m => J (aM 0 m) 0) M = sm (fun m => I (aM 0 m) 0) M from sm_congr (fun m hm => by rw [hq (aM 0 m) (by simp only [aM]; omega)]), show sm (q_ol 0 J) (H - 1) = sm (q_ol 0 I) (H - 1) from sm_congr (fun l _ => ol1_e hq)]
theorem sm_oz {m : Nat} (hz : oz H C) (hm : m < 5) (hH : H ≤ 8) : sm (C (aMt 0 m)) (4 * H) = sm (C (aMt 0 m)) 32 := by
  have h : ∀ k, 4 * H + k ≤ 32 → sm (C (aMt 0 m)) (4 * H + k) = sm (C (aMt 0 m)) (4 * H) := fun k => by
    induction k with
    | zero => exact fun _ => rfl
    | succ k ih => exact fun h => (sm_0 (hz m hm (4 * H + k) (by omega) (by omega))).trans (ih (by omega))
  have := h (32 - 4 * H) (by omega)
  rw [show 4 * H + (32 - 4 * H) = 32 by omega] at this
  exact this.symm
theorem sm_z {f : Nat → Int32} : ∀ {n : Nat}, (∀ k, k < n → f k = 0) → sm f n = 0
  | 0, _ => rfl
  | n + 1, h => (sm_0 (h n (by omega))).trans (sm_z (fun k hk => h k (by omega)))
theorem sm_pt {f : Nat → Int32} {q : Nat} : ∀ {n : Nat}, q < n → (∀ k, k < n → k ≠ q → f k = 0) → sm f n = f q
  | 0, hq, _ => absurd hq (Nat.not_lt_zero _)
  | n + 1, hq, h => by
    by_cases e : q = n
    · subst e
      show sm f q + f q = f q
      rw [sm_z (fun k hk => h k (by omega) (by omega)), Int32.zero_add]
    · exact (sm_0 (h n (by omega) (fun c => e c.symm))).trans (sm_pt (by omega) (fun k hk => h k (by omega)))
theorem sm_add {f g : Nat → Int32} : ∀ {n : Nat}, sm (fun k => f k + g k) n = sm f n + sm g n
  | 0 => rfl
  | n + 1 => by
    show sm (fun k => f k + g k) n + (f n + g n) = (sm f n + f n) + (sm g n + g n)
    rw [sm_add]
    ac_rfl
def s_op (C : jj_I) (d : Nat) : Int32 := if C (aD 0 d) 6 = 0 then 1 else 0
theorem op_1 {d q : Nat} (hq : q < M) (hM : M ≤ 5) (e : C (aD 0 d) 1 = nI q) : sm (fun m => q_do 0 (nI m) 0 C d) M = s_op C d := by
  rw [sm_pt (f := fun m => q_do 0 (nI m) 0 C d) (q := q) hq (fun k hk hne => if_neg (fun p => hne (by have := p.1; rw [e] at this; have h2 := congrArg nv this; rw [nv_nI (by omega), nv_nI (by omega)] at h2; exact h2.symm)))]
  unfold q_do s_op
  by_cases h : C (aD 0 d) 6 = 0
  · rw [if_pos ⟨e, h⟩, if_pos h]
  · rw [if_neg (fun p => h p.2), if_neg h]
theorem op_eq (hM : M ≤ 5) : ∀ {N : Nat}, (∀ d, d < N → ∃ q, q < M ∧ C (aD 0 d) 1 = nI q) → sm (fun m => sm (q_do 0 (nI m) 0 C) N) M = sm (s_op C) N
  | 0, _ => sm_z (fun _ _ => rfl)
  | N + 1, h => by
    obtain ⟨q, hq, e⟩ := h N (by omega)
    show sm (fun m => sm (q_do 0 (nI m) 0 C) N + q_do 0 (nI m) 0 C N) M = sm (s_op C) N + s_op C N
    rw [sm_add (f := fun m => sm (q_do 0 (nI m) 0 C) N) (g := fun m => q_do 0 (nI m) 0 C N), op_eq hM (fun d hd => h d (by omega)), op_1 hq hM e]
def s_hl (C : jj_I) (b : Nat) : Int32 := C (aB 0 b) 1
def s_cf (H M B N : Nat) (I : jj_I) (w : Nat) : Int32 := if w = 0 then I (aR 0) 0 else if w = 1 then nI H else if w = 2 then nI M else if w = 3 then nI B else if w = 4 then sm (q_bi 0 3 I) B else if w = 5 then sm (q_bi 0 2 I) B else if w = 6 then nI N else if w = 7 then sm (s_op I) N else if w = 8 then sm (fun m => I (aM 0 m) 0) M else sm (q_ol 0 I) (H - 1)
theorem s_cf_e {w : Nat} (h : tn_c t H M B N I) : q_cf H M B N I w = s_cf H M B N I w := by
  unfold q_cf s_cf
  rw [h.1.1.1, h.1.2.1.1, h.1.2.2.1.1, h.1.2.2.2.1.1, op_eq h.1.2.1.2 (fun d hd => (h.2.1.2.2 d hd).2)]
theorem i_x1 {x : Int32} {l : Nat} (h : x + 1 = nI (l + 1)) : x = nI l := by
  have e : nI (l + 1) = nI l + 1 := (jj_inc l).symm
  rw [e] at h
  have := congrArg (fun y => y - 1) h
  simp only [Int32.add_sub_cancel] at this
  exact this
theorem i_st3 {x : Int32} (h : x = 0 ∨ x = 1 ∨ x = 2 ∨ x = 3) (c : 3 ≤ x) : x = 3 := by
  rcases h with e | e | e | e
  · subst e; exact absurd c (by decide)
  · subst e; exact absurd c (by decide)
  · subst e; exact absurd c (by decide)
  · exact e
theorem i_cmp {s c : Nat} (hs : s < 201) (hc : c < 11) (h0 : c ≠ 0) : Op.cmpValue (FP.dcmp (FP.ddiv (FP.i2d (nI s)) (FP.i2d (nI c))) (FP.ddiv (FP.i2d (nI s)) (FP.i2d (nI c)))) .l = 0 :=
  (by decide +kernel : ∀ s, s < 201 → ∀ c, c < 11 → c ≠ 0 → Op.cmpValue (FP.dcmp (FP.ddiv (FP.i2d (nI s)) (FP.i2d (nI c))) (FP.ddiv (FP.i2d (nI s)) (FP.i2d (nI c)))) .l = 0) s hs c hc h0
theorem i_cmp0 : Op.cmpValue (FP.dcmp FP.dconst0 FP.dconst0) .l = 0 := by decide +kernel
end FA
