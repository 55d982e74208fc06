/-! small methods of the class: what they answer, and their walks -/
def f_ib (ice warm : Int32) : Int32 := let nx := if warm < 0 then ice - warm else ice - 2 * warm; let b := if nx < 60 then nx else 60; if 0 < b then b else 0
def f_do (w l : Nat) (dn : Int32) (I : jj_I) : Int32 := if dn = 0 then 2 * I (aLd w) l else I (aLd w) l
def f_ia (w h : Nat) (H : Nat) (I : jj_I) : Int32 := if H ≤ 1 then 0 else I (aIc w) (if h < H - 2 then h else H - 2)
def f_fr (w : Nat) (H d : Nat) (I : jj_I) : jj_I := it (fun l J => jj_u J (aIc w) l (f_ib (J (aIc w) l) (I (aWm w) (d % 40)))) I (H - 1)
def f_ol (w H : Nat) (I : jj_I) : Int32 := sm (fun l => if I (aIc w) l ≤ 10 then 1 else 0) (H - 1)
def sx (x0 : Int32) (f : Nat → Int32) : Nat → Int32
  | 0 => x0
  | k + 1 => sx x0 f k + f k
def f_wd (w a b : Nat) (I : jj_I) : Int32 := sx (sx 0 (fun j => I (aLd w) (a + j)) (b - a)) (fun j => 2 * I (aLd w) (b + j)) (a - b)
theorem jl_min (a b : Nat) (ha : a < 2 ^ 31) (hb : b < 2 ^ 31) : (if nI b < nI a then nI b else nI a) = nI (if b < a then b else a) := by
  by_cases h : b < a
  · rw [if_pos h, if_pos (nI_lt h (by omega))]
  · rw [if_neg h, if_neg (nI_nlt (by omega) (by omega))]
theorem jl_legs (H : Nat) (h : H < 1000) : (if 0 < nI H - 1 then nI H - 1 else 0) = nI (H - 1) := by
  cases H with
  | zero => decide
  | succ m =>
    rw [nI_pred]
    show _ = nI m
    by_cases h0 : 0 < nI m
    · rw [if_pos h0]
    · rw [if_neg h0]
      cases m with
      | zero => rfl
      | succ m => exact absurd (by rw [← nI_0]; exact nI_lt (by omega) (by omega)) h0
theorem jl_xge {a b : Nat} (ha : a < 2147483648) (hb : b < 2147483648) : 0 ≤ nI a ^^^ nI b := by
  have e : nI a ^^^ nI b = nI (a ^^^ b) := by
    apply Int32.toBitVec_inj.mp
    show (nI a).toBitVec ^^^ (nI b).toBitVec = _
    show BitVec.ofNat 32 a ^^^ BitVec.ofNat 32 b = BitVec.ofNat 32 (a ^^^ b)
    rw [BitVec.ofNat_xor]
  rw [e]
  exact nI_pos' (Nat.xor_lt_two_pow (n := 31) (by omega) (by omega))
set_option maxHeartbeats 4000000 in
set_option maxRecDepth 100000 in
theorem c_fmod {l : Launch} (hfl : l.stackTraces = false) {D : jj_D} {n : Nat} {K : jj_K} {I : jj_I} {P : jj_P} {G : jj_G} {d m : Nat} (hd : d < 2147483648) (hm : 0 < m ∧ m < 2147483648) :
    jj_Met l D yJ9_floorMod_7cf53 (jj_ws yJ9_floorMod_7cf53 cJ9_floorMod_7cf53 3 (some .int)) { frames := 0, cells := 0, slots := 0, locals := 0 } [.int (nI d), .int (nI m)] n K I P G (jj_R (some (.int (nI (d % m)))) (n) (K) (I) (P) (G)) jj_noX := by
  refine jj_of hfl (by decide +kernel) [some (.int (nI d)), some (.int (nI m)), none] rfl rfl ?_
  intro X hXl hX hSt
  refine jr_iload_n hX dJ9_floorMod_7cf53_0 rfl ?_
  refine jr_iload_n hX dJ9_floorMod_7cf53_1 rfl ?_
  refine jr_irem hX dJ9_floorMod_7cf53_2 (nI_ne0 hm.1 (by omega)) ?_
  rw [pk_rem hd hm.1 (by omega)]
  refine jr_istore_n hX dJ9_floorMod_7cf53_3 rfl ?_
  refine jr_iload_n hX dJ9_floorMod_7cf53_4 rfl ?_
  refine jr_iload_n hX dJ9_floorMod_7cf53_5 rfl ?_
  refine jr_ixor hX dJ9_floorMod_7cf53_6 ?_
  refine jr_if_ge (tgt := 18) hX dJ9_floorMod_7cf53_7 (by decide) (fun c_7 => ?_) (fun c_7 => absurd (jl_xge hd hm.2) c_7)
  refine jr_iload_n hX dJ9_floorMod_7cf53_18 rfl ?_
  exact jr_iret hX dJ9_floorMod_7cf53_19 rfl rfl ⟨rfl, rfl, rfl, rfl, rfl, rfl⟩
set_option maxHeartbeats 4000000 in
set_option maxRecDepth 100000 in
theorem c_fill {l : Launch} (hfl : l.stackTraces = false) {D : jj_D} {n : Nat} {K : jj_K} {I : jj_I} {P : jj_P} {G : jj_G} {a len : Nat} {v : Int32} (hk : K a = some (10, len)) (h0 : 0 < a) (hlen : len < 1000000) :
    jj_Met l D yJ7_fill_53178 (jj_ws yJ7_fill_53178 cJ7_fill_53178 4 none) { frames := 0, cells := 0, slots := 0, locals := 0 } [.ref a, .int v] n K I P G (jj_R (none) (n) (K) (it (fun k J => jj_u J a k v) I len) (P) (G)) jj_noX := by
  refine jj_of hfl (by decide +kernel) [some (.ref a), some (.int v), none, none] rfl rfl ?_
  intro X hXl hX hSt
  refine jr_iconst (v := 0) hX dJ7_fill_53178_0 (by decide) ?_
  refine jr_istore_n hX dJ7_fill_53178_1 rfl ?_
  refine jr_aload_n hX dJ7_fill_53178_2 rfl ?_
  refine jr_alen (t := 10) hX (by decide) (by first | with_reducible assumption | with_reducible exact ly_kWm hly (by first | assumption | omega) | with_reducible exact ly_kLd hly (by first | assumption | omega) | with_reducible exact ly_kIc hly (by first | assumption | omega) | with_reducible exact ly_kBe hly (by first | assumption | omega) | with_reducible exact ly_kPr hly (by first | assumption | omega) | with_reducible exact ly_kMt hly (by first | assumption | omega) (by first | assumption | omega) | with_reducible exact ly_kBc hly (by first | assumption | omega) (by first | assumption | omega) | with_reducible exact ly_k151 hly | with_reducible exact ly_k152 hly | with_reducible exact ly_k153 hly | with_reducible exact ly_k154 hly | with_reducible exact ly_k155 hly | with_reducible exact ly_k156 hly | with_reducible exact ly_k157 hly | with_reducible exact ly_k158 hly | with_reducible exact ly_k159 hly | with_reducible exact ly_k160 hly | with_reducible exact ly_kAh hly (by first | assumption | omega)) dJ7_fill_53178_3 ?_
  refine jr_istore_n hX dJ7_fill_53178_4 rfl ?_
  have hloop : ∀ k, k ≤ len → jj_J X D 4 0 0 (jj_MQ X D { frames := 0, cells := 0, slots := 0, locals := 0 } (jj_R (none) (n) (K) (it (fun k J => jj_u J a k v) I len) (P) (G)) jj_noX) (n) (K) (it (fun k J => jj_u J a k v) I k) (P) (G) 5 [some (.ref a), some (.int v), some (.int (nI k)), some (.int (nI len))] [] := by
    refine jj_for (len) _ ?_ (fun k hk ih => ?_)
    · refine jr_iload_n hX dJ7_fill_53178_5 rfl ?_
      refine jr_iload_n hX dJ7_fill_53178_6 rfl ?_
      refine jr_icmp_ge (tgt := 20) hX dJ7_fill_53178_7 (by decide) (fun c_7 => ?_) (fun c_7 => absurd (nI_le (Nat.le_refl _) (by omega)) c_7)
      exact jr_vret hX dJ7_fill_53178_20 rfl rfl ⟨rfl, rfl, rfl, rfl, rfl, rfl⟩
    · refine jr_iload_n hX dJ7_fill_53178_5 rfl ?_
      refine jr_iload_n hX dJ7_fill_53178_6 rfl ?_
      refine jr_icmp_ge (tgt := 20) hX dJ7_fill_53178_7 (by decide) (fun c_7 => absurd c_7 (nI_ge (by assumption) (by omega))) (fun c_7 => ?_)
      refine jr_aload_n hX dJ7_fill_53178_10 rfl ?_
      refine jr_iload_n hX dJ7_fill_53178_11 rfl ?_
      refine jr_iload_n hX dJ7_fill_53178_12 rfl ?_
      refine jr_iast hX (by first | with_reducible assumption | with_reducible exact ly_kWm hly (by first | assumption | omega) | with_reducible exact ly_kLd hly (by first | assumption | omega) | with_reducible exact ly_kIc hly (by first | assumption | omega) | with_reducible exact ly_kBe hly (by first | assumption | omega) | with_reducible exact ly_kPr hly (by first | assumption | omega) | with_reducible exact ly_kMt hly (by first | assumption | omega) (by first | assumption | omega) | with_reducible exact ly_kBc hly (by first | assumption | omega) (by first | assumption | omega) | with_reducible exact ly_k151 hly | with_reducible exact ly_k152 hly | with_reducible exact ly_k153 hly | with_reducible exact ly_k154 hly | with_reducible exact ly_k155 hly | with_reducible exact ly_k156 hly | with_reducible exact ly_k157 hly | with_reducible exact ly_k158 hly | with_reducible exact ly_k159 hly | with_reducible exact ly_k160 hly | with_reducible exact ly_kAh hly (by first | assumption | omega)) (by first | assumption | with_reducible exact aMt_0 | with_reducible exact aBc_0 | with_reducible exact aWm_0 | with_reducible exact aLd_0 | with_reducible exact aIc_0 | with_reducible exact aBe_0 | with_reducible exact aPr_0 | with_reducible exact aAh_0 | decide | omega) (by first | with_reducible rfl | with_reducible assumption | rfl) (by omega) dJ7_fill_53178_13 ?_
      refine jr_iinc hX dJ7_fill_53178_14 rfl (by first | with_reducible exact jj_inc _ | with_reducible exact jj_inc1 _) rfl ?_
      refine jr_goto (tgt := 5) hX dJ7_fill_53178_17 (by decide) ?_
      exact ih
  exact hloop 0 (Nat.zero_le _)
set_option maxHeartbeats 4000000 in
set_option maxRecDepth 100000 in
theorem c_X5_sum {l : Launch} (hfl : l.stackTraces = false) {D : jj_D} {n : Nat} {K : jj_K} {I : jj_I} {P : jj_P} {G : jj_G} {a len : Nat} (hk : K a = some (10, len)) (hlen : len < 1000000) :
    jj_Met l D yX5_sum (jj_ws yX5_sum cX5_sum 3 (some .int)) { frames := 0, cells := 0, slots := 0, locals := 0 } [.ref a] n K I P G (jj_R (some (.int (sm (I a) len))) (n) (K) (I) (P) (G)) jj_noX := by
  refine jj_of hfl (by decide +kernel) [some (.ref a), none, none] rfl rfl ?_
  intro X hXl hX hSt
  refine jr_iconst (v := 0) hX dX5_sum_0 (by decide) ?_
  refine jr_istore_n hX dX5_sum_1 rfl ?_
  refine jr_iconst (v := 0) hX dX5_sum_2 (by decide) ?_
  refine jr_istore_n hX dX5_sum_3 rfl ?_
  have hloop : ∀ k, k ≤ len → jj_J X D 3 0 0 (jj_MQ X D { frames := 0, cells := 0, slots := 0, locals := 0 } (jj_R (some (.int (sm (I a) len))) (n) (K) (I) (P) (G)) jj_noX) (n) (K) (I) (P) (G) 4 [some (.ref a), some (.int (sm (I a) k)), some (.int (nI k))] [] := by
    refine jj_for (len) _ ?_ (fun k hk ih => ?_)
    · refine jr_iload_n hX dX5_sum_4 rfl ?_
      refine jr_aload_n hX dX5_sum_5 rfl ?_
      refine jr_alen (t := 10) hX (by decide) (by first | with_reducible assumption | with_reducible exact ly_kWm hly (by first | assumption | omega) | with_reducible exact ly_kLd hly (by first | assumption | omega) | with_reducible exact ly_kIc hly (by first | assumption | omega) | with_reducible exact ly_kBe hly (by first | assumption | omega) | with_reducible exact ly_kPr hly (by first | assumption | omega) | with_reducible exact ly_kMt hly (by first | assumption | omega) (by first | assumption | omega) | with_reducible exact ly_kBc hly (by first | assumption | omega) (by first | assumption | omega) | with_reducible exact ly_k151 hly | with_reducible exact ly_k152 hly | with_reducible exact ly_k153 hly | with_reducible exact ly_k154 hly | with_reducible exact ly_k155 hly | with_reducible exact ly_k156 hly | with_reducible exact ly_k157 hly | with_reducible exact ly_k158 hly | with_reducible exact ly_k159 hly | with_reducible exact ly_k160 hly | with_reducible exact ly_kAh hly (by first | assumption | omega)) dX5_sum_6 ?_
      refine jr_icmp_ge (tgt := 22) hX dX5_sum_7 (by decide) (fun c_7 => ?_) (fun c_7 => absurd (nI_le (Nat.le_refl _) (by omega)) c_7)
      refine jr_iload_n hX dX5_sum_22 rfl ?_
      exact jr_iret hX dX5_sum_23 rfl rfl ⟨rfl, rfl, rfl, rfl, rfl, rfl⟩
    · refine jr_iload_n hX dX5_sum_4 rfl ?_
      refine jr_aload_n hX dX5_sum_5 rfl ?_
      refine jr_alen (t := 10) hX (by decide) (by first | with_reducible assumption | with_reducible exact ly_kWm hly (by first | assumption | omega) | with_reducible exact ly_kLd hly (by first | assumption | omega) | with_reducible exact ly_kIc hly (by first | assumption | omega) | with_reducible exact ly_kBe hly (by first | assumption | omega) | with_reducible exact ly_kPr hly (by first | assumption | omega) | with_reducible exact ly_kMt hly (by first | assumption | omega) (by first | assumption | omega) | with_reducible exact ly_kBc hly (by first | assumption | omega) (by first | assumption | omega) | with_reducible exact ly_k151 hly | with_reducible exact ly_k152 hly | with_reducible exact ly_k153 hly | with_reducible exact ly_k154 hly | with_reducible exact ly_k155 hly | with_reducible exact ly_k156 hly | with_reducible exact ly_k157 hly | with_reducible exact ly_k158 hly | with_reducible exact ly_k159 hly | with_reducible exact ly_k160 hly | with_reducible exact ly_kAh hly (by first | assumption | omega)) dX5_sum_6 ?_
      refine jr_icmp_ge (tgt := 22) hX dX5_sum_7 (by decide) (fun c_7 => absurd c_7 (nI_ge (by assumption) (by omega))) (fun c_7 => ?_)
      refine jr_iload_n hX dX5_sum_10 rfl ?_
      refine jr_aload_n hX dX5_sum_11 rfl ?_
      refine jr_iload_n hX dX5_sum_12 rfl ?_
      refine jr_iald hX (by first | with_reducible assumption | with_reducible exact ly_kWm hly (by first | assumption | omega) | with_reducible exact ly_kLd hly (by first | assumption | omega) | with_reducible exact ly_kIc hly (by first | assumption | omega) | with_reducible exact ly_kBe hly (by first | assumption | omega) | with_reducible exact ly_kPr hly (by first | assumption | omega) | with_reducible exact ly_kMt hly (by first | assumption | omega) (by first | assumption | omega) | with_reducible exact ly_kBc hly (by first | assumption | omega) (by first | assumption | omega) | with_reducible exact ly_k151 hly | with_reducible exact ly_k152 hly | with_reducible exact ly_k153 hly | with_reducible exact ly_k154 hly | with_reducible exact ly_k155 hly | with_reducible exact ly_k156 hly | with_reducible exact ly_k157 hly | with_reducible exact ly_k158 hly | with_reducible exact ly_k159 hly | with_reducible exact ly_k160 hly | with_reducible exact ly_kAh hly (by first | assumption | omega)) (by first | with_reducible rfl | with_reducible assumption | rfl) (by omega) dX5_sum_13 ?_
      refine jr_iadd hX dX5_sum_14 ?_
      refine jr_istore_n hX dX5_sum_15 rfl ?_
      refine jr_iinc hX dX5_sum_16 rfl (by first | with_reducible exact jj_inc _ | with_reducible exact jj_inc1 _) rfl ?_
      refine jr_goto (tgt := 4) hX dX5_sum_19 (by decide) ?_
      exact ih
  exact hloop 0 (Nat.zero_le _)
set_option maxHeartbeats 4000000 in
set_option maxRecDepth 100000 in
theorem c_X5_cellOf {l : Launch} (hfl : l.stackTraces = false) {D : jj_D} {n : Nat} {K : jj_K} {I : jj_I} {P : jj_P} {G : jj_G} {h g : Nat} :
    jj_Met l D yX5_cellOf (jj_ws yX5_cellOf cX5_cellOf 2 (some .int)) { frames := 0, cells := 0, slots := 0, locals := 0 } [.int (nI h), .int (nI g)] n K I P G (jj_R (some (.int (nI (h * 4 + g)))) (n) (K) (I) (P) (G)) jj_noX := by
  refine jj_of hfl (by decide +kernel) [some (.int (nI h)), some (.int (nI g))] rfl rfl ?_
  intro X hXl hX hSt
  refine jr_iload_n hX dX5_cellOf_0 rfl ?_
  refine jr_iconst (v := 4) hX dX5_cellOf_1 (by decide) ?_
  refine jr_imul hX dX5_cellOf_2 ?_
  refine jr_iload_n hX dX5_cellOf_3 rfl ?_
  refine jr_iadd hX dX5_cellOf_4 ?_
  exact jr_iret hX dX5_cellOf_5 rfl rfl ⟨jj_ri (by rw [show (4 : Int32) = nI 4 from rfl, pk_mul, nI_add]), rfl, rfl, rfl, rfl, rfl⟩
set_option maxHeartbeats 4000000 in
set_option maxRecDepth 100000 in
theorem c_X5_iceBehind {l : Launch} (hfl : l.stackTraces = false) {D : jj_D} {n : Nat} {K : jj_K} {I : jj_I} {P : jj_P} {G : jj_G} {ice warm : Int32} :
    jj_Met l D yX5_iceBehind (jj_ws yX5_iceBehind cX5_iceBehind 3 (some .int)) { frames := 1, cells := 0, slots := 0, locals := 21 } [.int ice, .int warm] n K I P G (jj_R (some (.int (f_ib ice warm))) (n) (K) (I) (P) (G)) jj_noX := by
  refine jj_of hfl (by decide +kernel) [some (.int ice), some (.int warm), none] rfl rfl ?_
  intro X hXl hX hSt
  refine jr_iload_n hX dX5_iceBehind_0 rfl ?_
  refine jr_if_ge (tgt := 10) hX dX5_iceBehind_1 (by decide) (fun c_1 => ?_) (fun c_1 => ?_)
  · refine jr_iload_n hX dX5_iceBehind_10 rfl ?_
    refine jr_iconst (v := 2) hX dX5_iceBehind_11 (by decide) ?_
    refine jr_iload_n hX dX5_iceBehind_12 rfl ?_
    refine jr_imul hX dX5_iceBehind_13 ?_
    refine jr_isub hX dX5_iceBehind_14 ?_
    refine jr_istore_n hX dX5_iceBehind_15 rfl ?_
    refine jr_iconst (v := 0) hX dX5_iceBehind_16 (by decide) ?_
    refine jr_bipush (v := 60) hX dX5_iceBehind_17 (by decide) ?_
    refine jr_iload_n hX dX5_iceBehind_19 rfl ?_
    refine jr_mmin hX kM_X5_171 dX5_iceBehind_20 rfl ⟨jj_b1 rfl, jj_b1 rfl⟩ ?_
    refine jr_mmax hX kM_X5_355 dX5_iceBehind_23 rfl ⟨jj_b1 rfl, jj_b1 rfl⟩ ?_
    exact jr_iret hX dX5_iceBehind_26 rfl rfl ⟨jj_ri (by simp only [f_ib, if_neg (Int32.not_lt.mpr c_1)]), rfl, rfl, rfl, rfl, rfl⟩
  · refine jr_iload_n hX dX5_iceBehind_4 rfl ?_
    refine jr_iload_n hX dX5_iceBehind_5 rfl ?_
    refine jr_isub hX dX5_iceBehind_6 ?_
    refine jr_goto (tgt := 15) hX dX5_iceBehind_7 (by decide) ?_
    refine jr_istore_n hX dX5_iceBehind_15 rfl ?_
    refine jr_iconst (v := 0) hX dX5_iceBehind_16 (by decide) ?_
    refine jr_bipush (v := 60) hX dX5_iceBehind_17 (by decide) ?_
    refine jr_iload_n hX dX5_iceBehind_19 rfl ?_
    refine jr_mmin hX kM_X5_171 dX5_iceBehind_20 rfl ⟨jj_b1 rfl, jj_b1 rfl⟩ ?_
    refine jr_mmax hX kM_X5_355 dX5_iceBehind_23 rfl ⟨jj_b1 rfl, jj_b1 rfl⟩ ?_
    exact jr_iret hX dX5_iceBehind_26 rfl rfl ⟨jj_ri (by simp only [f_ib, if_pos (Int32.not_le.mp c_1)]), rfl, rfl, rfl, rfl, rfl⟩
