/-! small methods of the class: what they answer, and their walks -/
def f_ib (ice warm : Int32) : Int32 := let nx := if warm < 0 then ice - warm else ice - 2 * warm; let b := if nx < 60 then nx else 60; if 0 < b then b else 0
def f_do (w l : Nat) (dn : Int32) (I : jj_I) : Int32 := if dn = 0 then 2 * I (aLd w) l else I (aLd w) l
def f_ia (w h : Nat) (H : Nat) (I : jj_I) : Int32 := if H ≤ 1 then 0 else I (aIc w) (if h < H - 2 then h else H - 2)
def f_fr (w : Nat) (H d : Nat) (I : jj_I) : jj_I := it (fun l J => jj_u J (aIc w) l (f_ib (J (aIc w) l) (I (aWm w) (d % 40)))) I (H - 1)
def f_ol (w H : Nat) (I : jj_I) : Int32 := sm (fun l => if I (aIc w) l ≤ 10 then 1 else 0) (H - 1)
def sx (x0 : Int32) (f : Nat → Int32) : Nat → Int32
  | 0 => x0
  | k + 1 => sx x0 f k + f k
def f_wd (w a b : Nat) (I : jj_I) : Int32 := sx (sx 0 (fun j => I (aLd w) (a + j)) (b - a)) (fun j => 2 * I (aLd w) (b + j)) (a - b)
theorem jl_min (a b : Nat) (ha : a < 2 ^ 31) (hb : b < 2 ^ 31) : (if nI b < nI a then nI b else nI a) = nI (if b < a then b else a) := by
  by_cases h : b < a
  · rw [if_pos h, if_pos (nI_lt h (by omega))]
  · rw [if_neg h, if_neg (nI_nlt (by omega) (by omega))]
theorem jl_legs (H : Nat) (h : H < 1000) : (if 0 < nI H - 1 then nI H - 1 else 0) = nI (H - 1) := by
  cases H with
  | zero => decide
  | succ m =>
    rw [nI_pred]
    show _ = nI m
    by_cases h0 : 0 < nI m
    · rw [if_pos h0]
    · rw [if_neg h0]
      cases m with
      | zero => rfl
      | succ m => exact absurd (by rw [← nI_0]; exact nI_lt (by omega) (by omega)) h0
theorem jl_xge {a b : Nat} (ha : a < 2147483648) (hb : b < 2147483648) : 0 ≤ nI a ^^^ nI b := by
  have e : nI a ^^^ nI b = nI (a ^^^ b) := by
    apply Int32.toBitVec_inj.mp
    show (nI a).toBitVec ^^^ (nI b).toBitVec = _
    show BitVec.ofNat 32 a ^^^ BitVec.ofNat 32 b = BitVec.ofNat 32 (a ^^^ b)
    rw [BitVec.ofNat_xor]
  rw [e]
  exact nI_pos' (Nat.xor_lt_two_pow (n := 31) (by omega) (by omega))
set_option maxHeartbeats 4000000 in
set_option maxRecDepth 100000 in
theorem c_fmod {l : Launch} (hfl : l.stackTraces = false) {D : jj_D} {n : Nat} {K : jj_K} {I : jj_I} {P : jj_P} {G : jj_G} {d m : Nat} (hd : d < 2147483648) (hm : 0 < m ∧ m < 2147483648) :
    jj_Met l D yJ9_floorMod_7cf53 (jj_ws yJ9_floorMod_7cf53 cJ9_floorMod_7cf53 3 (some .int)) { frames := 0, cells := 0, slots := 0, locals := 0 } [.int (nI d), .int (nI m)] n K I P G (jj_R (some (.int (nI (d % m)))) (n) (K) (I) (P) (G)) jj_noX := by
  refine jj_of hfl (by decide +kernel) [some (.int (nI d)), some (.int (nI m)), none] rfl rfl ?_
  intro X hXl hX hSt
  refine jr_iload_n hX dJ9_floorMod_7cf53_0 rfl ?_
  refine jr_iload_n hX dJ9_floorMod_7cf53_1 rfl ?_
  refine jr_irem hX dJ9_floorMod_7cf53_2 (nI_ne0 hm.1 (by omega)) ?_
  rw [pk_rem hd hm.1 (by omega)]
  refine jr_istore_n hX dJ9_floorMod_7cf53_3 rfl ?_
  refine jr_iload_n hX dJ9_floorMod_7cf53_4 rfl ?_
  refine jr_iload_n hX dJ9_floorMod_7cf53_5 rfl ?_
  refine jr_ixor hX dJ9_floorMod_7cf53_6 ?_
  refine jr_if_ge (tgt := 18) hX dJ9_floorMod_7cf53_7 (by decide) (fun c_7 => ?_) (fun c_7 => absurd (jl_xge hd hm.2) c_7)
  refine jr_iload_n hX dJ9_floorMod_7cf53_18 rfl ?_
  exact jr_iret hX dJ9_floorMod_7cf53_19 rfl rfl ⟨rfl, rfl, rfl, rfl, rfl, rfl⟩
set_option maxHeartbeats 4000000 in
set_option maxRecDepth 100000 in
theorem c_fill {l : Launch} (hfl : l.stackTraces = false) {D : jj_D} {n : Nat} {K : jj_K} {I : jj_I} {P : jj_P} {G : jj_G} {a len : Nat} {v : Int32} (hk : K a = some (10, len)) (h0 : 0 < a) (hlen : len < 1000000) :
    jj_Met l D yJ7_fill_53178 (jj_ws yJ7_fill_53178 cJ7_fill_53178 4 none) { frames := 0, cells := 0, slots := 0, locals := 0 } [.ref a, .int v] n K I P G (jj_R (none) (n) (K) (it (fun k J => jj_u J a k v) I len) (P) (G)) jj_noX := by
  refine jj_of hfl (by decide +kernel) [some (.ref a), some (.int v), none, none] rfl rfl ?_
  intro X hXl hX hSt
  refine jr_iconst (v := 0) hX dJ7_fill_53178_0 (by decide) ?_
  refine jr_istore_n hX dJ7_fill_53178_1 rfl ?_
  refine jr_aload_n hX dJ7_fill_53178_2 rfl ?_
  refine jr_alen (t := 10) hX (by decide) (by first | with_reducible assumption | with_reducible exact ly_kWm hly (by first | assumption | omega) | with_reducible exact ly_kLd hly (by first | assumption | omega) | with_reducible exact ly_kIc hly (by first | assumption | omega) | with_reducible exact ly_kBe hly (by first | assumption | omega) | with_reducible exact ly_kPr hly (by first | assumption | omega) | with_reducible exact ly_kMt hly (by first | assumption | omega) (by first | assumption | omega) | with_reducible exact ly_kBc hly (by first | assumption | omega) (by first | assumption | omega) | with_reducible exact ly_kAh hly (by first | assumption | omega)) dJ7_fill_53178_3 ?_
  refine jr_istore_n hX dJ7_fill_53178_4 rfl ?_
  have hloop : ∀ k, k ≤ len → jj_J X D 4 0 0 (jj_MQ X D { frames := 0, cells := 0, slots := 0, locals := 0 } (jj_R (none) (n) (K) (it (fun k J => jj_u J a k v) I len) (P) (G)) jj_noX) (n) (K) (it (fun k J => jj_u J a k v) I k) (P) (G) 5 [some (.ref a), some (.int v), some (.int (nI k)), some (.int (nI len))] [] := by
    refine jj_for (len) _ ?_ (fun k hk ih => ?_)
    · refine jr_iload_n hX dJ7_fill_53178_5 rfl ?_
      refine jr_iload_n hX dJ7_fill_53178_6 rfl ?_
      refine jr_icmp_ge (tgt := 20) hX dJ7_fill_53178_7 (by decide) (fun c_7 => ?_) (fun c_7 => absurd (nI_le (Nat.le_refl _) (by omega)) c_7)
      exact jr_vret hX dJ7_fill_53178_20 rfl rfl ⟨rfl, rfl, rfl, rfl, rfl, rfl⟩
    · refine jr_iload_n hX dJ7_fill_53178_5 rfl ?_
      refine jr_iload_n hX dJ7_fill_53178_6 rfl ?_
      refine jr_icmp_ge (tgt := 20) hX dJ7_fill_53178_7 (by decide) (fun c_7 => absurd c_7 (nI_ge (by assumption) (by omega))) (fun c_7 => ?_)
      refine jr_aload_n hX dJ7_fill_53178_10 rfl ?_
      refine jr_iload_n hX dJ7_fill_53178_11 rfl ?_
      refine jr_iload_n hX dJ7_fill_53178_12 rfl ?_
      refine jr_iast hX (by first | with_reducible assumption | with_reducible exact ly_kWm hly (by first | assumption | omega) | with_reducible exact ly_kLd hly (by first | assumption | omega) | with_reducible exact ly_kIc hly (by first | assumption | omega) | with_reducible exact ly_kBe hly (by first | assumption | omega) | with_reducible exact ly_kPr hly (by first | assumption | omega) | with_reducible exact ly_kMt hly (by first | assumption | omega) (by first | assumption | omega) | with_reducible exact ly_kBc hly (by first | assumption | omega) (by first | assumption | omega) | with_reducible exact ly_kAh hly (by first | assumption | omega)) (by first | assumption | with_reducible exact aMt_0 | with_reducible exact aBc_0 | with_reducible exact aWm_0 | with_reducible exact aLd_0 | with_reducible exact aIc_0 | with_reducible exact aBe_0 | with_reducible exact aPr_0 | with_reducible exact aAh_0 | decide | omega) (by first | with_reducible rfl | with_reducible assumption | rfl) (by omega) dJ7_fill_53178_13 ?_
      refine jr_iinc hX dJ7_fill_53178_14 rfl (by first | with_reducible exact jj_inc _ | with_reducible exact jj_inc1 _) rfl ?_
      refine jr_goto (tgt := 5) hX dJ7_fill_53178_17 (by decide) ?_
      exact ih
  exact hloop 0 (Nat.zero_le _)
set_option maxHeartbeats 4000000 in
set_option maxRecDepth 100000 in
theorem c_X5_sum {l : Launch} (hfl : l.stackTraces = false) {D : jj_D} {n : Nat} {K : jj_K} {I : jj_I} {P : jj_P} {G : jj_G} {a len : Nat} (hk : K a = some (10, len)) (hlen : len < 1000000) :
    jj_Met l D yX5_sum (jj_ws yX5_sum cX5_sum 3 (some .int)) { frames := 0, cells := 0, slots := 0, locals := 0 } [.ref a] n K I P G (jj_R (some (.int (sm (I a) len))) (n) (K) (I) (P) (G)) jj_noX := by
  refine jj_of hfl (by decide +kernel) [some (.ref a), none, none] rfl rfl ?_
  intro X hXl hX hSt
  refine jr_iconst (v := 0) hX dX5_sum_0 (by decide) ?_
  refine jr_istore_n hX dX5_sum_1 rfl ?_
  refine jr_iconst (v := 0) hX dX5_sum_2 (by decide) ?_
  refine jr_istore_n hX dX5_sum_3 rfl ?_
  have hloop : ∀ k, k ≤ len → jj_J X D 3 0 0 (jj_MQ X D { frames := 0, cells := 0, slots := 0, locals := 0 } (jj_R (some (.int (sm (I a) len))) (n) (K) (I) (P) (G)) jj_noX) (n) (K) (I) (P) (G) 4 [some (.ref a), some (.int (sm (I a) k)), some (.int (nI k))] [] := by
    refine jj_for (len) _ ?_ (fun k hk ih => ?_)
    · refine jr_iload_n hX dX5_sum_4 rfl ?_
      refine jr_aload_n hX dX5_sum_5 rfl ?_
      refine jr_alen (t := 10) hX (by decide) (by first | with_reducible assumption | with_reducible exact ly_kWm hly (by first | assumption | omega) | with_reducible exact ly_kLd hly (by first | assumption | omega) | with_reducible exact ly_kIc hly (by first | assumption | omega) | with_reducible exact ly_kBe hly (by first | assumption | omega) | with_reducible exact ly_kPr hly (by first | assumption | omega) | with_reducible exact ly_kMt hly (by first | assumption | omega) (by first | assumption | omega) | with_reducible exact ly_kBc hly (by first | assumption | omega) (by first | assumption | omega) | with_reducible exact ly_kAh hly (by first | assumption | omega)) dX5_sum_6 ?_
      refine jr_icmp_ge (tgt := 22) hX dX5_sum_7 (by decide) (fun c_7 => ?_) (fun c_7 => absurd (nI_le (Nat.le_refl _) (by omega)) c_7)
      refine jr_iload_n hX dX5_sum_22 rfl ?_
      exact jr_iret hX dX5_sum_23 rfl rfl ⟨rfl, rfl, rfl, rfl, rfl, rfl⟩
    · refine jr_iload_n hX dX5_sum_4 rfl ?_
      refine jr_aload_n hX dX5_sum_5 rfl ?_
      refine jr_alen (t := 10) hX (by decide) (by first | with_reducible assumption | with_reducible exact ly_kWm hly (by first | assumption | omega) | with_reducible exact ly_kLd hly (by first | assumption | omega) | with_reducible exact ly_kIc hly (by first | assumption | omega) | with_reducible exact ly_kBe hly (by first | assumption | omega) | with_reducible exact ly_kPr hly (by first | assumption | omega) | with_reducible exact ly_kMt hly (by first | assumption | omega) (by first | assumption | omega) | with_reducible exact ly_kBc hly (by first | assumption | omega) (by first | assumption | omega) | with_reducible exact ly_kAh hly (by first | assumption | omega)) dX5_sum_6 ?_
      refine jr_icmp_ge (tgt := 22) hX dX5_sum_7 (by decide) (fun c_7 => absurd c_7 (nI_ge (by assumption) (by omega))) (fun c_7 => ?_)
      refine jr_iload_n hX dX5_sum_10 rfl ?_
      refine jr_aload_n hX dX5_sum_11 rfl ?_
      refine jr_iload_n hX dX5_sum_12 rfl ?_
      refine jr_iald hX (by first | with_reducible assumption | with_reducible exact ly_kWm hly (by first | assumption | omega) | with_reducible exact ly_kLd hly (by first | assumption | omega) | with_reducible exact ly_kIc hly (by first | assumption | omega) | with_reducible exact ly_kBe hly (by first | assumption | omega) | with_reducible exact ly_kPr hly (by first | assumption | omega) | with_reducible exact ly_kMt hly (by first | assumption | omega) (by first | assumption | omega) | with_reducible exact ly_kBc hly (by first | assumption | omega) (by first | assumption | omega) | with_reducible exact ly_kAh hly (by first | assumption | omega)) (by first | with_reducible rfl | with_reducible assumption | rfl) (by omega) dX5_sum_13 ?_
      refine jr_iadd hX dX5_sum_14 ?_
      refine jr_istore_n hX dX5_sum_15 rfl ?_
      refine jr_iinc hX dX5_sum_16 rfl (by first | with_reducible exact jj_inc _ | with_reducible exact jj_inc1 _) rfl ?_
      refine jr_goto (tgt := 4) hX dX5_sum_19 (by decide) ?_
      exact ih
  exact hloop 0 (Nat.zero_le _)
set_option maxHeartbeats 4000000 in
set_option maxRecDepth 100000 in
theorem c_X5_cellOf {l : Launch} (hfl : l.stackTraces = false) {D : jj_D} {n : Nat} {K : jj_K} {I : jj_I} {P : jj_P} {G : jj_G} {h g : Nat} :
    jj_Met l D yX5_cellOf (jj_ws yX5_cellOf cX5_cellOf 2 (some .int)) { frames := 0, cells := 0, slots := 0, locals := 0 } [.int (nI h), .int (nI g)] n K I P G (jj_R (some (.int (nI (h * 4 + g)))) (n) (K) (I) (P) (G)) jj_noX := by
  refine jj_of hfl (by decide +kernel) [some (.int (nI h)), some (.int (nI g))] rfl rfl ?_
  intro X hXl hX hSt
  refine jr_iload_n hX dX5_cellOf_0 rfl ?_
  refine jr_iconst (v := 4) hX dX5_cellOf_1 (by decide) ?_
  refine jr_imul hX dX5_cellOf_2 ?_
  refine jr_iload_n hX dX5_cellOf_3 rfl ?_
  refine jr_iadd hX dX5_cellOf_4 ?_
  exact jr_iret hX dX5_cellOf_5 rfl rfl ⟨jj_ri (by rw [show (4 : Int32) = nI 4 from rfl, pk_mul, nI_add]), rfl, rfl, rfl, rfl, rfl⟩
set_option maxHeartbeats 4000000 in
set_option maxRecDepth 100000 in
theorem c_X5_iceBehind {l : Launch} (hfl : l.stackTraces = false) {D : jj_D} {n : Nat} {K : jj_K} {I : jj_I} {P : jj_P} {G : jj_G} {ice warm : Int32} :
    jj_Met l D yX5_iceBehind (jj_ws yX5_iceBehind cX5_iceBehind 3 (some .int)) { frames := 1, cells := 0, slots := 0, locals := 21 } [.int ice, .int warm] n K I P G (jj_R (some (.int (f_ib ice warm))) (n) (K) (I) (P) (G)) jj_noX := by
  refine jj_of hfl (by decide +kernel) [some (.int ice), some (.int warm), none] rfl rfl ?_
  intro X hXl hX hSt
  refine jr_iload_n hX dX5_iceBehind_0 rfl ?_
  refine jr_if_ge (tgt := 10) hX dX5_iceBehind_1 (by decide) (fun c_1 => ?_) (fun c_1 => ?_)
  · refine jr_iload_n hX dX5_iceBehind_10 rfl ?_
    refine jr_iconst (v := 2) hX dX5_iceBehind_11 (by decide) ?_
    refine jr_iload_n hX dX5_iceBehind_12 rfl ?_
    refine jr_imul hX dX5_iceBehind_13 ?_
    refine jr_isub hX dX5_iceBehind_14 ?_
    refine jr_istore_n hX dX5_iceBehind_15 rfl ?_
    refine jr_iconst (v := 0) hX dX5_iceBehind_16 (by decide) ?_
    refine jr_bipush (v := 60) hX dX5_iceBehind_17 (by decide) ?_
    refine jr_iload_n hX dX5_iceBehind_19 rfl ?_
    refine jr_mmin hX kM_X5_171 dX5_iceBehind_20 rfl ⟨jj_b1 rfl, jj_b1 rfl⟩ ?_
    refine jr_mmax hX kM_X5_355 dX5_iceBehind_23 rfl ⟨jj_b1 rfl, jj_b1 rfl⟩ ?_
    exact jr_iret hX dX5_iceBehind_26 rfl rfl ⟨jj_ri (by simp only [f_ib, if_neg (Int32.not_lt.mpr c_1)]), rfl, rfl, rfl, rfl, rfl⟩
  · refine jr_iload_n hX dX5_iceBehind_4 rfl ?_
    refine jr_iload_n hX dX5_iceBehind_5 rfl ?_
    refine jr_isub hX dX5_iceBehind_6 ?_
    refine jr_goto (tgt := 15) hX dX5_iceBehind_7 (by decide) ?_
    refine jr_istore_n hX dX5_iceBehind_15 rfl ?_
    refine jr_iconst (v := 0) hX dX5_iceBehind_16 (by decide) ?_
    refine jr_bipush (v := 60) hX dX5_iceBehind_17 (by decide) ?_
    refine jr_iload_n hX dX5_iceBehind_19 rfl ?_
    refine jr_mmin hX kM_X5_171 dX5_iceBehind_20 rfl ⟨jj_b1 rfl, jj_b1 rfl⟩ ?_
    refine jr_mmax hX kM_X5_355 dX5_iceBehind_23 rfl ⟨jj_b1 rfl, jj_b1 rfl⟩ ?_
    exact jr_iret hX dX5_iceBehind_26 rfl rfl ⟨jj_ri (by simp only [f_ib, if_pos (Int32.not_le.mp c_1)]), rfl, rfl, rfl, rfl, rfl⟩
def f_lh (w k : Nat) (I : jj_I) : jj_I :=
  let J := jj_u I (aB w k) 1 (I (aB w k) 1 - 1)
  if 0 < J (aB w k) 1 then J else it (fun g M => jj_u M (aBc w k) g 0) (jj_u (jj_u (jj_u J (aB w k) 3 3) (aB w k) 4 (-1)) (aB w k) 7 0) 4
def f_la (w k : Nat) (o h r : Int32) (I : jj_I) : jj_I := jj_u (jj_u (jj_u (jj_u (jj_u (jj_u I (aB w k) 0 o) (aB w k) 1 20) (aB w k) 2 r) (aB w k) 3 0) (aB w k) 4 h) (aB w k) 6 h
def f_cr (a b len : Nat) (I : jj_I) : jj_I := jj_uR I b (va_cpy (I a) (I b) 0 0 len)
def f_cf (a b k : Nat) (I : jj_I) : jj_I := jj_u I b k (I a k)
def f_cpM (k : Nat) (I : jj_I) : jj_I := f_cr (aMt 0 k) (aMt 1 k) 32 (f_cf (aM 0 k) (aM 1 k) 0 I)
def f_cpB (k : Nat) (I : jj_I) : jj_I := f_cr (aBc 0 k) (aBc 1 k) 4 (f_cf (aB 0 k) (aB 1 k) 7 (f_cf (aB 0 k) (aB 1 k) 6 (f_cf (aB 0 k) (aB 1 k) 5 (f_cf (aB 0 k) (aB 1 k) 4 (f_cf (aB 0 k) (aB 1 k) 3 (f_cf (aB 0 k) (aB 1 k) 2 (f_cf (aB 0 k) (aB 1 k) 1 (f_cf (aB 0 k) (aB 1 k) 0 I))))))))
def f_op (w k : Nat) (a b h g m d : Int32) (I : jj_I) : jj_I := jj_u (jj_u (jj_u (jj_u (jj_u (jj_u (jj_u I (aD w k) 0 a) (aD w k) 1 b) (aD w k) 2 h) (aD w k) 3 g) (aD w k) 4 m) (aD w k) 5 d) (aD w k) 6 0
def f_cpD (k : Nat) (I : jj_I) : jj_I := f_cf (aD 0 k) (aD 1 k) 6 (f_op 1 k (I (aD 0 k) 0) (I (aD 0 k) 1) (I (aD 0 k) 2) (I (aD 0 k) 3) (I (aD 0 k) 4) (I (aD 0 k) 5) I)
def f_cpR (I : jj_I) : jj_I := f_cr (aPr 0) (aPr 1) 32 (f_cr (aBe 0) (aBe 1) 8 (f_cr (aIc 0) (aIc 1) 7 (f_cr (aLd 0) (aLd 1) 7 (f_cr (aWm 0) (aWm 1) 40 (f_cf (aR 0) (aR 1) 1 (f_cf (aR 0) (aR 1) 0 I))))))
def f_gr (w H : Nat) (leg be : Int32) (I : jj_I) : jj_I := jj_u (jj_u (if 0 < H then jj_u I (aLd w) (H - 1) leg else I) (aBe w) H be) (aR w) 1 (nI (H + 1))
def q_bi (w : Nat) (p : Int32) (I : jj_I) (k : Nat) : Int32 := if I (aB w k) 3 = p then 1 else 0
def q_bl (w : Nat) (h p : Int32) (I : jj_I) (k : Nat) : Int32 := if I (aB w k) 3 = p ∧ I (aB w k) 4 = h then 1 else 0
def q_bo (w : Nat) (l : Int32) (I : jj_I) (k : Nat) : Int32 := if I (aB w k) 3 = 2 ∧ I (aB w k) 5 = l then 1 else 0
def q_ba (w : Nat) (m : Int32) (I : jj_I) (k : Nat) : Int32 := if I (aB w k) 0 = m ∧ ¬ I (aB w k) 3 = 3 then 1 else 0
def q_co (w : Nat) (m : Int32) (I : jj_I) (k : Nat) : Int32 := if I (aB w k) 0 = m then sm (I (aBc w k)) 4 else 0
def q_do (w : Nat) (m s : Int32) (I : jj_I) (k : Nat) : Int32 := if I (aD w k) 1 = m ∧ I (aD w k) 6 = s then 1 else 0
def q_ol (w : Nat) (I : jj_I) (k : Nat) : Int32 := if I (aIc w) k ≤ 10 then 1 else 0
def f_bg (w k B : Nat) (I : jj_I) : jj_I := if I (aB w k) 3 = 0 ∧ I (aB w k) 4 = I (aB w k) 6 ∧ 0 < I (aBe w) (nv (I (aB w k) 4)) - sm (q_bl w (I (aB w k) 4) 1 I) B then jj_u I (aB w k) 3 1 else I
def f_hd (w a b c : Nat) (m : Int32) (I : jj_I) : jj_I := let J := jj_u I (aMt w a) c (I (aMt w a) c - m); jj_u J (aMt w b) c (J (aMt w b) c + m)
set_option maxHeartbeats 4000000 in
set_option maxRecDepth 100000 in
theorem c_X5_copyRow {l : Launch} (hfl : l.stackTraces = false) {D : jj_D} {n : Nat} {K : jj_K} {I : jj_I} {P : jj_P} {G : jj_G} {a b len : Nat} (hka : K a = some (10, len)) (hkb : K b = some (10, len)) (h0 : 0 < b) (hlen : len < 100000) :
    jj_Met l D yX5_copyRow (jj_ws yX5_copyRow cX5_copyRow 2 none) { frames := 1, cells := 0, slots := 0, locals := 26 } [.ref a, .ref b] n K I P G (jj_R (none) (n) (K) (f_cr a b len I) (P) (G)) jj_noX := by
  refine jj_of hfl (by decide +kernel) [some (.ref a), some (.ref b)] rfl rfl ?_
  intro X hXl hX hSt
  refine jr_aload_n hX dX5_copyRow_0 rfl ?_
  refine jr_iconst (v := 0) hX dX5_copyRow_1 (by decide) ?_
  refine jr_aload_n hX dX5_copyRow_2 rfl ?_
  refine jr_iconst (v := 0) hX dX5_copyRow_3 (by decide) ?_
  refine jr_aload_n hX dX5_copyRow_4 rfl ?_
  refine jr_alen (t := 10) hX (by decide) (by first | with_reducible assumption | with_reducible exact ly_kWm hly (by first | assumption | omega) | with_reducible exact ly_kLd hly (by first | assumption | omega) | with_reducible exact ly_kIc hly (by first | assumption | omega) | with_reducible exact ly_kBe hly (by first | assumption | omega) | with_reducible exact ly_kPr hly (by first | assumption | omega) | with_reducible exact ly_kMt hly (by first | assumption | omega) (by first | assumption | omega) | with_reducible exact ly_kBc hly (by first | assumption | omega) (by first | assumption | omega) | with_reducible exact ly_kAh hly (by first | assumption | omega)) dX5_copyRow_5 ?_
  refine jr_aload_n hX dX5_copyRow_6 rfl ?_
  refine jr_alen (t := 10) hX (by decide) (by first | with_reducible assumption | with_reducible exact ly_kWm hly (by first | assumption | omega) | with_reducible exact ly_kLd hly (by first | assumption | omega) | with_reducible exact ly_kIc hly (by first | assumption | omega) | with_reducible exact ly_kBe hly (by first | assumption | omega) | with_reducible exact ly_kPr hly (by first | assumption | omega) | with_reducible exact ly_kMt hly (by first | assumption | omega) (by first | assumption | omega) | with_reducible exact ly_kBc hly (by first | assumption | omega) (by first | assumption | omega) | with_reducible exact ly_kAh hly (by first | assumption | omega)) dX5_copyRow_7 ?_
  refine jr_mmin hX kM_X5_171 dX5_copyRow_8 rfl ⟨jj_b1 rfl, jj_b1 rfl⟩ ?_
  refine jr_copy hX kM_X5_358 hka hkb (by first | assumption | with_reducible exact aMt_0 | with_reducible exact aBc_0 | with_reducible exact aWm_0 | with_reducible exact aLd_0 | with_reducible exact aIc_0 | with_reducible exact aBe_0 | with_reducible exact aPr_0 | with_reducible exact aAh_0 | decide | omega) nI_0.symm nI_0.symm (ite_self _) (by omega) dX5_copyRow_11 rfl ?_
  exact jr_vret hX dX5_copyRow_14 rfl rfl ⟨rfl, rfl, rfl, rfl, rfl, rfl⟩
set_option maxHeartbeats 4000000 in
set_option maxRecDepth 100000 in
theorem c_X0_isInHarbour {l : Launch} (hfl : l.stackTraces = false) {D : jj_D} {n : Nat} {K : jj_K} {I : jj_I} {P : jj_P} {G : jj_G} (hly : ly K P) {w k : Nat} (hw : w < 2) (hk : k < 10) :
    jj_Met l D yX0_isInHarbour (jj_ws yX0_isInHarbour cX0_isInHarbour 1 (some .boolean)) { frames := 0, cells := 0, slots := 0, locals := 0 } [.ref (aB w k)] n K I P G (jj_R (some (.int (if I (aB w k) 3 = 0 ∨ I (aB w k) 3 = 1 then 1 else 0))) (n) (K) (I) (P) (G)) jj_noX := by
  refine jj_of hfl (by decide +kernel) [some (.ref (aB w k))] rfl rfl ?_
  intro X hXl hX hSt
  refine jr_aload_n hX dX0_isInHarbour_0 rfl ?_
  refine jr_geti hX kF_X0_25 rfl (ly_kB hly (by first | assumption | omega) (by first | assumption | omega)) dX0_isInHarbour_1 ?_
  refine jr_if_eq (tgt := 15) hX dX0_isInHarbour_4 (by decide) (fun c_4 => ?_) (fun c_4 => ?_)
  · refine jr_iconst (v := 1) hX dX0_isInHarbour_15 (by decide) ?_
    refine jr_goto (tgt := 20) hX dX0_isInHarbour_16 (by decide) ?_
    refine jr_zret hX (by simp) dX0_isInHarbour_20 rfl rfl ?_
    exact ⟨jj_ri (by simp [*]), rfl, rfl, rfl, rfl, rfl⟩
  · refine jr_aload_n hX dX0_isInHarbour_7 rfl ?_
    refine jr_geti hX kF_X0_25 rfl (ly_kB hly (by first | assumption | omega) (by first | assumption | omega)) dX0_isInHarbour_8 ?_
    refine jr_iconst (v := 1) hX dX0_isInHarbour_11 (by decide) ?_
    refine jr_icmp_ne (tgt := 19) hX dX0_isInHarbour_12 (by decide) (fun c_12 => ?_) (fun c_12 => ?_)
    · refine jr_iconst (v := 0) hX dX0_isInHarbour_19 (by decide) ?_
      refine jr_zret hX (by simp) dX0_isInHarbour_20 rfl rfl ?_
      exact ⟨jj_ri (by simp [*]), rfl, rfl, rfl, rfl, rfl⟩
    · refine jr_iconst (v := 1) hX dX0_isInHarbour_15 (by decide) ?_
      refine jr_goto (tgt := 20) hX dX0_isInHarbour_16 (by decide) ?_
      refine jr_zret hX (by simp) dX0_isInHarbour_20 rfl rfl ?_
      exact ⟨jj_ri (by simp [*]), rfl, rfl, rfl, rfl, rfl⟩
set_option maxHeartbeats 4000000 in
set_option maxRecDepth 100000 in
theorem c_X0_isAtGoal {l : Launch} (hfl : l.stackTraces = false) {D : jj_D} {n : Nat} {K : jj_K} {I : jj_I} {P : jj_P} {G : jj_G} (hly : ly K P) {w k : Nat} (hw : w < 2) (hk : k < 10) :
    jj_Met l D yX0_isAtGoal (jj_ws yX0_isAtGoal cX0_isAtGoal 1 (some .boolean)) { frames := 1, cells := 0, slots := 0, locals := 20 } [.ref (aB w k)] n K I P G (jj_R (some (.int (if (I (aB w k) 3 = 0 ∨ I (aB w k) 3 = 1) ∧ I (aB w k) 4 = I (aB w k) 6 then 1 else 0))) (n) (K) (I) (P) (G)) jj_noX := by
  refine jj_of hfl (by decide +kernel) [some (.ref (aB w k))] rfl rfl ?_
  intro X hXl hX hSt
  refine jr_aload_n hX dX0_isAtGoal_0 rfl ?_
  refine jr_ret (jr_runV hX hSt kM_X0_44 (c_X0_isInHarbour (jj_fl hX) hly hw hk) rfl rfl (ly_kB hly (by first | assumption | omega) (by first | assumption | omega)) ⟨_, _, rfl, by decide⟩ dX0_isAtGoal_1 rfl ⟨jj_b1 rfl, jj_b1 rfl⟩ rfl) ?_
  refine jr_if_eq (tgt := 22) hX dX0_isAtGoal_4 (by decide) (fun c_4 => ?_) (fun c_4 => ?_)
  · refine jr_iconst (v := 0) hX dX0_isAtGoal_22 (by decide) ?_
    refine jr_zret hX (by simp) dX0_isAtGoal_23 rfl rfl ?_
    exact ⟨jj_ri (by rw [if_neg (fun e => absurd c_4 (by rw [if_pos e.1]; decide))]), rfl, rfl, rfl, rfl, rfl⟩
  · refine jr_aload_n hX dX0_isAtGoal_7 rfl ?_
    refine jr_geti hX kF_X0_28 rfl (ly_kB hly (by first | assumption | omega) (by first | assumption | omega)) dX0_isAtGoal_8 ?_
    refine jr_aload_n hX dX0_isAtGoal_11 rfl ?_
    refine jr_geti hX kF_X0_31 rfl (ly_kB hly (by first | assumption | omega) (by first | assumption | omega)) dX0_isAtGoal_12 ?_
    refine jr_icmp_ne (tgt := 22) hX dX0_isAtGoal_15 (by decide) (fun c_15 => ?_) (fun c_15 => ?_)
    · refine jr_iconst (v := 0) hX dX0_isAtGoal_22 (by decide) ?_
      refine jr_zret hX (by simp) dX0_isAtGoal_23 rfl rfl ?_
      exact ⟨jj_ri (by rw [if_neg (fun e => c_15 e.2)]), rfl, rfl, rfl, rfl, rfl⟩
    · refine jr_iconst (v := 1) hX dX0_isAtGoal_18 (by decide) ?_
      refine jr_goto (tgt := 23) hX dX0_isAtGoal_19 (by decide) ?_
      refine jr_zret hX (by simp) dX0_isAtGoal_23 rfl rfl ?_
      exact ⟨jj_ri (by rw [if_pos ⟨(by by_cases h : I (aB w k) 3 = 0 ∨ I (aB w k) 3 = 1; exact h; exact absurd (if_neg h) c_4), c_15⟩]), rfl, rfl, rfl, rfl, rfl⟩
set_option maxHeartbeats 4000000 in
set_option maxRecDepth 100000 in
theorem c_X0_allCargo {l : Launch} (hfl : l.stackTraces = false) {D : jj_D} {n : Nat} {K : jj_K} {I : jj_I} {P : jj_P} {G : jj_G} (hly : ly K P) {w k : Nat} (hw : w < 2) (hk : k < 10) :
    jj_Met l D yX0_allCargo (jj_ws yX0_allCargo cX0_allCargo 1 (some .int)) { frames := 1, cells := 0, slots := 0, locals := 22 } [.ref (aB w k)] n K I P G (jj_R (some (.int (sm (I (aBc w k)) 4))) (n) (K) (I) (P) (G)) jj_noX := by
  refine jj_of hfl (by decide +kernel) [some (.ref (aB w k))] rfl rfl ?_
  intro X hXl hX hSt
  refine jr_aload_n hX dX0_allCargo_0 rfl ?_
  refine jr_getr hX kF_X0_9 rfl (ly_kB hly (by first | assumption | omega) (by first | assumption | omega)) (ly_p0_8 hly (by first | assumption | omega) (by first | assumption | omega)) dX0_allCargo_1 ?_
  refine jr_ret (jr_runSN hX hSt kM_X0_48 (c_X5_sum (jj_fl hX) (ly_kBc hly hw hk) (by omega)) rfl rfl dX0_allCargo_4 rfl ⟨jj_b1 rfl, jj_b1 rfl⟩ rfl) ?_
  exact jr_iret hX dX0_allCargo_7 rfl rfl ⟨rfl, rfl, rfl, rfl, rfl, rfl⟩
set_option maxHeartbeats 4000000 in
set_option maxRecDepth 100000 in
theorem c_X0_loseHull {l : Launch} (hfl : l.stackTraces = false) {D : jj_D} {n : Nat} {K : jj_K} {I : jj_I} {P : jj_P} {G : jj_G} (hly : ly K P) {w k : Nat} (hw : w < 2) (hk : k < 10) :
    jj_Met l D yX0_loseHull (jj_ws yX0_loseHull cX0_loseHull 1 none) { frames := 1, cells := 0, slots := 0, locals := 23 } [.ref (aB w k)] n K I P G (jj_R (none) (n) (K) (f_lh w k I) (P) (G)) jj_noX := by
  refine jj_of hfl (by decide +kernel) [some (.ref (aB w k))] rfl rfl ?_
  intro X hXl hX hSt
  refine jr_aload_n hX dX0_loseHull_0 rfl ?_
  refine jr_dup hX dX0_loseHull_1 rfl ?_
  refine jr_geti hX kF_X0_19 rfl (ly_kB hly (by first | assumption | omega) (by first | assumption | omega)) dX0_loseHull_2 ?_
  refine jr_iconst (v := 1) hX dX0_loseHull_5 (by decide) ?_
  refine jr_isub hX dX0_loseHull_6 ?_
  refine jr_puti hX kF_X0_19 rfl (ly_kB hly (by first | assumption | omega) (by first | assumption | omega)) aB_0 dX0_loseHull_7 ?_
  refine jr_aload_n hX dX0_loseHull_10 rfl ?_
  refine jr_geti hX kF_X0_19 rfl (ly_kB hly (by first | assumption | omega) (by first | assumption | omega)) dX0_loseHull_11 ?_
  refine jr_if_gt (tgt := 40) hX dX0_loseHull_14 (by decide) (fun c_14 => ?_) (fun c_14 => ?_)
  · exact jr_vret hX dX0_loseHull_40 rfl rfl ⟨rfl, rfl, rfl, by simp only [f_lh, if_pos c_14], rfl, rfl⟩
  · refine jr_aload_n hX dX0_loseHull_17 rfl ?_
    refine jr_iconst (v := 3) hX dX0_loseHull_18 (by decide) ?_
    refine jr_puti hX kF_X0_25 rfl (ly_kB hly (by first | assumption | omega) (by first | assumption | omega)) aB_0 dX0_loseHull_19 ?_
    refine jr_aload_n hX dX0_loseHull_22 rfl ?_
    refine jr_iconst (v := -1) hX dX0_loseHull_23 (by decide) ?_
    refine jr_puti hX kF_X0_28 rfl (ly_kB hly (by first | assumption | omega) (by first | assumption | omega)) aB_0 dX0_loseHull_24 ?_
    refine jr_aload_n hX dX0_loseHull_27 rfl ?_
    refine jr_iconst (v := 0) hX dX0_loseHull_28 (by decide) ?_
    refine jr_puti hX kF_X0_37 rfl (ly_kB hly (by first | assumption | omega) (by first | assumption | omega)) aB_0 dX0_loseHull_29 ?_
    refine jr_aload_n hX dX0_loseHull_32 rfl ?_
    refine jr_getr hX kF_X0_9 rfl (ly_kB hly (by first | assumption | omega) (by first | assumption | omega)) (ly_p0_8 hly (by first | assumption | omega) (by first | assumption | omega)) dX0_loseHull_33 ?_
    refine jr_iconst (v := 0) hX dX0_loseHull_36 (by decide) ?_
    refine jr_void (jr_runS hX hSt kM_X0_52 (c_fill (jj_fl hX) (ly_kBc hly hw hk) aBc_0 (by omega)) rfl rfl dX0_loseHull_37 rfl ⟨jj_b1 rfl, jj_b1 rfl⟩ rfl) ?_
    exact jr_vret hX dX0_loseHull_40 rfl rfl ⟨rfl, rfl, rfl, by simp only [f_lh, if_neg c_14], rfl, rfl⟩
set_option maxHeartbeats 4000000 in
set_option maxRecDepth 100000 in
theorem c_X0_launch {l : Launch} (hfl : l.stackTraces = false) {D : jj_D} {n : Nat} {K : jj_K} {I : jj_I} {P : jj_P} {G : jj_G} (hly : ly K P) {w k : Nat} {o h r : Int32} (hw : w < 2) (hk : k < 10) :
    jj_Met l D yX0_launch (jj_ws yX0_launch cX0_launch 4 none) { frames := 0, cells := 0, slots := 0, locals := 0 } [.ref (aB w k), .int o, .int h, .int r] n K I P G (jj_R (none) (n) (K) (f_la w k o h r I) (P) (G)) jj_noX := by
  refine jj_of hfl (by decide +kernel) [some (.ref (aB w k)), some (.int o), some (.int h), some (.int r)] rfl rfl ?_
  intro X hXl hX hSt
  refine jr_aload_n hX dX0_launch_0 rfl ?_
  refine jr_iload_n hX dX0_launch_1 rfl ?_
  refine jr_puti hX kF_X0_15 rfl (ly_kB hly (by first | assumption | omega) (by first | assumption | omega)) aB_0 dX0_launch_2 ?_
  refine jr_aload_n hX dX0_launch_5 rfl ?_
  refine jr_bipush (v := 20) hX dX0_launch_6 (by decide) ?_
  refine jr_puti hX kF_X0_19 rfl (ly_kB hly (by first | assumption | omega) (by first | assumption | omega)) aB_0 dX0_launch_8 ?_
  refine jr_aload_n hX dX0_launch_11 rfl ?_
  refine jr_iload_n hX dX0_launch_12 rfl ?_
  refine jr_puti hX kF_X0_22 rfl (ly_kB hly (by first | assumption | omega) (by first | assumption | omega)) aB_0 dX0_launch_13 ?_
  refine jr_aload_n hX dX0_launch_16 rfl ?_
  refine jr_iconst (v := 0) hX dX0_launch_17 (by decide) ?_
  refine jr_puti hX kF_X0_25 rfl (ly_kB hly (by first | assumption | omega) (by first | assumption | omega)) aB_0 dX0_launch_18 ?_
  refine jr_aload_n hX dX0_launch_21 rfl ?_
  refine jr_iload_n hX dX0_launch_22 rfl ?_
  refine jr_puti hX kF_X0_28 rfl (ly_kB hly (by first | assumption | omega) (by first | assumption | omega)) aB_0 dX0_launch_23 ?_
  refine jr_aload_n hX dX0_launch_26 rfl ?_
  refine jr_iload_n hX dX0_launch_27 rfl ?_
  refine jr_puti hX kF_X0_31 rfl (ly_kB hly (by first | assumption | omega) (by first | assumption | omega)) aB_0 dX0_launch_28 ?_
  exact jr_vret hX dX0_launch_31 rfl rfl ⟨rfl, rfl, rfl, rfl, rfl, rfl⟩
set_option maxHeartbeats 4000000 in
set_option maxRecDepth 100000 in
theorem c_X0_copyFrom {l : Launch} (hfl : l.stackTraces = false) {D : jj_D} {n : Nat} {K : jj_K} {I : jj_I} {P : jj_P} {G : jj_G} (hly : ly K P) {k : Nat} (hk : k < 10) :
    jj_Met l D yX0_copyFrom (jj_ws yX0_copyFrom cX0_copyFrom 2 none) { frames := 2, cells := 0, slots := 0, locals := 47 } [.ref (aB 1 k), .ref (aB 0 k)] n K I P G (jj_R (none) (n) (K) (f_cpB k I) (P) (G)) jj_noX := by
  refine jj_of hfl (by decide +kernel) [some (.ref (aB 1 k)), some (.ref (aB 0 k))] rfl rfl ?_
  intro X hXl hX hSt
  refine jr_aload_n hX dX0_copyFrom_0 rfl ?_
  refine jr_aload_n hX dX0_copyFrom_1 rfl ?_
  refine jr_geti hX kF_X0_15 rfl (ly_kB hly (by first | assumption | omega) (by first | assumption | omega)) dX0_copyFrom_2 ?_
  refine jr_puti hX kF_X0_15 rfl (ly_kB hly (by first | assumption | omega) (by first | assumption | omega)) aB_0 dX0_copyFrom_5 ?_
  refine jr_aload_n hX dX0_copyFrom_8 rfl ?_
  refine jr_aload_n hX dX0_copyFrom_9 rfl ?_
  refine jr_geti hX kF_X0_19 rfl (ly_kB hly (by first | assumption | omega) (by first | assumption | omega)) dX0_copyFrom_10 ?_
  refine jr_puti hX kF_X0_19 rfl (ly_kB hly (by first | assumption | omega) (by first | assumption | omega)) aB_0 dX0_copyFrom_13 ?_
  refine jr_aload_n hX dX0_copyFrom_16 rfl ?_
  refine jr_aload_n hX dX0_copyFrom_17 rfl ?_
  refine jr_geti hX kF_X0_22 rfl (ly_kB hly (by first | assumption | omega) (by first | assumption | omega)) dX0_copyFrom_18 ?_
  refine jr_puti hX kF_X0_22 rfl (ly_kB hly (by first | assumption | omega) (by first | assumption | omega)) aB_0 dX0_copyFrom_21 ?_
  refine jr_aload_n hX dX0_copyFrom_24 rfl ?_
  refine jr_aload_n hX dX0_copyFrom_25 rfl ?_
  refine jr_geti hX kF_X0_25 rfl (ly_kB hly (by first | assumption | omega) (by first | assumption | omega)) dX0_copyFrom_26 ?_
  refine jr_puti hX kF_X0_25 rfl (ly_kB hly (by first | assumption | omega) (by first | assumption | omega)) aB_0 dX0_copyFrom_29 ?_
  refine jr_aload_n hX dX0_copyFrom_32 rfl ?_
  refine jr_aload_n hX dX0_copyFrom_33 rfl ?_
  refine jr_geti hX kF_X0_28 rfl (ly_kB hly (by first | assumption | omega) (by first | assumption | omega)) dX0_copyFrom_34 ?_
  refine jr_puti hX kF_X0_28 rfl (ly_kB hly (by first | assumption | omega) (by first | assumption | omega)) aB_0 dX0_copyFrom_37 ?_
  refine jr_aload_n hX dX0_copyFrom_40 rfl ?_
  refine jr_aload_n hX dX0_copyFrom_41 rfl ?_
  refine jr_geti hX kF_X0_34 rfl (ly_kB hly (by first | assumption | omega) (by first | assumption | omega)) dX0_copyFrom_42 ?_
  refine jr_puti hX kF_X0_34 rfl (ly_kB hly (by first | assumption | omega) (by first | assumption | omega)) aB_0 dX0_copyFrom_45 ?_
  refine jr_aload_n hX dX0_copyFrom_48 rfl ?_
  refine jr_aload_n hX dX0_copyFrom_49 rfl ?_
  refine jr_geti hX kF_X0_31 rfl (ly_kB hly (by first | assumption | omega) (by first | assumption | omega)) dX0_copyFrom_50 ?_
  refine jr_puti hX kF_X0_31 rfl (ly_kB hly (by first | assumption | omega) (by first | assumption | omega)) aB_0 dX0_copyFrom_53 ?_
  refine jr_aload_n hX dX0_copyFrom_56 rfl ?_
  refine jr_aload_n hX dX0_copyFrom_57 rfl ?_
  refine jr_geti hX kF_X0_37 rfl (ly_kB hly (by first | assumption | omega) (by first | assumption | omega)) dX0_copyFrom_58 ?_
  refine jr_puti hX kF_X0_37 rfl (ly_kB hly (by first | assumption | omega) (by first | assumption | omega)) aB_0 dX0_copyFrom_61 ?_
  refine jr_aload_n hX dX0_copyFrom_64 rfl ?_
  refine jr_getr hX kF_X0_9 rfl (ly_kB hly (by first | assumption | omega) (by first | assumption | omega)) (ly_p0_8 hly (by first | assumption | omega) (by first | assumption | omega)) dX0_copyFrom_65 ?_
  refine jr_aload_n hX dX0_copyFrom_68 rfl ?_
  refine jr_getr hX kF_X0_9 rfl (ly_kB hly (by first | assumption | omega) (by first | assumption | omega)) (ly_p0_8 hly (by first | assumption | omega) (by first | assumption | omega)) dX0_copyFrom_69 ?_
  refine jr_void (jr_runSN hX hSt kM_X0_40 (c_X5_copyRow (jj_fl hX) (ly_kBc hly (by omega) hk) (ly_kBc hly (by omega) hk) aBc_0 (by omega)) rfl rfl dX0_copyFrom_72 rfl ⟨jj_b1 rfl, jj_b1 rfl⟩ rfl) ?_
  exact jr_vret hX dX0_copyFrom_75 rfl rfl ⟨rfl, rfl, rfl, rfl, rfl, rfl⟩
set_option maxHeartbeats 4000000 in
set_option maxRecDepth 100000 in
theorem c_X2_copyFrom {l : Launch} (hfl : l.stackTraces = false) {D : jj_D} {n : Nat} {K : jj_K} {I : jj_I} {P : jj_P} {G : jj_G} (hly : ly K P) {k : Nat} (hk : k < 5) :
    jj_Met l D yX2_copyFrom (jj_ws yX2_copyFrom cX2_copyFrom 2 none) { frames := 2, cells := 0, slots := 0, locals := 47 } [.ref (aM 1 k), .ref (aM 0 k)] n K I P G (jj_R (none) (n) (K) (f_cpM k I) (P) (G)) jj_noX := by
  refine jj_of hfl (by decide +kernel) [some (.ref (aM 1 k)), some (.ref (aM 0 k))] rfl rfl ?_
  intro X hXl hX hSt
  refine jr_aload_n hX dX2_copyFrom_0 rfl ?_
  refine jr_aload_n hX dX2_copyFrom_1 rfl ?_
  refine jr_geti hX kF_X2_15 rfl (ly_kM hly (by first | assumption | omega) (by first | assumption | omega)) dX2_copyFrom_2 ?_
  refine jr_puti hX kF_X2_15 rfl (ly_kM hly (by first | assumption | omega) (by first | assumption | omega)) aM_0 dX2_copyFrom_5 ?_
  refine jr_aload_n hX dX2_copyFrom_8 rfl ?_
  refine jr_getr hX kF_X2_9 rfl (ly_kM hly (by first | assumption | omega) (by first | assumption | omega)) (ly_p2_1 hly (by first | assumption | omega) (by first | assumption | omega)) dX2_copyFrom_9 ?_
  refine jr_aload_n hX dX2_copyFrom_12 rfl ?_
  refine jr_getr hX kF_X2_9 rfl (ly_kM hly (by first | assumption | omega) (by first | assumption | omega)) (ly_p2_1 hly (by first | assumption | omega) (by first | assumption | omega)) dX2_copyFrom_13 ?_
  refine jr_void (jr_runSN hX hSt kM_X2_19 (c_X5_copyRow (jj_fl hX) (ly_kMt hly (by omega) hk) (ly_kMt hly (by omega) hk) aMt_0 (by omega)) rfl rfl dX2_copyFrom_16 rfl ⟨jj_b1 rfl, jj_b1 rfl⟩ rfl) ?_
  exact jr_vret hX dX2_copyFrom_19 rfl rfl ⟨rfl, rfl, rfl, rfl, rfl, rfl⟩
set_option maxHeartbeats 4000000 in
set_option maxRecDepth 100000 in
theorem c_X1_open {l : Launch} (hfl : l.stackTraces = false) {D : jj_D} {n : Nat} {K : jj_K} {I : jj_I} {P : jj_P} {G : jj_G} (hly : ly K P) {w k : Nat} {a b h g m d : Int32} (hw : w < 2) (hk : k < 30) :
    jj_Met l D yX1_open (jj_ws yX1_open cX1_open 7 none) { frames := 0, cells := 0, slots := 0, locals := 0 } [.ref (aD w k), .int a, .int b, .int h, .int g, .int m, .int d] n K I P G (jj_R (none) (n) (K) (f_op w k a b h g m d I) (P) (G)) jj_noX := by
  refine jj_of hfl (by decide +kernel) [some (.ref (aD w k)), some (.int a), some (.int b), some (.int h), some (.int g), some (.int m), some (.int d)] rfl rfl ?_
  intro X hXl hX hSt
  refine jr_aload_n hX dX1_open_0 rfl ?_
  refine jr_iload_n hX dX1_open_1 rfl ?_
  refine jr_puti hX kF_X1_9 rfl (ly_kD hly (by first | assumption | omega) (by first | assumption | omega)) aD_0 dX1_open_2 ?_
  refine jr_aload_n hX dX1_open_5 rfl ?_
  refine jr_iload_n hX dX1_open_6 rfl ?_
  refine jr_puti hX kF_X1_15 rfl (ly_kD hly (by first | assumption | omega) (by first | assumption | omega)) aD_0 dX1_open_7 ?_
  refine jr_aload_n hX dX1_open_10 rfl ?_
  refine jr_iload_n hX dX1_open_11 rfl ?_
  refine jr_puti hX kF_X1_18 rfl (ly_kD hly (by first | assumption | omega) (by first | assumption | omega)) aD_0 dX1_open_12 ?_
  refine jr_aload_n hX dX1_open_15 rfl ?_
  refine jr_iload hX dX1_open_16 rfl ?_
  refine jr_puti hX kF_X1_21 rfl (ly_kD hly (by first | assumption | omega) (by first | assumption | omega)) aD_0 dX1_open_18 ?_
  refine jr_aload_n hX dX1_open_21 rfl ?_
  refine jr_iload hX dX1_open_22 rfl ?_
  refine jr_puti hX kF_X1_24 rfl (ly_kD hly (by first | assumption | omega) (by first | assumption | omega)) aD_0 dX1_open_24 ?_
  refine jr_aload_n hX dX1_open_27 rfl ?_
  refine jr_iload hX dX1_open_28 rfl ?_
  refine jr_puti hX kF_X1_27 rfl (ly_kD hly (by first | assumption | omega) (by first | assumption | omega)) aD_0 dX1_open_30 ?_
  refine jr_aload_n hX dX1_open_33 rfl ?_
  refine jr_iconst (v := 0) hX dX1_open_34 (by decide) ?_
  refine jr_puti hX kF_X1_30 rfl (ly_kD hly (by first | assumption | omega) (by first | assumption | omega)) aD_0 dX1_open_35 ?_
  exact jr_vret hX dX1_open_38 rfl rfl ⟨rfl, rfl, rfl, rfl, rfl, rfl⟩
set_option maxHeartbeats 4000000 in
set_option maxRecDepth 100000 in
theorem c_X1_copyFrom {l : Launch} (hfl : l.stackTraces = false) {D : jj_D} {n : Nat} {K : jj_K} {I : jj_I} {P : jj_P} {G : jj_G} (hly : ly K P) {k : Nat} (hk : k < 30) :
    jj_Met l D yX1_copyFrom (jj_ws yX1_copyFrom cX1_copyFrom 2 none) { frames := 1, cells := 0, slots := 0, locals := 26 } [.ref (aD 1 k), .ref (aD 0 k)] n K I P G (jj_R (none) (n) (K) (f_cpD k I) (P) (G)) jj_noX := by
  refine jj_of hfl (by decide +kernel) [some (.ref (aD 1 k)), some (.ref (aD 0 k))] rfl rfl ?_
  intro X hXl hX hSt
  refine jr_aload_n hX dX1_copyFrom_0 rfl ?_
  refine jr_aload_n hX dX1_copyFrom_1 rfl ?_
  refine jr_geti hX kF_X1_9 rfl (ly_kD hly (by first | assumption | omega) (by first | assumption | omega)) dX1_copyFrom_2 ?_
  refine jr_aload_n hX dX1_copyFrom_5 rfl ?_
  refine jr_geti hX kF_X1_15 rfl (ly_kD hly (by first | assumption | omega) (by first | assumption | omega)) dX1_copyFrom_6 ?_
  refine jr_aload_n hX dX1_copyFrom_9 rfl ?_
  refine jr_geti hX kF_X1_18 rfl (ly_kD hly (by first | assumption | omega) (by first | assumption | omega)) dX1_copyFrom_10 ?_
  refine jr_aload_n hX dX1_copyFrom_13 rfl ?_
  refine jr_geti hX kF_X1_21 rfl (ly_kD hly (by first | assumption | omega) (by first | assumption | omega)) dX1_copyFrom_14 ?_
  refine jr_aload_n hX dX1_copyFrom_17 rfl ?_
  refine jr_geti hX kF_X1_24 rfl (ly_kD hly (by first | assumption | omega) (by first | assumption | omega)) dX1_copyFrom_18 ?_
  refine jr_aload_n hX dX1_copyFrom_21 rfl ?_
  refine jr_geti hX kF_X1_27 rfl (ly_kD hly (by first | assumption | omega) (by first | assumption | omega)) dX1_copyFrom_22 ?_
  refine jr_void (jr_runV hX hSt kM_X1_33 (c_X1_open (jj_fl hX) hly (by omega) hk) rfl rfl (ly_kD hly (by first | assumption | omega) (by first | assumption | omega)) ⟨_, _, rfl, by decide⟩ dX1_copyFrom_25 rfl ⟨jj_b1 rfl, jj_b1 rfl⟩ rfl) ?_
  refine jr_aload_n hX dX1_copyFrom_28 rfl ?_
  refine jr_aload_n hX dX1_copyFrom_29 rfl ?_
  refine jr_geti hX kF_X1_30 rfl (ly_kD hly (by first | assumption | omega) (by first | assumption | omega)) dX1_copyFrom_30 ?_
  refine jr_puti hX kF_X1_30 rfl (ly_kD hly (by first | assumption | omega) (by first | assumption | omega)) aD_0 dX1_copyFrom_33 ?_
  exact jr_vret hX dX1_copyFrom_36 rfl rfl ⟨rfl, rfl, rfl, rfl, rfl, rfl⟩
set_option maxHeartbeats 4000000 in
set_option maxRecDepth 100000 in
theorem c_X3_copyFrom {l : Launch} (hfl : l.stackTraces = false) {D : jj_D} {n : Nat} {K : jj_K} {I : jj_I} {P : jj_P} {G : jj_G} (hly : ly K P)  :
    jj_Met l D yX3_copyFrom (jj_ws yX3_copyFrom cX3_copyFrom 2 none) { frames := 2, cells := 0, slots := 0, locals := 47 } [.ref (aR 1), .ref (aR 0)] n K I P G (jj_R (none) (n) (K) (f_cpR I) (P) (G)) jj_noX := by
  refine jj_of hfl (by decide +kernel) [some (.ref (aR 1)), some (.ref (aR 0))] rfl rfl ?_
  intro X hXl hX hSt
  refine jr_aload_n hX dX3_copyFrom_0 rfl ?_
  refine jr_aload_n hX dX3_copyFrom_1 rfl ?_
  refine jr_geti hX kF_X3_27 rfl (ly_kR hly (by first | assumption | omega)) dX3_copyFrom_2 ?_
  refine jr_puti hX kF_X3_27 rfl (ly_kR hly (by first | assumption | omega)) aR_0 dX3_copyFrom_5 ?_
  refine jr_aload_n hX dX3_copyFrom_8 rfl ?_
  refine jr_aload_n hX dX3_copyFrom_9 rfl ?_
  refine jr_geti hX kF_X3_31 rfl (ly_kR hly (by first | assumption | omega)) dX3_copyFrom_10 ?_
  refine jr_puti hX kF_X3_31 rfl (ly_kR hly (by first | assumption | omega)) aR_0 dX3_copyFrom_13 ?_
  refine jr_aload_n hX dX3_copyFrom_16 rfl ?_
  refine jr_getr hX kF_X3_9 rfl (ly_kR hly (by first | assumption | omega)) (ly_p3_2 hly (by first | assumption | omega)) dX3_copyFrom_17 ?_
  refine jr_aload_n hX dX3_copyFrom_20 rfl ?_
  refine jr_getr hX kF_X3_9 rfl (ly_kR hly (by first | assumption | omega)) (ly_p3_2 hly (by first | assumption | omega)) dX3_copyFrom_21 ?_
  refine jr_void (jr_runSN hX hSt kM_X3_34 (c_X5_copyRow (jj_fl hX) (ly_kWm hly (by omega)) (ly_kWm hly (by omega)) aWm_0 (by omega)) rfl rfl dX3_copyFrom_24 rfl ⟨jj_b1 rfl, jj_b1 rfl⟩ rfl) ?_
  refine jr_aload_n hX dX3_copyFrom_27 rfl ?_
  refine jr_getr hX kF_X3_15 rfl (ly_kR hly (by first | assumption | omega)) (ly_p3_3 hly (by first | assumption | omega)) dX3_copyFrom_28 ?_
  refine jr_aload_n hX dX3_copyFrom_31 rfl ?_
  refine jr_getr hX kF_X3_15 rfl (ly_kR hly (by first | assumption | omega)) (ly_p3_3 hly (by first | assumption | omega)) dX3_copyFrom_32 ?_
  refine jr_void (jr_runSN hX hSt kM_X3_34 (c_X5_copyRow (jj_fl hX) (ly_kLd hly (by omega)) (ly_kLd hly (by omega)) aLd_0 (by omega)) rfl rfl dX3_copyFrom_35 rfl ⟨jj_b1 rfl, jj_b1 rfl⟩ rfl) ?_
  refine jr_aload_n hX dX3_copyFrom_38 rfl ?_
  refine jr_getr hX kF_X3_18 rfl (ly_kR hly (by first | assumption | omega)) (ly_p3_4 hly (by first | assumption | omega)) dX3_copyFrom_39 ?_
  refine jr_aload_n hX dX3_copyFrom_42 rfl ?_
  refine jr_getr hX kF_X3_18 rfl (ly_kR hly (by first | assumption | omega)) (ly_p3_4 hly (by first | assumption | omega)) dX3_copyFrom_43 ?_
  refine jr_void (jr_runSN hX hSt kM_X3_34 (c_X5_copyRow (jj_fl hX) (ly_kIc hly (by omega)) (ly_kIc hly (by omega)) aIc_0 (by omega)) rfl rfl dX3_copyFrom_46 rfl ⟨jj_b1 rfl, jj_b1 rfl⟩ rfl) ?_
  refine jr_aload_n hX dX3_copyFrom_49 rfl ?_
  refine jr_getr hX kF_X3_21 rfl (ly_kR hly (by first | assumption | omega)) (ly_p3_5 hly (by first | assumption | omega)) dX3_copyFrom_50 ?_
  refine jr_aload_n hX dX3_copyFrom_53 rfl ?_
  refine jr_getr hX kF_X3_21 rfl (ly_kR hly (by first | assumption | omega)) (ly_p3_5 hly (by first | assumption | omega)) dX3_copyFrom_54 ?_
  refine jr_void (jr_runSN hX hSt kM_X3_34 (c_X5_copyRow (jj_fl hX) (ly_kBe hly (by omega)) (ly_kBe hly (by omega)) aBe_0 (by omega)) rfl rfl dX3_copyFrom_57 rfl ⟨jj_b1 rfl, jj_b1 rfl⟩ rfl) ?_
  refine jr_aload_n hX dX3_copyFrom_60 rfl ?_
  refine jr_getr hX kF_X3_24 rfl (ly_kR hly (by first | assumption | omega)) (ly_p3_6 hly (by first | assumption | omega)) dX3_copyFrom_61 ?_
  refine jr_aload_n hX dX3_copyFrom_64 rfl ?_
  refine jr_getr hX kF_X3_24 rfl (ly_kR hly (by first | assumption | omega)) (ly_p3_6 hly (by first | assumption | omega)) dX3_copyFrom_65 ?_
  refine jr_void (jr_runSN hX hSt kM_X3_34 (c_X5_copyRow (jj_fl hX) (ly_kPr hly (by omega)) (ly_kPr hly (by omega)) aPr_0 (by omega)) rfl rfl dX3_copyFrom_68 rfl ⟨jj_b1 rfl, jj_b1 rfl⟩ rfl) ?_
  exact jr_vret hX dX3_copyFrom_71 rfl rfl ⟨rfl, rfl, rfl, rfl, rfl, rfl⟩
set_option maxHeartbeats 4000000 in
set_option maxRecDepth 100000 in
theorem c_X3_legs {l : Launch} (hfl : l.stackTraces = false) {D : jj_D} {n : Nat} {K : jj_K} {I : jj_I} {P : jj_P} {G : jj_G} (hly : ly K P) {w H : Nat} (hw : w < 2) (hH : I (aR w) 1 = nI H) (hH2 : H ≤ 8) :
    jj_Met l D yX3_legs (jj_ws yX3_legs cX3_legs 1 (some .int)) { frames := 1, cells := 0, slots := 0, locals := 21 } [.ref (aR w)] n K I P G (jj_R (some (.int (nI (H - 1)))) (n) (K) (I) (P) (G)) jj_noX := by
  refine jj_of hfl (by decide +kernel) [some (.ref (aR w))] rfl rfl ?_
  intro X hXl hX hSt
  refine jr_iconst (v := 0) hX dX3_legs_0 (by decide) ?_
  refine jr_aload_n hX dX3_legs_1 rfl ?_
  refine jr_geti hX kF_X3_31 rfl (ly_kR hly (by first | assumption | omega)) dX3_legs_2 ?_
  refine jr_iconst (v := 1) hX dX3_legs_5 (by decide) ?_
  refine jr_isub hX dX3_legs_6 ?_
  refine jr_mmax hX kM_X3_38 dX3_legs_7 rfl ⟨jj_b1 rfl, jj_b1 rfl⟩ ?_
  exact jr_iret hX dX3_legs_10 rfl rfl ⟨jj_ri (by rw [hH]; exact jl_legs H (by omega)), rfl, rfl, rfl, rfl, rfl⟩
set_option maxHeartbeats 4000000 in
set_option maxRecDepth 100000 in
theorem c_X3_isOpen {l : Launch} (hfl : l.stackTraces = false) {D : jj_D} {n : Nat} {K : jj_K} {I : jj_I} {P : jj_P} {G : jj_G} (hly : ly K P) {w j : Nat} {x : Int32} (hw : w < 2) (hx : x = nI j) (hj : j < 7) :
    jj_Met l D yX3_isOpen (jj_ws yX3_isOpen cX3_isOpen 2 (some .boolean)) { frames := 0, cells := 0, slots := 0, locals := 0 } [.ref (aR w), .int x] n K I P G (jj_R (some (.int (q_ol w I j))) (n) (K) (I) (P) (G)) jj_noX := by
  refine jj_of hfl (by decide +kernel) [some (.ref (aR w)), some (.int x)] rfl rfl ?_
  intro X hXl hX hSt
  refine jr_aload_n hX dX3_isOpen_0 rfl ?_
  refine jr_getr hX kF_X3_18 rfl (ly_kR hly (by first | assumption | omega)) (ly_p3_4 hly (by first | assumption | omega)) dX3_isOpen_1 ?_
  refine jr_iload_n hX dX3_isOpen_4 rfl ?_
  refine jr_iald hX (by first | with_reducible assumption | with_reducible exact ly_kWm hly (by first | assumption | omega) | with_reducible exact ly_kLd hly (by first | assumption | omega) | with_reducible exact ly_kIc hly (by first | assumption | omega) | with_reducible exact ly_kBe hly (by first | assumption | omega) | with_reducible exact ly_kPr hly (by first | assumption | omega) | with_reducible exact ly_kMt hly (by first | assumption | omega) (by first | assumption | omega) | with_reducible exact ly_kBc hly (by first | assumption | omega) (by first | assumption | omega) | with_reducible exact ly_kAh hly (by first | assumption | omega)) (by first | with_reducible rfl | with_reducible assumption | rfl) (by omega) dX3_isOpen_5 ?_
  refine jr_bipush (v := 10) hX dX3_isOpen_6 (by decide) ?_
  refine jr_icmp_gt (tgt := 15) hX dX3_isOpen_8 (by decide) (fun c_8 => ?_) (fun c_8 => ?_)
  · refine jr_iconst (v := 0) hX dX3_isOpen_15 (by decide) ?_
    refine jr_zret hX (by simp) dX3_isOpen_16 rfl rfl ?_
    exact ⟨jj_ri (by simp [q_ol, *]), rfl, rfl, rfl, rfl, rfl⟩
  · refine jr_iconst (v := 1) hX dX3_isOpen_11 (by decide) ?_
    refine jr_goto (tgt := 16) hX dX3_isOpen_12 (by decide) ?_
    refine jr_zret hX (by simp) dX3_isOpen_16 rfl rfl ?_
    exact ⟨jj_ri (by simp [q_ol, *]), rfl, rfl, rfl, rfl, rfl⟩
set_option maxHeartbeats 4000000 in
set_option maxRecDepth 100000 in
theorem c_X3_openLegs {l : Launch} (hfl : l.stackTraces = false) {D : jj_D} {n : Nat} {K : jj_K} {I : jj_I} {P : jj_P} {G : jj_G} (hly : ly K P) {w H : Nat} (hw : w < 2) (hH : I (aR w) 1 = nI H) (hH2 : H ≤ 8) :
    jj_Met l D yX3_openLegs (jj_ws yX3_openLegs cX3_openLegs 3 (some .int)) { frames := 2, cells := 0, slots := 0, locals := 41 } [.ref (aR w)] n K I P G (jj_R (some (.int (sm (q_ol w I) (H - 1)))) (n) (K) (I) (P) (G)) jj_noX := by
  refine jj_of hfl (by decide +kernel) [some (.ref (aR w)), none, none] rfl rfl ?_
  intro X hXl hX hSt
  refine jr_iconst (v := 0) hX dX3_openLegs_0 (by decide) ?_
  refine jr_istore_n hX dX3_openLegs_1 rfl ?_
  refine jr_iconst (v := 0) hX dX3_openLegs_2 (by decide) ?_
  refine jr_istore_n hX dX3_openLegs_3 rfl ?_
  have hloop : ∀ k, k ≤ H - 1 → jj_J X D 3 0 0 (jj_MQ X D { frames := 2, cells := 0, slots := 0, locals := 41 } (jj_R (some (.int (sm (q_ol w I) (H - 1)))) (n) (K) (I) (P) (G)) jj_noX) (n) (K) (I) (P) (G) 4 [some (.ref (aR w)), some (.int (sm (q_ol w I) k)), some (.int (nI k))] [] := by
    refine jj_for (H - 1) _ ?_ (fun k hk ih => ?_)
    · refine jr_iload_n hX dX3_openLegs_4 rfl ?_
      refine jr_aload_n hX dX3_openLegs_5 rfl ?_
      refine jr_ret (jr_runV hX hSt kM_X3_44 (c_X3_legs (jj_fl hX) hly hw hH hH2) rfl rfl (ly_kR hly (by first | assumption | omega)) ⟨_, _, rfl, by decide⟩ dX3_openLegs_6 rfl ⟨jj_b1 rfl, jj_b1 rfl⟩ rfl) ?_
      refine jr_icmp_ge (tgt := 29) hX dX3_openLegs_9 (by decide) (fun c_9 => ?_) (fun c_9 => absurd (nI_le (Nat.le_refl _) (by omega)) c_9)
      refine jr_iload_n hX dX3_openLegs_29 rfl ?_
      exact jr_iret hX dX3_openLegs_30 rfl rfl ⟨rfl, rfl, rfl, rfl, rfl, rfl⟩
    · refine jr_iload_n hX dX3_openLegs_4 rfl ?_
      refine jr_aload_n hX dX3_openLegs_5 rfl ?_
      refine jr_ret (jr_runV hX hSt kM_X3_44 (c_X3_legs (jj_fl hX) hly hw hH hH2) rfl rfl (ly_kR hly (by first | assumption | omega)) ⟨_, _, rfl, by decide⟩ dX3_openLegs_6 rfl ⟨jj_b1 rfl, jj_b1 rfl⟩ rfl) ?_
      refine jr_icmp_ge (tgt := 29) hX dX3_openLegs_9 (by decide) (fun c_9 => absurd c_9 (nI_ge (by assumption) (by omega))) (fun c_9 => ?_)
      refine jr_aload_n hX dX3_openLegs_12 rfl ?_
      refine jr_iload_n hX dX3_openLegs_13 rfl ?_
      refine jr_ret (jr_runV hX hSt kM_X3_48 (c_X3_isOpen (jj_fl hX) hly hw rfl (by omega)) rfl rfl (ly_kR hly (by first | assumption | omega)) ⟨_, _, rfl, by decide⟩ dX3_openLegs_14 rfl ⟨jj_b1 rfl, jj_b1 rfl⟩ rfl) ?_
      refine jr_if_eq (tgt := 23) hX dX3_openLegs_17 (by decide) (fun c_17 => ?_) (fun c_17 => ?_)
      · refine jr_iinc hX dX3_openLegs_23 rfl (by first | with_reducible exact jj_inc _ | with_reducible exact jj_inc1 _) rfl ?_
        refine jr_goto (tgt := 4) hX dX3_openLegs_26 (by decide) ?_
        rw [sm_0 (show q_ol w I k = 0 from c_17)] at ih
        exact ih
      · refine jr_iinc hX dX3_openLegs_20 rfl (by first | with_reducible exact jj_inc _ | with_reducible exact jj_inc1 _) rfl ?_
        refine jr_iinc hX dX3_openLegs_23 rfl (by first | with_reducible exact jj_inc _ | with_reducible exact jj_inc1 _) rfl ?_
        refine jr_goto (tgt := 4) hX dX3_openLegs_26 (by decide) ?_
        rw [sm_1 (show q_ol w I k = 1 from (by unfold q_ol at c_17 ⊢; by_cases h : I (aIc w) k ≤ 10; exact if_pos h; exact absurd (if_neg h) c_17))] at ih
        exact ih
  exact hloop 0 (Nat.zero_le _)
set_option maxHeartbeats 4000000 in
set_option maxRecDepth 100000 in
theorem c_X3_warmOn {l : Launch} (hfl : l.stackTraces = false) {D : jj_D} {n : Nat} {K : jj_K} {I : jj_I} {P : jj_P} {G : jj_G} (hly : ly K P) {w d : Nat} (hw : w < 2) (hd : d < 2147483648) :
    jj_Met l D yX3_warmOn (jj_ws yX3_warmOn cX3_warmOn 2 (some .int)) { frames := 1, cells := 0, slots := 0, locals := 22 } [.ref (aR w), .int (nI d)] n K I P G (jj_R (some (.int (I (aWm w) (d % 40)))) (n) (K) (I) (P) (G)) jj_noX := by
  refine jj_of hfl (by decide +kernel) [some (.ref (aR w)), some (.int (nI d))] rfl rfl ?_
  intro X hXl hX hSt
  refine jr_aload_n hX dX3_warmOn_0 rfl ?_
  refine jr_getr hX kF_X3_9 rfl (ly_kR hly (by first | assumption | omega)) (ly_p3_2 hly (by first | assumption | omega)) dX3_warmOn_1 ?_
  refine jr_iload_n hX dX3_warmOn_4 rfl ?_
  refine jr_bipush (v := 40) hX dX3_warmOn_5 (by decide) ?_
  refine jr_ret (jr_runS hX hSt kM_X3_55 (c_fmod (jj_fl hX) (m := 40) hd (by omega)) rfl rfl dX3_warmOn_7 rfl ⟨jj_b1 rfl, jj_b1 rfl⟩ rfl) ?_
  refine jr_iald hX (by first | with_reducible assumption | with_reducible exact ly_kWm hly (by first | assumption | omega) | with_reducible exact ly_kLd hly (by first | assumption | omega) | with_reducible exact ly_kIc hly (by first | assumption | omega) | with_reducible exact ly_kBe hly (by first | assumption | omega) | with_reducible exact ly_kPr hly (by first | assumption | omega) | with_reducible exact ly_kMt hly (by first | assumption | omega) (by first | assumption | omega) | with_reducible exact ly_kBc hly (by first | assumption | omega) (by first | assumption | omega) | with_reducible exact ly_kAh hly (by first | assumption | omega)) (by first | with_reducible rfl | with_reducible assumption | rfl) (by omega) dX3_warmOn_10 ?_
  exact jr_iret hX dX3_warmOn_11 rfl rfl ⟨rfl, rfl, rfl, rfl, rfl, rfl⟩
set_option maxHeartbeats 4000000 in
set_option maxRecDepth 100000 in
theorem c_X3_daysOver {l : Launch} (hfl : l.stackTraces = false) {D : jj_D} {n : Nat} {K : jj_K} {I : jj_I} {P : jj_P} {G : jj_G} (hly : ly K P) {w j : Nat} {x dn : Int32} (hw : w < 2) (hx : x = nI j) (hj : j < 7) :
    jj_Met l D yX3_daysOver (jj_ws yX3_daysOver cX3_daysOver 3 (some .int)) { frames := 0, cells := 0, slots := 0, locals := 0 } [.ref (aR w), .int x, .int dn] n K I P G (jj_R (some (.int (f_do w j dn I))) (n) (K) (I) (P) (G)) jj_noX := by
  refine jj_of hfl (by decide +kernel) [some (.ref (aR w)), some (.int x), some (.int dn)] rfl rfl ?_
  intro X hXl hX hSt
  refine jr_iload_n hX dX3_daysOver_0 rfl ?_
  refine jr_if_eq (tgt := 13) hX dX3_daysOver_1 (by decide) (fun c_1 => ?_) (fun c_1 => ?_)
  · refine jr_iconst (v := 2) hX dX3_daysOver_13 (by decide) ?_
    refine jr_aload_n hX dX3_daysOver_14 rfl ?_
    refine jr_getr hX kF_X3_15 rfl (ly_kR hly (by first | assumption | omega)) (ly_p3_3 hly (by first | assumption | omega)) dX3_daysOver_15 ?_
    refine jr_iload_n hX dX3_daysOver_18 rfl ?_
    refine jr_iald hX (by first | with_reducible assumption | with_reducible exact ly_kWm hly (by first | assumption | omega) | with_reducible exact ly_kLd hly (by first | assumption | omega) | with_reducible exact ly_kIc hly (by first | assumption | omega) | with_reducible exact ly_kBe hly (by first | assumption | omega) | with_reducible exact ly_kPr hly (by first | assumption | omega) | with_reducible exact ly_kMt hly (by first | assumption | omega) (by first | assumption | omega) | with_reducible exact ly_kBc hly (by first | assumption | omega) (by first | assumption | omega) | with_reducible exact ly_kAh hly (by first | assumption | omega)) (by first | with_reducible rfl | with_reducible assumption | rfl) (by omega) dX3_daysOver_19 ?_
    refine jr_imul hX dX3_daysOver_20 ?_
    exact jr_iret hX dX3_daysOver_21 rfl rfl ⟨jj_ri (by simp only [f_do, if_pos c_1]), rfl, rfl, rfl, rfl, rfl⟩
  · refine jr_aload_n hX dX3_daysOver_4 rfl ?_
    refine jr_getr hX kF_X3_15 rfl (ly_kR hly (by first | assumption | omega)) (ly_p3_3 hly (by first | assumption | omega)) dX3_daysOver_5 ?_
    refine jr_iload_n hX dX3_daysOver_8 rfl ?_
    refine jr_iald hX (by first | with_reducible assumption | with_reducible exact ly_kWm hly (by first | assumption | omega) | with_reducible exact ly_kLd hly (by first | assumption | omega) | with_reducible exact ly_kIc hly (by first | assumption | omega) | with_reducible exact ly_kBe hly (by first | assumption | omega) | with_reducible exact ly_kPr hly (by first | assumption | omega) | with_reducible exact ly_kMt hly (by first | assumption | omega) (by first | assumption | omega) | with_reducible exact ly_kBc hly (by first | assumption | omega) (by first | assumption | omega) | with_reducible exact ly_kAh hly (by first | assumption | omega)) (by first | with_reducible rfl | with_reducible assumption | rfl) (by omega) dX3_daysOver_9 ?_
    refine jr_goto (tgt := 21) hX dX3_daysOver_10 (by decide) ?_
    exact jr_iret hX dX3_daysOver_21 rfl rfl ⟨jj_ri (by simp only [f_do, if_neg c_1]), rfl, rfl, rfl, rfl, rfl⟩
set_option maxHeartbeats 4000000 in
set_option maxRecDepth 100000 in
theorem c_X3_iceAtHarbour {l : Launch} (hfl : l.stackTraces = false) {D : jj_D} {n : Nat} {K : jj_K} {I : jj_I} {P : jj_P} {G : jj_G} (hly : ly K P) {w H h : Nat} {x : Int32} (hw : w < 2) (hH : I (aR w) 1 = nI H) (hH2 : H ≤ 8) (hx : x = nI h) (hh : h < H) :
    jj_Met l D yX3_iceAtHarbour (jj_ws yX3_iceAtHarbour cX3_iceAtHarbour 3 (some .int)) { frames := 2, cells := 0, slots := 0, locals := 41 } [.ref (aR w), .int x] n K I P G (jj_R (some (.int (f_ia w h H I))) (n) (K) (I) (P) (G)) jj_noX := by
  refine jj_of hfl (by decide +kernel) [some (.ref (aR w)), some (.int x), none] rfl rfl ?_
  intro X hXl hX hSt
  subst hx
  have e0 : nI (H - 1) - 1 = if H ≤ 1 then -1 else nI (H - 2) := by
    split
    · rw [show H - 1 = 0 by omega]; decide
    · rw [show H - 1 = H - 2 + 1 by omega, nI_pred]
  refine jr_iload_n hX dX3_iceAtHarbour_0 rfl ?_
  refine jr_aload_n hX dX3_iceAtHarbour_1 rfl ?_
  refine jr_ret (jr_runV hX hSt kM_X3_44 (c_X3_legs (jj_fl hX) hly hw hH hH2) rfl rfl (ly_kR hly (by first | assumption | omega)) ⟨_, _, rfl, by decide⟩ dX3_iceAtHarbour_2 rfl ⟨jj_b1 rfl, jj_b1 rfl⟩ rfl) ?_
  refine jr_iconst (v := 1) hX dX3_iceAtHarbour_5 (by decide) ?_
  refine jr_isub hX dX3_iceAtHarbour_6 ?_
  rw [e0]
  refine jr_mmin hX kM_X3_52 dX3_iceAtHarbour_7 rfl ⟨jj_b1 rfl, jj_b1 rfl⟩ ?_
  by_cases hH1 : H ≤ 1
  · rw [if_pos hH1, if_pos (show (-1 : Int32) < nI h from (by rw [Int32.lt_iff_toInt_lt, nI_toInt (by omega)]; show (-1 : Int) < _; omega))]
    refine jr_istore_n hX dX3_iceAtHarbour_10 rfl ?_
    refine jr_iload_n hX dX3_iceAtHarbour_11 rfl ?_
    refine jr_if_ge (tgt := 19) hX dX3_iceAtHarbour_12 (by decide) (fun c => absurd c (by decide)) (fun _ => ?_)
    refine jr_iconst (v := 0) hX dX3_iceAtHarbour_15 (by decide) ?_
    refine jr_goto (tgt := 25) hX dX3_iceAtHarbour_16 (by decide) ?_
    exact jr_iret hX dX3_iceAtHarbour_25 rfl rfl ⟨jj_ri (by simp only [f_ia, if_pos hH1]), rfl, rfl, rfl, rfl, rfl⟩
  rw [if_neg hH1, jl_min h (H - 2) (by omega) (by omega)]
  have hlt : (if H - 2 < h then H - 2 else h) = if h < H - 2 then h else H - 2 := by split <;> split <;> omega
  rw [hlt]
  have hlt2 : (if h < H - 2 then h else H - 2) < 7 := by split <;> omega
  refine jr_istore_n hX dX3_iceAtHarbour_10 rfl ?_
  refine jr_iload_n hX dX3_iceAtHarbour_11 rfl ?_
  refine jr_if_ge (tgt := 19) hX dX3_iceAtHarbour_12 (by decide) (fun c_12 => ?_) (fun c_12 => absurd (nI_pos' (by omega)) c_12)
  refine jr_aload_n hX dX3_iceAtHarbour_19 rfl ?_
  refine jr_getr hX kF_X3_18 rfl (ly_kR hly (by first | assumption | omega)) (ly_p3_4 hly (by first | assumption | omega)) dX3_iceAtHarbour_20 ?_
  refine jr_iload_n hX dX3_iceAtHarbour_23 rfl ?_
  refine jr_iald hX (by first | with_reducible assumption | with_reducible exact ly_kWm hly (by first | assumption | omega) | with_reducible exact ly_kLd hly (by first | assumption | omega) | with_reducible exact ly_kIc hly (by first | assumption | omega) | with_reducible exact ly_kBe hly (by first | assumption | omega) | with_reducible exact ly_kPr hly (by first | assumption | omega) | with_reducible exact ly_kMt hly (by first | assumption | omega) (by first | assumption | omega) | with_reducible exact ly_kBc hly (by first | assumption | omega) (by first | assumption | omega) | with_reducible exact ly_kAh hly (by first | assumption | omega)) (by first | with_reducible rfl | with_reducible assumption | rfl) (by omega) dX3_iceAtHarbour_24 ?_
  exact jr_iret hX dX3_iceAtHarbour_25 rfl rfl ⟨jj_ri (by simp only [f_ia, if_neg hH1]), rfl, rfl, rfl, rfl, rfl⟩
set_option maxHeartbeats 4000000 in
set_option maxRecDepth 100000 in
theorem c_X3_freezeOrThaw {l : Launch} (hfl : l.stackTraces = false) {D : jj_D} {n : Nat} {K : jj_K} {I : jj_I} {P : jj_P} {G : jj_G} (hly : ly K P) {w H d : Nat} (hw : w < 2) (hH : I (aR w) 1 = nI H) (hH2 : H ≤ 8) (hd : I (aR w) 0 = nI d) (hd2 : d < 2147483648) :
    jj_Met l D yX3_freezeOrThaw (jj_ws yX3_freezeOrThaw cX3_freezeOrThaw 3 none) { frames := 2, cells := 0, slots := 0, locals := 43 } [.ref (aR w)] n K I P G (jj_R (none) (n) (K) (f_fr w H d I) (P) (G)) jj_noX := by
  refine jj_of hfl (by decide +kernel) [some (.ref (aR w)), none, none] rfl rfl ?_
  intro X hXl hX hSt
  have hfix : ∀ k a, a ≠ aIc w → it (fun l J => jj_u J (aIc w) l (f_ib (J (aIc w) l) (I (aWm w) (d % 40)))) I k a = I a := by
    intro k a ha
    induction k with
    | zero => rfl
    | succ k ih => exact (jj_u_ne ha).trans ih
  have hIR : aR w ≠ aIc w := by unfold aR aIc; omega
  refine jr_aload_n hX dX3_freezeOrThaw_0 rfl ?_
  refine jr_aload_n hX dX3_freezeOrThaw_1 rfl ?_
  refine jr_geti hX kF_X3_27 rfl (ly_kR hly (by first | assumption | omega)) dX3_freezeOrThaw_2 ?_
  rw [hd]
  refine jr_ret (jr_runV hX hSt kM_X3_58 (c_X3_warmOn (jj_fl hX) hly hw hd2) rfl rfl (ly_kR hly (by first | assumption | omega)) ⟨_, _, rfl, by decide⟩ dX3_freezeOrThaw_5 rfl ⟨jj_b1 rfl, jj_b1 rfl⟩ rfl) ?_
  refine jr_istore_n hX dX3_freezeOrThaw_8 rfl ?_
  refine jr_iconst (v := 0) hX dX3_freezeOrThaw_9 (by decide) ?_
  refine jr_istore_n hX dX3_freezeOrThaw_10 rfl ?_
  have hloop : ∀ k, k ≤ H - 1 → jj_J X D 3 0 0 (jj_MQ X D { frames := 2, cells := 0, slots := 0, locals := 43 } (jj_R (none) (n) (K) (f_fr w H d I) (P) (G)) jj_noX) (n) (K) (it (fun l J => jj_u J (aIc w) l (f_ib (J (aIc w) l) (I (aWm w) (d % 40)))) I k) (P) (G) 11 [some (.ref (aR w)), some (.int (I (aWm w) (d % 40))), some (.int (nI k))] [] := by
    refine jj_for (H - 1) _ ?_ (fun k hk ih => ?_)
    · refine jr_iload_n hX dX3_freezeOrThaw_11 rfl ?_
      refine jr_aload_n hX dX3_freezeOrThaw_12 rfl ?_
      refine jr_ret (jr_runV hX hSt kM_X3_44 (c_X3_legs (jj_fl hX) hly hw (by rw [hfix _ _ hIR]; exact hH) hH2) rfl rfl (ly_kR hly (by first | assumption | omega)) ⟨_, _, rfl, by decide⟩ dX3_freezeOrThaw_13 rfl ⟨jj_b1 rfl, jj_b1 rfl⟩ rfl) ?_
      refine jr_icmp_ge (tgt := 41) hX dX3_freezeOrThaw_16 (by decide) (fun c_16 => ?_) (fun c_16 => absurd (nI_le (Nat.le_refl _) (by omega)) c_16)
      exact jr_vret hX dX3_freezeOrThaw_41 rfl rfl ⟨rfl, rfl, rfl, rfl, rfl, rfl⟩
    · refine jr_iload_n hX dX3_freezeOrThaw_11 rfl ?_
      refine jr_aload_n hX dX3_freezeOrThaw_12 rfl ?_
      refine jr_ret (jr_runV hX hSt kM_X3_44 (c_X3_legs (jj_fl hX) hly hw (by rw [hfix _ _ hIR]; exact hH) hH2) rfl rfl (ly_kR hly (by first | assumption | omega)) ⟨_, _, rfl, by decide⟩ dX3_freezeOrThaw_13 rfl ⟨jj_b1 rfl, jj_b1 rfl⟩ rfl) ?_
      refine jr_icmp_ge (tgt := 41) hX dX3_freezeOrThaw_16 (by decide) (fun c_16 => absurd c_16 (nI_ge (by assumption) (by omega))) (fun c_16 => ?_)
      refine jr_aload_n hX dX3_freezeOrThaw_19 rfl ?_
      refine jr_getr hX kF_X3_18 rfl (ly_kR hly (by first | assumption | omega)) (ly_p3_4 hly (by first | assumption | omega)) dX3_freezeOrThaw_20 ?_
      refine jr_iload_n hX dX3_freezeOrThaw_23 rfl ?_
      refine jr_aload_n hX dX3_freezeOrThaw_24 rfl ?_
      refine jr_getr hX kF_X3_18 rfl (ly_kR hly (by first | assumption | omega)) (ly_p3_4 hly (by first | assumption | omega)) dX3_freezeOrThaw_25 ?_
      refine jr_iload_n hX dX3_freezeOrThaw_28 rfl ?_
      refine jr_iald hX (by first | with_reducible assumption | with_reducible exact ly_kWm hly (by first | assumption | omega) | with_reducible exact ly_kLd hly (by first | assumption | omega) | with_reducible exact ly_kIc hly (by first | assumption | omega) | with_reducible exact ly_kBe hly (by first | assumption | omega) | with_reducible exact ly_kPr hly (by first | assumption | omega) | with_reducible exact ly_kMt hly (by first | assumption | omega) (by first | assumption | omega) | with_reducible exact ly_kBc hly (by first | assumption | omega) (by first | assumption | omega) | with_reducible exact ly_kAh hly (by first | assumption | omega)) (by first | with_reducible rfl | with_reducible assumption | rfl) (by omega) dX3_freezeOrThaw_29 ?_
      refine jr_iload_n hX dX3_freezeOrThaw_30 rfl ?_
      refine jr_ret (jr_runSN hX hSt kM_X3_62 (c_X5_iceBehind (jj_fl hX)) rfl rfl dX3_freezeOrThaw_31 rfl ⟨jj_b1 rfl, jj_b1 rfl⟩ rfl) ?_
      refine jr_iast hX (by first | with_reducible assumption | with_reducible exact ly_kWm hly (by first | assumption | omega) | with_reducible exact ly_kLd hly (by first | assumption | omega) | with_reducible exact ly_kIc hly (by first | assumption | omega) | with_reducible exact ly_kBe hly (by first | assumption | omega) | with_reducible exact ly_kPr hly (by first | assumption | omega) | with_reducible exact ly_kMt hly (by first | assumption | omega) (by first | assumption | omega) | with_reducible exact ly_kBc hly (by first | assumption | omega) (by first | assumption | omega) | with_reducible exact ly_kAh hly (by first | assumption | omega)) (by first | assumption | with_reducible exact aMt_0 | with_reducible exact aBc_0 | with_reducible exact aWm_0 | with_reducible exact aLd_0 | with_reducible exact aIc_0 | with_reducible exact aBe_0 | with_reducible exact aPr_0 | with_reducible exact aAh_0 | decide | omega) (by first | with_reducible rfl | with_reducible assumption | rfl) (by omega) dX3_freezeOrThaw_34 ?_
      refine jr_iinc hX dX3_freezeOrThaw_35 rfl (by first | with_reducible exact jj_inc _ | with_reducible exact jj_inc1 _) rfl ?_
      refine jr_goto (tgt := 11) hX dX3_freezeOrThaw_38 (by decide) ?_
      exact ih
  exact hloop 0 (Nat.zero_le _)
set_option maxHeartbeats 4000000 in
set_option maxRecDepth 100000 in
theorem c_X3_wayDays {l : Launch} (hfl : l.stackTraces = false) {D : jj_D} {n : Nat} {K : jj_K} {I : jj_I} {P : jj_P} {G : jj_G} (hly : ly K P) {w a b : Nat} (hw : w < 2) (ha : a < 8) (hb : b < 8) :
    jj_Met l D yX3_wayDays (jj_ws yX3_wayDays cX3_wayDays 5 (some .int)) { frames := 1, cells := 0, slots := 0, locals := 22 } [.ref (aR w), .int (nI a), .int (nI b)] n K I P G (jj_R (some (.int (f_wd w a b I))) (n) (K) (I) (P) (G)) jj_noX := by
  refine jj_of hfl (by decide +kernel) [some (.ref (aR w)), some (.int (nI a)), some (.int (nI b)), none, none] rfl rfl ?_
  intro X hXl hX hSt
  refine jr_iconst (v := 0) hX dX3_wayDays_0 (by decide) ?_
  refine jr_istore_n hX dX3_wayDays_1 rfl ?_
  refine jr_iload_n hX dX3_wayDays_2 rfl ?_
  refine jr_istore hX dX3_wayDays_3 rfl ?_
  have hloop : ∀ k, k ≤ b - a → jj_J X D 5 0 0 (jj_MQ X D { frames := 1, cells := 0, slots := 0, locals := 22 } (jj_R (some (.int (f_wd w a b I))) (n) (K) (I) (P) (G)) jj_noX) (n) (K) (I) (P) (G) 5 [some (.ref (aR w)), some (.int (nI a)), some (.int (nI b)), some (.int (sx 0 (fun j => I (aLd w) (a + j)) k)), some (.int (nI (a + k)))] [] := by
    refine jj_for (b - a) _ ?_ (fun k hk ih => ?_)
    · refine jr_iload hX dX3_wayDays_5 rfl ?_
      refine jr_iload_n hX dX3_wayDays_7 rfl ?_
      refine jr_icmp_ge (tgt := 27) hX dX3_wayDays_8 (by decide) (fun c_8 => ?_) (fun c_8 => absurd (nI_le (by omega) (by omega)) c_8)
      refine jr_iload_n hX dX3_wayDays_27 rfl ?_
      refine jr_istore hX dX3_wayDays_28 rfl ?_
      have hloop2 : ∀ j, j ≤ a - b → jj_J X D 5 0 0 (jj_MQ X D { frames := 1, cells := 0, slots := 0, locals := 22 } (jj_R (some (.int (f_wd w a b I))) (n) (K) (I) (P) (G)) jj_noX) (n) (K) (I) (P) (G) 30 [some (.ref (aR w)), some (.int (nI a)), some (.int (nI b)), some (.int (sx (sx 0 (fun j => I (aLd w) (a + j)) (b - a)) (fun j => 2 * I (aLd w) (b + j)) j)), some (.int (nI (b + j)))] [] := by
        refine jj_for (a - b) _ ?_ (fun j hj ih => ?_)
        · refine jr_iload hX dX3_wayDays_30 rfl ?_
          refine jr_iload_n hX dX3_wayDays_32 rfl ?_
          refine jr_icmp_ge (tgt := 52) hX dX3_wayDays_33 (by decide) (fun c_33 => ?_) (fun c_33 => absurd (nI_le (by omega) (by omega)) c_33)
          refine jr_iload_n hX dX3_wayDays_52 rfl ?_
          exact jr_iret hX dX3_wayDays_53 rfl rfl ⟨rfl, rfl, rfl, rfl, rfl, rfl⟩
        · refine jr_iload hX dX3_wayDays_30 rfl ?_
          refine jr_iload_n hX dX3_wayDays_32 rfl ?_
          refine jr_icmp_ge (tgt := 52) hX dX3_wayDays_33 (by decide) (fun c_33 => absurd c_33 (nI_ge (by omega) (by omega))) (fun c_33 => ?_)
          refine jr_iload_n hX dX3_wayDays_36 rfl ?_
          refine jr_aload_n hX dX3_wayDays_37 rfl ?_
          refine jr_iload hX dX3_wayDays_38 rfl ?_
          refine jr_iconst (v := 0) hX dX3_wayDays_40 (by decide) ?_
          refine jr_ret (jr_runV hX hSt kM_X3_65 (c_X3_daysOver (jj_fl hX) hly hw rfl (by omega)) rfl rfl (ly_kR hly (by first | assumption | omega)) ⟨_, _, rfl, by decide⟩ dX3_wayDays_41 rfl ⟨jj_b1 rfl, jj_b1 rfl⟩ rfl) ?_
          refine jr_iadd hX dX3_wayDays_44 ?_
          refine jr_istore_n hX dX3_wayDays_45 rfl ?_
          refine jr_iinc hX dX3_wayDays_46 rfl (by first | with_reducible exact jj_inc _ | with_reducible exact jj_inc1 _) rfl ?_
          refine jr_goto (tgt := 30) hX dX3_wayDays_49 (by decide) ?_
          exact ih
      exact hloop2 0 (Nat.zero_le _)
    · refine jr_iload hX dX3_wayDays_5 rfl ?_
      refine jr_iload_n hX dX3_wayDays_7 rfl ?_
      refine jr_icmp_ge (tgt := 27) hX dX3_wayDays_8 (by decide) (fun c_8 => absurd c_8 (nI_ge (by omega) (by omega))) (fun c_8 => ?_)
      refine jr_iload_n hX dX3_wayDays_11 rfl ?_
      refine jr_aload_n hX dX3_wayDays_12 rfl ?_
      refine jr_iload hX dX3_wayDays_13 rfl ?_
      refine jr_iconst (v := 1) hX dX3_wayDays_15 (by decide) ?_
      refine jr_ret (jr_runV hX hSt kM_X3_65 (c_X3_daysOver (jj_fl hX) hly hw rfl (by omega)) rfl rfl (ly_kR hly (by first | assumption | omega)) ⟨_, _, rfl, by decide⟩ dX3_wayDays_16 rfl ⟨jj_b1 rfl, jj_b1 rfl⟩ rfl) ?_
      refine jr_iadd hX dX3_wayDays_19 ?_
      refine jr_istore_n hX dX3_wayDays_20 rfl ?_
      refine jr_iinc hX dX3_wayDays_21 rfl (by first | with_reducible exact jj_inc _ | with_reducible exact jj_inc1 _) rfl ?_
      refine jr_goto (tgt := 5) hX dX3_wayDays_24 (by decide) ?_
      exact ih
  exact hloop 0 (Nat.zero_le _)
set_option maxHeartbeats 4000000 in
set_option maxRecDepth 100000 in
theorem c_X3_grow {l : Launch} (hfl : l.stackTraces = false) {D : jj_D} {n : Nat} {K : jj_K} {I : jj_I} {P : jj_P} {G : jj_G} (hly : ly K P) {w H : Nat} {leg be : Int32} (hw : w < 2) (hH : I (aR w) 1 = nI H) (hH2 : H < 8) :
    jj_Met l D yX3_grow (jj_ws yX3_grow cX3_grow 4 (some .int)) { frames := 0, cells := 0, slots := 0, locals := 0 } [.ref (aR w), .int leg, .int be] n K I P G (jj_R (some (.int (nI H))) (n) (K) (f_gr w H leg be I) (P) (G)) jj_noX := by
  refine jj_of hfl (by decide +kernel) [some (.ref (aR w)), some (.int leg), some (.int be), none] rfl rfl ?_
  intro X hXl hX hSt
  refine jr_aload_n hX dX3_grow_0 rfl ?_
  refine jr_geti hX kF_X3_31 rfl (ly_kR hly (by first | assumption | omega)) dX3_grow_1 ?_
  rw [hH]
  refine jr_istore_n hX dX3_grow_4 rfl ?_
  refine jr_iload_n hX dX3_grow_5 rfl ?_
  refine jr_if_le (tgt := 18) hX dX3_grow_6 (by decide) (fun c_6 => ?_) (fun c_6 => ?_)
  · refine jr_aload_n hX dX3_grow_18 rfl ?_
    refine jr_getr hX kF_X3_21 rfl (ly_kR hly (by first | assumption | omega)) (ly_p3_5 hly (by first | assumption | omega)) dX3_grow_19 ?_
    refine jr_iload_n hX dX3_grow_22 rfl ?_
    refine jr_iload_n hX dX3_grow_23 rfl ?_
    refine jr_iast hX (by first | with_reducible assumption | with_reducible exact ly_kWm hly (by first | assumption | omega) | with_reducible exact ly_kLd hly (by first | assumption | omega) | with_reducible exact ly_kIc hly (by first | assumption | omega) | with_reducible exact ly_kBe hly (by first | assumption | omega) | with_reducible exact ly_kPr hly (by first | assumption | omega) | with_reducible exact ly_kMt hly (by first | assumption | omega) (by first | assumption | omega) | with_reducible exact ly_kBc hly (by first | assumption | omega) (by first | assumption | omega) | with_reducible exact ly_kAh hly (by first | assumption | omega)) (by first | assumption | with_reducible exact aMt_0 | with_reducible exact aBc_0 | with_reducible exact aWm_0 | with_reducible exact aLd_0 | with_reducible exact aIc_0 | with_reducible exact aBe_0 | with_reducible exact aPr_0 | with_reducible exact aAh_0 | decide | omega) (by first | with_reducible rfl | with_reducible assumption | rfl) (by omega) dX3_grow_24 ?_
    refine jr_aload_n hX dX3_grow_25 rfl ?_
    refine jr_iload_n hX dX3_grow_26 rfl ?_
    refine jr_iconst (v := 1) hX dX3_grow_27 (by decide) ?_
    refine jr_iadd hX dX3_grow_28 ?_
    rw [nI_1]
    refine jr_puti hX kF_X3_31 rfl (ly_kR hly (by first | assumption | omega)) aR_0 dX3_grow_29 ?_
    refine jr_iload_n hX dX3_grow_32 rfl ?_
    exact jr_iret hX dX3_grow_33 rfl rfl ⟨rfl, rfl, rfl, by simp only [f_gr, if_neg (show ¬ 0 < H from fun h => absurd c_6 (by rw [Int32.not_le, ← nI_0]; exact nI_lt h (by omega)))], rfl, rfl⟩
  · refine jr_aload_n hX dX3_grow_9 rfl ?_
    refine jr_getr hX kF_X3_15 rfl (ly_kR hly (by first | assumption | omega)) (ly_p3_3 hly (by first | assumption | omega)) dX3_grow_10 ?_
    refine jr_iload_n hX dX3_grow_13 rfl ?_
    refine jr_iconst (v := 1) hX dX3_grow_14 (by decide) ?_
    refine jr_isub hX dX3_grow_15 ?_
    rw [show nI H - 1 = nI (H - 1) from (by cases H; exact absurd c_6 (by decide); rw [nI_pred]; rfl)]
    refine jr_iload_n hX dX3_grow_16 rfl ?_
    refine jr_iast hX (by first | with_reducible assumption | with_reducible exact ly_kWm hly (by first | assumption | omega) | with_reducible exact ly_kLd hly (by first | assumption | omega) | with_reducible exact ly_kIc hly (by first | assumption | omega) | with_reducible exact ly_kBe hly (by first | assumption | omega) | with_reducible exact ly_kPr hly (by first | assumption | omega) | with_reducible exact ly_kMt hly (by first | assumption | omega) (by first | assumption | omega) | with_reducible exact ly_kBc hly (by first | assumption | omega) (by first | assumption | omega) | with_reducible exact ly_kAh hly (by first | assumption | omega)) (by first | assumption | with_reducible exact aMt_0 | with_reducible exact aBc_0 | with_reducible exact aWm_0 | with_reducible exact aLd_0 | with_reducible exact aIc_0 | with_reducible exact aBe_0 | with_reducible exact aPr_0 | with_reducible exact aAh_0 | decide | omega) (by first | with_reducible rfl | with_reducible assumption | rfl) (by omega) dX3_grow_17 ?_
    refine jr_aload_n hX dX3_grow_18 rfl ?_
    refine jr_getr hX kF_X3_21 rfl (ly_kR hly (by first | assumption | omega)) (ly_p3_5 hly (by first | assumption | omega)) dX3_grow_19 ?_
    refine jr_iload_n hX dX3_grow_22 rfl ?_
    refine jr_iload_n hX dX3_grow_23 rfl ?_
    refine jr_iast hX (by first | with_reducible assumption | with_reducible exact ly_kWm hly (by first | assumption | omega) | with_reducible exact ly_kLd hly (by first | assumption | omega) | with_reducible exact ly_kIc hly (by first | assumption | omega) | with_reducible exact ly_kBe hly (by first | assumption | omega) | with_reducible exact ly_kPr hly (by first | assumption | omega) | with_reducible exact ly_kMt hly (by first | assumption | omega) (by first | assumption | omega) | with_reducible exact ly_kBc hly (by first | assumption | omega) (by first | assumption | omega) | with_reducible exact ly_kAh hly (by first | assumption | omega)) (by first | assumption | with_reducible exact aMt_0 | with_reducible exact aBc_0 | with_reducible exact aWm_0 | with_reducible exact aLd_0 | with_reducible exact aIc_0 | with_reducible exact aBe_0 | with_reducible exact aPr_0 | with_reducible exact aAh_0 | decide | omega) (by first | with_reducible rfl | with_reducible assumption | rfl) (by omega) dX3_grow_24 ?_
    refine jr_aload_n hX dX3_grow_25 rfl ?_
    refine jr_iload_n hX dX3_grow_26 rfl ?_
    refine jr_iconst (v := 1) hX dX3_grow_27 (by decide) ?_
    refine jr_iadd hX dX3_grow_28 ?_
    rw [nI_1]
    refine jr_puti hX kF_X3_31 rfl (ly_kR hly (by first | assumption | omega)) aR_0 dX3_grow_29 ?_
    refine jr_iload_n hX dX3_grow_32 rfl ?_
    exact jr_iret hX dX3_grow_33 rfl rfl ⟨rfl, rfl, rfl, by simp only [f_gr, if_pos (show 0 < H from Nat.pos_of_ne_zero (fun h => c_6 (by rw [h]; decide)))], rfl, rfl⟩
