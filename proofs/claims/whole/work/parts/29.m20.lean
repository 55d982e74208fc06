/-! the model's calls that change things -/
theorem mz_cg {M : Nat} {C C' I I' : jj_I} (h : mz M C I) (e1 : ∀ m, M ≤ m → m < 5 → I' 156 m = I 156 m) (e2 : ∀ m k, M ≤ m → m < 5 → k < 32 → I' 157 (32 * m + k) = I 157 (32 * m + k)) (e3 : ∀ m, M ≤ m → m < 5 → C' (aMt 0 m) = C (aMt 0 m)) : mz M C' I' := fun m h1 h2 => by
  obtain ⟨a, b⟩ := h m h1 h2
  exact ⟨(e1 m h1 h2).trans a, fun k hk => ⟨(e2 m k h1 h2 hk).trans (b k hk).1, by rw [e3 m h1 h2]; exact (b k hk).2⟩⟩
section MU
variable {w H M B N : Nat} {C I : jj_I} {v x : Int32}
theorem ml_uH {H2 : Nat} (h : ml w H M B N C I) (z : mlZ M B N) : ml w H2 M B N (jj_u C (aR w) 1 (nI H2)) (jj_u I 150 2 (nI H2)) := by
  obtain ⟨z1, z2, z3⟩ := z
  obtain ⟨⟨n1, n2, n3, n4⟩, h0, h1, h2, h3, h4, h5, h6, h7, h8, h9⟩ := h
  refine ⟨⟨jj_u_eq, by rw [jj_u_nk (by decide)]; exact n2, by rw [jj_u_nk (by decide)]; exact n3, by rw [jj_u_nk (by decide)]; exact n4⟩, by rw [jj_u_ne (by decide), jj_u_nk (by decide)]; exact h0, fun q hq => ?_, fun q hq => ?_, fun q hq => ?_, fun q hq => ?_, fun q hq => ?_, fun m0 hm0 => ?_, fun m0 hm0 q hq => ?_, fun b0 hb0 => mlB_cg (jj_u_ne (by simp only [aB, aR]; omega)) (jj_u_ne (by simp only [aBc, aR]; omega)) (fun s _ _ => by rw [jj_u_ne (by decide)]) (h8 b0 hb0), fun d0 hd0 q hq => ?_⟩
  · rw [jj_u_ne (by decide), jj_u_ne (by simp only [aWm, aR]; omega)]; exact h1 q hq
  · rw [jj_u_ne (by decide), jj_u_ne (by simp only [aLd, aR]; omega)]; exact h2 q hq
  · rw [jj_u_ne (by decide), jj_u_ne (by simp only [aBe, aR]; omega)]; exact h3 q hq
  · rw [jj_u_ne (by decide), jj_u_ne (by simp only [aPr, aR]; omega)]; exact h4 q hq
  · rw [jj_u_ne (by decide), jj_u_ne (by simp only [aIc, aR]; omega)]; exact h5 q hq
  · rw [jj_u_ne (by decide), jj_u_ne (by simp only [aM, aR]; omega)]; exact h6 m0 hm0
  · rw [jj_u_ne (by decide), jj_u_ne (by simp only [aMt, aR]; omega)]; exact h7 m0 hm0 q hq
  · rw [jj_u_ne (by decide), jj_u_ne (by simp only [aD, aR]; omega)]; exact h9 d0 hd0 q hq
/-- a count of the world grows: what is new was so already -/
theorem ml_uW {M2 B2 N2 s s2 y : Nat} (h : ml w H M B N C I) (z : mlZ M2 B2 N2) (hw : ∀ a, a ≠ aW w → a ≠ aR w → True) (hN : mlN H M2 B2 N2 (jj_u I 150 s (nI y)))
    (hC : ∀ m, m < M2 → I 156 m = C (aM w m) 0 ∧ ∀ k, k < 32 → I 157 (32 * m + k) = C (aMt w m) k) (hB : ∀ b, b < B2 → mlB w C I b) (hD : ∀ d, d < N2 → ∀ k, k < 7 → I 159 (7 * d + k) = C (aD w d) k) : ml w H M2 B2 N2 (jj_u C (aW w) s2 (nI y)) (jj_u I 150 s (nI y)) := by
  obtain ⟨z1, z2, z3⟩ := z
  obtain ⟨-, h0, h1, h2, h3, h4, h5, -⟩ := h
  refine ⟨hN, by rw [jj_u_ne (by decide), jj_u_ne (by simp only [aR, aW]; omega)]; exact h0, fun q hq => ?_, fun q hq => ?_, fun q hq => ?_, fun q hq => ?_, fun q hq => ?_, fun m0 hm0 => ?_, fun m0 hm0 q hq => ?_, fun b0 hb0 => mlB_cg (jj_u_ne (by simp only [aB, aW]; omega)) (jj_u_ne (by simp only [aBc, aW]; omega)) (fun s _ _ => by rw [jj_u_ne (by decide)]) (hB b0 hb0), fun d0 hd0 q hq => ?_⟩
  · rw [jj_u_ne (by decide), jj_u_ne (by simp only [aWm, aW]; omega)]; exact h1 q hq
  · rw [jj_u_ne (by decide), jj_u_ne (by simp only [aLd, aW]; omega)]; exact h2 q hq
  · rw [jj_u_ne (by decide), jj_u_ne (by simp only [aBe, aW]; omega)]; exact h3 q hq
  · rw [jj_u_ne (by decide), jj_u_ne (by simp only [aPr, aW]; omega)]; exact h4 q hq
  · rw [jj_u_ne (by decide), jj_u_ne (by simp only [aIc, aW]; omega)]; exact h5 q hq
  · rw [jj_u_ne (by decide), jj_u_ne (by simp only [aM, aW]; omega)]; exact (hC m0 hm0).1
  · rw [jj_u_ne (by decide), jj_u_ne (by simp only [aMt, aW]; omega)]; exact (hC m0 hm0).2 q hq
  · rw [jj_u_ne (by decide), jj_u_ne (by simp only [aD, aW]; omega)]; exact hD d0 hd0 q hq
theorem ml_uM (h : ml 0 H M B N C I) (z : mlZ M B N) (hM : M < 5) (hz : mz M C I) : ml 0 H (M + 1) B N (jj_u (jj_u C (aM 0 M) 0 v) (aW 0) 1 (nI (M + 1))) (jj_u (jj_u I 156 M v) 150 6 (nI (M + 1))) := by
  have s1 := ml_uCoin (m := M) (v := v) h z hM
  refine ml_uW s1 ⟨by omega, z.2.1, z.2.2⟩ (fun _ _ _ => trivial) ⟨by rw [jj_u_nk (by decide)]; exact s1.1.1, jj_u_eq, by rw [jj_u_nk (by decide)]; exact s1.1.2.2.1, by rw [jj_u_nk (by decide)]; exact s1.1.2.2.2⟩ (fun m hm => ?_) (fun b hb => ml_hB s1 hb) (fun d hd k hk => ml_hDebt s1 hd hk)
  by_cases e : m = M
  · subst e
    refine ⟨by rw [jj_u_eq, jj_u_eq], fun k hk => ?_⟩
    obtain ⟨-, h2⟩ := hz m (Nat.le_refl _) hM
    rw [jj_u_ne (by decide), jj_u_ne (by simp only [aMt, aM]; omega), (h2 k hk).1, (h2 k hk).2]
  · exact ⟨ml_hCoin s1 (by omega), fun k hk => ml_hStock s1 (by omega) hk⟩
theorem mz_uM (hz : mz M C I) : mz (M + 1) (jj_u (jj_u C (aM 0 M) 0 v) (aW 0) 1 x) (jj_u (jj_u I 156 M v) 150 6 x) := fun m h1 h2 => by
  obtain ⟨a, b⟩ := hz m (by omega) h2
  rw [jj_u_ne (by decide), jj_u_nk (by omega), jj_u_ne (by decide), jj_u_ne (by decide), jj_u_ne (by simp only [aMt, aW]; omega), jj_u_ne (by simp only [aMt, aM]; omega)]
  exact ⟨a, b⟩
theorem fsell_eq {m c : Nat} {y : Int32} (hm : m < 5) : f_sell m c y C = jj_u (jj_u C (aMt 0 m) c (C (aMt 0 m) c - y)) (aM 0 m) 0 (C (aM 0 m) 0 + y * C (aPr 0) c) := by
  unfold f_sell
  try dsimp only
  rw [jj_u_ne (show aM 0 m ≠ aMt 0 m by simp only [aM, aMt]; omega), jj_u_ne (show aPr 0 ≠ aMt 0 m by simp only [aPr, aMt]; omega)]
theorem fmend_eq {b o : Nat} (eo : C (aB 0 b) 0 = nI o) (ho : o < 5) (hb : b < 10) : f_mend b C = jj_u (jj_u C (aM 0 o) 0 (C (aM 0 o) 0 - 3 * f_pts b C)) (aB 0 b) 1 (C (aB 0 b) 1 + f_pts b C) := by
  unfold f_mend
  try dsimp only
  rw [eo, nv_nI (by omega), jj_u_ne (show aB 0 b ≠ aM 0 o by simp only [aB, aM]; omega), Int32.mul_comm (f_pts b C) 3]
theorem fpts_eq {b o : Nat} (eo : C (aB 0 b) 0 = nI o) (ho : o < 5) : f_pts b C = if C (aM 0 o) 0 / 3 < 20 - C (aB 0 b) 1 then C (aM 0 o) 0 / 3 else 20 - C (aB 0 b) 1 := by
  unfold f_pts
  rw [eo, nv_nI (by omega)]
theorem sx_sm {f : Nat → Int32} : ∀ {n : Nat}, sx 0 f n = sm f n
  | 0 => rfl
  | n + 1 => by
    show sx 0 f n + f n = sm f n + f n
    rw [sx_sm]
theorem wy_eq {a b : Nat} (h : ml w H M B N C I) (ha : a < 8) (hb : b < 8) : m_wy a b I = f_wd w a b C := by
  unfold m_wy f_wd
  try dsimp only
  by_cases e : a < b
  · rw [if_pos e, if_pos e, show a - b = 0 by omega]
    show _ = sx 0 (fun j => C (aLd w) (a + j)) (b - a)
    rw [sx_sm]
    exact sm_congr (fun k hk => by rw [if_pos e, ml_hLeg h (by omega)])
  · rw [if_neg e, if_neg e, show b - a = 0 by omega]
    show _ = sx 0 (fun j => 2 * C (aLd w) (b + j)) (a - b)
    rw [sx_sm]
    exact sm_congr (fun k hk => by rw [if_neg e, ml_hLeg h (by omega)])
theorem jl_max (a b : Nat) (ha : a < 2 ^ 31) (hb : b < 2 ^ 31) : (if nI a < nI b then nI b else nI a) = nI (if a < b then b else a) := by
  by_cases h : a < b
  · rw [if_pos h, if_pos (nI_lt h (by omega))]
  · rw [if_neg h, if_neg (nI_nlt (by omega) (by omega))]
end MU
set_option maxHeartbeats 4000000 in
set_option maxRecDepth 100000 in
theorem c_way {l : Launch} (hfl : l.stackTraces = false) {D : jj_D} {n : Nat} {K : jj_K} {I : jj_I} {P : jj_P} {G : jj_G} (hly : ly K P) {a b : Nat} (ha : a < 8) (hb : b < 8) :
    jj_Met l D yX6_way (jj_ws yX6_way cX6_way 5 (some .int)) { frames := 1, cells := 0, slots := 0, locals := 21 } [.ref 150, .int (nI a), .int (nI b)] n K I P G (jj_R (some (.int (m_wy a b I))) (n) (K) (I) (P) (G)) jj_noX := by
  refine jj_of hfl (by decide +kernel) [some (.ref 150), some (.int (nI a)), some (.int (nI b)), none, none] rfl rfl ?_
  intro X hXl hX hSt
  have l1 : (if a < b then a else b) < 8 := by split <;> omega
  have l2 : (if a < b then b else a) < 8 := by split <;> omega
  have l3 : (if a < b then a else b) ≤ (if a < b then b else a) := by split <;> omega
  refine jr_iconst (v := 0) hX dX6_way_0 (by decide) ?_
  refine jr_istore_n hX dX6_way_1 rfl ?_
  refine jr_iload_n hX dX6_way_2 rfl ?_
  refine jr_iload_n hX dX6_way_3 rfl ?_
  refine jr_mmin hX kM_X6_68 dX6_way_4 rfl ⟨jj_b1 rfl, jj_b1 rfl⟩ ?_
  rw [jl_min a b (by omega) (by omega), show (if b < a then b else a) = (if a < b then a else b) by split <;> split <;> omega]
  refine jr_istore hX dX6_way_7 rfl ?_
  have hloop : ∀ k, k ≤ (if a < b then b else a) - (if a < b then a else b) → jj_J X D 5 0 0 (jj_MQ X D { frames := 1, cells := 0, slots := 0, locals := 21 } (jj_R (some (.int (m_wy a b I))) (n) (K) (I) (P) (G)) jj_noX) (n) (K) (I) (P) (G) 9 [some (.ref 150), some (.int (nI a)), some (.int (nI b)), some (.int (sm (fun j => if a < b then I 152 ((if a < b then a else b) + j) else 2 * I 152 ((if a < b then a else b) + j)) k)), some (.int (nI ((if a < b then a else b) + k)))] [] := by
    refine jj_for ((if a < b then b else a) - (if a < b then a else b)) _ ?_ (fun k hk ih => ?_)
    · refine jr_iload hX dX6_way_9 rfl ?_
      refine jr_iload_n hX dX6_way_11 rfl ?_
      refine jr_iload_n hX dX6_way_12 rfl ?_
      refine jr_mmax hX kM_X6_128 dX6_way_13 rfl ⟨jj_b1 rfl, jj_b1 rfl⟩ ?_
      rw [jl_max a b (by omega) (by omega)]
      refine jr_icmp_ge (tgt := 52) hX dX6_way_16 (by decide) (fun c_16 => ?_) (fun c_16 => absurd (nI_le (by omega) (by omega)) c_16)
      refine jr_iload_n hX dX6_way_52 rfl ?_
      exact jr_iret hX dX6_way_53 rfl rfl ⟨rfl, rfl, rfl, rfl, rfl, rfl⟩
    · refine jr_iload hX dX6_way_9 rfl ?_
      refine jr_iload_n hX dX6_way_11 rfl ?_
      refine jr_iload_n hX dX6_way_12 rfl ?_
      refine jr_mmax hX kM_X6_128 dX6_way_13 rfl ⟨jj_b1 rfl, jj_b1 rfl⟩ ?_
      rw [jl_max a b (by omega) (by omega)]
      refine jr_icmp_ge (tgt := 52) hX dX6_way_16 (by decide) (fun c_16 => absurd c_16 (nI_ge (by omega) (by omega))) (fun c_16 => ?_)
      refine jr_iload_n hX dX6_way_19 rfl ?_
      refine jr_iload_n hX dX6_way_20 rfl ?_
      refine jr_iload_n hX dX6_way_21 rfl ?_
      refine jr_icmp_ge (tgt := 35) hX dX6_way_22 (by decide) (fun c_22 => ?_) (fun c_22 => ?_)
      · refine jr_iconst (v := 2) hX dX6_way_35 (by decide) ?_
        refine jr_aload_n hX dX6_way_36 rfl ?_
        refine jr_getr hX kF_X6_13 rfl (ly_kMo hly) (ly_p6_3 hly) dX6_way_37 ?_
        refine jr_iload hX dX6_way_40 rfl ?_
        refine jr_iald hX (by first | with_reducible assumption | with_reducible exact ly_kWm hly (by first | assumption | omega) | with_reducible exact ly_kLd hly (by first | assumption | omega) | with_reducible exact ly_kIc hly (by first | assumption | omega) | with_reducible exact ly_kBe hly (by first | assumption | omega) | with_reducible exact ly_kPr hly (by first | assumption | omega) | with_reducible exact ly_kMt hly (by first | assumption | omega) (by first | assumption | omega) | with_reducible exact ly_kBc hly (by first | assumption | omega) (by first | assumption | omega) | with_reducible exact ly_k151 hly | with_reducible exact ly_k152 hly | with_reducible exact ly_k153 hly | with_reducible exact ly_k154 hly | with_reducible exact ly_k155 hly | with_reducible exact ly_k156 hly | with_reducible exact ly_k157 hly | with_reducible exact ly_k158 hly | with_reducible exact ly_k159 hly | with_reducible exact ly_k160 hly | with_reducible exact ly_kAh hly (by first | assumption | omega)) (by first | with_reducible rfl | with_reducible assumption | rfl) (by omega) dX6_way_42 ?_
        refine jr_imul hX dX6_way_43 ?_
        refine jr_iadd hX dX6_way_44 ?_
        refine jr_istore_n hX dX6_way_45 rfl ?_
        refine jr_iinc hX dX6_way_46 rfl (by first | with_reducible exact jj_inc _ | with_reducible exact jj_inc1 _) rfl ?_
        refine jr_goto (tgt := 9) hX dX6_way_49 (by decide) ?_
        rw [sm_1 (show (fun j => if a < b then I 152 ((if a < b then a else b) + j) else 2 * I 152 ((if a < b then a else b) + j)) k = _ from if_neg (fun e => absurd (nI_lt e (by omega)) (Int32.not_lt.mpr c_22)))] at ih
        exact ih
      · refine jr_aload_n hX dX6_way_25 rfl ?_
        refine jr_getr hX kF_X6_13 rfl (ly_kMo hly) (ly_p6_3 hly) dX6_way_26 ?_
        refine jr_iload hX dX6_way_29 rfl ?_
        refine jr_iald hX (by first | with_reducible assumption | with_reducible exact ly_kWm hly (by first | assumption | omega) | with_reducible exact ly_kLd hly (by first | assumption | omega) | with_reducible exact ly_kIc hly (by first | assumption | omega) | with_reducible exact ly_kBe hly (by first | assumption | omega) | with_reducible exact ly_kPr hly (by first | assumption | omega) | with_reducible exact ly_kMt hly (by first | assumption | omega) (by first | assumption | omega) | with_reducible exact ly_kBc hly (by first | assumption | omega) (by first | assumption | omega) | with_reducible exact ly_k151 hly | with_reducible exact ly_k152 hly | with_reducible exact ly_k153 hly | with_reducible exact ly_k154 hly | with_reducible exact ly_k155 hly | with_reducible exact ly_k156 hly | with_reducible exact ly_k157 hly | with_reducible exact ly_k158 hly | with_reducible exact ly_k159 hly | with_reducible exact ly_k160 hly | with_reducible exact ly_kAh hly (by first | assumption | omega)) (by first | with_reducible rfl | with_reducible assumption | rfl) (by omega) dX6_way_31 ?_
        refine jr_goto (tgt := 44) hX dX6_way_32 (by decide) ?_
        refine jr_iadd hX dX6_way_44 ?_
        refine jr_istore_n hX dX6_way_45 rfl ?_
        refine jr_iinc hX dX6_way_46 rfl (by first | with_reducible exact jj_inc _ | with_reducible exact jj_inc1 _) rfl ?_
        refine jr_goto (tgt := 9) hX dX6_way_49 (by decide) ?_
        rw [sm_1 (show (fun j => if a < b then I 152 ((if a < b then a else b) + j) else 2 * I 152 ((if a < b then a else b) + j)) k = _ from if_pos (Nat.lt_of_not_le (fun e => c_22 (nI_le e (by omega)))))] at ih
        exact ih
  exact hloop 0 (Nat.zero_le _)
set_option maxHeartbeats 4000000 in
set_option maxRecDepth 100000 in
theorem m_setWarm_x1 {l : Launch} (hfl : l.stackTraces = false) {D : jj_D} {n : Nat} {K : jj_K} {I : jj_I} {P : jj_P} {G : jj_G} (hly : ly K P) {H M B N : Nat} {C : jj_I} {d : Int32} {y : Int32} (hs : sf 0 H M B N C) (hk : sk 0 H M B N C) (hm : ml 0 H M B N C I) (hz : mz M C I) (h_d : d < 0 ∨ nI 40 ≤ d) :
    jj_Met l D yX6_setWarm (jj_ws yX6_setWarm cX6_setWarm 4 (some .int)) { frames := 1, cells := 0, slots := 0, locals := 22 } [.ref 150, .int d, .int y] n K I P G (jj_R (some (.int 0)) (n) (K) (jj_u (jj_u I 150 0 0) 150 0 1) (P) (G)) jj_noX := by
  refine jj_of hfl (by decide +kernel) [some (.ref 150), some (.int d), some (.int y), none] rfl rfl ?_
  intro X hXl hX hSt
  have z := sf_Z hs
  have hm0 : ml 0 H M B N C (jj_u I 150 0 0) := ml_th hm z
  have hz0 : mz M C (jj_u I 150 0 0) := mz_th hz
  have hH0 := hm0.1.1
  have hM0 := hm0.1.2.1
  have hB0 := hm0.1.2.2.1
  have hN0 := hm0.1.2.2.2
  have hH2 := hs.1.2
  have hM2 := z.1
  have hB2 := z.2.1
  have hN2 := z.2.2
  refine jr_aload_n hX dX6_setWarm_0 rfl ?_
  refine jr_iconst (v := 0) hX dX6_setWarm_1 (by decide) ?_
  refine jr_puti hX kF_X6_40 rfl (ly_kMo hly) (by decide) dX6_setWarm_2 ?_
  refine jr_iload_n hX dX6_setWarm_5 rfl ?_
  refine jr_iconst (v := 0) hX dX6_setWarm_6 (by decide) ?_
  refine jr_bipush (v := 39) hX dX6_setWarm_7 (by decide) ?_
  refine jr_ret (jr_runS hX hSt kM_X6_47 (c_isIn_x (jj_fl hX) (jm_x (c := 40) h_d (by omega))) rfl rfl dX6_setWarm_9 rfl ⟨jj_b1 rfl, jj_b1 rfl⟩ rfl) ?_
  refine jr_if_ne (tgt := 21) hX dX6_setWarm_12 (by decide) (fun c_12 => absurd rfl c_12) (fun c_12 => ?_)
  refine jr_aload_n hX dX6_setWarm_15 rfl ?_
  refine jr_iconst (v := 1) hX dX6_setWarm_16 (by decide) ?_
  refine jr_ret (jr_runV hX hSt kM_X6_57 (c_fail (jj_fl hX) hly) rfl rfl (ly_kMo hly) ⟨_, _, rfl, by decide⟩ dX6_setWarm_17 rfl ⟨jj_b1 rfl, jj_b1 rfl⟩ rfl) ?_
  exact jr_iret hX dX6_setWarm_20 rfl rfl ⟨rfl, rfl, rfl, rfl, rfl, rfl⟩
set_option maxHeartbeats 4000000 in
set_option maxRecDepth 100000 in
theorem m_setWarm_x2 {l : Launch} (hfl : l.stackTraces = false) {D : jj_D} {n : Nat} {K : jj_K} {I : jj_I} {P : jj_P} {G : jj_G} (hly : ly K P) {H M B N : Nat} {C : jj_I} {d : Nat} {y : Int32} (hs : sf 0 H M B N C) (hk : sk 0 H M B N C) (hm : ml 0 H M B N C I) (hz : mz M C I) (h_d : d < 40) (h_y : y < -9 ∨ 9 < y) :
    jj_Met l D yX6_setWarm (jj_ws yX6_setWarm cX6_setWarm 4 (some .int)) { frames := 1, cells := 0, slots := 0, locals := 22 } [.ref 150, .int (nI d), .int y] n K I P G (jj_R (some (.int 0)) (n) (K) (jj_u (jj_u I 150 0 0) 150 0 2) (P) (G)) jj_noX := by
  refine jj_of hfl (by decide +kernel) [some (.ref 150), some (.int (nI d)), some (.int y), none] rfl rfl ?_
  intro X hXl hX hSt
  have z := sf_Z hs
  have hm0 : ml 0 H M B N C (jj_u I 150 0 0) := ml_th hm z
  have hz0 : mz M C (jj_u I 150 0 0) := mz_th hz
  have hH0 := hm0.1.1
  have hM0 := hm0.1.2.1
  have hB0 := hm0.1.2.2.1
  have hN0 := hm0.1.2.2.2
  have hH2 := hs.1.2
  have hM2 := z.1
  have hB2 := z.2.1
  have hN2 := z.2.2
  refine jr_aload_n hX dX6_setWarm_0 rfl ?_
  refine jr_iconst (v := 0) hX dX6_setWarm_1 (by decide) ?_
  refine jr_puti hX kF_X6_40 rfl (ly_kMo hly) (by decide) dX6_setWarm_2 ?_
  refine jr_iload_n hX dX6_setWarm_5 rfl ?_
  refine jr_iconst (v := 0) hX dX6_setWarm_6 (by decide) ?_
  refine jr_bipush (v := 39) hX dX6_setWarm_7 (by decide) ?_
  refine jr_ret (jr_runS hX hSt kM_X6_47 (c_isIn_ok (jj_fl hX) (show (0 : Int32) ≤ nI d ∧ nI d ≤ nI 39 from ⟨nI_pos' (by omega), nI_le (by omega) (by omega)⟩)) rfl rfl dX6_setWarm_9 rfl ⟨jj_b1 rfl, jj_b1 rfl⟩ rfl) ?_
  refine jr_if_ne (tgt := 21) hX dX6_setWarm_12 (by decide) (fun c_12 => ?_) (fun c_12 => absurd c_12 (by decide))
  refine jr_iload_n hX dX6_setWarm_21 rfl ?_
  refine jr_bipush (v := -9) hX dX6_setWarm_22 (by decide) ?_
  refine jr_bipush (v := 9) hX dX6_setWarm_24 (by decide) ?_
  refine jr_ret (jr_runS hX hSt kM_X6_47 (c_isIn_x (jj_fl hX) (jm_nr h_y)) rfl rfl dX6_setWarm_26 rfl ⟨jj_b1 rfl, jj_b1 rfl⟩ rfl) ?_
  refine jr_if_ne (tgt := 38) hX dX6_setWarm_29 (by decide) (fun c_29 => absurd rfl c_29) (fun c_29 => ?_)
  refine jr_aload_n hX dX6_setWarm_32 rfl ?_
  refine jr_iconst (v := 2) hX dX6_setWarm_33 (by decide) ?_
  refine jr_ret (jr_runV hX hSt kM_X6_57 (c_fail (jj_fl hX) hly) rfl rfl (ly_kMo hly) ⟨_, _, rfl, by decide⟩ dX6_setWarm_34 rfl ⟨jj_b1 rfl, jj_b1 rfl⟩ rfl) ?_
  exact jr_iret hX dX6_setWarm_37 rfl rfl ⟨rfl, rfl, rfl, rfl, rfl, rfl⟩
set_option maxHeartbeats 4000000 in
set_option maxRecDepth 100000 in
theorem m_setWarm_ok {l : Launch} (hfl : l.stackTraces = false) {D : jj_D} {n : Nat} {K : jj_K} {I : jj_I} {P : jj_P} {G : jj_G} (hly : ly K P) {H M B N : Nat} {C : jj_I} {d : Nat} {y : Int32} (hs : sf 0 H M B N C) (hk : sk 0 H M B N C) (hm : ml 0 H M B N C I) (hz : mz M C I) (h_d : d < 40) (h_y : -9 ≤ y ∧ y ≤ 9) :
    jj_Met l D yX6_setWarm (jj_ws yX6_setWarm cX6_setWarm 4 (some .int)) { frames := 1, cells := 0, slots := 0, locals := 22 } [.ref 150, .int (nI d), .int y] n K I P G (jj_RS (fun r J => r = some (.int (C (aWm 0) d)) ∧ J 150 0 = 0 ∧ ml 0 H M B N (jj_u C (aWm 0) d y) J ∧ mz (M) (jj_u C (aWm 0) d y) J ∧ ∀ a, offN a → J a = I a) n K P G) jj_noX := by
  refine jj_of hfl (by decide +kernel) [some (.ref 150), some (.int (nI d)), some (.int y), none] rfl rfl ?_
  intro X hXl hX hSt
  have z := sf_Z hs
  have hm0 : ml 0 H M B N C (jj_u I 150 0 0) := ml_th hm z
  have hz0 : mz M C (jj_u I 150 0 0) := mz_th hz
  have hH0 := hm0.1.1
  have hM0 := hm0.1.2.1
  have hB0 := hm0.1.2.2.1
  have hN0 := hm0.1.2.2.2
  have hH2 := hs.1.2
  have hM2 := z.1
  have hB2 := z.2.1
  have hN2 := z.2.2
  refine jr_aload_n hX dX6_setWarm_0 rfl ?_
  refine jr_iconst (v := 0) hX dX6_setWarm_1 (by decide) ?_
  refine jr_puti hX kF_X6_40 rfl (ly_kMo hly) (by decide) dX6_setWarm_2 ?_
  refine jr_iload_n hX dX6_setWarm_5 rfl ?_
  refine jr_iconst (v := 0) hX dX6_setWarm_6 (by decide) ?_
  refine jr_bipush (v := 39) hX dX6_setWarm_7 (by decide) ?_
  refine jr_ret (jr_runS hX hSt kM_X6_47 (c_isIn_ok (jj_fl hX) (show (0 : Int32) ≤ nI d ∧ nI d ≤ nI 39 from ⟨nI_pos' (by omega), nI_le (by omega) (by omega)⟩)) rfl rfl dX6_setWarm_9 rfl ⟨jj_b1 rfl, jj_b1 rfl⟩ rfl) ?_
  refine jr_if_ne (tgt := 21) hX dX6_setWarm_12 (by decide) (fun c_12 => ?_) (fun c_12 => absurd c_12 (by decide))
  refine jr_iload_n hX dX6_setWarm_21 rfl ?_
  refine jr_bipush (v := -9) hX dX6_setWarm_22 (by decide) ?_
  refine jr_bipush (v := 9) hX dX6_setWarm_24 (by decide) ?_
  refine jr_ret (jr_runS hX hSt kM_X6_47 (c_isIn_ok (jj_fl hX) h_y) rfl rfl dX6_setWarm_26 rfl ⟨jj_b1 rfl, jj_b1 rfl⟩ rfl) ?_
  refine jr_if_ne (tgt := 38) hX dX6_setWarm_29 (by decide) (fun c_29 => ?_) (fun c_29 => absurd c_29 (by decide))
  refine jr_aload_n hX dX6_setWarm_38 rfl ?_
  refine jr_getr hX kF_X6_9 rfl (ly_kMo hly) (ly_p6_1 hly) dX6_setWarm_39 ?_
  refine jr_iload_n hX dX6_setWarm_42 rfl ?_
  refine jr_iald hX (by first | with_reducible assumption | with_reducible exact ly_kWm hly (by first | assumption | omega) | with_reducible exact ly_kLd hly (by first | assumption | omega) | with_reducible exact ly_kIc hly (by first | assumption | omega) | with_reducible exact ly_kBe hly (by first | assumption | omega) | with_reducible exact ly_kPr hly (by first | assumption | omega) | with_reducible exact ly_kMt hly (by first | assumption | omega) (by first | assumption | omega) | with_reducible exact ly_kBc hly (by first | assumption | omega) (by first | assumption | omega) | with_reducible exact ly_k151 hly | with_reducible exact ly_k152 hly | with_reducible exact ly_k153 hly | with_reducible exact ly_k154 hly | with_reducible exact ly_k155 hly | with_reducible exact ly_k156 hly | with_reducible exact ly_k157 hly | with_reducible exact ly_k158 hly | with_reducible exact ly_k159 hly | with_reducible exact ly_k160 hly | with_reducible exact ly_kAh hly (by first | assumption | omega)) (by first | with_reducible rfl | with_reducible assumption | rfl) (by omega) dX6_setWarm_43 ?_
  rw [ml_hWarm hm0 h_d]
  refine jr_istore_n hX dX6_setWarm_44 rfl ?_
  refine jr_aload_n hX dX6_setWarm_45 rfl ?_
  refine jr_getr hX kF_X6_9 rfl (ly_kMo hly) (ly_p6_1 hly) dX6_setWarm_46 ?_
  refine jr_iload_n hX dX6_setWarm_49 rfl ?_
  refine jr_iload_n hX dX6_setWarm_50 rfl ?_
  refine jr_iast hX (by first | with_reducible assumption | with_reducible exact ly_kWm hly (by first | assumption | omega) | with_reducible exact ly_kLd hly (by first | assumption | omega) | with_reducible exact ly_kIc hly (by first | assumption | omega) | with_reducible exact ly_kBe hly (by first | assumption | omega) | with_reducible exact ly_kPr hly (by first | assumption | omega) | with_reducible exact ly_kMt hly (by first | assumption | omega) (by first | assumption | omega) | with_reducible exact ly_kBc hly (by first | assumption | omega) (by first | assumption | omega) | with_reducible exact ly_k151 hly | with_reducible exact ly_k152 hly | with_reducible exact ly_k153 hly | with_reducible exact ly_k154 hly | with_reducible exact ly_k155 hly | with_reducible exact ly_k156 hly | with_reducible exact ly_k157 hly | with_reducible exact ly_k158 hly | with_reducible exact ly_k159 hly | with_reducible exact ly_k160 hly | with_reducible exact ly_kAh hly (by first | assumption | omega)) (by first | assumption | with_reducible exact aMt_0 | with_reducible exact aBc_0 | with_reducible exact aWm_0 | with_reducible exact aLd_0 | with_reducible exact aIc_0 | with_reducible exact aBe_0 | with_reducible exact aPr_0 | with_reducible exact aAh_0 | decide | omega) (by first | with_reducible rfl | with_reducible assumption | rfl) (by omega) dX6_setWarm_51 ?_
  refine jr_iload_n hX dX6_setWarm_52 rfl ?_
  exact jr_iret hX dX6_setWarm_53 rfl rfl ⟨⟨rfl, by rw [jj_u_ne (by decide), jj_u_eq], ml_uWarm hm0 z, mz_cg hz0 (fun m _ _ => by rw [jj_u_ne (by decide)]) (fun m k _ _ _ => by rw [jj_u_ne (by decide)]) (fun m _ _ => jj_u_ne (by simp only [aMt, aWm]; omega)), fun a ha => (jj_u_ne (by unfold offN at ha; omega)).trans (jj_u_ne (by unfold offN at ha; omega))⟩, rfl, rfl, rfl, rfl⟩
set_option maxHeartbeats 4000000 in
set_option maxRecDepth 100000 in
theorem m_setPrice_x1 {l : Launch} (hfl : l.stackTraces = false) {D : jj_D} {n : Nat} {K : jj_K} {I : jj_I} {P : jj_P} {G : jj_G} (hly : ly K P) {H M B N : Nat} {C : jj_I} {h : Int32} {g : Int32} {y : Int32} (hs : sf 0 H M B N C) (hk : sk 0 H M B N C) (hm : ml 0 H M B N C I) (hz : mz M C I) (h_h : h < 0 ∨ nI H ≤ h) :
    jj_Met l D yX6_setPrice (jj_ws yX6_setPrice cX6_setPrice 5 (some .int)) { frames := 2, cells := 0, slots := 0, locals := 43 } [.ref 150, .int h, .int g, .int y] n K I P G (jj_R (some (.int 0)) (n) (K) (jj_u (jj_u I 150 0 0) 150 0 1) (P) (G)) jj_noX := by
  refine jj_of hfl (by decide +kernel) [some (.ref 150), some (.int h), some (.int g), some (.int y), none] rfl rfl ?_
  intro X hXl hX hSt
  have z := sf_Z hs
  have hm0 : ml 0 H M B N C (jj_u I 150 0 0) := ml_th hm z
  have hz0 : mz M C (jj_u I 150 0 0) := mz_th hz
  have hH0 := hm0.1.1
  have hM0 := hm0.1.2.1
  have hB0 := hm0.1.2.2.1
  have hN0 := hm0.1.2.2.2
  have hH2 := hs.1.2
  have hM2 := z.1
  have hB2 := z.2.1
  have hN2 := z.2.2
  refine jr_aload_n hX dX6_setPrice_0 rfl ?_
  refine jr_iconst (v := 0) hX dX6_setPrice_1 (by decide) ?_
  refine jr_puti hX kF_X6_40 rfl (ly_kMo hly) (by decide) dX6_setPrice_2 ?_
  refine jr_aload_n hX dX6_setPrice_5 rfl ?_
  refine jr_iload_n hX dX6_setPrice_6 rfl ?_
  refine jr_ret (jr_runV hX hSt kM_X6_61 (c_isHarbour_x (jj_fl hX) hly h_h hH0 (by omega)) rfl rfl (ly_kMo hly) ⟨_, _, rfl, by decide⟩ dX6_setPrice_7 rfl ⟨jj_b1 rfl, jj_b1 rfl⟩ rfl) ?_
  refine jr_if_eq (tgt := 20) hX dX6_setPrice_10 (by decide) (fun c_10 => ?_) (fun c_10 => absurd rfl c_10)
  refine jr_aload_n hX dX6_setPrice_20 rfl ?_
  refine jr_iconst (v := 1) hX dX6_setPrice_21 (by decide) ?_
  refine jr_ret (jr_runV hX hSt kM_X6_57 (c_fail (jj_fl hX) hly) rfl rfl (ly_kMo hly) ⟨_, _, rfl, by decide⟩ dX6_setPrice_22 rfl ⟨jj_b1 rfl, jj_b1 rfl⟩ rfl) ?_
  exact jr_iret hX dX6_setPrice_25 rfl rfl ⟨rfl, rfl, rfl, rfl, rfl, rfl⟩
set_option maxHeartbeats 4000000 in
set_option maxRecDepth 100000 in
theorem m_setPrice_x2 {l : Launch} (hfl : l.stackTraces = false) {D : jj_D} {n : Nat} {K : jj_K} {I : jj_I} {P : jj_P} {G : jj_G} (hly : ly K P) {H M B N : Nat} {C : jj_I} {h : Nat} {g : Int32} {y : Int32} (hs : sf 0 H M B N C) (hk : sk 0 H M B N C) (hm : ml 0 H M B N C I) (hz : mz M C I) (h_h : h < H) (h_g : g < 0 ∨ nI 4 ≤ g) :
    jj_Met l D yX6_setPrice (jj_ws yX6_setPrice cX6_setPrice 5 (some .int)) { frames := 2, cells := 0, slots := 0, locals := 43 } [.ref 150, .int (nI h), .int g, .int y] n K I P G (jj_R (some (.int 0)) (n) (K) (jj_u (jj_u I 150 0 0) 150 0 1) (P) (G)) jj_noX := by
  refine jj_of hfl (by decide +kernel) [some (.ref 150), some (.int (nI h)), some (.int g), some (.int y), none] rfl rfl ?_
  intro X hXl hX hSt
  have z := sf_Z hs
  have hm0 : ml 0 H M B N C (jj_u I 150 0 0) := ml_th hm z
  have hz0 : mz M C (jj_u I 150 0 0) := mz_th hz
  have hH0 := hm0.1.1
  have hM0 := hm0.1.2.1
  have hB0 := hm0.1.2.2.1
  have hN0 := hm0.1.2.2.2
  have hH2 := hs.1.2
  have hM2 := z.1
  have hB2 := z.2.1
  have hN2 := z.2.2
  refine jr_aload_n hX dX6_setPrice_0 rfl ?_
  refine jr_iconst (v := 0) hX dX6_setPrice_1 (by decide) ?_
  refine jr_puti hX kF_X6_40 rfl (ly_kMo hly) (by decide) dX6_setPrice_2 ?_
  refine jr_aload_n hX dX6_setPrice_5 rfl ?_
  refine jr_iload_n hX dX6_setPrice_6 rfl ?_
  refine jr_ret (jr_runV hX hSt kM_X6_61 (c_isHarbour_ok (jj_fl hX) hly h_h hH0 (by omega)) rfl rfl (ly_kMo hly) ⟨_, _, rfl, by decide⟩ dX6_setPrice_7 rfl ⟨jj_b1 rfl, jj_b1 rfl⟩ rfl) ?_
  refine jr_if_eq (tgt := 20) hX dX6_setPrice_10 (by decide) (fun c_10 => absurd c_10 (by decide)) (fun c_10 => ?_)
  refine jr_iload_n hX dX6_setPrice_13 rfl ?_
  refine jr_ret (jr_runS hX hSt kM_X6_65 (c_isGood_x (jj_fl hX) h_g) rfl rfl dX6_setPrice_14 rfl ⟨jj_b1 rfl, jj_b1 rfl⟩ rfl) ?_
  refine jr_if_ne (tgt := 26) hX dX6_setPrice_17 (by decide) (fun c_17 => absurd rfl c_17) (fun c_17 => ?_)
  refine jr_aload_n hX dX6_setPrice_20 rfl ?_
  refine jr_iconst (v := 1) hX dX6_setPrice_21 (by decide) ?_
  refine jr_ret (jr_runV hX hSt kM_X6_57 (c_fail (jj_fl hX) hly) rfl rfl (ly_kMo hly) ⟨_, _, rfl, by decide⟩ dX6_setPrice_22 rfl ⟨jj_b1 rfl, jj_b1 rfl⟩ rfl) ?_
  exact jr_iret hX dX6_setPrice_25 rfl rfl ⟨rfl, rfl, rfl, rfl, rfl, rfl⟩
set_option maxHeartbeats 4000000 in
set_option maxRecDepth 100000 in
theorem m_setPrice_x3 {l : Launch} (hfl : l.stackTraces = false) {D : jj_D} {n : Nat} {K : jj_K} {I : jj_I} {P : jj_P} {G : jj_G} (hly : ly K P) {H M B N : Nat} {C : jj_I} {h : Nat} {g : Nat} {y : Int32} (hs : sf 0 H M B N C) (hk : sk 0 H M B N C) (hm : ml 0 H M B N C I) (hz : mz M C I) (h_h : h < H) (h_g : g < 4) (h_y : y < 0 ∨ 50 < y) :
    jj_Met l D yX6_setPrice (jj_ws yX6_setPrice cX6_setPrice 5 (some .int)) { frames := 2, cells := 0, slots := 0, locals := 43 } [.ref 150, .int (nI h), .int (nI g), .int y] n K I P G (jj_R (some (.int 0)) (n) (K) (jj_u (jj_u I 150 0 0) 150 0 2) (P) (G)) jj_noX := by
  refine jj_of hfl (by decide +kernel) [some (.ref 150), some (.int (nI h)), some (.int (nI g)), some (.int y), none] rfl rfl ?_
  intro X hXl hX hSt
  have z := sf_Z hs
  have hm0 : ml 0 H M B N C (jj_u I 150 0 0) := ml_th hm z
  have hz0 : mz M C (jj_u I 150 0 0) := mz_th hz
  have hH0 := hm0.1.1
  have hM0 := hm0.1.2.1
  have hB0 := hm0.1.2.2.1
  have hN0 := hm0.1.2.2.2
  have hH2 := hs.1.2
  have hM2 := z.1
  have hB2 := z.2.1
  have hN2 := z.2.2
  refine jr_aload_n hX dX6_setPrice_0 rfl ?_
  refine jr_iconst (v := 0) hX dX6_setPrice_1 (by decide) ?_
  refine jr_puti hX kF_X6_40 rfl (ly_kMo hly) (by decide) dX6_setPrice_2 ?_
  refine jr_aload_n hX dX6_setPrice_5 rfl ?_
  refine jr_iload_n hX dX6_setPrice_6 rfl ?_
  refine jr_ret (jr_runV hX hSt kM_X6_61 (c_isHarbour_ok (jj_fl hX) hly h_h hH0 (by omega)) rfl rfl (ly_kMo hly) ⟨_, _, rfl, by decide⟩ dX6_setPrice_7 rfl ⟨jj_b1 rfl, jj_b1 rfl⟩ rfl) ?_
  refine jr_if_eq (tgt := 20) hX dX6_setPrice_10 (by decide) (fun c_10 => absurd c_10 (by decide)) (fun c_10 => ?_)
  refine jr_iload_n hX dX6_setPrice_13 rfl ?_
  refine jr_ret (jr_runS hX hSt kM_X6_65 (c_isGood_ok (jj_fl hX) h_g) rfl rfl dX6_setPrice_14 rfl ⟨jj_b1 rfl, jj_b1 rfl⟩ rfl) ?_
  refine jr_if_ne (tgt := 26) hX dX6_setPrice_17 (by decide) (fun c_17 => ?_) (fun c_17 => absurd c_17 (by decide))
  refine jr_iload_n hX dX6_setPrice_26 rfl ?_
  refine jr_iconst (v := 0) hX dX6_setPrice_27 (by decide) ?_
  refine jr_bipush (v := 50) hX dX6_setPrice_28 (by decide) ?_
  refine jr_ret (jr_runS hX hSt kM_X6_47 (c_isIn_x (jj_fl hX) (jm_nr h_y)) rfl rfl dX6_setPrice_30 rfl ⟨jj_b1 rfl, jj_b1 rfl⟩ rfl) ?_
  refine jr_if_ne (tgt := 42) hX dX6_setPrice_33 (by decide) (fun c_33 => absurd rfl c_33) (fun c_33 => ?_)
  refine jr_aload_n hX dX6_setPrice_36 rfl ?_
  refine jr_iconst (v := 2) hX dX6_setPrice_37 (by decide) ?_
  refine jr_ret (jr_runV hX hSt kM_X6_57 (c_fail (jj_fl hX) hly) rfl rfl (ly_kMo hly) ⟨_, _, rfl, by decide⟩ dX6_setPrice_38 rfl ⟨jj_b1 rfl, jj_b1 rfl⟩ rfl) ?_
  exact jr_iret hX dX6_setPrice_41 rfl rfl ⟨rfl, rfl, rfl, rfl, rfl, rfl⟩
set_option maxHeartbeats 4000000 in
set_option maxRecDepth 100000 in
theorem m_setPrice_ok {l : Launch} (hfl : l.stackTraces = false) {D : jj_D} {n : Nat} {K : jj_K} {I : jj_I} {P : jj_P} {G : jj_G} (hly : ly K P) {H M B N : Nat} {C : jj_I} {h : Nat} {g : Nat} {y : Int32} (hs : sf 0 H M B N C) (hk : sk 0 H M B N C) (hm : ml 0 H M B N C I) (hz : mz M C I) (h_h : h < H) (h_g : g < 4) (h_y : 0 ≤ y ∧ y ≤ 50) :
    jj_Met l D yX6_setPrice (jj_ws yX6_setPrice cX6_setPrice 5 (some .int)) { frames := 2, cells := 0, slots := 0, locals := 43 } [.ref 150, .int (nI h), .int (nI g), .int y] n K I P G (jj_RS (fun r J => r = some (.int (C (aPr 0) (h * 4 + g))) ∧ J 150 0 = 0 ∧ ml 0 H M B N (jj_u C (aPr 0) (h * 4 + g) y) J ∧ mz (M) (jj_u C (aPr 0) (h * 4 + g) y) J ∧ ∀ a, offN a → J a = I a) n K P G) jj_noX := by
  refine jj_of hfl (by decide +kernel) [some (.ref 150), some (.int (nI h)), some (.int (nI g)), some (.int y), none] rfl rfl ?_
  intro X hXl hX hSt
  have z := sf_Z hs
  have hm0 : ml 0 H M B N C (jj_u I 150 0 0) := ml_th hm z
  have hz0 : mz M C (jj_u I 150 0 0) := mz_th hz
  have hH0 := hm0.1.1
  have hM0 := hm0.1.2.1
  have hB0 := hm0.1.2.2.1
  have hN0 := hm0.1.2.2.2
  have hH2 := hs.1.2
  have hM2 := z.1
  have hB2 := z.2.1
  have hN2 := z.2.2
  refine jr_aload_n hX dX6_setPrice_0 rfl ?_
  refine jr_iconst (v := 0) hX dX6_setPrice_1 (by decide) ?_
  refine jr_puti hX kF_X6_40 rfl (ly_kMo hly) (by decide) dX6_setPrice_2 ?_
  refine jr_aload_n hX dX6_setPrice_5 rfl ?_
  refine jr_iload_n hX dX6_setPrice_6 rfl ?_
  refine jr_ret (jr_runV hX hSt kM_X6_61 (c_isHarbour_ok (jj_fl hX) hly h_h hH0 (by omega)) rfl rfl (ly_kMo hly) ⟨_, _, rfl, by decide⟩ dX6_setPrice_7 rfl ⟨jj_b1 rfl, jj_b1 rfl⟩ rfl) ?_
  refine jr_if_eq (tgt := 20) hX dX6_setPrice_10 (by decide) (fun c_10 => absurd c_10 (by decide)) (fun c_10 => ?_)
  refine jr_iload_n hX dX6_setPrice_13 rfl ?_
  refine jr_ret (jr_runS hX hSt kM_X6_65 (c_isGood_ok (jj_fl hX) h_g) rfl rfl dX6_setPrice_14 rfl ⟨jj_b1 rfl, jj_b1 rfl⟩ rfl) ?_
  refine jr_if_ne (tgt := 26) hX dX6_setPrice_17 (by decide) (fun c_17 => ?_) (fun c_17 => absurd c_17 (by decide))
  refine jr_iload_n hX dX6_setPrice_26 rfl ?_
  refine jr_iconst (v := 0) hX dX6_setPrice_27 (by decide) ?_
  refine jr_bipush (v := 50) hX dX6_setPrice_28 (by decide) ?_
  refine jr_ret (jr_runS hX hSt kM_X6_47 (c_isIn_ok (jj_fl hX) h_y) rfl rfl dX6_setPrice_30 rfl ⟨jj_b1 rfl, jj_b1 rfl⟩ rfl) ?_
  refine jr_if_ne (tgt := 42) hX dX6_setPrice_33 (by decide) (fun c_33 => ?_) (fun c_33 => absurd c_33 (by decide))
  refine jr_aload_n hX dX6_setPrice_42 rfl ?_
  refine jr_getr hX kF_X6_19 rfl (ly_kMo hly) (ly_p6_5 hly) dX6_setPrice_43 ?_
  refine jr_iconst (v := 4) hX dX6_setPrice_46 (by decide) ?_
  refine jr_iload_n hX dX6_setPrice_47 rfl ?_
  refine jr_imul hX dX6_setPrice_48 ?_
  refine jr_iload_n hX dX6_setPrice_49 rfl ?_
  refine jr_iadd hX dX6_setPrice_50 ?_
  refine jr_iald hX (by first | with_reducible assumption | with_reducible exact ly_kWm hly (by first | assumption | omega) | with_reducible exact ly_kLd hly (by first | assumption | omega) | with_reducible exact ly_kIc hly (by first | assumption | omega) | with_reducible exact ly_kBe hly (by first | assumption | omega) | with_reducible exact ly_kPr hly (by first | assumption | omega) | with_reducible exact ly_kMt hly (by first | assumption | omega) (by first | assumption | omega) | with_reducible exact ly_kBc hly (by first | assumption | omega) (by first | assumption | omega) | with_reducible exact ly_k151 hly | with_reducible exact ly_k152 hly | with_reducible exact ly_k153 hly | with_reducible exact ly_k154 hly | with_reducible exact ly_k155 hly | with_reducible exact ly_k156 hly | with_reducible exact ly_k157 hly | with_reducible exact ly_k158 hly | with_reducible exact ly_k159 hly | with_reducible exact ly_k160 hly | with_reducible exact ly_kAh hly (by first | assumption | omega)) (show _ = nI (4 * h + g) from by rw [show (4 : Int32) = nI 4 from rfl, pk_mul, nI_add]) (by omega) dX6_setPrice_51 ?_
  rw [ml_hPr hm0 (show 4 * h + g < 32 by omega), Nat.mul_comm 4 h]
  refine jr_istore hX dX6_setPrice_52 rfl ?_
  refine jr_aload_n hX dX6_setPrice_54 rfl ?_
  refine jr_getr hX kF_X6_19 rfl (ly_kMo hly) (ly_p6_5 hly) dX6_setPrice_55 ?_
  refine jr_iconst (v := 4) hX dX6_setPrice_58 (by decide) ?_
  refine jr_iload_n hX dX6_setPrice_59 rfl ?_
  refine jr_imul hX dX6_setPrice_60 ?_
  refine jr_iload_n hX dX6_setPrice_61 rfl ?_
  refine jr_iadd hX dX6_setPrice_62 ?_
  refine jr_iload_n hX dX6_setPrice_63 rfl ?_
  refine jr_iast hX (by first | with_reducible assumption | with_reducible exact ly_kWm hly (by first | assumption | omega) | with_reducible exact ly_kLd hly (by first | assumption | omega) | with_reducible exact ly_kIc hly (by first | assumption | omega) | with_reducible exact ly_kBe hly (by first | assumption | omega) | with_reducible exact ly_kPr hly (by first | assumption | omega) | with_reducible exact ly_kMt hly (by first | assumption | omega) (by first | assumption | omega) | with_reducible exact ly_kBc hly (by first | assumption | omega) (by first | assumption | omega) | with_reducible exact ly_k151 hly | with_reducible exact ly_k152 hly | with_reducible exact ly_k153 hly | with_reducible exact ly_k154 hly | with_reducible exact ly_k155 hly | with_reducible exact ly_k156 hly | with_reducible exact ly_k157 hly | with_reducible exact ly_k158 hly | with_reducible exact ly_k159 hly | with_reducible exact ly_k160 hly | with_reducible exact ly_kAh hly (by first | assumption | omega)) (by first | assumption | with_reducible exact aMt_0 | with_reducible exact aBc_0 | with_reducible exact aWm_0 | with_reducible exact aLd_0 | with_reducible exact aIc_0 | with_reducible exact aBe_0 | with_reducible exact aPr_0 | with_reducible exact aAh_0 | decide | omega) (show _ = nI (4 * h + g) from by rw [show (4 : Int32) = nI 4 from rfl, pk_mul, nI_add]) (by omega) dX6_setPrice_64 ?_
  refine jr_iload hX dX6_setPrice_65 rfl ?_
  exact jr_iret hX dX6_setPrice_67 rfl rfl ⟨⟨rfl, by rw [jj_u_ne (by decide), jj_u_eq], by rw [show h * 4 + g = 4 * h + g by omega]; exact ml_uPr hm0 z, mz_cg hz0 (fun m _ _ => by rw [jj_u_ne (by decide)]) (fun m k _ _ _ => by rw [jj_u_ne (by decide)]) (fun m _ _ => jj_u_ne (by simp only [aMt, aPr]; omega)), fun a ha => (jj_u_ne (by unfold offN at ha; omega)).trans (jj_u_ne (by unfold offN at ha; omega))⟩, rfl, rfl, rfl, rfl⟩
set_option maxHeartbeats 4000000 in
set_option maxRecDepth 100000 in
theorem m_bring_x1 {l : Launch} (hfl : l.stackTraces = false) {D : jj_D} {n : Nat} {K : jj_K} {I : jj_I} {P : jj_P} {G : jj_G} (hly : ly K P) {H M B N : Nat} {C : jj_I} {m : Int32} {h : Int32} {g : Int32} {y : Int32} (hs : sf 0 H M B N C) (hk : sk 0 H M B N C) (hm : ml 0 H M B N C I) (hz : mz M C I) (h_m : m < 0 ∨ nI M ≤ m) :
    jj_Met l D yX6_bring (jj_ws yX6_bring cX6_bring 5 (some .int)) { frames := 2, cells := 0, slots := 0, locals := 43 } [.ref 150, .int m, .int h, .int g, .int y] n K I P G (jj_R (some (.int 0)) (n) (K) (jj_u (jj_u I 150 0 0) 150 0 1) (P) (G)) jj_noX := by
  refine jj_of hfl (by decide +kernel) [some (.ref 150), some (.int m), some (.int h), some (.int g), some (.int y)] rfl rfl ?_
  intro X hXl hX hSt
  have z := sf_Z hs
  have hm0 : ml 0 H M B N C (jj_u I 150 0 0) := ml_th hm z
  have hz0 : mz M C (jj_u I 150 0 0) := mz_th hz
  have hH0 := hm0.1.1
  have hM0 := hm0.1.2.1
  have hB0 := hm0.1.2.2.1
  have hN0 := hm0.1.2.2.2
  have hH2 := hs.1.2
  have hM2 := z.1
  have hB2 := z.2.1
  have hN2 := z.2.2
  refine jr_aload_n hX dX6_bring_0 rfl ?_
  refine jr_iconst (v := 0) hX dX6_bring_1 (by decide) ?_
  refine jr_puti hX kF_X6_40 rfl (ly_kMo hly) (by decide) dX6_bring_2 ?_
  refine jr_aload_n hX dX6_bring_5 rfl ?_
  refine jr_iload_n hX dX6_bring_6 rfl ?_
  refine jr_ret (jr_runV hX hSt kM_X6_96 (c_isMerchant_x (jj_fl hX) hly h_m hM0 (by omega)) rfl rfl (ly_kMo hly) ⟨_, _, rfl, by decide⟩ dX6_bring_7 rfl ⟨jj_b1 rfl, jj_b1 rfl⟩ rfl) ?_
  refine jr_if_eq (tgt := 28) hX dX6_bring_10 (by decide) (fun c_10 => ?_) (fun c_10 => absurd rfl c_10)
  refine jr_aload_n hX dX6_bring_28 rfl ?_
  refine jr_iconst (v := 1) hX dX6_bring_29 (by decide) ?_
  refine jr_ret (jr_runV hX hSt kM_X6_57 (c_fail (jj_fl hX) hly) rfl rfl (ly_kMo hly) ⟨_, _, rfl, by decide⟩ dX6_bring_30 rfl ⟨jj_b1 rfl, jj_b1 rfl⟩ rfl) ?_
  exact jr_iret hX dX6_bring_33 rfl rfl ⟨rfl, rfl, rfl, rfl, rfl, rfl⟩
set_option maxHeartbeats 4000000 in
set_option maxRecDepth 100000 in
theorem m_bring_x2 {l : Launch} (hfl : l.stackTraces = false) {D : jj_D} {n : Nat} {K : jj_K} {I : jj_I} {P : jj_P} {G : jj_G} (hly : ly K P) {H M B N : Nat} {C : jj_I} {m : Nat} {h : Int32} {g : Int32} {y : Int32} (hs : sf 0 H M B N C) (hk : sk 0 H M B N C) (hm : ml 0 H M B N C I) (hz : mz M C I) (h_m : m < M) (h_h : h < 0 ∨ nI H ≤ h) :
    jj_Met l D yX6_bring (jj_ws yX6_bring cX6_bring 5 (some .int)) { frames := 2, cells := 0, slots := 0, locals := 43 } [.ref 150, .int (nI m), .int h, .int g, .int y] n K I P G (jj_R (some (.int 0)) (n) (K) (jj_u (jj_u I 150 0 0) 150 0 1) (P) (G)) jj_noX := by
  refine jj_of hfl (by decide +kernel) [some (.ref 150), some (.int (nI m)), some (.int h), some (.int g), some (.int y)] rfl rfl ?_
  intro X hXl hX hSt
  have z := sf_Z hs
  have hm0 : ml 0 H M B N C (jj_u I 150 0 0) := ml_th hm z
  have hz0 : mz M C (jj_u I 150 0 0) := mz_th hz
  have hH0 := hm0.1.1
  have hM0 := hm0.1.2.1
  have hB0 := hm0.1.2.2.1
  have hN0 := hm0.1.2.2.2
  have hH2 := hs.1.2
  have hM2 := z.1
  have hB2 := z.2.1
  have hN2 := z.2.2
  refine jr_aload_n hX dX6_bring_0 rfl ?_
  refine jr_iconst (v := 0) hX dX6_bring_1 (by decide) ?_
  refine jr_puti hX kF_X6_40 rfl (ly_kMo hly) (by decide) dX6_bring_2 ?_
  refine jr_aload_n hX dX6_bring_5 rfl ?_
  refine jr_iload_n hX dX6_bring_6 rfl ?_
  refine jr_ret (jr_runV hX hSt kM_X6_96 (c_isMerchant_ok (jj_fl hX) hly h_m hM0 (by omega)) rfl rfl (ly_kMo hly) ⟨_, _, rfl, by decide⟩ dX6_bring_7 rfl ⟨jj_b1 rfl, jj_b1 rfl⟩ rfl) ?_
  refine jr_if_eq (tgt := 28) hX dX6_bring_10 (by decide) (fun c_10 => absurd c_10 (by decide)) (fun c_10 => ?_)
  refine jr_aload_n hX dX6_bring_13 rfl ?_
  refine jr_iload_n hX dX6_bring_14 rfl ?_
  refine jr_ret (jr_runV hX hSt kM_X6_61 (c_isHarbour_x (jj_fl hX) hly h_h hH0 (by omega)) rfl rfl (ly_kMo hly) ⟨_, _, rfl, by decide⟩ dX6_bring_15 rfl ⟨jj_b1 rfl, jj_b1 rfl⟩ rfl) ?_
  refine jr_if_eq (tgt := 28) hX dX6_bring_18 (by decide) (fun c_18 => ?_) (fun c_18 => absurd rfl c_18)
  refine jr_aload_n hX dX6_bring_28 rfl ?_
  refine jr_iconst (v := 1) hX dX6_bring_29 (by decide) ?_
  refine jr_ret (jr_runV hX hSt kM_X6_57 (c_fail (jj_fl hX) hly) rfl rfl (ly_kMo hly) ⟨_, _, rfl, by decide⟩ dX6_bring_30 rfl ⟨jj_b1 rfl, jj_b1 rfl⟩ rfl) ?_
  exact jr_iret hX dX6_bring_33 rfl rfl ⟨rfl, rfl, rfl, rfl, rfl, rfl⟩
set_option maxHeartbeats 4000000 in
set_option maxRecDepth 100000 in
theorem m_bring_x3 {l : Launch} (hfl : l.stackTraces = false) {D : jj_D} {n : Nat} {K : jj_K} {I : jj_I} {P : jj_P} {G : jj_G} (hly : ly K P) {H M B N : Nat} {C : jj_I} {m : Nat} {h : Nat} {g : Int32} {y : Int32} (hs : sf 0 H M B N C) (hk : sk 0 H M B N C) (hm : ml 0 H M B N C I) (hz : mz M C I) (h_m : m < M) (h_h : h < H) (h_g : g < 0 ∨ nI 4 ≤ g) :
    jj_Met l D yX6_bring (jj_ws yX6_bring cX6_bring 5 (some .int)) { frames := 2, cells := 0, slots := 0, locals := 43 } [.ref 150, .int (nI m), .int (nI h), .int g, .int y] n K I P G (jj_R (some (.int 0)) (n) (K) (jj_u (jj_u I 150 0 0) 150 0 1) (P) (G)) jj_noX := by
  refine jj_of hfl (by decide +kernel) [some (.ref 150), some (.int (nI m)), some (.int (nI h)), some (.int g), some (.int y)] rfl rfl ?_
  intro X hXl hX hSt
  have z := sf_Z hs
  have hm0 : ml 0 H M B N C (jj_u I 150 0 0) := ml_th hm z
  have hz0 : mz M C (jj_u I 150 0 0) := mz_th hz
  have hH0 := hm0.1.1
  have hM0 := hm0.1.2.1
  have hB0 := hm0.1.2.2.1
  have hN0 := hm0.1.2.2.2
  have hH2 := hs.1.2
  have hM2 := z.1
  have hB2 := z.2.1
  have hN2 := z.2.2
  refine jr_aload_n hX dX6_bring_0 rfl ?_
  refine jr_iconst (v := 0) hX dX6_bring_1 (by decide) ?_
  refine jr_puti hX kF_X6_40 rfl (ly_kMo hly) (by decide) dX6_bring_2 ?_
  refine jr_aload_n hX dX6_bring_5 rfl ?_
  refine jr_iload_n hX dX6_bring_6 rfl ?_
  refine jr_ret (jr_runV hX hSt kM_X6_96 (c_isMerchant_ok (jj_fl hX) hly h_m hM0 (by omega)) rfl rfl (ly_kMo hly) ⟨_, _, rfl, by decide⟩ dX6_bring_7 rfl ⟨jj_b1 rfl, jj_b1 rfl⟩ rfl) ?_
  refine jr_if_eq (tgt := 28) hX dX6_bring_10 (by decide) (fun c_10 => absurd c_10 (by decide)) (fun c_10 => ?_)
  refine jr_aload_n hX dX6_bring_13 rfl ?_
  refine jr_iload_n hX dX6_bring_14 rfl ?_
  refine jr_ret (jr_runV hX hSt kM_X6_61 (c_isHarbour_ok (jj_fl hX) hly h_h hH0 (by omega)) rfl rfl (ly_kMo hly) ⟨_, _, rfl, by decide⟩ dX6_bring_15 rfl ⟨jj_b1 rfl, jj_b1 rfl⟩ rfl) ?_
  refine jr_if_eq (tgt := 28) hX dX6_bring_18 (by decide) (fun c_18 => absurd c_18 (by decide)) (fun c_18 => ?_)
  refine jr_iload_n hX dX6_bring_21 rfl ?_
  refine jr_ret (jr_runS hX hSt kM_X6_65 (c_isGood_x (jj_fl hX) h_g) rfl rfl dX6_bring_22 rfl ⟨jj_b1 rfl, jj_b1 rfl⟩ rfl) ?_
  refine jr_if_ne (tgt := 34) hX dX6_bring_25 (by decide) (fun c_25 => absurd rfl c_25) (fun c_25 => ?_)
  refine jr_aload_n hX dX6_bring_28 rfl ?_
  refine jr_iconst (v := 1) hX dX6_bring_29 (by decide) ?_
  refine jr_ret (jr_runV hX hSt kM_X6_57 (c_fail (jj_fl hX) hly) rfl rfl (ly_kMo hly) ⟨_, _, rfl, by decide⟩ dX6_bring_30 rfl ⟨jj_b1 rfl, jj_b1 rfl⟩ rfl) ?_
  exact jr_iret hX dX6_bring_33 rfl rfl ⟨rfl, rfl, rfl, rfl, rfl, rfl⟩
set_option maxHeartbeats 4000000 in
set_option maxRecDepth 100000 in
theorem m_bring_x4 {l : Launch} (hfl : l.stackTraces = false) {D : jj_D} {n : Nat} {K : jj_K} {I : jj_I} {P : jj_P} {G : jj_G} (hly : ly K P) {H M B N : Nat} {C : jj_I} {m : Nat} {h : Nat} {g : Nat} {y : Int32} (hs : sf 0 H M B N C) (hk : sk 0 H M B N C) (hm : ml 0 H M B N C I) (hz : mz M C I) (h_m : m < M) (h_h : h < H) (h_g : g < 4) (h_y : y < 1 ∨ 100 < y) :
    jj_Met l D yX6_bring (jj_ws yX6_bring cX6_bring 5 (some .int)) { frames := 2, cells := 0, slots := 0, locals := 43 } [.ref 150, .int (nI m), .int (nI h), .int (nI g), .int y] n K I P G (jj_R (some (.int 0)) (n) (K) (jj_u (jj_u I 150 0 0) 150 0 2) (P) (G)) jj_noX := by
  refine jj_of hfl (by decide +kernel) [some (.ref 150), some (.int (nI m)), some (.int (nI h)), some (.int (nI g)), some (.int y)] rfl rfl ?_
  intro X hXl hX hSt
  have z := sf_Z hs
  have hm0 : ml 0 H M B N C (jj_u I 150 0 0) := ml_th hm z
  have hz0 : mz M C (jj_u I 150 0 0) := mz_th hz
  have hH0 := hm0.1.1
  have hM0 := hm0.1.2.1
  have hB0 := hm0.1.2.2.1
  have hN0 := hm0.1.2.2.2
  have hH2 := hs.1.2
  have hM2 := z.1
  have hB2 := z.2.1
  have hN2 := z.2.2
  refine jr_aload_n hX dX6_bring_0 rfl ?_
  refine jr_iconst (v := 0) hX dX6_bring_1 (by decide) ?_
  refine jr_puti hX kF_X6_40 rfl (ly_kMo hly) (by decide) dX6_bring_2 ?_
  refine jr_aload_n hX dX6_bring_5 rfl ?_
  refine jr_iload_n hX dX6_bring_6 rfl ?_
  refine jr_ret (jr_runV hX hSt kM_X6_96 (c_isMerchant_ok (jj_fl hX) hly h_m hM0 (by omega)) rfl rfl (ly_kMo hly) ⟨_, _, rfl, by decide⟩ dX6_bring_7 rfl ⟨jj_b1 rfl, jj_b1 rfl⟩ rfl) ?_
  refine jr_if_eq (tgt := 28) hX dX6_bring_10 (by decide) (fun c_10 => absurd c_10 (by decide)) (fun c_10 => ?_)
  refine jr_aload_n hX dX6_bring_13 rfl ?_
  refine jr_iload_n hX dX6_bring_14 rfl ?_
  refine jr_ret (jr_runV hX hSt kM_X6_61 (c_isHarbour_ok (jj_fl hX) hly h_h hH0 (by omega)) rfl rfl (ly_kMo hly) ⟨_, _, rfl, by decide⟩ dX6_bring_15 rfl ⟨jj_b1 rfl, jj_b1 rfl⟩ rfl) ?_
  refine jr_if_eq (tgt := 28) hX dX6_bring_18 (by decide) (fun c_18 => absurd c_18 (by decide)) (fun c_18 => ?_)
  refine jr_iload_n hX dX6_bring_21 rfl ?_
  refine jr_ret (jr_runS hX hSt kM_X6_65 (c_isGood_ok (jj_fl hX) h_g) rfl rfl dX6_bring_22 rfl ⟨jj_b1 rfl, jj_b1 rfl⟩ rfl) ?_
  refine jr_if_ne (tgt := 34) hX dX6_bring_25 (by decide) (fun c_25 => ?_) (fun c_25 => absurd c_25 (by decide))
  refine jr_iload hX dX6_bring_34 rfl ?_
  refine jr_iconst (v := 1) hX dX6_bring_36 (by decide) ?_
  refine jr_bipush (v := 100) hX dX6_bring_37 (by decide) ?_
  refine jr_ret (jr_runS hX hSt kM_X6_47 (c_isIn_x (jj_fl hX) (jm_nr h_y)) rfl rfl dX6_bring_39 rfl ⟨jj_b1 rfl, jj_b1 rfl⟩ rfl) ?_
  refine jr_if_ne (tgt := 51) hX dX6_bring_42 (by decide) (fun c_42 => absurd rfl c_42) (fun c_42 => ?_)
  refine jr_aload_n hX dX6_bring_45 rfl ?_
  refine jr_iconst (v := 2) hX dX6_bring_46 (by decide) ?_
  refine jr_ret (jr_runV hX hSt kM_X6_57 (c_fail (jj_fl hX) hly) rfl rfl (ly_kMo hly) ⟨_, _, rfl, by decide⟩ dX6_bring_47 rfl ⟨jj_b1 rfl, jj_b1 rfl⟩ rfl) ?_
  exact jr_iret hX dX6_bring_50 rfl rfl ⟨rfl, rfl, rfl, rfl, rfl, rfl⟩
set_option maxHeartbeats 4000000 in
set_option maxRecDepth 100000 in
theorem m_bring_ok {l : Launch} (hfl : l.stackTraces = false) {D : jj_D} {n : Nat} {K : jj_K} {I : jj_I} {P : jj_P} {G : jj_G} (hly : ly K P) {H M B N : Nat} {C : jj_I} {m : Nat} {h : Nat} {g : Nat} {y : Int32} (hs : sf 0 H M B N C) (hk : sk 0 H M B N C) (hm : ml 0 H M B N C I) (hz : mz M C I) (h_m : m < M) (h_h : h < H) (h_g : g < 4) (h_y : 1 ≤ y ∧ y ≤ 100) :
    jj_Met l D yX6_bring (jj_ws yX6_bring cX6_bring 5 (some .int)) { frames := 2, cells := 0, slots := 0, locals := 43 } [.ref 150, .int (nI m), .int (nI h), .int (nI g), .int y] n K I P G (jj_RS (fun r J => r = some (.int (jj_u C (aMt 0 m) (h * 4 + g) (C (aMt 0 m) (h * 4 + g) + y) (aMt 0 m) (h * 4 + g))) ∧ J 150 0 = 0 ∧ ml 0 H M B N (jj_u C (aMt 0 m) (h * 4 + g) (C (aMt 0 m) (h * 4 + g) + y)) J ∧ mz (M) (jj_u C (aMt 0 m) (h * 4 + g) (C (aMt 0 m) (h * 4 + g) + y)) J ∧ ∀ a, offN a → J a = I a) n K P G) jj_noX := by
  refine jj_of hfl (by decide +kernel) [some (.ref 150), some (.int (nI m)), some (.int (nI h)), some (.int (nI g)), some (.int y)] rfl rfl ?_
  intro X hXl hX hSt
  have z := sf_Z hs
  have hm0 : ml 0 H M B N C (jj_u I 150 0 0) := ml_th hm z
  have hz0 : mz M C (jj_u I 150 0 0) := mz_th hz
  have hH0 := hm0.1.1
  have hM0 := hm0.1.2.1
  have hB0 := hm0.1.2.2.1
  have hN0 := hm0.1.2.2.2
  have hH2 := hs.1.2
  have hM2 := z.1
  have hB2 := z.2.1
  have hN2 := z.2.2
  have hx : 4 * h + g = h * 4 + g := by omega
  refine jr_aload_n hX dX6_bring_0 rfl ?_
  refine jr_iconst (v := 0) hX dX6_bring_1 (by decide) ?_
  refine jr_puti hX kF_X6_40 rfl (ly_kMo hly) (by decide) dX6_bring_2 ?_
  refine jr_aload_n hX dX6_bring_5 rfl ?_
  refine jr_iload_n hX dX6_bring_6 rfl ?_
  refine jr_ret (jr_runV hX hSt kM_X6_96 (c_isMerchant_ok (jj_fl hX) hly h_m hM0 (by omega)) rfl rfl (ly_kMo hly) ⟨_, _, rfl, by decide⟩ dX6_bring_7 rfl ⟨jj_b1 rfl, jj_b1 rfl⟩ rfl) ?_
  refine jr_if_eq (tgt := 28) hX dX6_bring_10 (by decide) (fun c_10 => absurd c_10 (by decide)) (fun c_10 => ?_)
  refine jr_aload_n hX dX6_bring_13 rfl ?_
  refine jr_iload_n hX dX6_bring_14 rfl ?_
  refine jr_ret (jr_runV hX hSt kM_X6_61 (c_isHarbour_ok (jj_fl hX) hly h_h hH0 (by omega)) rfl rfl (ly_kMo hly) ⟨_, _, rfl, by decide⟩ dX6_bring_15 rfl ⟨jj_b1 rfl, jj_b1 rfl⟩ rfl) ?_
  refine jr_if_eq (tgt := 28) hX dX6_bring_18 (by decide) (fun c_18 => absurd c_18 (by decide)) (fun c_18 => ?_)
  refine jr_iload_n hX dX6_bring_21 rfl ?_
  refine jr_ret (jr_runS hX hSt kM_X6_65 (c_isGood_ok (jj_fl hX) h_g) rfl rfl dX6_bring_22 rfl ⟨jj_b1 rfl, jj_b1 rfl⟩ rfl) ?_
  refine jr_if_ne (tgt := 34) hX dX6_bring_25 (by decide) (fun c_25 => ?_) (fun c_25 => absurd c_25 (by decide))
  refine jr_iload hX dX6_bring_34 rfl ?_
  refine jr_iconst (v := 1) hX dX6_bring_36 (by decide) ?_
  refine jr_bipush (v := 100) hX dX6_bring_37 (by decide) ?_
  refine jr_ret (jr_runS hX hSt kM_X6_47 (c_isIn_ok (jj_fl hX) h_y) rfl rfl dX6_bring_39 rfl ⟨jj_b1 rfl, jj_b1 rfl⟩ rfl) ?_
  refine jr_if_ne (tgt := 51) hX dX6_bring_42 (by decide) (fun c_42 => ?_) (fun c_42 => absurd c_42 (by decide))
  refine jr_aload_n hX dX6_bring_51 rfl ?_
  refine jr_getr hX kF_X6_28 rfl (ly_kMo hly) (ly_p6_11 hly) dX6_bring_52 ?_
  refine jr_iload_n hX dX6_bring_55 rfl ?_
  refine jr_iload_n hX dX6_bring_56 rfl ?_
  refine jr_iload_n hX dX6_bring_57 rfl ?_
  refine jr_ret (jr_runS hX hSt kM_X6_99 (c_at (jj_fl hX) (m := m) (h := h) (g := g) rfl rfl rfl) rfl rfl dX6_bring_58 rfl ⟨jj_b1 rfl, jj_b1 rfl⟩ rfl) ?_
  rw [hx]
  refine jr_dup2 hX dX6_bring_61 rfl rfl ?_
  refine jr_iald hX (by first | with_reducible assumption | with_reducible exact ly_kWm hly (by first | assumption | omega) | with_reducible exact ly_kLd hly (by first | assumption | omega) | with_reducible exact ly_kIc hly (by first | assumption | omega) | with_reducible exact ly_kBe hly (by first | assumption | omega) | with_reducible exact ly_kPr hly (by first | assumption | omega) | with_reducible exact ly_kMt hly (by first | assumption | omega) (by first | assumption | omega) | with_reducible exact ly_kBc hly (by first | assumption | omega) (by first | assumption | omega) | with_reducible exact ly_k151 hly | with_reducible exact ly_k152 hly | with_reducible exact ly_k153 hly | with_reducible exact ly_k154 hly | with_reducible exact ly_k155 hly | with_reducible exact ly_k156 hly | with_reducible exact ly_k157 hly | with_reducible exact ly_k158 hly | with_reducible exact ly_k159 hly | with_reducible exact ly_k160 hly | with_reducible exact ly_kAh hly (by first | assumption | omega)) (by first | with_reducible rfl | with_reducible assumption | rfl) (by omega) dX6_bring_62 ?_
  rw [ml_hStock hm0 h_m (show h * 4 + g < 32 by omega)]
  refine jr_iload hX dX6_bring_63 rfl ?_
  refine jr_iadd hX dX6_bring_65 ?_
  refine jr_iast hX (by first | with_reducible assumption | with_reducible exact ly_kWm hly (by first | assumption | omega) | with_reducible exact ly_kLd hly (by first | assumption | omega) | with_reducible exact ly_kIc hly (by first | assumption | omega) | with_reducible exact ly_kBe hly (by first | assumption | omega) | with_reducible exact ly_kPr hly (by first | assumption | omega) | with_reducible exact ly_kMt hly (by first | assumption | omega) (by first | assumption | omega) | with_reducible exact ly_kBc hly (by first | assumption | omega) (by first | assumption | omega) | with_reducible exact ly_k151 hly | with_reducible exact ly_k152 hly | with_reducible exact ly_k153 hly | with_reducible exact ly_k154 hly | with_reducible exact ly_k155 hly | with_reducible exact ly_k156 hly | with_reducible exact ly_k157 hly | with_reducible exact ly_k158 hly | with_reducible exact ly_k159 hly | with_reducible exact ly_k160 hly | with_reducible exact ly_kAh hly (by first | assumption | omega)) (by first | assumption | with_reducible exact aMt_0 | with_reducible exact aBc_0 | with_reducible exact aWm_0 | with_reducible exact aLd_0 | with_reducible exact aIc_0 | with_reducible exact aBe_0 | with_reducible exact aPr_0 | with_reducible exact aAh_0 | decide | omega) (by first | with_reducible rfl | with_reducible assumption | rfl) (by omega) dX6_bring_66 ?_
  refine jr_aload_n hX dX6_bring_67 rfl ?_
  refine jr_getr hX kF_X6_28 rfl (ly_kMo hly) (ly_p6_11 hly) dX6_bring_68 ?_
  refine jr_iload_n hX dX6_bring_71 rfl ?_
  refine jr_iload_n hX dX6_bring_72 rfl ?_
  refine jr_iload_n hX dX6_bring_73 rfl ?_
  refine jr_ret (jr_runS hX hSt kM_X6_99 (c_at (jj_fl hX) (m := m) (h := h) (g := g) rfl rfl rfl) rfl rfl dX6_bring_74 rfl ⟨jj_b1 rfl, jj_b1 rfl⟩ rfl) ?_
  rw [hx]
  refine jr_iald hX (by first | with_reducible assumption | with_reducible exact ly_kWm hly (by first | assumption | omega) | with_reducible exact ly_kLd hly (by first | assumption | omega) | with_reducible exact ly_kIc hly (by first | assumption | omega) | with_reducible exact ly_kBe hly (by first | assumption | omega) | with_reducible exact ly_kPr hly (by first | assumption | omega) | with_reducible exact ly_kMt hly (by first | assumption | omega) (by first | assumption | omega) | with_reducible exact ly_kBc hly (by first | assumption | omega) (by first | assumption | omega) | with_reducible exact ly_k151 hly | with_reducible exact ly_k152 hly | with_reducible exact ly_k153 hly | with_reducible exact ly_k154 hly | with_reducible exact ly_k155 hly | with_reducible exact ly_k156 hly | with_reducible exact ly_k157 hly | with_reducible exact ly_k158 hly | with_reducible exact ly_k159 hly | with_reducible exact ly_k160 hly | with_reducible exact ly_kAh hly (by first | assumption | omega)) (by first | with_reducible rfl | with_reducible assumption | rfl) (by omega) dX6_bring_77 ?_
  exact jr_iret hX dX6_bring_78 rfl rfl ⟨⟨by rw [jj_u_eq, jj_u_eq], by rw [jj_u_ne (by decide), jj_u_eq], ml_uStock hm0 z (by omega) (by omega), mz_cg hz0 (fun m2 _ _ => by rw [jj_u_ne (by decide)]) (fun m2 k _ _ _ => jj_u_nk (by omega)) (fun m2 _ _ => jj_u_ne (by simp only [aMt]; omega)), fun a ha => (jj_u_ne (by unfold offN at ha; omega)).trans (jj_u_ne (by unfold offN at ha; omega))⟩, rfl, rfl, rfl, rfl⟩
set_option maxHeartbeats 4000000 in
set_option maxRecDepth 100000 in
theorem m_sell_x1 {l : Launch} (hfl : l.stackTraces = false) {D : jj_D} {n : Nat} {K : jj_K} {I : jj_I} {P : jj_P} {G : jj_G} (hly : ly K P) {H M B N : Nat} {C : jj_I} {m : Int32} {h : Int32} {g : Int32} {y : Int32} (hs : sf 0 H M B N C) (hk : sk 0 H M B N C) (hm : ml 0 H M B N C I) (hz : mz M C I) (h_m : m < 0 ∨ nI M ≤ m) :
    jj_Met l D yX6_sell (jj_ws yX6_sell cX6_sell 5 (some .int)) { frames := 2, cells := 0, slots := 0, locals := 43 } [.ref 150, .int m, .int h, .int g, .int y] n K I P G (jj_R (some (.int 0)) (n) (K) (jj_u (jj_u I 150 0 0) 150 0 1) (P) (G)) jj_noX := by
  refine jj_of hfl (by decide +kernel) [some (.ref 150), some (.int m), some (.int h), some (.int g), some (.int y)] rfl rfl ?_
  intro X hXl hX hSt
  have z := sf_Z hs
  have hm0 : ml 0 H M B N C (jj_u I 150 0 0) := ml_th hm z
  have hz0 : mz M C (jj_u I 150 0 0) := mz_th hz
  have hH0 := hm0.1.1
  have hM0 := hm0.1.2.1
  have hB0 := hm0.1.2.2.1
  have hN0 := hm0.1.2.2.2
  have hH2 := hs.1.2
  have hM2 := z.1
  have hB2 := z.2.1
  have hN2 := z.2.2
  refine jr_aload_n hX dX6_sell_0 rfl ?_
  refine jr_iconst (v := 0) hX dX6_sell_1 (by decide) ?_
  refine jr_puti hX kF_X6_40 rfl (ly_kMo hly) (by decide) dX6_sell_2 ?_
  refine jr_aload_n hX dX6_sell_5 rfl ?_
  refine jr_iload_n hX dX6_sell_6 rfl ?_
  refine jr_ret (jr_runV hX hSt kM_X6_96 (c_isMerchant_x (jj_fl hX) hly h_m hM0 (by omega)) rfl rfl (ly_kMo hly) ⟨_, _, rfl, by decide⟩ dX6_sell_7 rfl ⟨jj_b1 rfl, jj_b1 rfl⟩ rfl) ?_
  refine jr_if_eq (tgt := 28) hX dX6_sell_10 (by decide) (fun c_10 => ?_) (fun c_10 => absurd rfl c_10)
  refine jr_aload_n hX dX6_sell_28 rfl ?_
  refine jr_iconst (v := 1) hX dX6_sell_29 (by decide) ?_
  refine jr_ret (jr_runV hX hSt kM_X6_57 (c_fail (jj_fl hX) hly) rfl rfl (ly_kMo hly) ⟨_, _, rfl, by decide⟩ dX6_sell_30 rfl ⟨jj_b1 rfl, jj_b1 rfl⟩ rfl) ?_
  exact jr_iret hX dX6_sell_33 rfl rfl ⟨rfl, rfl, rfl, rfl, rfl, rfl⟩
set_option maxHeartbeats 4000000 in
set_option maxRecDepth 100000 in
theorem m_sell_x2 {l : Launch} (hfl : l.stackTraces = false) {D : jj_D} {n : Nat} {K : jj_K} {I : jj_I} {P : jj_P} {G : jj_G} (hly : ly K P) {H M B N : Nat} {C : jj_I} {m : Nat} {h : Int32} {g : Int32} {y : Int32} (hs : sf 0 H M B N C) (hk : sk 0 H M B N C) (hm : ml 0 H M B N C I) (hz : mz M C I) (h_m : m < M) (h_h : h < 0 ∨ nI H ≤ h) :
    jj_Met l D yX6_sell (jj_ws yX6_sell cX6_sell 5 (some .int)) { frames := 2, cells := 0, slots := 0, locals := 43 } [.ref 150, .int (nI m), .int h, .int g, .int y] n K I P G (jj_R (some (.int 0)) (n) (K) (jj_u (jj_u I 150 0 0) 150 0 1) (P) (G)) jj_noX := by
  refine jj_of hfl (by decide +kernel) [some (.ref 150), some (.int (nI m)), some (.int h), some (.int g), some (.int y)] rfl rfl ?_
  intro X hXl hX hSt
  have z := sf_Z hs
  have hm0 : ml 0 H M B N C (jj_u I 150 0 0) := ml_th hm z
  have hz0 : mz M C (jj_u I 150 0 0) := mz_th hz
  have hH0 := hm0.1.1
  have hM0 := hm0.1.2.1
  have hB0 := hm0.1.2.2.1
  have hN0 := hm0.1.2.2.2
  have hH2 := hs.1.2
  have hM2 := z.1
  have hB2 := z.2.1
  have hN2 := z.2.2
  refine jr_aload_n hX dX6_sell_0 rfl ?_
  refine jr_iconst (v := 0) hX dX6_sell_1 (by decide) ?_
  refine jr_puti hX kF_X6_40 rfl (ly_kMo hly) (by decide) dX6_sell_2 ?_
  refine jr_aload_n hX dX6_sell_5 rfl ?_
  refine jr_iload_n hX dX6_sell_6 rfl ?_
  refine jr_ret (jr_runV hX hSt kM_X6_96 (c_isMerchant_ok (jj_fl hX) hly h_m hM0 (by omega)) rfl rfl (ly_kMo hly) ⟨_, _, rfl, by decide⟩ dX6_sell_7 rfl ⟨jj_b1 rfl, jj_b1 rfl⟩ rfl) ?_
  refine jr_if_eq (tgt := 28) hX dX6_sell_10 (by decide) (fun c_10 => absurd c_10 (by decide)) (fun c_10 => ?_)
  refine jr_aload_n hX dX6_sell_13 rfl ?_
  refine jr_iload_n hX dX6_sell_14 rfl ?_
  refine jr_ret (jr_runV hX hSt kM_X6_61 (c_isHarbour_x (jj_fl hX) hly h_h hH0 (by omega)) rfl rfl (ly_kMo hly) ⟨_, _, rfl, by decide⟩ dX6_sell_15 rfl ⟨jj_b1 rfl, jj_b1 rfl⟩ rfl) ?_
  refine jr_if_eq (tgt := 28) hX dX6_sell_18 (by decide) (fun c_18 => ?_) (fun c_18 => absurd rfl c_18)
  refine jr_aload_n hX dX6_sell_28 rfl ?_
  refine jr_iconst (v := 1) hX dX6_sell_29 (by decide) ?_
  refine jr_ret (jr_runV hX hSt kM_X6_57 (c_fail (jj_fl hX) hly) rfl rfl (ly_kMo hly) ⟨_, _, rfl, by decide⟩ dX6_sell_30 rfl ⟨jj_b1 rfl, jj_b1 rfl⟩ rfl) ?_
  exact jr_iret hX dX6_sell_33 rfl rfl ⟨rfl, rfl, rfl, rfl, rfl, rfl⟩
set_option maxHeartbeats 4000000 in
set_option maxRecDepth 100000 in
theorem m_sell_x3 {l : Launch} (hfl : l.stackTraces = false) {D : jj_D} {n : Nat} {K : jj_K} {I : jj_I} {P : jj_P} {G : jj_G} (hly : ly K P) {H M B N : Nat} {C : jj_I} {m : Nat} {h : Nat} {g : Int32} {y : Int32} (hs : sf 0 H M B N C) (hk : sk 0 H M B N C) (hm : ml 0 H M B N C I) (hz : mz M C I) (h_m : m < M) (h_h : h < H) (h_g : g < 0 ∨ nI 4 ≤ g) :
    jj_Met l D yX6_sell (jj_ws yX6_sell cX6_sell 5 (some .int)) { frames := 2, cells := 0, slots := 0, locals := 43 } [.ref 150, .int (nI m), .int (nI h), .int g, .int y] n K I P G (jj_R (some (.int 0)) (n) (K) (jj_u (jj_u I 150 0 0) 150 0 1) (P) (G)) jj_noX := by
  refine jj_of hfl (by decide +kernel) [some (.ref 150), some (.int (nI m)), some (.int (nI h)), some (.int g), some (.int y)] rfl rfl ?_
  intro X hXl hX hSt
  have z := sf_Z hs
  have hm0 : ml 0 H M B N C (jj_u I 150 0 0) := ml_th hm z
  have hz0 : mz M C (jj_u I 150 0 0) := mz_th hz
  have hH0 := hm0.1.1
  have hM0 := hm0.1.2.1
  have hB0 := hm0.1.2.2.1
  have hN0 := hm0.1.2.2.2
  have hH2 := hs.1.2
  have hM2 := z.1
  have hB2 := z.2.1
  have hN2 := z.2.2
  refine jr_aload_n hX dX6_sell_0 rfl ?_
  refine jr_iconst (v := 0) hX dX6_sell_1 (by decide) ?_
  refine jr_puti hX kF_X6_40 rfl (ly_kMo hly) (by decide) dX6_sell_2 ?_
  refine jr_aload_n hX dX6_sell_5 rfl ?_
  refine jr_iload_n hX dX6_sell_6 rfl ?_
  refine jr_ret (jr_runV hX hSt kM_X6_96 (c_isMerchant_ok (jj_fl hX) hly h_m hM0 (by omega)) rfl rfl (ly_kMo hly) ⟨_, _, rfl, by decide⟩ dX6_sell_7 rfl ⟨jj_b1 rfl, jj_b1 rfl⟩ rfl) ?_
  refine jr_if_eq (tgt := 28) hX dX6_sell_10 (by decide) (fun c_10 => absurd c_10 (by decide)) (fun c_10 => ?_)
  refine jr_aload_n hX dX6_sell_13 rfl ?_
  refine jr_iload_n hX dX6_sell_14 rfl ?_
  refine jr_ret (jr_runV hX hSt kM_X6_61 (c_isHarbour_ok (jj_fl hX) hly h_h hH0 (by omega)) rfl rfl (ly_kMo hly) ⟨_, _, rfl, by decide⟩ dX6_sell_15 rfl ⟨jj_b1 rfl, jj_b1 rfl⟩ rfl) ?_
  refine jr_if_eq (tgt := 28) hX dX6_sell_18 (by decide) (fun c_18 => absurd c_18 (by decide)) (fun c_18 => ?_)
  refine jr_iload_n hX dX6_sell_21 rfl ?_
  refine jr_ret (jr_runS hX hSt kM_X6_65 (c_isGood_x (jj_fl hX) h_g) rfl rfl dX6_sell_22 rfl ⟨jj_b1 rfl, jj_b1 rfl⟩ rfl) ?_
  refine jr_if_ne (tgt := 34) hX dX6_sell_25 (by decide) (fun c_25 => absurd rfl c_25) (fun c_25 => ?_)
  refine jr_aload_n hX dX6_sell_28 rfl ?_
  refine jr_iconst (v := 1) hX dX6_sell_29 (by decide) ?_
  refine jr_ret (jr_runV hX hSt kM_X6_57 (c_fail (jj_fl hX) hly) rfl rfl (ly_kMo hly) ⟨_, _, rfl, by decide⟩ dX6_sell_30 rfl ⟨jj_b1 rfl, jj_b1 rfl⟩ rfl) ?_
  exact jr_iret hX dX6_sell_33 rfl rfl ⟨rfl, rfl, rfl, rfl, rfl, rfl⟩
set_option maxHeartbeats 4000000 in
set_option maxRecDepth 100000 in
theorem m_sell_x4 {l : Launch} (hfl : l.stackTraces = false) {D : jj_D} {n : Nat} {K : jj_K} {I : jj_I} {P : jj_P} {G : jj_G} (hly : ly K P) {H M B N : Nat} {C : jj_I} {m : Nat} {h : Nat} {g : Nat} {y : Int32} (hs : sf 0 H M B N C) (hk : sk 0 H M B N C) (hm : ml 0 H M B N C I) (hz : mz M C I) (h_m : m < M) (h_h : h < H) (h_g : g < 4) (h_y : y < 1) :
    jj_Met l D yX6_sell (jj_ws yX6_sell cX6_sell 5 (some .int)) { frames := 2, cells := 0, slots := 0, locals := 43 } [.ref 150, .int (nI m), .int (nI h), .int (nI g), .int y] n K I P G (jj_R (some (.int 0)) (n) (K) (jj_u (jj_u I 150 0 0) 150 0 2) (P) (G)) jj_noX := by
  refine jj_of hfl (by decide +kernel) [some (.ref 150), some (.int (nI m)), some (.int (nI h)), some (.int (nI g)), some (.int y)] rfl rfl ?_
  intro X hXl hX hSt
  have z := sf_Z hs
  have hm0 : ml 0 H M B N C (jj_u I 150 0 0) := ml_th hm z
  have hz0 : mz M C (jj_u I 150 0 0) := mz_th hz
  have hH0 := hm0.1.1
  have hM0 := hm0.1.2.1
  have hB0 := hm0.1.2.2.1
  have hN0 := hm0.1.2.2.2
  have hH2 := hs.1.2
  have hM2 := z.1
  have hB2 := z.2.1
  have hN2 := z.2.2
  refine jr_aload_n hX dX6_sell_0 rfl ?_
  refine jr_iconst (v := 0) hX dX6_sell_1 (by decide) ?_
  refine jr_puti hX kF_X6_40 rfl (ly_kMo hly) (by decide) dX6_sell_2 ?_
  refine jr_aload_n hX dX6_sell_5 rfl ?_
  refine jr_iload_n hX dX6_sell_6 rfl ?_
  refine jr_ret (jr_runV hX hSt kM_X6_96 (c_isMerchant_ok (jj_fl hX) hly h_m hM0 (by omega)) rfl rfl (ly_kMo hly) ⟨_, _, rfl, by decide⟩ dX6_sell_7 rfl ⟨jj_b1 rfl, jj_b1 rfl⟩ rfl) ?_
  refine jr_if_eq (tgt := 28) hX dX6_sell_10 (by decide) (fun c_10 => absurd c_10 (by decide)) (fun c_10 => ?_)
  refine jr_aload_n hX dX6_sell_13 rfl ?_
  refine jr_iload_n hX dX6_sell_14 rfl ?_
  refine jr_ret (jr_runV hX hSt kM_X6_61 (c_isHarbour_ok (jj_fl hX) hly h_h hH0 (by omega)) rfl rfl (ly_kMo hly) ⟨_, _, rfl, by decide⟩ dX6_sell_15 rfl ⟨jj_b1 rfl, jj_b1 rfl⟩ rfl) ?_
  refine jr_if_eq (tgt := 28) hX dX6_sell_18 (by decide) (fun c_18 => absurd c_18 (by decide)) (fun c_18 => ?_)
  refine jr_iload_n hX dX6_sell_21 rfl ?_
  refine jr_ret (jr_runS hX hSt kM_X6_65 (c_isGood_ok (jj_fl hX) h_g) rfl rfl dX6_sell_22 rfl ⟨jj_b1 rfl, jj_b1 rfl⟩ rfl) ?_
  refine jr_if_ne (tgt := 34) hX dX6_sell_25 (by decide) (fun c_25 => ?_) (fun c_25 => absurd c_25 (by decide))
  refine jr_iload hX dX6_sell_34 rfl ?_
  refine jr_iconst (v := 1) hX dX6_sell_36 (by decide) ?_
  refine jr_icmp_ge (tgt := 46) hX dX6_sell_37 (by decide) (fun c_37 => absurd c_37 (Int32.not_le.mpr h_y)) (fun c_37 => ?_)
  refine jr_aload_n hX dX6_sell_40 rfl ?_
  refine jr_iconst (v := 2) hX dX6_sell_41 (by decide) ?_
  refine jr_ret (jr_runV hX hSt kM_X6_57 (c_fail (jj_fl hX) hly) rfl rfl (ly_kMo hly) ⟨_, _, rfl, by decide⟩ dX6_sell_42 rfl ⟨jj_b1 rfl, jj_b1 rfl⟩ rfl) ?_
  exact jr_iret hX dX6_sell_45 rfl rfl ⟨rfl, rfl, rfl, rfl, rfl, rfl⟩
set_option maxHeartbeats 4000000 in
set_option maxRecDepth 100000 in
theorem m_sell_x5 {l : Launch} (hfl : l.stackTraces = false) {D : jj_D} {n : Nat} {K : jj_K} {I : jj_I} {P : jj_P} {G : jj_G} (hly : ly K P) {H M B N : Nat} {C : jj_I} {m : Nat} {h : Nat} {g : Nat} {y : Int32} (hs : sf 0 H M B N C) (hk : sk 0 H M B N C) (hm : ml 0 H M B N C I) (hz : mz M C I) (h_m : m < M) (h_h : h < H) (h_g : g < 4) (h_y : 1 ≤ y) (h_e : C (aMt 0 m) (h * 4 + g) < y) :
    jj_Met l D yX6_sell (jj_ws yX6_sell cX6_sell 5 (some .int)) { frames := 2, cells := 0, slots := 0, locals := 43 } [.ref 150, .int (nI m), .int (nI h), .int (nI g), .int y] n K I P G (jj_R (some (.int 0)) (n) (K) (jj_u (jj_u I 150 0 0) 150 0 3) (P) (G)) jj_noX := by
  refine jj_of hfl (by decide +kernel) [some (.ref 150), some (.int (nI m)), some (.int (nI h)), some (.int (nI g)), some (.int y)] rfl rfl ?_
  intro X hXl hX hSt
  have z := sf_Z hs
  have hm0 : ml 0 H M B N C (jj_u I 150 0 0) := ml_th hm z
  have hz0 : mz M C (jj_u I 150 0 0) := mz_th hz
  have hH0 := hm0.1.1
  have hM0 := hm0.1.2.1
  have hB0 := hm0.1.2.2.1
  have hN0 := hm0.1.2.2.2
  have hH2 := hs.1.2
  have hM2 := z.1
  have hB2 := z.2.1
  have hN2 := z.2.2
  have hx : 4 * h + g = h * 4 + g := by omega
  refine jr_aload_n hX dX6_sell_0 rfl ?_
  refine jr_iconst (v := 0) hX dX6_sell_1 (by decide) ?_
  refine jr_puti hX kF_X6_40 rfl (ly_kMo hly) (by decide) dX6_sell_2 ?_
  refine jr_aload_n hX dX6_sell_5 rfl ?_
  refine jr_iload_n hX dX6_sell_6 rfl ?_
  refine jr_ret (jr_runV hX hSt kM_X6_96 (c_isMerchant_ok (jj_fl hX) hly h_m hM0 (by omega)) rfl rfl (ly_kMo hly) ⟨_, _, rfl, by decide⟩ dX6_sell_7 rfl ⟨jj_b1 rfl, jj_b1 rfl⟩ rfl) ?_
  refine jr_if_eq (tgt := 28) hX dX6_sell_10 (by decide) (fun c_10 => absurd c_10 (by decide)) (fun c_10 => ?_)
  refine jr_aload_n hX dX6_sell_13 rfl ?_
  refine jr_iload_n hX dX6_sell_14 rfl ?_
  refine jr_ret (jr_runV hX hSt kM_X6_61 (c_isHarbour_ok (jj_fl hX) hly h_h hH0 (by omega)) rfl rfl (ly_kMo hly) ⟨_, _, rfl, by decide⟩ dX6_sell_15 rfl ⟨jj_b1 rfl, jj_b1 rfl⟩ rfl) ?_
  refine jr_if_eq (tgt := 28) hX dX6_sell_18 (by decide) (fun c_18 => absurd c_18 (by decide)) (fun c_18 => ?_)
  refine jr_iload_n hX dX6_sell_21 rfl ?_
  refine jr_ret (jr_runS hX hSt kM_X6_65 (c_isGood_ok (jj_fl hX) h_g) rfl rfl dX6_sell_22 rfl ⟨jj_b1 rfl, jj_b1 rfl⟩ rfl) ?_
  refine jr_if_ne (tgt := 34) hX dX6_sell_25 (by decide) (fun c_25 => ?_) (fun c_25 => absurd c_25 (by decide))
  refine jr_iload hX dX6_sell_34 rfl ?_
  refine jr_iconst (v := 1) hX dX6_sell_36 (by decide) ?_
  refine jr_icmp_ge (tgt := 46) hX dX6_sell_37 (by decide) (fun c_37 => ?_) (fun c_37 => absurd h_y c_37)
  refine jr_aload_n hX dX6_sell_46 rfl ?_
  refine jr_getr hX kF_X6_28 rfl (ly_kMo hly) (ly_p6_11 hly) dX6_sell_47 ?_
  refine jr_iload_n hX dX6_sell_50 rfl ?_
  refine jr_iload_n hX dX6_sell_51 rfl ?_
  refine jr_iload_n hX dX6_sell_52 rfl ?_
  refine jr_ret (jr_runS hX hSt kM_X6_99 (c_at (jj_fl hX) (m := m) (h := h) (g := g) rfl rfl rfl) rfl rfl dX6_sell_53 rfl ⟨jj_b1 rfl, jj_b1 rfl⟩ rfl) ?_
  rw [hx]
  refine jr_iald hX (by first | with_reducible assumption | with_reducible exact ly_kWm hly (by first | assumption | omega) | with_reducible exact ly_kLd hly (by first | assumption | omega) | with_reducible exact ly_kIc hly (by first | assumption | omega) | with_reducible exact ly_kBe hly (by first | assumption | omega) | with_reducible exact ly_kPr hly (by first | assumption | omega) | with_reducible exact ly_kMt hly (by first | assumption | omega) (by first | assumption | omega) | with_reducible exact ly_kBc hly (by first | assumption | omega) (by first | assumption | omega) | with_reducible exact ly_k151 hly | with_reducible exact ly_k152 hly | with_reducible exact ly_k153 hly | with_reducible exact ly_k154 hly | with_reducible exact ly_k155 hly | with_reducible exact ly_k156 hly | with_reducible exact ly_k157 hly | with_reducible exact ly_k158 hly | with_reducible exact ly_k159 hly | with_reducible exact ly_k160 hly | with_reducible exact ly_kAh hly (by first | assumption | omega)) (by first | with_reducible rfl | with_reducible assumption | rfl) (by omega) dX6_sell_56 ?_
  rw [ml_hStock hm0 h_m (show h * 4 + g < 32 by omega)]
  refine jr_iload hX dX6_sell_57 rfl ?_
  refine jr_icmp_ge (tgt := 68) hX dX6_sell_59 (by decide) (fun c_59 => absurd c_59 (Int32.not_le.mpr h_e)) (fun c_59 => ?_)
  refine jr_aload_n hX dX6_sell_62 rfl ?_
  refine jr_iconst (v := 3) hX dX6_sell_63 (by decide) ?_
  refine jr_ret (jr_runV hX hSt kM_X6_57 (c_fail (jj_fl hX) hly) rfl rfl (ly_kMo hly) ⟨_, _, rfl, by decide⟩ dX6_sell_64 rfl ⟨jj_b1 rfl, jj_b1 rfl⟩ rfl) ?_
  exact jr_iret hX dX6_sell_67 rfl rfl ⟨rfl, rfl, rfl, rfl, rfl, rfl⟩
set_option maxHeartbeats 4000000 in
set_option maxRecDepth 100000 in
theorem m_sell_ok {l : Launch} (hfl : l.stackTraces = false) {D : jj_D} {n : Nat} {K : jj_K} {I : jj_I} {P : jj_P} {G : jj_G} (hly : ly K P) {H M B N : Nat} {C : jj_I} {m : Nat} {h : Nat} {g : Nat} {y : Int32} (hs : sf 0 H M B N C) (hk : sk 0 H M B N C) (hm : ml 0 H M B N C I) (hz : mz M C I) (h_m : m < M) (h_h : h < H) (h_g : g < 4) (h_y : 1 ≤ y) (h_e : y ≤ C (aMt 0 m) (h * 4 + g)) :
    jj_Met l D yX6_sell (jj_ws yX6_sell cX6_sell 5 (some .int)) { frames := 2, cells := 0, slots := 0, locals := 43 } [.ref 150, .int (nI m), .int (nI h), .int (nI g), .int y] n K I P G (jj_RS (fun r J => r = some (.int (f_sell m (h * 4 + g) y C (aM 0 m) 0)) ∧ J 150 0 = 0 ∧ ml 0 H M B N (f_sell m (h * 4 + g) y C) J ∧ mz (M) (f_sell m (h * 4 + g) y C) J ∧ ∀ a, offN a → J a = I a) n K P G) jj_noX := by
  refine jj_of hfl (by decide +kernel) [some (.ref 150), some (.int (nI m)), some (.int (nI h)), some (.int (nI g)), some (.int y)] rfl rfl ?_
  intro X hXl hX hSt
  have z := sf_Z hs
  have hm0 : ml 0 H M B N C (jj_u I 150 0 0) := ml_th hm z
  have hz0 : mz M C (jj_u I 150 0 0) := mz_th hz
  have hH0 := hm0.1.1
  have hM0 := hm0.1.2.1
  have hB0 := hm0.1.2.2.1
  have hN0 := hm0.1.2.2.2
  have hH2 := hs.1.2
  have hM2 := z.1
  have hB2 := z.2.1
  have hN2 := z.2.2
  have hx : 4 * h + g = h * 4 + g := by omega
  refine jr_aload_n hX dX6_sell_0 rfl ?_
  refine jr_iconst (v := 0) hX dX6_sell_1 (by decide) ?_
  refine jr_puti hX kF_X6_40 rfl (ly_kMo hly) (by decide) dX6_sell_2 ?_
  refine jr_aload_n hX dX6_sell_5 rfl ?_
  refine jr_iload_n hX dX6_sell_6 rfl ?_
  refine jr_ret (jr_runV hX hSt kM_X6_96 (c_isMerchant_ok (jj_fl hX) hly h_m hM0 (by omega)) rfl rfl (ly_kMo hly) ⟨_, _, rfl, by decide⟩ dX6_sell_7 rfl ⟨jj_b1 rfl, jj_b1 rfl⟩ rfl) ?_
  refine jr_if_eq (tgt := 28) hX dX6_sell_10 (by decide) (fun c_10 => absurd c_10 (by decide)) (fun c_10 => ?_)
  refine jr_aload_n hX dX6_sell_13 rfl ?_
  refine jr_iload_n hX dX6_sell_14 rfl ?_
  refine jr_ret (jr_runV hX hSt kM_X6_61 (c_isHarbour_ok (jj_fl hX) hly h_h hH0 (by omega)) rfl rfl (ly_kMo hly) ⟨_, _, rfl, by decide⟩ dX6_sell_15 rfl ⟨jj_b1 rfl, jj_b1 rfl⟩ rfl) ?_
  refine jr_if_eq (tgt := 28) hX dX6_sell_18 (by decide) (fun c_18 => absurd c_18 (by decide)) (fun c_18 => ?_)
  refine jr_iload_n hX dX6_sell_21 rfl ?_
  refine jr_ret (jr_runS hX hSt kM_X6_65 (c_isGood_ok (jj_fl hX) h_g) rfl rfl dX6_sell_22 rfl ⟨jj_b1 rfl, jj_b1 rfl⟩ rfl) ?_
  refine jr_if_ne (tgt := 34) hX dX6_sell_25 (by decide) (fun c_25 => ?_) (fun c_25 => absurd c_25 (by decide))
  refine jr_iload hX dX6_sell_34 rfl ?_
  refine jr_iconst (v := 1) hX dX6_sell_36 (by decide) ?_
  refine jr_icmp_ge (tgt := 46) hX dX6_sell_37 (by decide) (fun c_37 => ?_) (fun c_37 => absurd h_y c_37)
  refine jr_aload_n hX dX6_sell_46 rfl ?_
  refine jr_getr hX kF_X6_28 rfl (ly_kMo hly) (ly_p6_11 hly) dX6_sell_47 ?_
  refine jr_iload_n hX dX6_sell_50 rfl ?_
  refine jr_iload_n hX dX6_sell_51 rfl ?_
  refine jr_iload_n hX dX6_sell_52 rfl ?_
  refine jr_ret (jr_runS hX hSt kM_X6_99 (c_at (jj_fl hX) (m := m) (h := h) (g := g) rfl rfl rfl) rfl rfl dX6_sell_53 rfl ⟨jj_b1 rfl, jj_b1 rfl⟩ rfl) ?_
  rw [hx]
  refine jr_iald hX (by first | with_reducible assumption | with_reducible exact ly_kWm hly (by first | assumption | omega) | with_reducible exact ly_kLd hly (by first | assumption | omega) | with_reducible exact ly_kIc hly (by first | assumption | omega) | with_reducible exact ly_kBe hly (by first | assumption | omega) | with_reducible exact ly_kPr hly (by first | assumption | omega) | with_reducible exact ly_kMt hly (by first | assumption | omega) (by first | assumption | omega) | with_reducible exact ly_kBc hly (by first | assumption | omega) (by first | assumption | omega) | with_reducible exact ly_k151 hly | with_reducible exact ly_k152 hly | with_reducible exact ly_k153 hly | with_reducible exact ly_k154 hly | with_reducible exact ly_k155 hly | with_reducible exact ly_k156 hly | with_reducible exact ly_k157 hly | with_reducible exact ly_k158 hly | with_reducible exact ly_k159 hly | with_reducible exact ly_k160 hly | with_reducible exact ly_kAh hly (by first | assumption | omega)) (by first | with_reducible rfl | with_reducible assumption | rfl) (by omega) dX6_sell_56 ?_
  rw [ml_hStock hm0 h_m (show h * 4 + g < 32 by omega)]
  refine jr_iload hX dX6_sell_57 rfl ?_
  refine jr_icmp_ge (tgt := 68) hX dX6_sell_59 (by decide) (fun c_59 => ?_) (fun c_59 => absurd h_e c_59)
  refine jr_aload_n hX dX6_sell_68 rfl ?_
  refine jr_getr hX kF_X6_28 rfl (ly_kMo hly) (ly_p6_11 hly) dX6_sell_69 ?_
  refine jr_iload_n hX dX6_sell_72 rfl ?_
  refine jr_iload_n hX dX6_sell_73 rfl ?_
  refine jr_iload_n hX dX6_sell_74 rfl ?_
  refine jr_ret (jr_runS hX hSt kM_X6_99 (c_at (jj_fl hX) (m := m) (h := h) (g := g) rfl rfl rfl) rfl rfl dX6_sell_75 rfl ⟨jj_b1 rfl, jj_b1 rfl⟩ rfl) ?_
  rw [hx]
  refine jr_dup2 hX dX6_sell_78 rfl rfl ?_
  refine jr_iald hX (by first | with_reducible assumption | with_reducible exact ly_kWm hly (by first | assumption | omega) | with_reducible exact ly_kLd hly (by first | assumption | omega) | with_reducible exact ly_kIc hly (by first | assumption | omega) | with_reducible exact ly_kBe hly (by first | assumption | omega) | with_reducible exact ly_kPr hly (by first | assumption | omega) | with_reducible exact ly_kMt hly (by first | assumption | omega) (by first | assumption | omega) | with_reducible exact ly_kBc hly (by first | assumption | omega) (by first | assumption | omega) | with_reducible exact ly_k151 hly | with_reducible exact ly_k152 hly | with_reducible exact ly_k153 hly | with_reducible exact ly_k154 hly | with_reducible exact ly_k155 hly | with_reducible exact ly_k156 hly | with_reducible exact ly_k157 hly | with_reducible exact ly_k158 hly | with_reducible exact ly_k159 hly | with_reducible exact ly_k160 hly | with_reducible exact ly_kAh hly (by first | assumption | omega)) (by first | with_reducible rfl | with_reducible assumption | rfl) (by omega) dX6_sell_79 ?_
  rw [ml_hStock hm0 h_m (show h * 4 + g < 32 by omega)]
  refine jr_iload hX dX6_sell_80 rfl ?_
  refine jr_isub hX dX6_sell_82 ?_
  refine jr_iast hX (by first | with_reducible assumption | with_reducible exact ly_kWm hly (by first | assumption | omega) | with_reducible exact ly_kLd hly (by first | assumption | omega) | with_reducible exact ly_kIc hly (by first | assumption | omega) | with_reducible exact ly_kBe hly (by first | assumption | omega) | with_reducible exact ly_kPr hly (by first | assumption | omega) | with_reducible exact ly_kMt hly (by first | assumption | omega) (by first | assumption | omega) | with_reducible exact ly_kBc hly (by first | assumption | omega) (by first | assumption | omega) | with_reducible exact ly_k151 hly | with_reducible exact ly_k152 hly | with_reducible exact ly_k153 hly | with_reducible exact ly_k154 hly | with_reducible exact ly_k155 hly | with_reducible exact ly_k156 hly | with_reducible exact ly_k157 hly | with_reducible exact ly_k158 hly | with_reducible exact ly_k159 hly | with_reducible exact ly_k160 hly | with_reducible exact ly_kAh hly (by first | assumption | omega)) (by first | assumption | with_reducible exact aMt_0 | with_reducible exact aBc_0 | with_reducible exact aWm_0 | with_reducible exact aLd_0 | with_reducible exact aIc_0 | with_reducible exact aBe_0 | with_reducible exact aPr_0 | with_reducible exact aAh_0 | decide | omega) (by first | with_reducible rfl | with_reducible assumption | rfl) (by omega) dX6_sell_83 ?_
  refine jr_aload_n hX dX6_sell_84 rfl ?_
  refine jr_getr hX kF_X6_25 rfl (ly_kMo hly) (ly_p6_10 hly) dX6_sell_85 ?_
  refine jr_iload_n hX dX6_sell_88 rfl ?_
  refine jr_dup2 hX dX6_sell_89 rfl rfl ?_
  refine jr_iald hX (by first | with_reducible assumption | with_reducible exact ly_kWm hly (by first | assumption | omega) | with_reducible exact ly_kLd hly (by first | assumption | omega) | with_reducible exact ly_kIc hly (by first | assumption | omega) | with_reducible exact ly_kBe hly (by first | assumption | omega) | with_reducible exact ly_kPr hly (by first | assumption | omega) | with_reducible exact ly_kMt hly (by first | assumption | omega) (by first | assumption | omega) | with_reducible exact ly_kBc hly (by first | assumption | omega) (by first | assumption | omega) | with_reducible exact ly_k151 hly | with_reducible exact ly_k152 hly | with_reducible exact ly_k153 hly | with_reducible exact ly_k154 hly | with_reducible exact ly_k155 hly | with_reducible exact ly_k156 hly | with_reducible exact ly_k157 hly | with_reducible exact ly_k158 hly | with_reducible exact ly_k159 hly | with_reducible exact ly_k160 hly | with_reducible exact ly_kAh hly (by first | assumption | omega)) (by first | with_reducible rfl | with_reducible assumption | rfl) (by omega) dX6_sell_90 ?_
  rw [jj_u_ne (show (156 : Nat) ≠ 157 by decide), ml_hCoin hm0 h_m]
  refine jr_iload hX dX6_sell_91 rfl ?_
  refine jr_aload_n hX dX6_sell_93 rfl ?_
  refine jr_getr hX kF_X6_19 rfl (ly_kMo hly) (ly_p6_5 hly) dX6_sell_94 ?_
  refine jr_iconst (v := 4) hX dX6_sell_97 (by decide) ?_
  refine jr_iload_n hX dX6_sell_98 rfl ?_
  refine jr_imul hX dX6_sell_99 ?_
  refine jr_iload_n hX dX6_sell_100 rfl ?_
  refine jr_iadd hX dX6_sell_101 ?_
  refine jr_iald hX (by first | with_reducible assumption | with_reducible exact ly_kWm hly (by first | assumption | omega) | with_reducible exact ly_kLd hly (by first | assumption | omega) | with_reducible exact ly_kIc hly (by first | assumption | omega) | with_reducible exact ly_kBe hly (by first | assumption | omega) | with_reducible exact ly_kPr hly (by first | assumption | omega) | with_reducible exact ly_kMt hly (by first | assumption | omega) (by first | assumption | omega) | with_reducible exact ly_kBc hly (by first | assumption | omega) (by first | assumption | omega) | with_reducible exact ly_k151 hly | with_reducible exact ly_k152 hly | with_reducible exact ly_k153 hly | with_reducible exact ly_k154 hly | with_reducible exact ly_k155 hly | with_reducible exact ly_k156 hly | with_reducible exact ly_k157 hly | with_reducible exact ly_k158 hly | with_reducible exact ly_k159 hly | with_reducible exact ly_k160 hly | with_reducible exact ly_kAh hly (by first | assumption | omega)) (show _ = nI (4 * h + g) from by rw [show (4 : Int32) = nI 4 from rfl, pk_mul, nI_add]) (by omega) dX6_sell_102 ?_
  rw [jj_u_ne (show (154 : Nat) ≠ 157 by decide), ml_hPr hm0 (show 4 * h + g < 32 by omega), hx]
  refine jr_imul hX dX6_sell_103 ?_
  refine jr_iadd hX dX6_sell_104 ?_
  refine jr_iast hX (by first | with_reducible assumption | with_reducible exact ly_kWm hly (by first | assumption | omega) | with_reducible exact ly_kLd hly (by first | assumption | omega) | with_reducible exact ly_kIc hly (by first | assumption | omega) | with_reducible exact ly_kBe hly (by first | assumption | omega) | with_reducible exact ly_kPr hly (by first | assumption | omega) | with_reducible exact ly_kMt hly (by first | assumption | omega) (by first | assumption | omega) | with_reducible exact ly_kBc hly (by first | assumption | omega) (by first | assumption | omega) | with_reducible exact ly_k151 hly | with_reducible exact ly_k152 hly | with_reducible exact ly_k153 hly | with_reducible exact ly_k154 hly | with_reducible exact ly_k155 hly | with_reducible exact ly_k156 hly | with_reducible exact ly_k157 hly | with_reducible exact ly_k158 hly | with_reducible exact ly_k159 hly | with_reducible exact ly_k160 hly | with_reducible exact ly_kAh hly (by first | assumption | omega)) (by first | assumption | with_reducible exact aMt_0 | with_reducible exact aBc_0 | with_reducible exact aWm_0 | with_reducible exact aLd_0 | with_reducible exact aIc_0 | with_reducible exact aBe_0 | with_reducible exact aPr_0 | with_reducible exact aAh_0 | decide | omega) (by first | with_reducible rfl | with_reducible assumption | rfl) (by omega) dX6_sell_105 ?_
  refine jr_aload_n hX dX6_sell_106 rfl ?_
  refine jr_getr hX kF_X6_25 rfl (ly_kMo hly) (ly_p6_10 hly) dX6_sell_107 ?_
  refine jr_iload_n hX dX6_sell_110 rfl ?_
  refine jr_iald hX (by first | with_reducible assumption | with_reducible exact ly_kWm hly (by first | assumption | omega) | with_reducible exact ly_kLd hly (by first | assumption | omega) | with_reducible exact ly_kIc hly (by first | assumption | omega) | with_reducible exact ly_kBe hly (by first | assumption | omega) | with_reducible exact ly_kPr hly (by first | assumption | omega) | with_reducible exact ly_kMt hly (by first | assumption | omega) (by first | assumption | omega) | with_reducible exact ly_kBc hly (by first | assumption | omega) (by first | assumption | omega) | with_reducible exact ly_k151 hly | with_reducible exact ly_k152 hly | with_reducible exact ly_k153 hly | with_reducible exact ly_k154 hly | with_reducible exact ly_k155 hly | with_reducible exact ly_k156 hly | with_reducible exact ly_k157 hly | with_reducible exact ly_k158 hly | with_reducible exact ly_k159 hly | with_reducible exact ly_k160 hly | with_reducible exact ly_kAh hly (by first | assumption | omega)) (by first | with_reducible rfl | with_reducible assumption | rfl) (by omega) dX6_sell_111 ?_
  exact jr_iret hX dX6_sell_112 rfl rfl ⟨⟨by rw [jj_u_eq, fsell_eq (by omega), jj_u_eq], by rw [jj_u_ne (by decide), jj_u_ne (by decide), jj_u_eq], by rw [fsell_eq (by omega)]; exact ml_uCoin (ml_uStock hm0 z (by omega) (by omega)) z (by omega), mz_cg hz0 (fun m2 _ _ => by rw [jj_u_nk (by omega), jj_u_ne (by decide)]) (fun m2 k _ _ _ => by rw [jj_u_ne (by decide), jj_u_nk (by omega)]) (fun m2 _ _ => by rw [fsell_eq (by omega), jj_u_ne (by simp only [aMt, aM]; omega), jj_u_ne (by simp only [aMt]; omega)]), fun a ha => (jj_u_ne (by unfold offN at ha; omega)).trans ((jj_u_ne (by unfold offN at ha; omega)).trans (jj_u_ne (by unfold offN at ha; omega)))⟩, rfl, rfl, rfl, rfl⟩
set_option maxHeartbeats 4000000 in
set_option maxRecDepth 100000 in
theorem m_addMerchant_x1 {l : Launch} (hfl : l.stackTraces = false) {D : jj_D} {n : Nat} {K : jj_K} {I : jj_I} {P : jj_P} {G : jj_G} (hly : ly K P) {H M B N : Nat} {C : jj_I} {y : Int32} (hs : sf 0 H M B N C) (hk : sk 0 H M B N C) (hm : ml 0 H M B N C I) (hz : mz M C I) (h_y : y < 0 ∨ 5000 < y) :
    jj_Met l D yX6_addMerchant (jj_ws yX6_addMerchant cX6_addMerchant 2 (some .int)) { frames := 1, cells := 0, slots := 0, locals := 22 } [.ref 150, .int y] n K I P G (jj_R (some (.int 0)) (n) (K) (jj_u (jj_u I 150 0 0) 150 0 1) (P) (G)) jj_noX := by
  refine jj_of hfl (by decide +kernel) [some (.ref 150), some (.int y)] rfl rfl ?_
  intro X hXl hX hSt
  have z := sf_Z hs
  have hm0 : ml 0 H M B N C (jj_u I 150 0 0) := ml_th hm z
  have hz0 : mz M C (jj_u I 150 0 0) := mz_th hz
  have hH0 := hm0.1.1
  have hM0 := hm0.1.2.1
  have hB0 := hm0.1.2.2.1
  have hN0 := hm0.1.2.2.2
  have hH2 := hs.1.2
  have hM2 := z.1
  have hB2 := z.2.1
  have hN2 := z.2.2
  refine jr_aload_n hX dX6_addMerchant_0 rfl ?_
  refine jr_iconst (v := 0) hX dX6_addMerchant_1 (by decide) ?_
  refine jr_puti hX kF_X6_40 rfl (ly_kMo hly) (by decide) dX6_addMerchant_2 ?_
  refine jr_iload_n hX dX6_addMerchant_5 rfl ?_
  refine jr_iconst (v := 0) hX dX6_addMerchant_6 (by decide) ?_
  refine jr_sipush (v := 5000) hX dX6_addMerchant_7 (by decide) ?_
  refine jr_ret (jr_runS hX hSt kM_X6_47 (c_isIn_x (jj_fl hX) (jm_nr h_y)) rfl rfl dX6_addMerchant_10 rfl ⟨jj_b1 rfl, jj_b1 rfl⟩ rfl) ?_
  refine jr_if_ne (tgt := 22) hX dX6_addMerchant_13 (by decide) (fun c_13 => absurd rfl c_13) (fun c_13 => ?_)
  refine jr_aload_n hX dX6_addMerchant_16 rfl ?_
  refine jr_iconst (v := 1) hX dX6_addMerchant_17 (by decide) ?_
  refine jr_ret (jr_runV hX hSt kM_X6_57 (c_fail (jj_fl hX) hly) rfl rfl (ly_kMo hly) ⟨_, _, rfl, by decide⟩ dX6_addMerchant_18 rfl ⟨jj_b1 rfl, jj_b1 rfl⟩ rfl) ?_
  exact jr_iret hX dX6_addMerchant_21 rfl rfl ⟨rfl, rfl, rfl, rfl, rfl, rfl⟩
set_option maxHeartbeats 4000000 in
set_option maxRecDepth 100000 in
theorem m_addMerchant_x2 {l : Launch} (hfl : l.stackTraces = false) {D : jj_D} {n : Nat} {K : jj_K} {I : jj_I} {P : jj_P} {G : jj_G} (hly : ly K P) {H M B N : Nat} {C : jj_I} {y : Int32} (hs : sf 0 H M B N C) (hk : sk 0 H M B N C) (hm : ml 0 H M B N C I) (hz : mz M C I) (h_y : 0 ≤ y ∧ y ≤ 5000) (h_r : M = 5) :
    jj_Met l D yX6_addMerchant (jj_ws yX6_addMerchant cX6_addMerchant 2 (some .int)) { frames := 1, cells := 0, slots := 0, locals := 22 } [.ref 150, .int y] n K I P G (jj_R (some (.int 0)) (n) (K) (jj_u (jj_u I 150 0 0) 150 0 2) (P) (G)) jj_noX := by
  refine jj_of hfl (by decide +kernel) [some (.ref 150), some (.int y)] rfl rfl ?_
  intro X hXl hX hSt
  have z := sf_Z hs
  have hm0 : ml 0 H M B N C (jj_u I 150 0 0) := ml_th hm z
  have hz0 : mz M C (jj_u I 150 0 0) := mz_th hz
  have hH0 := hm0.1.1
  have hM0 := hm0.1.2.1
  have hB0 := hm0.1.2.2.1
  have hN0 := hm0.1.2.2.2
  have hH2 := hs.1.2
  have hM2 := z.1
  have hB2 := z.2.1
  have hN2 := z.2.2
  refine jr_aload_n hX dX6_addMerchant_0 rfl ?_
  refine jr_iconst (v := 0) hX dX6_addMerchant_1 (by decide) ?_
  refine jr_puti hX kF_X6_40 rfl (ly_kMo hly) (by decide) dX6_addMerchant_2 ?_
  refine jr_iload_n hX dX6_addMerchant_5 rfl ?_
  refine jr_iconst (v := 0) hX dX6_addMerchant_6 (by decide) ?_
  refine jr_sipush (v := 5000) hX dX6_addMerchant_7 (by decide) ?_
  refine jr_ret (jr_runS hX hSt kM_X6_47 (c_isIn_ok (jj_fl hX) h_y) rfl rfl dX6_addMerchant_10 rfl ⟨jj_b1 rfl, jj_b1 rfl⟩ rfl) ?_
  refine jr_if_ne (tgt := 22) hX dX6_addMerchant_13 (by decide) (fun c_13 => ?_) (fun c_13 => absurd c_13 (by decide))
  refine jr_aload_n hX dX6_addMerchant_22 rfl ?_
  refine jr_geti hX kF_X6_51 rfl (ly_kMo hly) dX6_addMerchant_23 ?_
  refine jr_iconst (v := 5) hX dX6_addMerchant_26 (by decide) ?_
  rw [hM0]
  refine jr_icmp_ne (tgt := 36) hX dX6_addMerchant_27 (by decide) (fun c_27 => absurd (by rw [h_r]; rfl) c_27) (fun c_27 => ?_)
  refine jr_aload_n hX dX6_addMerchant_30 rfl ?_
  refine jr_iconst (v := 2) hX dX6_addMerchant_31 (by decide) ?_
  refine jr_ret (jr_runV hX hSt kM_X6_57 (c_fail (jj_fl hX) hly) rfl rfl (ly_kMo hly) ⟨_, _, rfl, by decide⟩ dX6_addMerchant_32 rfl ⟨jj_b1 rfl, jj_b1 rfl⟩ rfl) ?_
  exact jr_iret hX dX6_addMerchant_35 rfl rfl ⟨rfl, rfl, rfl, rfl, rfl, rfl⟩
set_option maxHeartbeats 4000000 in
set_option maxRecDepth 100000 in
theorem m_addMerchant_ok {l : Launch} (hfl : l.stackTraces = false) {D : jj_D} {n : Nat} {K : jj_K} {I : jj_I} {P : jj_P} {G : jj_G} (hly : ly K P) {H M B N : Nat} {C : jj_I} {y : Int32} (hs : sf 0 H M B N C) (hk : sk 0 H M B N C) (hm : ml 0 H M B N C I) (hz : mz M C I) (h_y : 0 ≤ y ∧ y ≤ 5000) (h_r : M < 5) :
    jj_Met l D yX6_addMerchant (jj_ws yX6_addMerchant cX6_addMerchant 2 (some .int)) { frames := 1, cells := 0, slots := 0, locals := 22 } [.ref 150, .int y] n K I P G (jj_RS (fun r J => r = some (.int (nI M)) ∧ J 150 0 = 0 ∧ ml 0 H (M + 1) B N (jj_u (jj_u C (aM 0 M) 0 y) (aW 0) 1 (nI (M + 1))) J ∧ mz (M + 1) (jj_u (jj_u C (aM 0 M) 0 y) (aW 0) 1 (nI (M + 1))) J ∧ ∀ a, offN a → J a = I a) n K P G) jj_noX := by
  refine jj_of hfl (by decide +kernel) [some (.ref 150), some (.int y)] rfl rfl ?_
  intro X hXl hX hSt
  have z := sf_Z hs
  have hm0 : ml 0 H M B N C (jj_u I 150 0 0) := ml_th hm z
  have hz0 : mz M C (jj_u I 150 0 0) := mz_th hz
  have hH0 := hm0.1.1
  have hM0 := hm0.1.2.1
  have hB0 := hm0.1.2.2.1
  have hN0 := hm0.1.2.2.2
  have hH2 := hs.1.2
  have hM2 := z.1
  have hB2 := z.2.1
  have hN2 := z.2.2
  refine jr_aload_n hX dX6_addMerchant_0 rfl ?_
  refine jr_iconst (v := 0) hX dX6_addMerchant_1 (by decide) ?_
  refine jr_puti hX kF_X6_40 rfl (ly_kMo hly) (by decide) dX6_addMerchant_2 ?_
  refine jr_iload_n hX dX6_addMerchant_5 rfl ?_
  refine jr_iconst (v := 0) hX dX6_addMerchant_6 (by decide) ?_
  refine jr_sipush (v := 5000) hX dX6_addMerchant_7 (by decide) ?_
  refine jr_ret (jr_runS hX hSt kM_X6_47 (c_isIn_ok (jj_fl hX) h_y) rfl rfl dX6_addMerchant_10 rfl ⟨jj_b1 rfl, jj_b1 rfl⟩ rfl) ?_
  refine jr_if_ne (tgt := 22) hX dX6_addMerchant_13 (by decide) (fun c_13 => ?_) (fun c_13 => absurd c_13 (by decide))
  refine jr_aload_n hX dX6_addMerchant_22 rfl ?_
  refine jr_geti hX kF_X6_51 rfl (ly_kMo hly) dX6_addMerchant_23 ?_
  refine jr_iconst (v := 5) hX dX6_addMerchant_26 (by decide) ?_
  rw [hM0]
  refine jr_icmp_ne (tgt := 36) hX dX6_addMerchant_27 (by decide) (fun c_27 => ?_) (fun c_27 => absurd c_27 (fun e => absurd (jm_n (s := 5) e (by omega) (by omega)) (by omega)))
  refine jr_aload_n hX dX6_addMerchant_36 rfl ?_
  refine jr_getr hX kF_X6_25 rfl (ly_kMo hly) (ly_p6_10 hly) dX6_addMerchant_37 ?_
  refine jr_aload_n hX dX6_addMerchant_40 rfl ?_
  refine jr_geti hX kF_X6_51 rfl (ly_kMo hly) dX6_addMerchant_41 ?_
  rw [hM0]
  refine jr_iload_n hX dX6_addMerchant_44 rfl ?_
  refine jr_iast hX (by first | with_reducible assumption | with_reducible exact ly_kWm hly (by first | assumption | omega) | with_reducible exact ly_kLd hly (by first | assumption | omega) | with_reducible exact ly_kIc hly (by first | assumption | omega) | with_reducible exact ly_kBe hly (by first | assumption | omega) | with_reducible exact ly_kPr hly (by first | assumption | omega) | with_reducible exact ly_kMt hly (by first | assumption | omega) (by first | assumption | omega) | with_reducible exact ly_kBc hly (by first | assumption | omega) (by first | assumption | omega) | with_reducible exact ly_k151 hly | with_reducible exact ly_k152 hly | with_reducible exact ly_k153 hly | with_reducible exact ly_k154 hly | with_reducible exact ly_k155 hly | with_reducible exact ly_k156 hly | with_reducible exact ly_k157 hly | with_reducible exact ly_k158 hly | with_reducible exact ly_k159 hly | with_reducible exact ly_k160 hly | with_reducible exact ly_kAh hly (by first | assumption | omega)) (by first | assumption | with_reducible exact aMt_0 | with_reducible exact aBc_0 | with_reducible exact aWm_0 | with_reducible exact aLd_0 | with_reducible exact aIc_0 | with_reducible exact aBe_0 | with_reducible exact aPr_0 | with_reducible exact aAh_0 | decide | omega) (by first | with_reducible rfl | with_reducible assumption | rfl) (by omega) dX6_addMerchant_45 ?_
  refine jr_aload_n hX dX6_addMerchant_46 rfl ?_
  refine jr_dup hX dX6_addMerchant_47 rfl ?_
  refine jr_geti hX kF_X6_51 rfl (ly_kMo hly) dX6_addMerchant_48 ?_
  rw [jj_u_ne (show (150 : Nat) ≠ 156 by decide), hM0]
  refine jr_iconst (v := 1) hX dX6_addMerchant_51 (by decide) ?_
  refine jr_iadd hX dX6_addMerchant_52 ?_
  rw [nI_1]
  refine jr_puti hX kF_X6_51 rfl (ly_kMo hly) (by decide) dX6_addMerchant_53 ?_
  refine jr_aload_n hX dX6_addMerchant_56 rfl ?_
  refine jr_geti hX kF_X6_51 rfl (ly_kMo hly) dX6_addMerchant_57 ?_
  rw [jj_u_eq]
  refine jr_iconst (v := 1) hX dX6_addMerchant_60 (by decide) ?_
  refine jr_isub hX dX6_addMerchant_61 ?_
  rw [nI_pred]
  exact jr_iret hX dX6_addMerchant_62 rfl rfl ⟨⟨rfl, by rw [jj_u_nk (by decide), jj_u_ne (by decide), jj_u_eq], ml_uM hm0 z h_r hz0, mz_uM hz0, fun a ha => (jj_u_ne (by unfold offN at ha; omega)).trans ((jj_u_ne (by unfold offN at ha; omega)).trans (jj_u_ne (by unfold offN at ha; omega)))⟩, rfl, rfl, rfl, rfl⟩
