/-! the days of a way -/
theorem sx_sm {x : Int32} {f : Nat → Int32} : ∀ {n : Nat}, sx x f n = x + sm f n
  | 0 => (Int32.add_zero x).symm
  | n + 1 => by
    show sx x f n + f n = x + (sm f n + f n)
    rw [sx_sm, Int32.add_assoc]
theorem sm_left {f : Nat → Int32} : ∀ {n : Nat}, sm f (n + 1) = f 0 + sm (fun j => f (j + 1)) n
  | 0 => by
    show (0 : Int32) + f 0 = f 0 + 0
    rw [Int32.zero_add, Int32.add_zero]
  | n + 1 => by
    show sm f (n + 1) + f (n + 1) = f 0 + (sm (fun j => f (j + 1)) n + f (n + 1))
    rw [sm_left, Int32.add_assoc]
theorem sm_rev {g : Nat → Int32} : ∀ {n : Nat}, sm (fun j => g (n - 1 - j)) n = sm g n
  | 0 => rfl
  | n + 1 => by
    rw [sm_left]
    show g (n + 1 - 1 - 0) + sm (fun j => g (n + 1 - 1 - (j + 1))) n = sm g n + g n
    rw [show n + 1 - 1 - 0 = n by omega, sm_congr (g := fun j => g (n - 1 - j)) (fun k hk => by rw [show n + 1 - 1 - (k + 1) = n - 1 - k by omega]), sm_rev, Int32.add_comm]
theorem wy_eq {A : Nat → Nat} {H M B N a b : Nat} {C I : jj_I} (hm : ms A H M B N C I) (ha : a < H) (hb : b < H) : s_wy A a b I = f_wd 0 a b C := by
  have dI := hm.2.2.1
  unfold s_wy f_wd
  rw [sx_sm, sx_sm, sx_sm, sx_sm]
  congr 1
  · congr 1
    refine sm_congr (fun k hk => ?_)
    exact dI (a + k) (by omega)
  · rw [← sm_rev (g := fun j => 2 * C (aLd 0) (b + j))]
    refine sm_congr (fun k hk => ?_)
    have := dI (a - 1 - k) (by omega)
    rw [show a - 1 - k + 1 = a - k by omega] at this
    rw [this, show b + (a - b - 1 - k) = a - 1 - k by omega]
set_option maxHeartbeats 4000000 in
set_option maxRecDepth 100000 in
theorem s_way {l : Launch} (hfl : l.stackTraces = false) {D : jj_D} {n : Nat} {K : jj_K} {I : jj_I} {P : jj_P} {G : jj_G} {A : Nat → Nat} {H M B N : Nat} {a b : Nat} (hsy : sy A H M B N n K P) (ha : a < 8) (hb : b < 8) :
    jj_Met l D yX7_way (jj_ws yX7_way cX7_way 5 (some .int)) { frames := 0, cells := 0, slots := 0, locals := 0 } [.ref (A 0), .int (nI a), .int (nI b)] n K I P G (jj_R (some (.int (s_wy A a b I))) (n) (K) (I) (P) (G)) jj_noX := by
  refine jj_of hfl (by decide +kernel) [some (.ref (A 0)), some (.int (nI a)), some (.int (nI b)), none, none] rfl rfl ?_
  intro X hXl hX hSt
  obtain ⟨hH8, hM5, hB10, hN30⟩ := id hsy.1
  refine jr_iconst (v := 0) hX dX7_way_0 (by decide) ?_
  refine jr_istore_n hX dX7_way_1 rfl ?_
  refine jr_iload_n hX dX7_way_2 rfl ?_
  refine jr_istore hX dX7_way_3 rfl ?_
  have h1 : ∀ k, k ≤ b - a → jj_J X D 5 (0) (0) (jj_MQ X D { frames := 0, cells := 0, slots := 0, locals := 0 } (jj_R (some (.int (s_wy A a b I))) (n) (K) (I) (P) (G)) jj_noX) (n) (K) (I) (P) (G) 5 [some (.ref (A 0)), some (.int (nI a)), some (.int (nI b)), some (.int (sx 0 (fun j => I (A 2) (a + j + 1)) k)), some (.int (nI (a + k)))] [] := by
    refine jj_for (b - a) _ ?_ (fun k hk ih => ?_)
    · refine jr_iload hX dX7_way_5 rfl ?_
      refine jr_iload_n hX dX7_way_7 rfl ?_
      refine jr_icmp_ge (tgt := 29) hX dX7_way_8 (by decide) (fun c_8 => ?_) (fun c_8 => absurd (nI_le (by omega) (by omega)) c_8)
      refine jr_iload_n hX dX7_way_29 rfl ?_
      refine jr_istore hX dX7_way_30 rfl ?_
      have h2 : ∀ j, j ≤ a - b → jj_J X D 5 (0) (0) (jj_MQ X D { frames := 0, cells := 0, slots := 0, locals := 0 } (jj_R (some (.int (s_wy A a b I))) (n) (K) (I) (P) (G)) jj_noX) (n) (K) (I) (P) (G) 32 [some (.ref (A 0)), some (.int (nI a)), some (.int (nI b)), some (.int (sx (sx 0 (fun j => I (A 2) (a + j + 1)) (b - a)) (fun j => 2 * I (A 2) (a - j)) j)), some (.int (nI (a - j)))] [] := by
        refine jj_for (a - b) _ ?_ (fun j hj ih => ?_)
        · refine jr_iload hX dX7_way_32 rfl ?_
          refine jr_iload_n hX dX7_way_34 rfl ?_
          refine jr_icmp_le (tgt := 56) hX dX7_way_35 (by decide) (fun c_35 => ?_) (fun c_35 => absurd (nI_le (by omega) (by omega)) c_35)
          refine jr_iload_n hX dX7_way_56 rfl ?_
          exact jr_iret hX dX7_way_57 rfl rfl ⟨rfl, rfl, rfl, rfl, rfl, rfl⟩
        · refine jr_iload hX dX7_way_32 rfl ?_
          refine jr_iload_n hX dX7_way_34 rfl ?_
          refine jr_icmp_le (tgt := 56) hX dX7_way_35 (by decide) (fun c_35 => absurd c_35 (nI_ge (by omega) (by omega))) (fun c_35 => ?_)
          refine jr_iload_n hX dX7_way_38 rfl ?_
          refine jr_iconst (v := 2) hX dX7_way_39 (by decide) ?_
          refine jr_aload_n hX dX7_way_40 rfl ?_
          refine jr_getr hX kF_X7_18 rfl (sy_k0 hsy) (sy_p0_2 hsy) dX7_way_41 ?_
          refine jr_iload hX dX7_way_44 rfl ?_
          refine jr_iald hX (sy_k2 hsy) rfl (by omega) dX7_way_46 ?_
          refine jr_imul hX dX7_way_47 ?_
          refine jr_iadd hX dX7_way_48 ?_
          refine jr_istore_n hX dX7_way_49 rfl ?_
          refine jr_iinc hX dX7_way_50 rfl (by rw [jj_dec1, show a - j = (a - (j + 1)) + 1 by omega, nI_pred]) rfl ?_
          refine jr_goto (tgt := 32) hX dX7_way_53 (by decide) ?_
          exact ih
      exact h2 0 (Nat.zero_le _)
    · refine jr_iload hX dX7_way_5 rfl ?_
      refine jr_iload_n hX dX7_way_7 rfl ?_
      refine jr_icmp_ge (tgt := 29) hX dX7_way_8 (by decide) (fun c_8 => absurd c_8 (nI_ge (by omega) (by omega))) (fun c_8 => ?_)
      refine jr_iload_n hX dX7_way_11 rfl ?_
      refine jr_aload_n hX dX7_way_12 rfl ?_
      refine jr_getr hX kF_X7_18 rfl (sy_k0 hsy) (sy_p0_2 hsy) dX7_way_13 ?_
      refine jr_iload hX dX7_way_16 rfl ?_
      refine jr_iconst (v := 1) hX dX7_way_18 (by decide) ?_
      refine jr_iadd hX dX7_way_19 ?_
      rw [nI_1]
      refine jr_iald hX (sy_k2 hsy) rfl (by omega) dX7_way_20 ?_
      refine jr_iadd hX dX7_way_21 ?_
      refine jr_istore_n hX dX7_way_22 rfl ?_
      refine jr_iinc hX dX7_way_23 rfl (by first | with_reducible exact jj_inc _ | with_reducible exact jj_inc1 _) rfl ?_
      refine jr_goto (tgt := 5) hX dX7_way_26 (by decide) ?_
      exact ih
  exact h1 0 (Nat.zero_le _)
