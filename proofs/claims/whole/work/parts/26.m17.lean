/-- what a day of the model leaves: other places, and those who are no merchants yet -/
def fM (M : Nat) (I J : jj_I) : Prop := (∀ a, offM a → J a = I a) ∧ ∀ m, M ≤ m → m < 5 → J 156 m = I 156 m ∧ ∀ k, k < 32 → J 157 (32 * m + k) = I 157 (32 * m + k)
theorem fM_refl {M : Nat} {I : jj_I} : fM M I I := ⟨fun _ _ => rfl, fun _ _ _ => ⟨rfl, fun _ _ => rfl⟩⟩
theorem fM_off {M x : Nat} {I J J1 : jj_I} (e : ∀ a, a ≠ x → J1 a = J a) (hx : 155 ≤ x ∧ x < 161 ∧ x ≠ 156 ∧ x ≠ 157) (h : fM M I J) : fM M I J1 :=
  ⟨fun a ha => (e a (by unfold offM at ha; omega)).trans (h.1 a ha), fun m h1 h2 => by rw [e 156 (by omega), e 157 (by omega)]; exact h.2 m h1 h2⟩
theorem fM_ne {M x k : Nat} {v : Int32} {I J : jj_I} (h : fM M I J) (hx : 155 ≤ x ∧ x < 161 ∧ x ≠ 156 ∧ x ≠ 157) : fM M I (jj_u J x k v) := fM_off (fun a ha => jj_u_ne ha) hx h
theorem fM_c {M m : Nat} {v : Int32} {I J : jj_I} (h : fM M I J) (hm : m < M) : fM M I (jj_u J 156 m v) :=
  ⟨fun a ha => (jj_u_ne (by unfold offM at ha; omega)).trans (h.1 a ha), fun m0 h1 h2 => by rw [jj_u_nk (by omega), jj_u_ne (by decide)]; exact h.2 m0 h1 h2⟩
theorem fM_s {M m k : Nat} {v : Int32} {I J : jj_I} (h : fM M I J) (hm : m < M) (hk : k < 32) : fM M I (jj_u J 157 (32 * m + k) v) :=
  ⟨fun a ha => (jj_u_ne (by unfold offM at ha; omega)).trans (h.1 a ha), fun m0 h1 h2 => ⟨by rw [jj_u_ne (by decide)]; exact (h.2 m0 h1 h2).1, fun q hq => by rw [jj_u_nk (by omega)]; exact (h.2 m0 h1 h2).2 q hq⟩⟩
theorem py_eq {w k o : Nat} {C : jj_I} (eo : C (aB w k) 0 = nI o) (ho : o < 5) : f_py w k C = if C (aB w k) 3 = 1 then (if 0 < C (aM w o) 0 then jj_u C (aM w o) 0 (C (aM w o) 0 - 1) else jj_u C (aB w k) 3 0) else C := by
  unfold f_py
  rw [eo, nv_nI (by omega)]
theorem jm_st {w H M B N : Nat} {C I : jj_I} {p : Int32} (h : ml w H M B N C I) : sm (m_st p I) B = sm (q_bi w p C) B := sm_congr (fun k hk => by
  unfold m_st q_bi
  rw [(ml_hB h hk).2.2.2.1])
theorem jm_c0 {c : Prop} {hd : Decidable c} (h : (if c then (0 : Int32) else 1) = 0) : c := Decidable.byContradiction (fun n => by rw [if_neg n] at h; exact absurd h (by decide))
theorem jm_c1 {c : Prop} {hd : Decidable c} (h : ¬ (if c then (0 : Int32) else 1) = 0) : ¬ c := fun n => h (if_pos n)
theorem jm_day {w H M B N : Nat} {C I : jj_I} (h : ml w H M B N C I) (z : mlZ M B N) : ml w H M B N (jj_u C (aR w) 0 (C (aR w) 0 + 1)) (jj_u I 160 0 (I 160 0 + 1)) := by
  rw [ml_hDay h]
  exact ml_uDay h z
theorem c_pays {l : Launch} (hfl : l.stackTraces = false) {D : jj_D} {n : Nat} {K : jj_K} {I : jj_I} {P : jj_P} {G : jj_G} (hly : ly K P) {d a q h g : Nat} (hd : d < 30) (h0 : I 159 (7 * d + 0) = nI a) (h1 : I 159 (7 * d + 1) = nI q) (h3 : I 159 (7 * d + 3) = nI g) (ha : a < 5) (hq : q < 5) (hh : h < 8) (hg : g < 4) :
    jj_Met l D yX6_pays (jj_ws yX6_pays cX6_pays 4 (some .boolean)) { frames := 1, cells := 0, slots := 0, locals := 22 } [.ref 150, .int (nI d), .int (nI h)] n K I P G (jj_R (some (.int (if I 157 (32 * q + (4 * h + g)) < I 159 (7 * d + 4) then 0 else 1))) n K (if I 157 (32 * q + (4 * h + g)) < I 159 (7 * d + 4) then I else m_py d a q h g I) P G) jj_noX := by
  by_cases hc : I 157 (32 * q + (4 * h + g)) < I 159 (7 * d + 4)
  · rw [if_pos hc, if_pos hc]; exact c_pays_no hfl hly hd h0 h1 h3 ha hq hh hg hc
  · rw [if_neg hc, if_neg hc]; exact c_pays_yes hfl hly hd h0 h1 h3 ha hq hh hg hc
theorem ml_py {w H M B N d a q h g : Nat} {C I : jj_I} (hm : ml w H M B N C I) (z : mlZ M B N) (hd : d < N) (ha : a < M) (hq : q < M) (hh : h < 8) (hg : g < 4) : ml w H M B N (jj_u (f_hd w q a (4 * h + g) (C (aD w d) 4) C) (aD w d) 6 1) (m_py d a q h g I) := by
  have zz := z
  obtain ⟨z1, z2, z3⟩ := zz
  unfold m_py f_hd
  try dsimp only
  rw [ml_hDebt hm hd (show 4 < 7 by decide), ml_hStock hm hq (show 4 * h + g < 32 by omega)]
  have s1 := ml_uStock (m := q) (k := 4 * h + g) (v := C (aMt w q) (4 * h + g) - C (aD w d) 4) hm z (by omega) (by omega)
  rw [ml_hStock s1 ha (show 4 * h + g < 32 by omega)]
  exact ml_uDebt (ml_uStock s1 z (by omega) (by omega)) z (by omega) (by decide)
theorem ml_cn {w H M B N i a q : Nat} {C I : jj_I} {x : Int32} (hm : ml w H M B N C I) (z : mlZ M B N) (hi : i < N) (ha : a < M) (hq : q < M) : ml w H M B N (jj_u (jj_u (jj_u C (aM w q) 0 (C (aM w q) 0 - x)) (aM w a) 0 (jj_u C (aM w q) 0 (C (aM w q) 0 - x) (aM w a) 0 + x)) (aD w i) 6 1) (jj_u (jj_u (jj_u I 159 (7 * i + 6) 1) 156 q (C (aM w q) 0 - x)) 156 a (jj_u (jj_u I 159 (7 * i + 6) 1) 156 q (C (aM w q) 0 - x) 156 a + x)) := by
  have zz := z
  obtain ⟨z1, z2, z3⟩ := zz
  have ne : ∀ m, m < 5 → aM w m ≠ aD w i := fun m hm => by simp only [aM, aD]; omega
  have s1 := ml_uDebt (d := i) (k := 6) (v := 1) hm z (by omega) (by decide)
  have s2 := ml_uCoin (m := q) (v := C (aM w q) 0 - x) s1 z (by omega)
  have e2 := ml_hCoin s2 ha
  rw [e2]
  have s3 := ml_uCoin (m := a) (v := jj_u (jj_u C (aD w i) 6 1) (aM w q) 0 (C (aM w q) 0 - x) (aM w a) 0 + x) s2 z (by omega)
  rw [jj_u_comm (a := aM w a) (b := aD w i) (Or.inl (ne a (by omega))), jj_u_comm (a := aM w q) (b := aD w i) (Or.inl (ne q (by omega)))]
  have e3 : jj_u (jj_u C (aD w i) 6 1) (aM w q) 0 (C (aM w q) 0 - x) (aM w a) = jj_u C (aM w q) 0 (C (aM w q) 0 - x) (aM w a) := by
    rw [← jj_u_comm (a := aM w q) (b := aD w i) (Or.inl (ne q (by omega)))]
    exact jj_u_ne (ne a (by omega))
  rw [e3] at s3 ⊢
  exact s3
set_option maxHeartbeats 4000000 in
set_option maxRecDepth 100000 in
theorem c_dayOn {l : Launch} (hfl : l.stackTraces = false) {D : jj_D} {n : Nat} {K : jj_K} {I : jj_I} {P : jj_P} {G : jj_G} (hly : ly K P) {w H M B N : Nat} {C : jj_I} {d : Nat} (hs : sf w H M B N C) (hm : ml w H M B N C I) (hk : sk w H M B N C) (hd : C (aR w) 0 = nI d) (hd2 : d < 2147483648) :
    jj_Met l D yX6_dayOn (jj_ws yX6_dayOn cX6_dayOn 5 (some .int)) { frames := 3, cells := 0, slots := 0, locals := 67 } [.ref 150] n K I P G (jj_RS (fun r J => r = some (.int (sm (q_bi w 3 (f_pd w H B N d C)) B - sm (q_bi w 3 C) B)) ∧ ml w H M B N (f_pd w H B N d C) J ∧ fM M I J) n K P G) jj_noX := by
  refine jj_of hfl (by decide +kernel) [some (.ref 150), none, none, none, none] rfl rfl ?_
  intro X hXl hX hSt
  have z := sf_Z hs
  have hH := hm.1.1
  have hM := hm.1.2.1
  have hB := hm.1.2.2.1
  have hN := hm.1.2.2.2
  have hH2 := hs.1.2
  have hM2 := z.1
  have hB2 := z.2.1
  have hN2 := z.2.2
  have a1 : ∀ k, k ≤ B → sf w H M B N (it (f_py w) (f_fr w H d C) k) ∧ sk w H M B N (it (f_py w) (f_fr w H d C) k) := it_in (S := fun J => sf w H M B N J ∧ sk w H M B N J) ⟨sf_fr hs, sk_fr hk⟩ (fun k y h1 hy => ⟨sf_py hy.1 h1, sk_py hy.1 hy.2 h1⟩)
  have a2 : ∀ k, k ≤ B → sf w H M B N (it (fun k M => f_bi w k H (f_go w k M)) (it (f_py w) (f_fr w H d C) B) k) ∧ sk w H M B N (it (fun k M => f_bi w k H (f_go w k M)) (it (f_py w) (f_fr w H d C) B) k) := it_in (S := fun J => sf w H M B N J ∧ sk w H M B N J) (a1 B (Nat.le_refl _)) (fun k y h1 hy => ⟨sf_gb hy.1 h1, sk_gb hy.1 hy.2 h1⟩)
  have a3 : ∀ k, k ≤ N → sf w H M B N (it (f_se w) (it (fun k M => f_bi w k H (f_go w k M)) (it (f_py w) (f_fr w H d C) B) B) k) ∧ sk w H M B N (it (f_se w) (it (fun k M => f_bi w k H (f_go w k M)) (it (f_py w) (f_fr w H d C) B) B) k) := it_in (S := fun J => sf w H M B N J ∧ sk w H M B N J) (a2 B (Nat.le_refl _)) (fun k y h1 hy => ⟨sf_se hy.1 h1, sk_se hy.1 hy.2 h1⟩)
  refine jr_aload_n hX dX6_dayOn_0 rfl ?_
  refine jr_ret (jr_runV hX hSt kM_X6_141 (c_sunk (jj_fl hX) hly hB hB2) rfl rfl (ly_kMo hly) ⟨_, _, rfl, by decide⟩ dX6_dayOn_1 rfl ⟨jj_b1 rfl, jj_b1 rfl⟩ rfl) ?_
  rw [jm_st hm]
  refine jr_istore_n hX dX6_dayOn_4 rfl ?_
  refine jr_aload_n hX dX6_dayOn_5 rfl ?_
  refine jr_rel (jr_runV hX hSt kM_X6_145 (c_freeze (jj_fl hX) hly hs hm hd hd2) rfl rfl (ly_kMo hly) ⟨_, _, rfl, by decide⟩ dX6_dayOn_6 rfl ⟨jj_b1 rfl, jj_b1 rfl⟩ rfl) ?_
  rintro r J0 ⟨rfl, p1, p2⟩
  simp only [Option.toList, List.nil_append]
  refine jr_iconst (v := 0) hX dX6_dayOn_9 (by decide) ?_
  refine jr_istore_n hX dX6_dayOn_10 rfl ?_
  have h1 : ∀ k, k ≤ B → ∀ J : jj_I, ml w H M B N (it (f_py w) (f_fr w H d C) k) J → fM M I J → jj_J X D 5 0 0 (jj_MQ X D { frames := 3, cells := 0, slots := 0, locals := 67 } (jj_RS (fun r J => r = some (.int (sm (q_bi w 3 (f_pd w H B N d C)) B - sm (q_bi w 3 C) B)) ∧ ml w H M B N (f_pd w H B N d C) J ∧ fM M I J) n K P G) jj_noX) (n) (K) (J) (P) (G) 11 [some (.ref 150), some (.int (sm (q_bi w 3 C) B)), some (.int (nI k)), none, none] [] := by
    refine jj_for (B) _ ?_ (fun k hk ih => ?_)
    · intro J o1 o2
      have hBJ : J 150 7 = nI B := o1.1.2.2.1
      refine jr_iload_n hX dX6_dayOn_11 rfl ?_
      refine jr_aload_n hX dX6_dayOn_12 rfl ?_
      refine jr_geti hX kF_X6_54 rfl (ly_kMo hly) dX6_dayOn_13 ?_
      refine jr_icmp_ge (tgt := 77) hX dX6_dayOn_16 (by decide) (fun c_16 => ?_) (fun c_16 => absurd (by rw [hBJ]; exact nI_le (Nat.le_refl _) (by omega)) c_16)
      refine jr_iconst (v := 0) hX dX6_dayOn_77 (by decide) ?_
      refine jr_istore_n hX dX6_dayOn_78 rfl ?_
      have h2 : ∀ j, j ≤ B → ∀ J : jj_I, ml w H M B N (it (fun k M => f_bi w k H (f_go w k M)) (it (f_py w) (f_fr w H d C) B) j) J → fM M I J → jj_J X D 5 0 0 (jj_MQ X D { frames := 3, cells := 0, slots := 0, locals := 67 } (jj_RS (fun r J => r = some (.int (sm (q_bi w 3 (f_pd w H B N d C)) B - sm (q_bi w 3 C) B)) ∧ ml w H M B N (f_pd w H B N d C) J ∧ fM M I J) n K P G) jj_noX) (n) (K) (J) (P) (G) 79 [some (.ref 150), some (.int (sm (q_bi w 3 C) B)), some (.int (nI j)), none, none] [] := by
        refine jj_for (B) _ ?_ (fun j hj ih => ?_)
        · intro J o1 o2
          have hBJ : J 150 7 = nI B := o1.1.2.2.1
          refine jr_iload_n hX dX6_dayOn_79 rfl ?_
          refine jr_aload_n hX dX6_dayOn_80 rfl ?_
          refine jr_geti hX kF_X6_54 rfl (ly_kMo hly) dX6_dayOn_81 ?_
          refine jr_icmp_ge (tgt := 98) hX dX6_dayOn_84 (by decide) (fun c_84 => ?_) (fun c_84 => absurd (by rw [hBJ]; exact nI_le (Nat.le_refl _) (by omega)) c_84)
          refine jr_iconst (v := 0) hX dX6_dayOn_98 (by decide) ?_
          refine jr_istore_n hX dX6_dayOn_99 rfl ?_
          have h3 : ∀ i, i ≤ N → ∀ J : jj_I, ml w H M B N (it (f_se w) (it (fun k M => f_bi w k H (f_go w k M)) (it (f_py w) (f_fr w H d C) B) B) i) J → fM M I J → jj_J X D 5 0 0 (jj_MQ X D { frames := 3, cells := 0, slots := 0, locals := 67 } (jj_RS (fun r J => r = some (.int (sm (q_bi w 3 (f_pd w H B N d C)) B - sm (q_bi w 3 C) B)) ∧ ml w H M B N (f_pd w H B N d C) J ∧ fM M I J) n K P G) jj_noX) (n) (K) (J) (P) (G) 100 [some (.ref 150), some (.int (sm (q_bi w 3 C) B)), some (.int (nI i)), none, none] [] := by
            refine jj_for (N) _ ?_ (fun i hi ih => ?_)
            · intro J o1 o2
              have hNJ : J 150 8 = nI N := o1.1.2.2.2
              have hBJ : J 150 7 = nI B := o1.1.2.2.1
              refine jr_iload_n hX dX6_dayOn_100 rfl ?_
              refine jr_aload_n hX dX6_dayOn_101 rfl ?_
              refine jr_geti hX kF_X6_106 rfl (ly_kMo hly) dX6_dayOn_102 ?_
              refine jr_icmp_ge (tgt := 266) hX dX6_dayOn_105 (by decide) (fun c_105 => ?_) (fun c_105 => absurd (by rw [hNJ]; exact nI_le (Nat.le_refl _) (by omega)) c_105)
              refine jr_aload_n hX dX6_dayOn_266 rfl ?_
              refine jr_getr hX kF_X6_37 rfl (ly_kMo hly) (ly_p6_14 hly) dX6_dayOn_267 ?_
              refine jr_iconst (v := 0) hX dX6_dayOn_270 (by decide) ?_
              refine jr_dup2 hX dX6_dayOn_271 rfl rfl ?_
              refine jr_iald hX (by first | with_reducible assumption | with_reducible exact ly_kWm hly (by first | assumption | omega) | with_reducible exact ly_kLd hly (by first | assumption | omega) | with_reducible exact ly_kIc hly (by first | assumption | omega) | with_reducible exact ly_kBe hly (by first | assumption | omega) | with_reducible exact ly_kPr hly (by first | assumption | omega) | with_reducible exact ly_kMt hly (by first | assumption | omega) (by first | assumption | omega) | with_reducible exact ly_kBc hly (by first | assumption | omega) (by first | assumption | omega) | with_reducible exact ly_k151 hly | with_reducible exact ly_k152 hly | with_reducible exact ly_k153 hly | with_reducible exact ly_k154 hly | with_reducible exact ly_k155 hly | with_reducible exact ly_k156 hly | with_reducible exact ly_k157 hly | with_reducible exact ly_k158 hly | with_reducible exact ly_k159 hly | with_reducible exact ly_k160 hly | with_reducible exact ly_kAh hly (by first | assumption | omega)) (show _ = nI 0 from rfl) (by omega) dX6_dayOn_272 ?_
              refine jr_iconst (v := 1) hX dX6_dayOn_273 (by decide) ?_
              refine jr_iadd hX dX6_dayOn_274 ?_
              refine jr_iast hX (by first | with_reducible assumption | with_reducible exact ly_kWm hly (by first | assumption | omega) | with_reducible exact ly_kLd hly (by first | assumption | omega) | with_reducible exact ly_kIc hly (by first | assumption | omega) | with_reducible exact ly_kBe hly (by first | assumption | omega) | with_reducible exact ly_kPr hly (by first | assumption | omega) | with_reducible exact ly_kMt hly (by first | assumption | omega) (by first | assumption | omega) | with_reducible exact ly_kBc hly (by first | assumption | omega) (by first | assumption | omega) | with_reducible exact ly_k151 hly | with_reducible exact ly_k152 hly | with_reducible exact ly_k153 hly | with_reducible exact ly_k154 hly | with_reducible exact ly_k155 hly | with_reducible exact ly_k156 hly | with_reducible exact ly_k157 hly | with_reducible exact ly_k158 hly | with_reducible exact ly_k159 hly | with_reducible exact ly_k160 hly | with_reducible exact ly_kAh hly (by first | assumption | omega)) (by first | assumption | with_reducible exact aMt_0 | with_reducible exact aBc_0 | with_reducible exact aWm_0 | with_reducible exact aLd_0 | with_reducible exact aIc_0 | with_reducible exact aBe_0 | with_reducible exact aPr_0 | with_reducible exact aAh_0 | decide | omega) (show _ = nI 0 from rfl) (by omega) dX6_dayOn_275 ?_
              have hfin := jm_day o1 z
              refine jr_aload_n hX dX6_dayOn_276 rfl ?_
              refine jr_ret (jr_runV hX hSt kM_X6_141 (c_sunk (jj_fl hX) hly (by rw [jj_u_ne (by decide)]; exact hBJ) hB2) rfl rfl (ly_kMo hly) ⟨_, _, rfl, by decide⟩ dX6_dayOn_277 rfl ⟨jj_b1 rfl, jj_b1 rfl⟩ rfl) ?_
              rw [jm_st hfin]
              refine jr_iload_n hX dX6_dayOn_280 rfl ?_
              refine jr_isub hX dX6_dayOn_281 ?_
              exact jr_iret hX dX6_dayOn_282 rfl rfl ⟨⟨rfl, hfin, fM_ne o2 (by decide)⟩, rfl, rfl, rfl, rfl⟩
            · intro J o1 o2
              have hNJ : J 150 8 = nI N := o1.1.2.2.2
              have hBJ : J 150 7 = nI B := o1.1.2.2.1
              obtain ⟨b1, b2⟩ := a3 i (Nat.le_of_lt hi)
              obtain ⟨⟨a, ha, e0⟩, ⟨q, hq, e1⟩⟩ := b2.2.2 i hi
              obtain ⟨-, -, ⟨h, hh, e2⟩, ⟨g, hg, e3⟩⟩ := b1.2.2.2.2.2 i hi
              have q0 := ml_hDebt o1 hi (show 0 < 7 by decide)
              have q1 := ml_hDebt o1 hi (show 1 < 7 by decide)
              have q2 := ml_hDebt o1 hi (show 2 < 7 by decide)
              have q3 := ml_hDebt o1 hi (show 3 < 7 by decide)
              have q4 := ml_hDebt o1 hi (show 4 < 7 by decide)
              have q5 := ml_hDebt o1 hi (show 5 < 7 by decide)
              have q6 := ml_hDebt o1 hi (show 6 < 7 by decide)
              have qs := ml_hStock o1 hq (show 4 * h + g < 32 by omega)
              have se := se_eq e0 e1 e2 e3 (by omega) (by omega) (by omega) hg
              have cd := ml_hDay o1
              refine jr_iload_n hX dX6_dayOn_100 rfl ?_
              refine jr_aload_n hX dX6_dayOn_101 rfl ?_
              refine jr_geti hX kF_X6_106 rfl (ly_kMo hly) dX6_dayOn_102 ?_
              refine jr_icmp_ge (tgt := 266) hX dX6_dayOn_105 (by decide) (fun c_105 => absurd c_105 (by rw [hNJ]; exact nI_ge (by assumption) (by omega))) (fun c_105 => ?_)
              refine jr_aload_n hX dX6_dayOn_108 rfl ?_
              refine jr_iload_n hX dX6_dayOn_109 rfl ?_
              refine jr_bipush (v := 6) hX dX6_dayOn_110 (by decide) ?_
              refine jr_ret (jr_runV hX hSt kM_X6_109 (c_de (jj_fl hX) hly (d := i) (k := 6) (by omega) (show _ = nI 6 from rfl) (by decide)) rfl rfl (ly_kMo hly) ⟨_, _, rfl, by decide⟩ dX6_dayOn_112 rfl ⟨jj_b1 rfl, jj_b1 rfl⟩ rfl) ?_
              rw [q6]
              refine jr_if_ne (tgt := 260) hX dX6_dayOn_115 (by decide) (fun c_115 => ?_) (fun c_115 => ?_)
              · refine jr_iinc hX dX6_dayOn_260 rfl (by first | with_reducible exact jj_inc _ | with_reducible exact jj_inc1 _) rfl ?_
                refine jr_goto (tgt := 100) hX dX6_dayOn_263 (by decide) ?_
                exact jr_forget (fun _ _ h => h) (fun i v h => by rcases i with _ | _ | _ | _ | _ | i <;> first | exact h | exact absurd h (by simp)) (ih J (by show ml w H M B N (f_se w i (it (f_se w) (it (fun k M => f_bi w k H (f_go w k M)) (it (f_py w) (f_fr w H d C) B) B) i)) _; rw [se_no (fun e => c_115 e.1)]; exact o1) o2)
              · refine jr_aload_n hX dX6_dayOn_118 rfl ?_
                refine jr_iload_n hX dX6_dayOn_119 rfl ?_
                refine jr_iconst (v := 5) hX dX6_dayOn_120 (by decide) ?_
                refine jr_ret (jr_runV hX hSt kM_X6_109 (c_de (jj_fl hX) hly (d := i) (k := 5) (by omega) (show _ = nI 5 from rfl) (by decide)) rfl rfl (ly_kMo hly) ⟨_, _, rfl, by decide⟩ dX6_dayOn_121 rfl ⟨jj_b1 rfl, jj_b1 rfl⟩ rfl) ?_
                rw [q5]
                refine jr_aload_n hX dX6_dayOn_124 rfl ?_
                refine jr_getr hX kF_X6_37 rfl (ly_kMo hly) (ly_p6_14 hly) dX6_dayOn_125 ?_
                refine jr_iconst (v := 0) hX dX6_dayOn_128 (by decide) ?_
                refine jr_iald hX (by first | with_reducible assumption | with_reducible exact ly_kWm hly (by first | assumption | omega) | with_reducible exact ly_kLd hly (by first | assumption | omega) | with_reducible exact ly_kIc hly (by first | assumption | omega) | with_reducible exact ly_kBe hly (by first | assumption | omega) | with_reducible exact ly_kPr hly (by first | assumption | omega) | with_reducible exact ly_kMt hly (by first | assumption | omega) (by first | assumption | omega) | with_reducible exact ly_kBc hly (by first | assumption | omega) (by first | assumption | omega) | with_reducible exact ly_k151 hly | with_reducible exact ly_k152 hly | with_reducible exact ly_k153 hly | with_reducible exact ly_k154 hly | with_reducible exact ly_k155 hly | with_reducible exact ly_k156 hly | with_reducible exact ly_k157 hly | with_reducible exact ly_k158 hly | with_reducible exact ly_k159 hly | with_reducible exact ly_k160 hly | with_reducible exact ly_kAh hly (by first | assumption | omega)) (show _ = nI 0 from rfl) (by omega) dX6_dayOn_129 ?_
                rw [cd]
                refine jr_icmp_gt (tgt := 260) hX dX6_dayOn_130 (by decide) (fun c_130 => ?_) (fun c_130 => ?_)
                · refine jr_iinc hX dX6_dayOn_260 rfl (by first | with_reducible exact jj_inc _ | with_reducible exact jj_inc1 _) rfl ?_
                  refine jr_goto (tgt := 100) hX dX6_dayOn_263 (by decide) ?_
                  exact jr_forget (fun _ _ h => h) (fun i v h => by rcases i with _ | _ | _ | _ | _ | i <;> first | exact h | exact absurd h (by simp)) (ih J (by show ml w H M B N (f_se w i (it (f_se w) (it (fun k M => f_bi w k H (f_go w k M)) (it (f_py w) (f_fr w H d C) B) B) i)) _; rw [se_no (fun e => absurd c_130 (Int32.not_lt.mpr e.2))]; exact o1) o2)
                · refine jr_aload_n hX dX6_dayOn_133 rfl ?_
                  refine jr_iload_n hX dX6_dayOn_134 rfl ?_
                  refine jr_aload_n hX dX6_dayOn_135 rfl ?_
                  refine jr_iload_n hX dX6_dayOn_136 rfl ?_
                  refine jr_iconst (v := 2) hX dX6_dayOn_137 (by decide) ?_
                  refine jr_ret (jr_runV hX hSt kM_X6_109 (c_de (jj_fl hX) hly (d := i) (k := 2) (by omega) (show _ = nI 2 from rfl) (by decide)) rfl rfl (ly_kMo hly) ⟨_, _, rfl, by decide⟩ dX6_dayOn_138 rfl ⟨jj_b1 rfl, jj_b1 rfl⟩ rfl) ?_
                  rw [q2, e2]
                  refine jr_ret (jr_runV hX hSt kM_X6_137 (c_pays (jj_fl hX) hly (by omega) (q0.trans e0) (q1.trans e1) (q3.trans e3) (by omega) (by omega) (by omega) hg) rfl rfl (ly_kMo hly) ⟨_, _, rfl, by decide⟩ dX6_dayOn_141 rfl ⟨jj_b1 rfl, jj_b1 rfl⟩ rfl) ?_
                  rw [q4, qs]
                  refine jr_if_eq (tgt := 150) hX dX6_dayOn_144 (by decide) (fun c_144 => ?_) (fun c_144 => ?_)
                  · have hc := jm_c0 c_144
                    rw [if_pos hc]
                    refine jr_aload_n hX dX6_dayOn_150 rfl ?_
                    refine jr_iload_n hX dX6_dayOn_151 rfl ?_
                    refine jr_iconst (v := 4) hX dX6_dayOn_152 (by decide) ?_
                    refine jr_ret (jr_runV hX hSt kM_X6_109 (c_de (jj_fl hX) hly (d := i) (k := 4) (by omega) (show _ = nI 4 from rfl) (by decide)) rfl rfl (ly_kMo hly) ⟨_, _, rfl, by decide⟩ dX6_dayOn_153 rfl ⟨jj_b1 rfl, jj_b1 rfl⟩ rfl) ?_
                    rw [q4]
                    refine jr_aload_n hX dX6_dayOn_156 rfl ?_
                    refine jr_getr hX kF_X6_19 rfl (ly_kMo hly) (ly_p6_5 hly) dX6_dayOn_157 ?_
                    refine jr_iconst (v := 4) hX dX6_dayOn_160 (by decide) ?_
                    refine jr_aload_n hX dX6_dayOn_161 rfl ?_
                    refine jr_iload_n hX dX6_dayOn_162 rfl ?_
                    refine jr_iconst (v := 2) hX dX6_dayOn_163 (by decide) ?_
                    refine jr_ret (jr_runV hX hSt kM_X6_109 (c_de (jj_fl hX) hly (d := i) (k := 2) (by omega) (show _ = nI 2 from rfl) (by decide)) rfl rfl (ly_kMo hly) ⟨_, _, rfl, by decide⟩ dX6_dayOn_164 rfl ⟨jj_b1 rfl, jj_b1 rfl⟩ rfl) ?_
                    rw [q2, e2]
                    refine jr_imul hX dX6_dayOn_167 ?_
                    refine jr_aload_n hX dX6_dayOn_168 rfl ?_
                    refine jr_iload_n hX dX6_dayOn_169 rfl ?_
                    refine jr_iconst (v := 3) hX dX6_dayOn_170 (by decide) ?_
                    refine jr_ret (jr_runV hX hSt kM_X6_109 (c_de (jj_fl hX) hly (d := i) (k := 3) (by omega) (show _ = nI 3 from rfl) (by decide)) rfl rfl (ly_kMo hly) ⟨_, _, rfl, by decide⟩ dX6_dayOn_171 rfl ⟨jj_b1 rfl, jj_b1 rfl⟩ rfl) ?_
                    rw [q3, e3]
                    refine jr_iadd hX dX6_dayOn_174 ?_
                    rw [show (4 : Int32) = nI 4 from rfl, pk_mul, nI_add]
                    refine jr_iald hX (by first | with_reducible assumption | with_reducible exact ly_kWm hly (by first | assumption | omega) | with_reducible exact ly_kLd hly (by first | assumption | omega) | with_reducible exact ly_kIc hly (by first | assumption | omega) | with_reducible exact ly_kBe hly (by first | assumption | omega) | with_reducible exact ly_kPr hly (by first | assumption | omega) | with_reducible exact ly_kMt hly (by first | assumption | omega) (by first | assumption | omega) | with_reducible exact ly_kBc hly (by first | assumption | omega) (by first | assumption | omega) | with_reducible exact ly_k151 hly | with_reducible exact ly_k152 hly | with_reducible exact ly_k153 hly | with_reducible exact ly_k154 hly | with_reducible exact ly_k155 hly | with_reducible exact ly_k156 hly | with_reducible exact ly_k157 hly | with_reducible exact ly_k158 hly | with_reducible exact ly_k159 hly | with_reducible exact ly_k160 hly | with_reducible exact ly_kAh hly (by first | assumption | omega)) (by first | with_reducible rfl | with_reducible assumption | rfl) (by omega) dX6_dayOn_175 ?_
                    rw [ml_hPr o1 (show 4 * h + g < 32 by omega)]
                    refine jr_imul hX dX6_dayOn_176 ?_
                    refine jr_istore_n hX dX6_dayOn_177 rfl ?_
                    refine jr_aload_n hX dX6_dayOn_178 rfl ?_
                    refine jr_getr hX kF_X6_25 rfl (ly_kMo hly) (ly_p6_10 hly) dX6_dayOn_179 ?_
                    refine jr_aload_n hX dX6_dayOn_182 rfl ?_
                    refine jr_iload_n hX dX6_dayOn_183 rfl ?_
                    refine jr_iconst (v := 1) hX dX6_dayOn_184 (by decide) ?_
                    refine jr_ret (jr_runV hX hSt kM_X6_109 (c_de (jj_fl hX) hly (d := i) (k := 1) (by omega) (show _ = nI 1 from rfl) (by decide)) rfl rfl (ly_kMo hly) ⟨_, _, rfl, by decide⟩ dX6_dayOn_185 rfl ⟨jj_b1 rfl, jj_b1 rfl⟩ rfl) ?_
                    rw [q1, e1]
                    refine jr_iald hX (by first | with_reducible assumption | with_reducible exact ly_kWm hly (by first | assumption | omega) | with_reducible exact ly_kLd hly (by first | assumption | omega) | with_reducible exact ly_kIc hly (by first | assumption | omega) | with_reducible exact ly_kBe hly (by first | assumption | omega) | with_reducible exact ly_kPr hly (by first | assumption | omega) | with_reducible exact ly_kMt hly (by first | assumption | omega) (by first | assumption | omega) | with_reducible exact ly_kBc hly (by first | assumption | omega) (by first | assumption | omega) | with_reducible exact ly_k151 hly | with_reducible exact ly_k152 hly | with_reducible exact ly_k153 hly | with_reducible exact ly_k154 hly | with_reducible exact ly_k155 hly | with_reducible exact ly_k156 hly | with_reducible exact ly_k157 hly | with_reducible exact ly_k158 hly | with_reducible exact ly_k159 hly | with_reducible exact ly_k160 hly | with_reducible exact ly_kAh hly (by first | assumption | omega)) (by first | with_reducible rfl | with_reducible assumption | rfl) (by omega) dX6_dayOn_188 ?_
                    rw [ml_hCoin o1 hq]
                    refine jr_iload_n hX dX6_dayOn_189 rfl ?_
                    refine jr_icmp_lt (tgt := 197) hX dX6_dayOn_190 (by decide) (fun c_190 => ?_) (fun c_190 => ?_)
                    · refine jr_iconst (v := 0) hX dX6_dayOn_197 (by decide) ?_
                      refine jr_istore hX dX6_dayOn_198 rfl ?_
                      refine jr_aload_n hX dX6_dayOn_200 rfl ?_
                      refine jr_getr hX kF_X6_34 rfl (ly_kMo hly) (ly_p6_13 hly) dX6_dayOn_201 ?_
                      refine jr_bipush (v := 7) hX dX6_dayOn_204 (by decide) ?_
                      refine jr_iload_n hX dX6_dayOn_206 rfl ?_
                      refine jr_imul hX dX6_dayOn_207 ?_
                      refine jr_bipush (v := 6) hX dX6_dayOn_208 (by decide) ?_
                      refine jr_iadd hX dX6_dayOn_210 ?_
                      refine jr_iload hX dX6_dayOn_211 rfl ?_
                      refine jr_if_eq (tgt := 220) hX dX6_dayOn_213 (by decide) (fun c_213 => ?_) (fun c_213 => absurd rfl c_213)
                      refine jr_iconst (v := 2) hX dX6_dayOn_220 (by decide) ?_
                      refine jr_iast hX (by first | with_reducible assumption | with_reducible exact ly_kWm hly (by first | assumption | omega) | with_reducible exact ly_kLd hly (by first | assumption | omega) | with_reducible exact ly_kIc hly (by first | assumption | omega) | with_reducible exact ly_kBe hly (by first | assumption | omega) | with_reducible exact ly_kPr hly (by first | assumption | omega) | with_reducible exact ly_kMt hly (by first | assumption | omega) (by first | assumption | omega) | with_reducible exact ly_kBc hly (by first | assumption | omega) (by first | assumption | omega) | with_reducible exact ly_k151 hly | with_reducible exact ly_k152 hly | with_reducible exact ly_k153 hly | with_reducible exact ly_k154 hly | with_reducible exact ly_k155 hly | with_reducible exact ly_k156 hly | with_reducible exact ly_k157 hly | with_reducible exact ly_k158 hly | with_reducible exact ly_k159 hly | with_reducible exact ly_k160 hly | with_reducible exact ly_kAh hly (by first | assumption | omega)) (by first | assumption | with_reducible exact aMt_0 | with_reducible exact aBc_0 | with_reducible exact aWm_0 | with_reducible exact aLd_0 | with_reducible exact aIc_0 | with_reducible exact aBe_0 | with_reducible exact aPr_0 | with_reducible exact aAh_0 | decide | omega) (show _ = nI (7 * i + 6) from by rw [show (7 : Int32) = nI 7 from rfl, show (6 : Int32) = nI 6 from rfl, pk_mul, nI_add]) (by omega) dX6_dayOn_221 ?_
                      refine jr_iload hX dX6_dayOn_222 rfl ?_
                      refine jr_if_ne (tgt := 230) hX dX6_dayOn_224 (by decide) (fun c_224 => absurd rfl c_224) (fun c_224 => ?_)
                      refine jr_goto (tgt := 260) hX dX6_dayOn_227 (by decide) ?_
                      refine jr_iinc hX dX6_dayOn_260 rfl (by first | with_reducible exact jj_inc _ | with_reducible exact jj_inc1 _) rfl ?_
                      refine jr_goto (tgt := 100) hX dX6_dayOn_263 (by decide) ?_
                      exact jr_forget (fun _ _ h => h) (fun i v h => by rcases i with _ | _ | _ | _ | _ | i <;> first | exact h | exact absurd h (by simp)) (ih _ (by show ml w H M B N (f_se w i (it (f_se w) (it (fun k M => f_bi w k H (f_go w k M)) (it (f_py w) (f_fr w H d C) B) B) i)) _; rw [se, if_pos ⟨c_115, Int32.not_lt.mp c_130⟩, if_pos hc, if_pos c_190]; exact ml_uDebt o1 z (by omega) (by decide)) (fM_ne o2 (by decide)))
                    · refine jr_iconst (v := 1) hX dX6_dayOn_193 (by decide) ?_
                      refine jr_goto (tgt := 198) hX dX6_dayOn_194 (by decide) ?_
                      refine jr_istore hX dX6_dayOn_198 rfl ?_
                      refine jr_aload_n hX dX6_dayOn_200 rfl ?_
                      refine jr_getr hX kF_X6_34 rfl (ly_kMo hly) (ly_p6_13 hly) dX6_dayOn_201 ?_
                      refine jr_bipush (v := 7) hX dX6_dayOn_204 (by decide) ?_
                      refine jr_iload_n hX dX6_dayOn_206 rfl ?_
                      refine jr_imul hX dX6_dayOn_207 ?_
                      refine jr_bipush (v := 6) hX dX6_dayOn_208 (by decide) ?_
                      refine jr_iadd hX dX6_dayOn_210 ?_
                      refine jr_iload hX dX6_dayOn_211 rfl ?_
                      refine jr_if_eq (tgt := 220) hX dX6_dayOn_213 (by decide) (fun c_213 => absurd c_213 (by decide)) (fun c_213 => ?_)
                      refine jr_iconst (v := 1) hX dX6_dayOn_216 (by decide) ?_
                      refine jr_goto (tgt := 221) hX dX6_dayOn_217 (by decide) ?_
                      refine jr_iast hX (by first | with_reducible assumption | with_reducible exact ly_kWm hly (by first | assumption | omega) | with_reducible exact ly_kLd hly (by first | assumption | omega) | with_reducible exact ly_kIc hly (by first | assumption | omega) | with_reducible exact ly_kBe hly (by first | assumption | omega) | with_reducible exact ly_kPr hly (by first | assumption | omega) | with_reducible exact ly_kMt hly (by first | assumption | omega) (by first | assumption | omega) | with_reducible exact ly_kBc hly (by first | assumption | omega) (by first | assumption | omega) | with_reducible exact ly_k151 hly | with_reducible exact ly_k152 hly | with_reducible exact ly_k153 hly | with_reducible exact ly_k154 hly | with_reducible exact ly_k155 hly | with_reducible exact ly_k156 hly | with_reducible exact ly_k157 hly | with_reducible exact ly_k158 hly | with_reducible exact ly_k159 hly | with_reducible exact ly_k160 hly | with_reducible exact ly_kAh hly (by first | assumption | omega)) (by first | assumption | with_reducible exact aMt_0 | with_reducible exact aBc_0 | with_reducible exact aWm_0 | with_reducible exact aLd_0 | with_reducible exact aIc_0 | with_reducible exact aBe_0 | with_reducible exact aPr_0 | with_reducible exact aAh_0 | decide | omega) (show _ = nI (7 * i + 6) from by rw [show (7 : Int32) = nI 7 from rfl, show (6 : Int32) = nI 6 from rfl, pk_mul, nI_add]) (by omega) dX6_dayOn_221 ?_
                      refine jr_iload hX dX6_dayOn_222 rfl ?_
                      refine jr_if_ne (tgt := 230) hX dX6_dayOn_224 (by decide) (fun c_224 => ?_) (fun c_224 => absurd c_224 (by decide))
                      refine jr_aload_n hX dX6_dayOn_230 rfl ?_
                      refine jr_getr hX kF_X6_25 rfl (ly_kMo hly) (ly_p6_10 hly) dX6_dayOn_231 ?_
                      refine jr_aload_n hX dX6_dayOn_234 rfl ?_
                      refine jr_iload_n hX dX6_dayOn_235 rfl ?_
                      refine jr_iconst (v := 1) hX dX6_dayOn_236 (by decide) ?_
                      refine jr_ret (jr_runV hX hSt kM_X6_109 (c_de (jj_fl hX) hly (d := i) (k := 1) (by omega) (show _ = nI 1 from rfl) (by decide)) rfl rfl (ly_kMo hly) ⟨_, _, rfl, by decide⟩ dX6_dayOn_237 rfl ⟨jj_b1 rfl, jj_b1 rfl⟩ rfl) ?_
                      rw [jj_u_nk (show 7 * i + 1 ≠ 7 * i + 6 by omega), q1, e1]
                      refine jr_dup2 hX dX6_dayOn_240 rfl rfl ?_
                      refine jr_iald hX (by first | with_reducible assumption | with_reducible exact ly_kWm hly (by first | assumption | omega) | with_reducible exact ly_kLd hly (by first | assumption | omega) | with_reducible exact ly_kIc hly (by first | assumption | omega) | with_reducible exact ly_kBe hly (by first | assumption | omega) | with_reducible exact ly_kPr hly (by first | assumption | omega) | with_reducible exact ly_kMt hly (by first | assumption | omega) (by first | assumption | omega) | with_reducible exact ly_kBc hly (by first | assumption | omega) (by first | assumption | omega) | with_reducible exact ly_k151 hly | with_reducible exact ly_k152 hly | with_reducible exact ly_k153 hly | with_reducible exact ly_k154 hly | with_reducible exact ly_k155 hly | with_reducible exact ly_k156 hly | with_reducible exact ly_k157 hly | with_reducible exact ly_k158 hly | with_reducible exact ly_k159 hly | with_reducible exact ly_k160 hly | with_reducible exact ly_kAh hly (by first | assumption | omega)) (by first | with_reducible rfl | with_reducible assumption | rfl) (by omega) dX6_dayOn_241 ?_
                      rw [jj_u_ne (show (156 : Nat) ≠ 159 by decide), ml_hCoin o1 hq]
                      refine jr_iload_n hX dX6_dayOn_242 rfl ?_
                      refine jr_isub hX dX6_dayOn_243 ?_
                      refine jr_iast hX (by first | with_reducible assumption | with_reducible exact ly_kWm hly (by first | assumption | omega) | with_reducible exact ly_kLd hly (by first | assumption | omega) | with_reducible exact ly_kIc hly (by first | assumption | omega) | with_reducible exact ly_kBe hly (by first | assumption | omega) | with_reducible exact ly_kPr hly (by first | assumption | omega) | with_reducible exact ly_kMt hly (by first | assumption | omega) (by first | assumption | omega) | with_reducible exact ly_kBc hly (by first | assumption | omega) (by first | assumption | omega) | with_reducible exact ly_k151 hly | with_reducible exact ly_k152 hly | with_reducible exact ly_k153 hly | with_reducible exact ly_k154 hly | with_reducible exact ly_k155 hly | with_reducible exact ly_k156 hly | with_reducible exact ly_k157 hly | with_reducible exact ly_k158 hly | with_reducible exact ly_k159 hly | with_reducible exact ly_k160 hly | with_reducible exact ly_kAh hly (by first | assumption | omega)) (by first | assumption | with_reducible exact aMt_0 | with_reducible exact aBc_0 | with_reducible exact aWm_0 | with_reducible exact aLd_0 | with_reducible exact aIc_0 | with_reducible exact aBe_0 | with_reducible exact aPr_0 | with_reducible exact aAh_0 | decide | omega) (by first | with_reducible rfl | with_reducible assumption | rfl) (by omega) dX6_dayOn_244 ?_
                      refine jr_aload_n hX dX6_dayOn_245 rfl ?_
                      refine jr_getr hX kF_X6_25 rfl (ly_kMo hly) (ly_p6_10 hly) dX6_dayOn_246 ?_
                      refine jr_aload_n hX dX6_dayOn_249 rfl ?_
                      refine jr_iload_n hX dX6_dayOn_250 rfl ?_
                      refine jr_iconst (v := 0) hX dX6_dayOn_251 (by decide) ?_
                      refine jr_ret (jr_runV hX hSt kM_X6_109 (c_de (jj_fl hX) hly (d := i) (k := 0) (by omega) (show _ = nI 0 from rfl) (by decide)) rfl rfl (ly_kMo hly) ⟨_, _, rfl, by decide⟩ dX6_dayOn_252 rfl ⟨jj_b1 rfl, jj_b1 rfl⟩ rfl) ?_
                      rw [jj_u_ne (show (159 : Nat) ≠ 156 by decide), jj_u_nk (show 7 * i + 0 ≠ 7 * i + 6 by omega), q0, e0]
                      refine jr_dup2 hX dX6_dayOn_255 rfl rfl ?_
                      refine jr_iald hX (by first | with_reducible assumption | with_reducible exact ly_kWm hly (by first | assumption | omega) | with_reducible exact ly_kLd hly (by first | assumption | omega) | with_reducible exact ly_kIc hly (by first | assumption | omega) | with_reducible exact ly_kBe hly (by first | assumption | omega) | with_reducible exact ly_kPr hly (by first | assumption | omega) | with_reducible exact ly_kMt hly (by first | assumption | omega) (by first | assumption | omega) | with_reducible exact ly_kBc hly (by first | assumption | omega) (by first | assumption | omega) | with_reducible exact ly_k151 hly | with_reducible exact ly_k152 hly | with_reducible exact ly_k153 hly | with_reducible exact ly_k154 hly | with_reducible exact ly_k155 hly | with_reducible exact ly_k156 hly | with_reducible exact ly_k157 hly | with_reducible exact ly_k158 hly | with_reducible exact ly_k159 hly | with_reducible exact ly_k160 hly | with_reducible exact ly_kAh hly (by first | assumption | omega)) (by first | with_reducible rfl | with_reducible assumption | rfl) (by omega) dX6_dayOn_256 ?_
                      refine jr_iload_n hX dX6_dayOn_257 rfl ?_
                      refine jr_iadd hX dX6_dayOn_258 ?_
                      refine jr_iast hX (by first | with_reducible assumption | with_reducible exact ly_kWm hly (by first | assumption | omega) | with_reducible exact ly_kLd hly (by first | assumption | omega) | with_reducible exact ly_kIc hly (by first | assumption | omega) | with_reducible exact ly_kBe hly (by first | assumption | omega) | with_reducible exact ly_kPr hly (by first | assumption | omega) | with_reducible exact ly_kMt hly (by first | assumption | omega) (by first | assumption | omega) | with_reducible exact ly_kBc hly (by first | assumption | omega) (by first | assumption | omega) | with_reducible exact ly_k151 hly | with_reducible exact ly_k152 hly | with_reducible exact ly_k153 hly | with_reducible exact ly_k154 hly | with_reducible exact ly_k155 hly | with_reducible exact ly_k156 hly | with_reducible exact ly_k157 hly | with_reducible exact ly_k158 hly | with_reducible exact ly_k159 hly | with_reducible exact ly_k160 hly | with_reducible exact ly_kAh hly (by first | assumption | omega)) (by first | assumption | with_reducible exact aMt_0 | with_reducible exact aBc_0 | with_reducible exact aWm_0 | with_reducible exact aLd_0 | with_reducible exact aIc_0 | with_reducible exact aBe_0 | with_reducible exact aPr_0 | with_reducible exact aAh_0 | decide | omega) (by first | with_reducible rfl | with_reducible assumption | rfl) (by omega) dX6_dayOn_259 ?_
                      refine jr_iinc hX dX6_dayOn_260 rfl (by first | with_reducible exact jj_inc _ | with_reducible exact jj_inc1 _) rfl ?_
                      refine jr_goto (tgt := 100) hX dX6_dayOn_263 (by decide) ?_
                      exact jr_forget (fun _ _ h => h) (fun i v h => by rcases i with _ | _ | _ | _ | _ | i <;> first | exact h | exact absurd h (by simp)) (ih _ (by show ml w H M B N (f_se w i (it (f_se w) (it (fun k M => f_bi w k H (f_go w k M)) (it (f_py w) (f_fr w H d C) B) B) i)) _; rw [se, if_pos ⟨c_115, Int32.not_lt.mp c_130⟩, if_pos hc, if_neg c_190]; exact ml_cn o1 z hi ha hq) (fM_c (fM_c (fM_ne o2 (by decide)) hq) ha))
                  · have hc := jm_c1 c_144
                    rw [if_neg hc]
                    refine jr_goto (tgt := 260) hX dX6_dayOn_147 (by decide) ?_
                    refine jr_iinc hX dX6_dayOn_260 rfl (by first | with_reducible exact jj_inc _ | with_reducible exact jj_inc1 _) rfl ?_
                    refine jr_goto (tgt := 100) hX dX6_dayOn_263 (by decide) ?_
                    exact jr_forget (fun _ _ h => h) (fun i v h => by rcases i with _ | _ | _ | _ | _ | i <;> first | exact h | exact absurd h (by simp)) (ih _ (by show ml w H M B N (f_se w i (it (f_se w) (it (fun k M => f_bi w k H (f_go w k M)) (it (f_py w) (f_fr w H d C) B) B) i)) _; rw [se, if_pos ⟨c_115, Int32.not_lt.mp c_130⟩, if_neg hc]; exact ml_py o1 z hi ha hq (by omega) hg) (fM_ne (fM_s (fM_s o2 hq (by omega)) ha (by omega)) (by decide)))
          exact h3 0 (Nat.zero_le _) J o1 o2
        · intro J o1 o2
          have hBJ : J 150 7 = nI B := o1.1.2.2.1
          obtain ⟨b1, b2⟩ := a2 j (Nat.le_of_lt hj)
          refine jr_iload_n hX dX6_dayOn_79 rfl ?_
          refine jr_aload_n hX dX6_dayOn_80 rfl ?_
          refine jr_geti hX kF_X6_54 rfl (ly_kMo hly) dX6_dayOn_81 ?_
          refine jr_icmp_ge (tgt := 98) hX dX6_dayOn_84 (by decide) (fun c_84 => absurd c_84 (by rw [hBJ]; exact nI_ge (by assumption) (by omega))) (fun c_84 => ?_)
          refine jr_aload_n hX dX6_dayOn_87 rfl ?_
          refine jr_iload_n hX dX6_dayOn_88 rfl ?_
          refine jr_rel (jr_runV hX hSt kM_X6_148 (c_sail (jj_fl hX) hly b1 o1 hj b2.1 (b2.2.1 j hj).1) rfl rfl (ly_kMo hly) ⟨_, _, rfl, by decide⟩ dX6_dayOn_89 rfl ⟨jj_b1 rfl, jj_b1 rfl⟩ rfl) ?_
          rintro r J1 ⟨rfl, p1, p9⟩
          simp only [Option.toList, List.nil_append]
          have p2 : fM M I J1 := fM_off p9 (by decide) o2
          refine jr_iinc hX dX6_dayOn_92 rfl (by first | with_reducible exact jj_inc _ | with_reducible exact jj_inc1 _) rfl ?_
          refine jr_goto (tgt := 79) hX dX6_dayOn_95 (by decide) ?_
          exact jr_forget (fun _ _ h => h) (fun i v h => by rcases i with _ | _ | _ | _ | _ | i <;> first | exact h | exact absurd h (by simp)) (ih J1 p1 p2)
      exact h2 0 (Nat.zero_le _) J o1 o2
    · intro J o1 o2
      have hBJ : J 150 7 = nI B := o1.1.2.2.1
      obtain ⟨b1, b2⟩ := a1 k (Nat.le_of_lt hk)
      obtain ⟨o, ho, eo⟩ := (b2.2.1 k hk).2
      obtain ⟨q0, q1, q2, q3, q4, q5, q6, q7, q8⟩ := ml_hB o1 hk
      refine jr_iload_n hX dX6_dayOn_11 rfl ?_
      refine jr_aload_n hX dX6_dayOn_12 rfl ?_
      refine jr_geti hX kF_X6_54 rfl (ly_kMo hly) dX6_dayOn_13 ?_
      refine jr_icmp_ge (tgt := 77) hX dX6_dayOn_16 (by decide) (fun c_16 => absurd c_16 (by rw [hBJ]; exact nI_ge (by assumption) (by omega))) (fun c_16 => ?_)
      refine jr_aload_n hX dX6_dayOn_19 rfl ?_
      refine jr_iload_n hX dX6_dayOn_20 rfl ?_
      refine jr_iconst (v := 3) hX dX6_dayOn_21 (by decide) ?_
      refine jr_ret (jr_runV hX hSt kM_X6_74 (c_bo (jj_fl hX) hly (b := k) (k := 3) (by omega) (show _ = nI 3 from rfl) (by decide)) rfl rfl (ly_kMo hly) ⟨_, _, rfl, by decide⟩ dX6_dayOn_22 rfl ⟨jj_b1 rfl, jj_b1 rfl⟩ rfl) ?_
      rw [q3]
      refine jr_iconst (v := 1) hX dX6_dayOn_25 (by decide) ?_
      refine jr_icmp_eq (tgt := 32) hX dX6_dayOn_26 (by decide) (fun c_26 => ?_) (fun c_26 => ?_)
      · refine jr_aload_n hX dX6_dayOn_32 rfl ?_
        refine jr_getr hX kF_X6_25 rfl (ly_kMo hly) (ly_p6_10 hly) dX6_dayOn_33 ?_
        refine jr_aload_n hX dX6_dayOn_36 rfl ?_
        refine jr_iload_n hX dX6_dayOn_37 rfl ?_
        refine jr_iconst (v := 0) hX dX6_dayOn_38 (by decide) ?_
        refine jr_ret (jr_runV hX hSt kM_X6_74 (c_bo (jj_fl hX) hly (b := k) (k := 0) (by omega) (show _ = nI 0 from rfl) (by decide)) rfl rfl (ly_kMo hly) ⟨_, _, rfl, by decide⟩ dX6_dayOn_39 rfl ⟨jj_b1 rfl, jj_b1 rfl⟩ rfl) ?_
        rw [q0, eo]
        refine jr_iald hX (by first | with_reducible assumption | with_reducible exact ly_kWm hly (by first | assumption | omega) | with_reducible exact ly_kLd hly (by first | assumption | omega) | with_reducible exact ly_kIc hly (by first | assumption | omega) | with_reducible exact ly_kBe hly (by first | assumption | omega) | with_reducible exact ly_kPr hly (by first | assumption | omega) | with_reducible exact ly_kMt hly (by first | assumption | omega) (by first | assumption | omega) | with_reducible exact ly_kBc hly (by first | assumption | omega) (by first | assumption | omega) | with_reducible exact ly_k151 hly | with_reducible exact ly_k152 hly | with_reducible exact ly_k153 hly | with_reducible exact ly_k154 hly | with_reducible exact ly_k155 hly | with_reducible exact ly_k156 hly | with_reducible exact ly_k157 hly | with_reducible exact ly_k158 hly | with_reducible exact ly_k159 hly | with_reducible exact ly_k160 hly | with_reducible exact ly_kAh hly (by first | assumption | omega)) (by first | with_reducible rfl | with_reducible assumption | rfl) (by omega) dX6_dayOn_42 ?_
        rw [ml_hCoin o1 ho]
        refine jr_if_le (tgt := 64) hX dX6_dayOn_43 (by decide) (fun c_43 => ?_) (fun c_43 => ?_)
        · refine jr_aload_n hX dX6_dayOn_64 rfl ?_
          refine jr_iload_n hX dX6_dayOn_65 rfl ?_
          refine jr_iconst (v := 3) hX dX6_dayOn_66 (by decide) ?_
          refine jr_iconst (v := 0) hX dX6_dayOn_67 (by decide) ?_
          refine jr_void (jr_runV hX hSt kM_X6_124 (c_setBo (jj_fl hX) hly (b := k) (k := 3) (by omega) (show _ = nI 3 from rfl) (by decide)) rfl rfl (ly_kMo hly) ⟨_, _, rfl, by decide⟩ dX6_dayOn_68 rfl ⟨jj_b1 rfl, jj_b1 rfl⟩ rfl) ?_
          refine jr_iinc hX dX6_dayOn_71 rfl (by first | with_reducible exact jj_inc _ | with_reducible exact jj_inc1 _) rfl ?_
          refine jr_goto (tgt := 11) hX dX6_dayOn_74 (by decide) ?_
          exact jr_forget (fun _ _ h => h) (fun i v h => by rcases i with _ | _ | _ | _ | _ | i <;> first | exact h | exact absurd h (by simp)) (ih _ (by show ml w H M B N (f_py w k (it (f_py w) (f_fr w H d C) k)) _; rw [py_eq eo (by omega), if_pos c_26, if_neg (Int32.not_lt.mpr c_43)]; exact ml_uSt o1 z hk (by decide)) (fM_ne o2 (by decide)))
        · refine jr_aload_n hX dX6_dayOn_46 rfl ?_
          refine jr_getr hX kF_X6_25 rfl (ly_kMo hly) (ly_p6_10 hly) dX6_dayOn_47 ?_
          refine jr_aload_n hX dX6_dayOn_50 rfl ?_
          refine jr_iload_n hX dX6_dayOn_51 rfl ?_
          refine jr_iconst (v := 0) hX dX6_dayOn_52 (by decide) ?_
          refine jr_ret (jr_runV hX hSt kM_X6_74 (c_bo (jj_fl hX) hly (b := k) (k := 0) (by omega) (show _ = nI 0 from rfl) (by decide)) rfl rfl (ly_kMo hly) ⟨_, _, rfl, by decide⟩ dX6_dayOn_53 rfl ⟨jj_b1 rfl, jj_b1 rfl⟩ rfl) ?_
          rw [q0, eo]
          refine jr_dup2 hX dX6_dayOn_56 rfl rfl ?_
          refine jr_iald hX (by first | with_reducible assumption | with_reducible exact ly_kWm hly (by first | assumption | omega) | with_reducible exact ly_kLd hly (by first | assumption | omega) | with_reducible exact ly_kIc hly (by first | assumption | omega) | with_reducible exact ly_kBe hly (by first | assumption | omega) | with_reducible exact ly_kPr hly (by first | assumption | omega) | with_reducible exact ly_kMt hly (by first | assumption | omega) (by first | assumption | omega) | with_reducible exact ly_kBc hly (by first | assumption | omega) (by first | assumption | omega) | with_reducible exact ly_k151 hly | with_reducible exact ly_k152 hly | with_reducible exact ly_k153 hly | with_reducible exact ly_k154 hly | with_reducible exact ly_k155 hly | with_reducible exact ly_k156 hly | with_reducible exact ly_k157 hly | with_reducible exact ly_k158 hly | with_reducible exact ly_k159 hly | with_reducible exact ly_k160 hly | with_reducible exact ly_kAh hly (by first | assumption | omega)) (by first | with_reducible rfl | with_reducible assumption | rfl) (by omega) dX6_dayOn_57 ?_
          rw [ml_hCoin o1 ho]
          refine jr_iconst (v := 1) hX dX6_dayOn_58 (by decide) ?_
          refine jr_isub hX dX6_dayOn_59 ?_
          refine jr_iast hX (by first | with_reducible assumption | with_reducible exact ly_kWm hly (by first | assumption | omega) | with_reducible exact ly_kLd hly (by first | assumption | omega) | with_reducible exact ly_kIc hly (by first | assumption | omega) | with_reducible exact ly_kBe hly (by first | assumption | omega) | with_reducible exact ly_kPr hly (by first | assumption | omega) | with_reducible exact ly_kMt hly (by first | assumption | omega) (by first | assumption | omega) | with_reducible exact ly_kBc hly (by first | assumption | omega) (by first | assumption | omega) | with_reducible exact ly_k151 hly | with_reducible exact ly_k152 hly | with_reducible exact ly_k153 hly | with_reducible exact ly_k154 hly | with_reducible exact ly_k155 hly | with_reducible exact ly_k156 hly | with_reducible exact ly_k157 hly | with_reducible exact ly_k158 hly | with_reducible exact ly_k159 hly | with_reducible exact ly_k160 hly | with_reducible exact ly_kAh hly (by first | assumption | omega)) (by first | assumption | with_reducible exact aMt_0 | with_reducible exact aBc_0 | with_reducible exact aWm_0 | with_reducible exact aLd_0 | with_reducible exact aIc_0 | with_reducible exact aBe_0 | with_reducible exact aPr_0 | with_reducible exact aAh_0 | decide | omega) (by first | with_reducible rfl | with_reducible assumption | rfl) (by omega) dX6_dayOn_60 ?_
          refine jr_goto (tgt := 71) hX dX6_dayOn_61 (by decide) ?_
          refine jr_iinc hX dX6_dayOn_71 rfl (by first | with_reducible exact jj_inc _ | with_reducible exact jj_inc1 _) rfl ?_
          refine jr_goto (tgt := 11) hX dX6_dayOn_74 (by decide) ?_
          exact jr_forget (fun _ _ h => h) (fun i v h => by rcases i with _ | _ | _ | _ | _ | i <;> first | exact h | exact absurd h (by simp)) (ih _ (by show ml w H M B N (f_py w k (it (f_py w) (f_fr w H d C) k)) _; rw [py_eq eo (by omega), if_pos c_26, if_pos (Int32.not_le.mp c_43)]; exact ml_uCoin o1 z (by omega)) (fM_c o2 ho))
      · refine jr_goto (tgt := 71) hX dX6_dayOn_29 (by decide) ?_
        refine jr_iinc hX dX6_dayOn_71 rfl (by first | with_reducible exact jj_inc _ | with_reducible exact jj_inc1 _) rfl ?_
        refine jr_goto (tgt := 11) hX dX6_dayOn_74 (by decide) ?_
        exact jr_forget (fun _ _ h => h) (fun i v h => by rcases i with _ | _ | _ | _ | _ | i <;> first | exact h | exact absurd h (by simp)) (ih _ (by show ml w H M B N (f_py w k (it (f_py w) (f_fr w H d C) k)) _; rw [py_eq eo (by omega), if_neg c_26]; exact o1) o2)
  exact h1 0 (Nat.zero_le _) J0 p1 (fM_off p2 (by decide) fM_refl)
