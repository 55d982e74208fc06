/-! the law's build, walked -/
theorem mtK_o {K : jj_K} {n q : Nat} (h : q < n ∨ n + 45 < q) : mtK K n q = K q := by
  unfold mtK
  rw [if_neg (by omega), if_neg (by omega)]
theorem mtI_o {I : jj_I} {n q : Nat} (h : q ≤ n ∨ n + 45 < q) : mtI I n q = I q := by
  unfold mtI
  rw [if_neg (by omega)]
theorem mtP_o {P : jj_P} {n q : Nat} (h : q < n ∨ n + 45 < q) : mtP P n q = P q := by
  unfold mtP
  rw [if_neg (by omega), if_neg (by omega)]
theorem jj_uK_ne {K : jj_K} {a b : Nat} {kd : Nat × Nat} (h : b ≠ a) : jj_uK K a kd b = K b := if_neg h
theorem jj_uK_eq {K : jj_K} {a b : Nat} {kd : Nat × Nat} (h : b = a) : jj_uK K a kd b = some kd := if_pos h
theorem it_r {n : Nat} {v : Int32} {J : jj_I} : ∀ (N : Nat), (∀ k, k < N → it (fun k J => jj_u J n k v) J N n k = v) ∧ ∀ b, b ≠ n → it (fun k J => jj_u J n k v) J N b = J b
  | 0 => ⟨fun k h => absurd h (Nat.not_lt_zero _), fun _ _ => rfl⟩
  | N + 1 => by
    obtain ⟨h1, h2⟩ := it_r (n := n) (v := v) (J := J) N
    refine ⟨fun k hk => ?_, fun b hb => ?_⟩
    · show jj_u (it (fun k J => jj_u J n k v) J N) n N v n k = v
      by_cases e : k = N
      · subst e; exact jj_u_eq
      · rw [jj_u_nk e]; exact h1 k (by omega)
    · show jj_u (it (fun k J => jj_u J n k v) J N) n N v b = _
      rw [jj_u_ne hb]; exact h2 b hb
set_option maxHeartbeats 4000000 in
theorem s_initM {l : Launch} (hfl : l.stackTraces = false) {D : jj_D} {n : Nat} {K : jj_K} {I : jj_I} {P : jj_P} {G : jj_G} {a : Nat} (hk : K a = some (7, 0)) (ha : 150 ≤ a ∧ a < n) :
    jj_Met l D yX7_init (jj_ws yX7_init cX7_init 2 none) { frames := 1, cells := 53, slots := 261, locals := 20 } [.ref a] n K I P G (fun r n1 K1 I1 P1 G1 => r = none ∧ G = G1 ∧ n1 = n + 53 ∧ (∀ b, b < n → K1 b = K b ∧ I1 b = I b) ∧ (∀ b, b < n → b ≠ a → P1 b = P b) ∧ sy (sA0 a n) 0 0 0 0 n1 K1 P1 ∧ (∀ k, k < 40 → I1 n k = 4) ∧ (∀ k, I1 (n + 2) k = 0) ∧ (∀ k, I1 (n + 3) k = 0) ∧ ∀ q, n + 5 < q → q ≤ n + 50 → ∀ k, I1 q k = 0) jj_noX := by
  refine jj_mono (s_X7_init hfl hk ⟨by omega, ha.2⟩) (fun r n1 K1 I1 P1 G1 q => ?_)
  obtain ⟨rfl, rfl, rfl, rfl, rfl, rfl⟩ := q
  refine ⟨rfl, rfl, by omega, fun b hb => ⟨by rw [jj_uK_ne (by omega), jj_uK_ne (by omega), mtK_o (by omega), jj_uK_ne (by omega), jj_uK_ne (by omega), jj_uK_ne (by omega), jj_uK_ne (by omega), jj_uK_ne (by omega)], ?_⟩, fun b hb hba => by rw [jj_u_ne (by omega), jj_uR_ne (by omega), jj_u_ne (by omega), jj_uR_ne (by omega), jj_u_ne (by omega), mtP_o (by omega), jj_u_ne (by omega), jj_u_ne (by omega), jj_u_ne (by omega), jj_u_ne (by omega), jj_uR_ne (by omega), jj_u_ne (by omega)], ?_, fun k hk => (it_r 40).1 k hk, fun k => ?_, fun k => ?_, fun q h1 h2 k => ?_⟩
  · rw [(it_r 40).2 b (by omega), mtI_o (by omega), jj_uR_ne (by omega), jj_uR_ne (by omega), jj_uR_ne (by omega), jj_uR_ne (by omega)]
  · rw [show n + 1 + 1 + 1 + 1 + 1 + 46 + 1 + 1 = n + 53 by omega]
    refine sy_init ha (by rw [jj_uK_ne (by omega), jj_uK_ne (by omega), mtK_o (by omega), jj_uK_ne (by omega), jj_uK_ne (by omega), jj_uK_ne (by omega), jj_uK_ne (by omega), jj_uK_ne (by omega)]; exact hk) (by rw [jj_uK_ne (by omega), jj_uK_ne (by omega), mtK_o (by omega), jj_uK_ne (by omega), jj_uK_ne (by omega), jj_uK_ne (by omega), jj_uK_ne (by omega), jj_uK_eq (by omega)]) (by rw [jj_uK_ne (by omega), jj_uK_ne (by omega), mtK_o (by omega), jj_uK_ne (by omega), jj_uK_ne (by omega), jj_uK_ne (by omega), jj_uK_eq (by omega)]) (by rw [jj_uK_ne (by omega), jj_uK_ne (by omega), mtK_o (by omega), jj_uK_ne (by omega), jj_uK_ne (by omega), jj_uK_eq (by omega)]) (by rw [jj_uK_ne (by omega), jj_uK_ne (by omega), mtK_o (by omega), jj_uK_ne (by omega), jj_uK_eq (by omega)]) (by rw [jj_uK_ne (by omega), jj_uK_ne (by omega), mtK_o (by omega), jj_uK_eq (by omega)]) ?_ (by rw [jj_uK_ne (by omega), jj_uK_eq (by omega)]) (by rw [jj_uK_eq (by omega)]) (fun m hm => ?_) (fun m k hm hk => ?_) (by rw [jj_u_nk (by decide), jj_uR_ne (by omega), jj_u_nk (by decide), jj_uR_ne (by omega), jj_u_nk (by decide), mtP_o (by omega), jj_u_nk (by decide), jj_u_nk (by decide), jj_u_nk (by decide), jj_u_nk (by decide), jj_uR_ne (by omega), jj_u_eq]) (by rw [jj_u_nk (by decide), jj_uR_ne (by omega), jj_u_nk (by decide), jj_uR_ne (by omega), jj_u_nk (by decide), mtP_o (by omega), jj_u_nk (by decide), jj_u_nk (by decide), jj_u_nk (by decide), jj_u_eq]) (by rw [jj_u_nk (by decide), jj_uR_ne (by omega), jj_u_nk (by decide), jj_uR_ne (by omega), jj_u_nk (by decide), mtP_o (by omega), jj_u_nk (by decide), jj_u_nk (by decide), jj_u_eq]) (by rw [jj_u_nk (by decide), jj_uR_ne (by omega), jj_u_nk (by decide), jj_uR_ne (by omega), jj_u_nk (by decide), mtP_o (by omega), jj_u_nk (by decide), jj_u_eq]) (by rw [jj_u_nk (by decide), jj_uR_ne (by omega), jj_u_nk (by decide), jj_uR_ne (by omega), jj_u_nk (by decide), mtP_o (by omega), jj_u_eq]) (by rw [jj_u_nk (by decide), jj_uR_ne (by omega), jj_u_nk (by decide), jj_uR_ne (by omega), jj_u_eq]) (by rw [jj_u_nk (by decide), jj_uR_ne (by omega), jj_u_eq]) (by rw [jj_u_eq]) (fun m hm => ?_) (fun m k hm hk => ?_)
    · rw [jj_uK_ne (by omega), jj_uK_ne (by omega)]; unfold mtK; rw [if_pos (by omega)]
    · rw [jj_uK_ne (by omega), jj_uK_ne (by omega)]; unfold mtK; rw [if_neg (by omega), if_pos (by omega), if_pos (by omega)]
    · rw [jj_uK_ne (by omega), jj_uK_ne (by omega)]; unfold mtK; rw [if_neg (by omega), if_pos (by omega), if_neg (by omega)]
    · rw [jj_u_ne (by omega), jj_uR_ne (by omega), jj_u_ne (by omega), jj_uR_ne (by omega), jj_u_ne (by omega)]; unfold mtP; rw [if_pos (by omega), if_pos hm]
    · rw [jj_u_ne (by omega), jj_uR_ne (by omega), jj_u_ne (by omega), jj_uR_ne (by omega), jj_u_ne (by omega)]; unfold mtP; rw [if_neg (by omega), if_pos (by omega), if_pos hk]; congr 1; omega
  · rw [(it_r 40).2 _ (by omega), mtI_o (by omega), jj_uR_ne (by omega), jj_uR_ne (by omega), show n + 2 = n + 1 + 1 from rfl, jj_uR_eq]
  · rw [(it_r 40).2 _ (by omega), mtI_o (by omega), jj_uR_ne (by omega), show n + 3 = n + 1 + 1 + 1 from rfl, jj_uR_eq]
  · rw [(it_r 40).2 _ (by omega)]; unfold mtI; rw [if_pos (by omega)]
theorem tw_c {v : Int32} {m : Nat} (h : 0 < m) (h2 : m ≤ 5001) : 0 ≤ nI (bw v m) ∧ nI (bw v m) ≤ 5000 := by
  have := bw_lt (v := v) h
  exact ⟨nI_pos' (by omega), by rw [show (5000 : Int32) = nI 5000 from rfl]; exact nI_le (by omega) (by omega)⟩
theorem lb4_0 {A : Nat → Nat} {H M n : Nat} {K K' : jj_K} {P P' : jj_P} {J : jj_I} (hsy : sy A H 0 0 0 n K P) (hl : lb2 A H J) (hH : H ≤ 7) (hs3 : sy (fun t => if t = 4 then n else A t) H M 0 0 (n + 1) K' P') : lb4 (fun t => if t = 4 then n else A t) H 0 (jj_uR J n (fun _ => 0)) := by
  have ge := sy_lt hsy (t := 0) sv_0
  have low : eqA (jj_uR J n (fun _ => 0)) J := fun a ha => jj_uR_ne (by omega)
  refine ⟨tc_up (eqA_tc (t := 166) low (by omega) (tc_up hl.1 (by omega) (by omega))) (by omega) (by omega), ?_, sz_cg hl.2.2.2.2.2 (fun m hm => low _ (by simp only [aMt]; omega))⟩
  obtain ⟨m1, m2, m3, m4, m5, m6, m7, m8, m9⟩ := hl.2.1
  have hn := hsy.1
  have o : ∀ t, sy_K H 0 0 0 t ≠ none → t ≠ 4 → jj_uR J n (fun _ => 0) (if t = 4 then n else A t) = J (A t) := fun t ht h4 => by
    have := sy_lt hsy ht
    rw [if_neg h4, jj_uR_ne (by omega)]
  refine ⟨?_, fun k hk => ?_, fun l hl => ?_, fun l hl => ?_, fun m hm => absurd hm (by omega), fun h hh => ?_, fun b hb => absurd hb (by omega), fun d hd => absurd hd (by omega), fun m hm h hh g hg => ?_⟩
  · (try dsimp only); rw [o 0 sv_0 (by decide), low _ (by simp only [aR]; omega)]; exact m1
  · (try dsimp only); rw [o 1 sv_1 (by decide), low _ (by simp only [aWm]; omega)]; exact m2 k hk
  · (try dsimp only); rw [o 2 sv_2 (by decide), low _ (by simp only [aLd]; omega)]; exact m3 l hl
  · (try dsimp only); rw [o 3 sv_3 (by decide), low _ (by simp only [aIc]; omega)]; exact m4 l hl
  · (try dsimp only); rw [o _ (sv_H hn hh) (by omega), low _ (by simp only [aBe]; omega), low _ (by simp only [aPr]; omega)]; exact m6 h hh
  · (try dsimp only); rw [o _ (sv_S hn hm hh) (by omega), low _ (by simp only [aMt]; omega)]; exact m9 m hm h hh g hg
theorem lb2_e {A : Nat → Nat} {h q : Nat} {K : jj_K} {P : jj_P} {J J1 : jj_I} {leg be : Int32} (hsy : sy A h 0 0 0 q K P) (hl : lb2 A h J) (hk : lb3 A h q leg be J 4 J1) (h8 : h < 7) : ∃ A2 : Nat → Nat, A2 0 = A 0 ∧ sy A2 (h + 1) 0 0 0 (q + 2) (jj_uK (jj_uK K q (10, 5)) (q + 1) (15, h + 1))
    (jj_u (jj_u (it (fun j R => jj_u R (q + 1) j (some (A (10 + j)))) (jj_uR P (q + 1) (fun _ => none)) h) (q + 1) h (some q)) (A 0) 1 (some (q + 1))) ∧ lb2 A2 (h + 1) J1 := by
  have s2 := sy_addH2 hsy (by omega)
  exact ⟨fun t => if t = 5 then q + 1 else if t = 10 + h then q else A t, by (try dsimp only); rw [if_neg (by decide), if_neg (by omega)], s2, lb2_s hsy hl hk h8 s2⟩
theorem lb5_e {A : Nat → Nat} {H M b n m h y : Nat} {K : jj_K} {P : jj_P} {J : jj_I} (hsy : sy A H M b 0 n K P) (hl : lb5 A H M b J) (hb : b < 9) (hm : m < M) (hh : h < H) (hy : 1 ≤ y ∧ y ≤ 60) : ∃ A2 : Nat → Nat, A2 0 = A 0 ∧ sy A2 H M (b + 1) 0 (n + 3) (jj_uK (jj_uK (jj_uK K n (17, b + 1)) (n + 1) (6, 0)) (n + 1 + 1) (10, 4))
    (jj_u (jj_u (jj_u (jj_uR (it (fun j R => jj_u R n j (some (A (20 + j)))) (jj_uR P n (fun _ => none)) b) (n + 1) (fun _ => none)) (n + 1) 8 (some (n + 1 + 1))) n b (some (n + 1))) (A 0) 6 (some n)) ∧ lb5 A2 H M (b + 1) (jj_u (jj_u (jj_u (jj_u (jj_uR (jj_u (jj_uR (jj_u (f_la 0 b (nI m) (nI h) (nI y) J) (aW 0) 2 (nI (b + 1))) (n + 1) (fun _ => 0)) (n + 1) 1 20) (n + 1 + 1) (fun _ => 0)) (n + 1) 0 (nI m)) (n + 1) 2 (nI y)) (n + 1) 4 (nI h)) (n + 1) 5 (nI h)) := by
  have s2 := sy_addB2 hsy (by omega)
  exact ⟨fun t => if t = 6 then n else if t = 20 + b then n + 1 else if t = 40 + b then n + 2 else A t, by (try dsimp only); rw [if_neg (by decide), if_neg (by omega), if_neg (by omega)], s2, lb5_s hsy hl hb hm hh hy s2⟩
/-- the class, when it is new -/
def lc0 (I : jj_I) : Prop := tn_c 0 0 0 0 0 I ∧ (∀ k, k < 40 → I (aWm 0) k = 4) ∧ (∀ c, I (aPr 0) c = 0) ∧ (∀ k, I (aIc 0) k = 0) ∧ (∀ m, m < 5 → ∀ c, c < 32 → I (aMt 0 m) c = 0) ∧ I (aR 0) 0 = 0
theorem lb1_0 {n : Nat} {I I0 I1 : jj_I} {K1 : jj_K} {P1 : jj_P} (hn : 150 ≤ n) (h : lc0 I) (e0 : ∀ b, b < n + 1 → I1 b = I0 b) (e1 : ∀ b, b < 150 → I0 b = I b) (e2 : I0 n 8 = 0) (hsy : sy (sA0 n (n + 1)) 0 0 0 0 (n + 1 + 53) K1 P1) (i3 : ∀ k, k < 40 → I1 (n + 1) k = 4) (i4 : ∀ k, I1 (n + 1 + 2) k = 0) (i5 : ∀ k, I1 (n + 1 + 3) k = 0) (i6 : ∀ q, n + 1 + 5 < q → q ≤ n + 1 + 50 → ∀ k, I1 q k = 0) : lb1 (sA0 n (n + 1)) 0 I1 := by
  obtain ⟨h1, h2, h3, h4, h5, h6⟩ := h
  have eq : eqA I1 I := fun a ha => (e0 a (by omega)).trans (e1 a ha)
  refine ⟨eqA_tc eq (by omega) h1, ⟨?_, fun k hk => ?_, fun l hl => absurd hl (by omega), fun l hl => absurd hl (by omega), fun m hm => absurd hm (by omega), fun h hh => absurd hh (by omega), fun b hb => absurd hb (by omega), fun d hd => absurd hd (by omega), fun m hm h hh g hg => ?_⟩, fun j _ hj => by rw [eq _ (by simp only [aWm]; omega)]; exact h2 j hj, fun c _ => by rw [eq _ (by simp only [aPr]; omega)]; exact h3 c, fun k => i5 k, fun k => by rw [eq _ (by simp only [aIc]; omega)]; exact h4 k, fun m hm c hc => by rw [eq _ (by simp only [aMt]; omega)]; exact h5 m hm c hc⟩
  · show I1 n 8 = _
    rw [e0 n (by omega), e2, eq _ (by simp only [aR]; omega), h6]
  · show I1 (n + 1) k = _
    rw [i3 k hk, eq _ (by simp only [aWm]; omega), h2 k hk]
  · rw [sA0_S hm hh, eq (aMt 0 m) (by simp only [aMt]; omega), h5 m hm _ (by omega)]
    exact i6 _ (by omega) (by omega) g
set_option maxHeartbeats 4000000 in
set_option maxRecDepth 100000 in
theorem l_build {l : Launch} (hfl : l.stackTraces = false) {D : jj_D} {n : Nat} {K : jj_K} {I : jj_I} {P : jj_P} {G : jj_G}  (hly : ly K P) (hn : 150 ≤ n) (hc0 : lc0 I) :
    jj_Met l D yL_build (jj_ws yL_build cL_build 12 (some (.object "IceHarbourLaw$Sim"))) { frames := 9, cells := 100, slots := 800, locals := 156 } [.ref 1, .ref 0] n K I P G (fun r n1 K1 I1 P1 G1 => G1 = G ∧ ∃ A H M B, r = some (.ref (A 0)) ∧ (1 ≤ H ∧ H ≤ 7) ∧ (2 ≤ M ∧ M ≤ 5) ∧ (1 ≤ B ∧ B ≤ 9) ∧ ly K1 P1 ∧ sy A H M B 0 n1 K1 P1 ∧ ms A H M B 0 I1 I1 ∧ tn_c 196 H M B 0 I1 ∧ sz I1 ∧ lw B I1) jj_noX := by
  refine jj_of hfl (by decide +kernel) [some (.ref 1), some (.ref 0), none, none, none, none, none, none, none, none, none, none] rfl rfl ?_
  intro X hXl hX hSt
  refine jr_new hX kN_L_9 dL_build_0 ⟨by dsimp only; omega, by simp only [jj_N]; omega⟩ ?_
  refine jr_dup hX dL_build_3 rfl ?_
  refine jr_relM (jr_runI hX hSt kM_L_11 (s_initM (jj_fl hX) (a := n) (by unfold jj_uK; rw [if_pos rfl]) (by omega)) rfl rfl dL_build_4 rfl ⟨by simp only [jj_N]; omega, by simp only [jj_N]; omega⟩ rfl) ?_
  rintro r n1 K1 I1 P1 G1 ⟨rfl, rfl, rfl, i1, i2, hsy, i3, i4, i5, i6⟩
  simp only [Option.toList, List.nil_append]
  have hly : ly K1 P1 := ly_up hly (fun a ha => by rw [(i1 a (by omega)).1]; unfold jj_uK; rw [if_neg (by omega)]) (fun a ha => by rw [i2 a (by omega) (by omega), jj_uR_ne (by omega)])
  have hb1 := lb1_0 hn hc0 (fun b hb => (i1 b hb).2) (fun b hb => jj_uR_ne (by omega)) (by rw [jj_uR_eq]) hsy i3 i4 i5 i6
  have hA0 : sA0 n (n + 1) 0 = n := rfl
  generalize sA0 n (n + 1) = A at hsy hb1 hA0
  refine jr_astore_n hX dL_build_7 rfl ?_
  refine jr_aload_n hX dL_build_8 rfl ?_
  refine jr_iconst (v := 0) hX dL_build_9 (by decide) ?_
  refine jr_relM (jr_runS hX hSt kM_L_12 (l_cell (jj_fl hX) (k := 0) (show _ = nI 0 from rfl) (by omega)) rfl rfl dL_build_10 rfl ⟨by simp only [jj_N]; omega, by simp only [jj_N]; omega⟩ rfl) ?_
  rintro r_ n_ K_ I_ P_ G_ ⟨⟨v_, rfl⟩, rfl, rfl, rfl, rfl, rfl⟩
  simp only [Option.toList, List.nil_append, List.singleton_append, List.cons_append]
  refine jr_bipush (v := 40) hX dL_build_13 (by decide) ?_
  refine jr_ret (jr_runS hX hSt kM_L_18 (l_below (jj_fl hX) (m := 40) (show _ = nI 40 from rfl) (by decide)) rfl rfl dL_build_15 rfl ⟨by simp only [jj_N]; omega, by simp only [jj_N]; omega⟩ rfl) ?_
  refine jr_istore_n hX dL_build_18 rfl ?_
  refine jr_aload_n hX dL_build_19 rfl ?_
  refine jr_iconst (v := 0) hX dL_build_20 (by decide) ?_
  refine jr_relM (jr_runS hX hSt kM_L_12 (l_cell (jj_fl hX) (k := 0) (show _ = nI 0 from rfl) (by omega)) rfl rfl dL_build_21 rfl ⟨by simp only [jj_N]; omega, by simp only [jj_N]; omega⟩ rfl) ?_
  rintro r_ n_ K_ I_ P_ G_ ⟨⟨v_, rfl⟩, rfl, rfl, rfl, rfl, rfl⟩
  simp only [Option.toList, List.nil_append, List.singleton_append, List.cons_append]
  refine jr_iconst (v := 4) hX dL_build_24 (by decide) ?_
  refine jr_ishr hX dL_build_25 ?_
  refine jr_bipush (v := 25) hX dL_build_26 (by decide) ?_
  refine jr_ret (jr_runS hX hSt kM_L_18 (l_below (jj_fl hX) (m := 25) (show _ = nI 25 from rfl) (by decide)) rfl rfl dL_build_28 rfl ⟨by simp only [jj_N]; omega, by simp only [jj_N]; omega⟩ rfl) ?_
  refine jr_istore hX dL_build_31 rfl ?_
  refine jr_iconst (v := 0) hX dL_build_33 (by decide) ?_
  refine jr_istore hX dL_build_34 rfl ?_
  have h1 : ∀ k, k ≤ 40 → ∀ (x3 x4 : Int32) (J : jj_I), lb1 A k J → jj_J X D 12 (54) (270) (jj_MQ X D { frames := 9, cells := 100, slots := 800, locals := 156 } (fun r n1 K1 I1 P1 G1 => G1 = G ∧ ∃ A H M B, r = some (.ref (A 0)) ∧ (1 ≤ H ∧ H ≤ 7) ∧ (2 ≤ M ∧ M ≤ 5) ∧ (1 ≤ B ∧ B ≤ 9) ∧ ly K1 P1 ∧ sy A H M B 0 n1 K1 P1 ∧ ms A H M B 0 I1 I1 ∧ tn_c 196 H M B 0 I1 ∧ sz I1 ∧ lw B I1) jj_noX) (n + 1 + 53) (K1) (J) (P1) (G) 36 [some (.ref 1), some (.ref 0), some (.ref (A 0)), some (.int x3), some (.int x4), some (.int (nI k)), none, none, none, none, none, none] [] := by
    refine jj_for (40) _ ?_ (fun k hk ih => ?_)
    · intro x3 x4 J hb1
      refine jr_iload hX dL_build_36 rfl ?_
      refine jr_bipush (v := 40) hX dL_build_38 (by decide) ?_
      refine jr_icmp_ge (tgt := 139) hX dL_build_40 (by decide) (fun c_40 => ?_) (fun c_40 => absurd (by decide) c_40)
      refine jr_iconst (v := 1) hX dL_build_139 (by decide) ?_
      refine jr_aload_n hX dL_build_140 rfl ?_
      refine jr_iconst (v := 3) hX dL_build_141 (by decide) ?_
      refine jr_relM (jr_runS hX hSt kM_L_12 (l_cell (jj_fl hX) (k := 3) (show _ = nI 3 from rfl) (by omega)) rfl rfl dL_build_142 rfl ⟨by simp only [jj_N]; omega, by simp only [jj_N]; omega⟩ rfl) ?_
      rintro r_ n_ K_ I_ P_ G_ ⟨⟨v_, rfl⟩, rfl, rfl, rfl, rfl, rfl⟩
      simp only [Option.toList, List.nil_append, List.singleton_append, List.cons_append]
      refine jr_bipush (v := 7) hX dL_build_145 (by decide) ?_
      refine jr_ret (jr_runS hX hSt kM_L_18 (l_below (jj_fl hX) (m := 7) (show _ = nI 7 from rfl) (by decide)) rfl rfl dL_build_147 rfl ⟨by simp only [jj_N]; omega, by simp only [jj_N]; omega⟩ rfl) ?_
      refine jr_iadd hX dL_build_150 ?_
      obtain ⟨hN, hN1, eN⟩ : ∃ m, (1 ≤ m ∧ m ≤ 7) ∧ m = 1 + bw v_ 7 := ⟨_, ⟨by omega, by have := bw_lt (v := v_) (m := 7) (by decide); omega⟩, rfl⟩
      rw [show (1 : Int32) + nI (bw v_ 7) = nI (1 + bw v_ 7) from nI_add 1 _, ← eN]
      refine jr_istore hX dL_build_151 rfl ?_
      refine jr_iconst (v := 0) hX dL_build_153 (by decide) ?_
      refine jr_istore hX dL_build_154 rfl ?_
      have h2 : ∀ h, h ≤ hN → ∀ (x3 x4 : Int32) (n1 : Nat) (K1 : jj_K) (P1 : jj_P) (A : Nat → Nat) (J : jj_I), ly K1 P1 → sy A h 0 0 0 n1 K1 P1 → lb2 A h J → jj_J X D 12 (54 + 2 * h) (270 + 36 * h) (jj_MQ X D { frames := 9, cells := 100, slots := 800, locals := 156 } (fun r n1 K1 I1 P1 G1 => G1 = G ∧ ∃ A H M B, r = some (.ref (A 0)) ∧ (1 ≤ H ∧ H ≤ 7) ∧ (2 ≤ M ∧ M ≤ 5) ∧ (1 ≤ B ∧ B ≤ 9) ∧ ly K1 P1 ∧ sy A H M B 0 n1 K1 P1 ∧ ms A H M B 0 I1 I1 ∧ tn_c 196 H M B 0 I1 ∧ sz I1 ∧ lw B I1) jj_noX) (n1) (K1) (J) (P1) (G) 156 [some (.ref 1), some (.ref 0), some (.ref (A 0)), some (.int x3), some (.int x4), some (.int (nI hN)), some (.int (nI h)), none, none, none, none, none] [] := by
        refine jj_for (hN) _ ?_ (fun h hh ih => ?_)
        · intro x3 x4 n1 K1 P1 A J hly hsy hb2
          refine jr_widen (cs1 := 68) (sl1 := 522) (by omega) (by omega) ?_
          have g0 := sy_lt hsy (t := 0) sv_0
          refine jr_iload hX dL_build_156 rfl ?_
          refine jr_iload hX dL_build_158 rfl ?_
          refine jr_icmp_ge (tgt := 325) hX dL_build_160 (by decide) (fun c_160 => ?_) (fun c_160 => absurd (nI_le (Nat.le_refl _) (by omega)) c_160)
          refine jr_aload_n hX dL_build_325 rfl ?_
          refine jr_iconst (v := 2) hX dL_build_326 (by decide) ?_
          refine jr_aload_n hX dL_build_327 rfl ?_
          refine jr_bipush (v := 10) hX dL_build_328 (by decide) ?_
          refine jr_relM (jr_runS hX hSt kM_L_12 (l_cell (jj_fl hX) (k := 10) (show _ = nI 10 from rfl) (by omega)) rfl rfl dL_build_330 rfl ⟨by simp only [jj_N]; omega, by simp only [jj_N]; omega⟩ rfl) ?_
          rintro r_ n_ K_ I_ P_ G_ ⟨⟨v_, rfl⟩, rfl, rfl, rfl, rfl, rfl⟩
          simp only [Option.toList, List.nil_append, List.singleton_append, List.cons_append]
          refine jr_iconst (v := 4) hX dL_build_333 (by decide) ?_
          refine jr_ret (jr_runS hX hSt kM_L_18 (l_below (jj_fl hX) (m := 4) (show _ = nI 4 from rfl) (by decide)) rfl rfl dL_build_334 rfl ⟨by simp only [jj_N]; omega, by simp only [jj_N]; omega⟩ rfl) ?_
          refine jr_iadd hX dL_build_337 ?_
          obtain ⟨Mn, Mn1, eM⟩ : ∃ m, (2 ≤ m ∧ m ≤ 5) ∧ m = 2 + bw v_ 4 := ⟨_, ⟨by omega, by have := bw_lt (v := v_) (m := 4) (by decide); omega⟩, rfl⟩
          rw [show (2 : Int32) + nI (bw v_ 4) = nI (2 + bw v_ 4) from nI_add 2 _, ← eM]
          refine jr_newI hX kA_int rfl (by omega) dL_build_338 ⟨by dsimp only; omega, by dsimp only; omega⟩ ?_
          refine jr_putr hX kF_L_49 rfl (by unfold jj_uK; rw [if_neg (by omega)]; exact sy_k0 hsy) (sy_z0 hsy) dL_build_340 ?_
          have hly : ly (jj_uK K1 n1 (10, Mn)) (jj_u P1 (A 0) 4 (some n1)) := ly_up hly (fun a ha => by unfold jj_uK; rw [if_neg (by omega)]) (fun a ha => jj_u_ne (by omega))
          have hsy3 := sy_coins (M' := Mn) (K' := jj_uK K1 n1 (10, Mn)) (P' := jj_u P1 (A 0) 4 (some n1)) hsy Mn1.2 (by unfold jj_uK; rw [if_pos rfl]) (fun a ha => by unfold jj_uK; rw [if_neg (by omega)]) (fun a ha h0 => jj_u_ne h0) (fun k hk => jj_u_nk hk) jj_u_eq
          have hb4 := lb4_0 (n := n1) hsy hb2 hN1.2 hsy3
          obtain ⟨A3, eA3⟩ : ∃ A3 : Nat → Nat, A3 = fun t => if t = 4 then n1 else A t := ⟨_, rfl⟩
          rw [← eA3] at hsy3 hb4
          have e30 : A3 0 = A 0 := by rw [eA3]; rfl
          refine jr_iconst (v := 0) hX dL_build_343 (by decide) ?_
          refine jr_istore hX dL_build_344 rfl ?_
          have h4 : ∀ m, m ≤ Mn → ∀ J : jj_I, lb4 A3 hN m J → jj_J X D 12 (69) (527) (jj_MQ X D { frames := 9, cells := 100, slots := 800, locals := 156 } (fun r n1 K1 I1 P1 G1 => G1 = G ∧ ∃ A H M B, r = some (.ref (A 0)) ∧ (1 ≤ H ∧ H ≤ 7) ∧ (2 ≤ M ∧ M ≤ 5) ∧ (1 ≤ B ∧ B ≤ 9) ∧ ly K1 P1 ∧ sy A H M B 0 n1 K1 P1 ∧ ms A H M B 0 I1 I1 ∧ tn_c 196 H M B 0 I1 ∧ sz I1 ∧ lw B I1) jj_noX) (n1 + 1) (jj_uK K1 n1 (10, Mn)) (J) (jj_u P1 (A 0) 4 (some n1)) (G) 346 [some (.ref 1), some (.ref 0), some (.ref (A3 0)), some (.int x3), some (.int x4), some (.int (nI hN)), some (.int (nI m)), none, none, none, none, none] [] := by
            refine jj_for (Mn) _ ?_ (fun m hm ih => ?_)
            · intro J hb4
              have hsy := hsy3
              refine jr_iload hX dL_build_346 rfl ?_
              refine jr_aload_n hX dL_build_348 rfl ?_
              refine jr_getr hX kF_L_49 rfl (sy_k0 hsy) (sy_p0_4 hsy) dL_build_349 ?_
              refine jr_alen (t := 10) hX (by decide) (sy_k4 hsy) dL_build_352 ?_
              refine jr_icmp_ge (tgt := 425) hX dL_build_353 (by decide) (fun c_353 => ?_) (fun c_353 => absurd (nI_le (Nat.le_refl _) (by omega)) c_353)
              refine jr_iconst (v := 1) hX dL_build_425 (by decide) ?_
              refine jr_aload_n hX dL_build_426 rfl ?_
              refine jr_bipush (v := 12) hX dL_build_427 (by decide) ?_
              refine jr_relM (jr_runS hX hSt kM_L_12 (l_cell (jj_fl hX) (k := 12) (show _ = nI 12 from rfl) (by omega)) rfl rfl dL_build_429 rfl ⟨by simp only [jj_N]; omega, by simp only [jj_N]; omega⟩ rfl) ?_
              rintro r_ n_ K_ I_ P_ G_ ⟨⟨v_, rfl⟩, rfl, rfl, rfl, rfl, rfl⟩
              simp only [Option.toList, List.nil_append, List.singleton_append, List.cons_append]
              refine jr_bipush (v := 9) hX dL_build_432 (by decide) ?_
              refine jr_ret (jr_runS hX hSt kM_L_18 (l_below (jj_fl hX) (m := 9) (show _ = nI 9 from rfl) (by decide)) rfl rfl dL_build_434 rfl ⟨by simp only [jj_N]; omega, by simp only [jj_N]; omega⟩ rfl) ?_
              refine jr_iadd hX dL_build_437 ?_
              obtain ⟨Bn, Bn1, eB⟩ : ∃ m, (1 ≤ m ∧ m ≤ 9) ∧ m = 1 + bw v_ 9 := ⟨_, ⟨by omega, by have := bw_lt (v := v_) (m := 9) (by decide); omega⟩, rfl⟩
              rw [show (1 : Int32) + nI (bw v_ 9) = nI (1 + bw v_ 9) from nI_add 1 _, ← eB]
              refine jr_istore hX dL_build_438 rfl ?_
              refine jr_iconst (v := 0) hX dL_build_440 (by decide) ?_
              refine jr_istore hX dL_build_441 rfl ?_
              have h5 : ∀ b, b ≤ Bn → ∀ (n1 : Nat) (K1 : jj_K) (P1 : jj_P) (A : Nat → Nat) (J : jj_I), ly K1 P1 → sy A hN Mn b 0 n1 K1 P1 → lb5 A hN Mn b J → jj_J X D 12 (69 + 3 * b) (527 + 23 * b) (jj_MQ X D { frames := 9, cells := 100, slots := 800, locals := 156 } (fun r n1 K1 I1 P1 G1 => G1 = G ∧ ∃ A H M B, r = some (.ref (A 0)) ∧ (1 ≤ H ∧ H ≤ 7) ∧ (2 ≤ M ∧ M ≤ 5) ∧ (1 ≤ B ∧ B ≤ 9) ∧ ly K1 P1 ∧ sy A H M B 0 n1 K1 P1 ∧ ms A H M B 0 I1 I1 ∧ tn_c 196 H M B 0 I1 ∧ sz I1 ∧ lw B I1) jj_noX) (n1) (K1) (J) (P1) (G) 443 [some (.ref 1), some (.ref 0), some (.ref (A 0)), some (.int x3), some (.int x4), some (.int (nI hN)), some (.int (nI Bn)), some (.int (nI b)), none, none, none, none] [] := by
                refine jj_for (Bn) _ ?_ (fun b hb ih => ?_)
                · intro n1 K1 P1 A J hly hsy hb5
                  refine jr_iload hX dL_build_443 rfl ?_
                  refine jr_iload hX dL_build_445 rfl ?_
                  refine jr_icmp_ge (tgt := 536) hX dL_build_447 (by decide) (fun c_447 => ?_) (fun c_447 => absurd (nI_le (Nat.le_refl _) (by omega)) c_447)
                  refine jr_aload_n hX dL_build_536 rfl ?_
                  exact jr_aret hX (Or.inl ⟨_, rfl⟩) dL_build_537 (Nat.ble_eq.mpr (by first | (dsimp only; omega) | (simp only [jj_N]; omega))) (Nat.ble_eq.mpr (by first | (dsimp only; omega) | (simp only [jj_N]; omega))) ⟨rfl, A, hN, Mn, Bn, rfl, hN1, Mn1, Bn1, hly, hsy, hb5.2.1, tc_up hb5.1 (by omega) (by omega), hb5.2.2⟩
                · intro n1 K1 P1 A J hly hsy hb5
                  have g0 := sy_lt hsy (t := 0) sv_0
                  refine jr_iload hX dL_build_443 rfl ?_
                  refine jr_iload hX dL_build_445 rfl ?_
                  refine jr_icmp_ge (tgt := 536) hX dL_build_447 (by decide) (fun c_447 => absurd c_447 (nI_ge (by assumption) (by omega))) (fun c_447 => ?_)
                  refine jr_aload_n hX dL_build_450 rfl ?_
                  refine jr_bipush (v := 13) hX dL_build_451 (by decide) ?_
                  refine jr_relM (jr_runS hX hSt kM_L_12 (l_cell (jj_fl hX) (k := 13) (show _ = nI 13 from rfl) (by omega)) rfl rfl dL_build_453 rfl ⟨by simp only [jj_N]; omega, by simp only [jj_N]; omega⟩ rfl) ?_
                  rintro r_ n_ K_ I_ P_ G_ ⟨⟨v_, rfl⟩, rfl, rfl, rfl, rfl, rfl⟩
                  simp only [Option.toList, List.nil_append, List.singleton_append, List.cons_append]
                  refine jr_iload hX dL_build_456 rfl ?_
                  refine jr_ishr hX dL_build_458 ?_
                  refine jr_bipush (v := 11) hX dL_build_459 (by decide) ?_
                  refine jr_iload hX dL_build_461 rfl ?_
                  refine jr_imul hX dL_build_463 ?_
                  refine jr_iadd hX dL_build_464 ?_
                  refine jr_istore hX dL_build_465 rfl ?_
                  refine jr_iload hX dL_build_467 rfl ?_
                  refine jr_aload_n hX dL_build_469 rfl ?_
                  refine jr_getr hX kF_L_49 rfl (sy_k0 hsy) (sy_p0_4 hsy) dL_build_470 ?_
                  refine jr_alen (t := 10) hX (by decide) (sy_k4 hsy) dL_build_473 ?_
                  refine jr_ret (jr_runS hX hSt kM_L_18 (l_below (jj_fl hX) (m := Mn) (rfl) ⟨by omega, by omega⟩) rfl rfl dL_build_474 rfl ⟨by simp only [jj_N]; omega, by simp only [jj_N]; omega⟩ rfl) ?_
                  refine jr_istore hX dL_build_477 rfl ?_
                  refine jr_iload hX dL_build_479 rfl ?_
                  refine jr_iconst (v := 2) hX dL_build_481 (by decide) ?_
                  refine jr_ishr hX dL_build_482 ?_
                  refine jr_iload hX dL_build_483 rfl ?_
                  refine jr_ret (jr_runS hX hSt kM_L_18 (l_below (jj_fl hX) (m := hN) (rfl) ⟨by omega, by omega⟩) rfl rfl dL_build_485 rfl ⟨by simp only [jj_N]; omega, by simp only [jj_N]; omega⟩ rfl) ?_
                  refine jr_istore hX dL_build_488 rfl ?_
                  refine jr_iconst (v := 1) hX dL_build_490 (by decide) ?_
                  refine jr_iload hX dL_build_491 rfl ?_
                  refine jr_iconst (v := 4) hX dL_build_493 (by decide) ?_
                  refine jr_ishr hX dL_build_494 ?_
                  refine jr_bipush (v := 60) hX dL_build_495 (by decide) ?_
                  refine jr_ret (jr_runS hX hSt kM_L_18 (l_below (jj_fl hX) (m := 60) (show _ = nI 60 from rfl) (by decide)) rfl rfl dL_build_497 rfl ⟨by simp only [jj_N]; omega, by simp only [jj_N]; omega⟩ rfl) ?_
                  refine jr_iadd hX dL_build_500 ?_
                  have hm9 := bw_lt (v := (v_ >>> (nI b &&& 31) + 11 * nI b)) (m := Mn) (by omega)
                  have hh9 := bw_lt (v := (v_ >>> (nI b &&& 31) + 11 * nI b) >>> (2 &&& 31)) (m := hN) (by omega)
                  have hy9 : 1 ≤ 1 + bw ((v_ >>> (nI b &&& 31) + 11 * nI b) >>> (4 &&& 31)) 60 ∧ 1 + bw ((v_ >>> (nI b &&& 31) + 11 * nI b) >>> (4 &&& 31)) 60 ≤ 60 := ⟨by omega, by have := bw_lt (v := (v_ >>> (nI b &&& 31) + 11 * nI b) >>> (4 &&& 31)) (m := 60) (by decide); omega⟩
                  rw [show (1 : Int32) + nI (bw ((v_ >>> (nI b &&& 31) + 11 * nI b) >>> (4 &&& 31)) 60) = nI (1 + bw ((v_ >>> (nI b &&& 31) + 11 * nI b) >>> (4 &&& 31)) 60) from nI_add 1 _]
                  generalize bw (v_ >>> (nI b &&& 31) + 11 * nI b) Mn = mm at hm9
                  generalize bw ((v_ >>> (nI b &&& 31) + 11 * nI b) >>> (2 &&& 31)) hN = hq at hh9
                  generalize 1 + bw ((v_ >>> (nI b &&& 31) + 11 * nI b) >>> (4 &&& 31)) 60 = yy at hy9
                  refine jr_istore hX dL_build_501 rfl ?_
                  refine jr_aload_n hX dL_build_503 rfl ?_
                  refine jr_iload hX dL_build_504 rfl ?_
                  refine jr_iload hX dL_build_506 rfl ?_
                  refine jr_iload hX dL_build_508 rfl ?_
                  refine jr_ret (jr_runV hX hSt kM_L_56 (c_build_ok (jj_fl hX) hly hb5.1.1 hm9 hh9 ⟨by rw [show (1 : Int32) = nI 1 from rfl]; exact nI_le hy9.1 (by omega), by rw [show (60 : Int32) = nI 60 from rfl]; exact nI_le hy9.2 (by omega)⟩ (by omega)) rfl rfl (ly_kI hly) ⟨_, _, rfl, by decide⟩ dL_build_510 rfl ⟨by simp only [jj_N]; omega, by simp only [jj_N]; omega⟩ rfl) ?_
                  refine jr_iload hX dL_build_513 rfl ?_
                  refine jr_icmp_eq (tgt := 520) hX dL_build_515 (by decide) (fun c_515 => ?_) (fun c_515 => absurd rfl c_515)
                  refine jr_aload_n hX dL_build_520 rfl ?_
                  refine jr_iload hX dL_build_521 rfl ?_
                  refine jr_iload hX dL_build_523 rfl ?_
                  refine jr_iload hX dL_build_525 rfl ?_
                  refine jr_void (jr_runV hX hSt kM_L_59 (s_build (jj_fl hX) hsy (by omega)) rfl rfl (sy_k0 hsy) ⟨_, _, rfl, by decide⟩ dL_build_527 rfl ⟨by simp only [jj_N]; omega, by simp only [jj_N]; omega⟩ rfl) ?_
                  refine jr_iinc hX dL_build_530 rfl (by first | with_reducible exact jj_inc _ | with_reducible exact jj_inc1 _) rfl ?_
                  refine jr_goto (tgt := 443) hX dL_build_533 (by decide) ?_
                  obtain ⟨A2, e0, s2, b2⟩ := lb5_e hsy hb5 (by omega) hm9 hh9 hy9
                  have ih2 := ih _ _ _ A2 _ (ly_up hly (fun a ha => by unfold jj_uK; rw [if_neg (by omega), if_neg (by omega), if_neg (by omega)]) (fun a ha => by rw [jj_u_ne (by omega), jj_u_ne (by omega), jj_u_ne (by omega), jj_uR_ne (by omega), (it_Pn b).2.2 a (by omega), jj_uR_ne (by omega)])) s2 b2
                  rw [e0] at ih2
                  exact jr_forget (fun _ _ h => h) (fun i v h => by rcases i with _ | _ | _ | _ | _ | _ | _ | _ | _ | _ | _ | _ | i <;> first | exact h | exact absurd h (by simp)) (ih2)
              exact h5 0 (Nat.zero_le _) _ _ _ A3 _ hly hsy ⟨tc_up hb4.1 (by omega) (by omega), hb4.2.1, hb4.2.2, fun b hb => absurd hb (Nat.not_lt_zero _)⟩
            · intro J hb4
              have hsy := hsy3
              refine jr_iload hX dL_build_346 rfl ?_
              refine jr_aload_n hX dL_build_348 rfl ?_
              refine jr_getr hX kF_L_49 rfl (sy_k0 hsy) (sy_p0_4 hsy) dL_build_349 ?_
              refine jr_alen (t := 10) hX (by decide) (sy_k4 hsy) dL_build_352 ?_
              refine jr_icmp_ge (tgt := 425) hX dL_build_353 (by decide) (fun c_353 => absurd c_353 (nI_ge (by assumption) (by omega))) (fun c_353 => ?_)
              refine jr_aload_n hX dL_build_356 rfl ?_
              refine jr_getr hX kF_L_49 rfl (sy_k0 hsy) (sy_p0_4 hsy) dL_build_357 ?_
              refine jr_iload hX dL_build_360 rfl ?_
              refine jr_aload_n hX dL_build_362 rfl ?_
              refine jr_bipush (v := 11) hX dL_build_363 (by decide) ?_
              refine jr_relM (jr_runS hX hSt kM_L_12 (l_cell (jj_fl hX) (k := 11) (show _ = nI 11 from rfl) (by omega)) rfl rfl dL_build_365 rfl ⟨by simp only [jj_N]; omega, by simp only [jj_N]; omega⟩ rfl) ?_
              rintro r_ n_ K_ I_ P_ G_ ⟨⟨v_, rfl⟩, rfl, rfl, rfl, rfl, rfl⟩
              simp only [Option.toList, List.nil_append, List.singleton_append, List.cons_append]
              refine jr_iconst (v := 2) hX dL_build_368 (by decide) ?_
              refine jr_iload hX dL_build_369 rfl ?_
              refine jr_imul hX dL_build_371 ?_
              refine jr_ishr hX dL_build_372 ?_
              refine jr_aload_n hX dL_build_373 rfl ?_
              refine jr_bipush (v := 11) hX dL_build_374 (by decide) ?_
              refine jr_relM (jr_runS hX hSt kM_L_12 (l_cell (jj_fl hX) (k := 11) (show _ = nI 11 from rfl) (by omega)) rfl rfl dL_build_376 rfl ⟨by simp only [jj_N]; omega, by simp only [jj_N]; omega⟩ rfl) ?_
              rintro r_ n_ K_ I_ P_ G_ ⟨⟨v_, rfl⟩, rfl, rfl, rfl, rfl, rfl⟩
              simp only [Option.toList, List.nil_append, List.singleton_append, List.cons_append]
              refine jr_iload hX dL_build_379 rfl ?_
              refine jr_ishr hX dL_build_381 ?_
              refine jr_iconst (v := 2) hX dL_build_382 (by decide) ?_
              refine jr_ret (jr_runS hX hSt kM_L_18 (l_below (jj_fl hX) (m := 2) (show _ = nI 2 from rfl) (by decide)) rfl rfl dL_build_383 rfl ⟨by simp only [jj_N]; omega, by simp only [jj_N]; omega⟩ rfl) ?_
              refine jr_if_ne (tgt := 394) hX dL_build_386 (by decide) (fun c_386 => ?_) (fun c_386 => ?_)
              · refine jr_sipush (v := 5001) hX dL_build_394 (by decide) ?_
                refine jr_ret (jr_runS hX hSt kM_L_18 (l_below (jj_fl hX) (m := 5001) (show _ = nI 5001 from rfl) (by decide)) rfl rfl dL_build_397 rfl ⟨by simp only [jj_N]; omega, by simp only [jj_N]; omega⟩ rfl) ?_
                refine jr_iast hX (sy_k4 hsy) (sy_z4 hsy) rfl (by omega) dL_build_400 ?_
                refine jr_aload_n hX dL_build_401 rfl ?_
                refine jr_aload_n hX dL_build_402 rfl ?_
                refine jr_getr hX kF_L_49 rfl (sy_k0 hsy) (sy_p0_4 hsy) dL_build_403 ?_
                refine jr_iload hX dL_build_406 rfl ?_
                refine jr_iald hX (sy_k4 hsy) rfl (by omega) dL_build_408 ?_
                rw [jj_u_eq]
                refine jr_ret (jr_runV hX hSt kM_L_52 (c_addMerchant_ok (jj_fl hX) hly (eqA_sf (eqA_w (fun _ _ => rfl) (sy_lt hsy sv_4).1) hb4.1.1) (tw_c (by decide) (by decide)) (by omega)) rfl rfl (ly_kI hly) ⟨_, _, rfl, by decide⟩ dL_build_409 rfl ⟨by simp only [jj_N]; omega, by simp only [jj_N]; omega⟩ rfl) ?_
                refine jr_iload hX dL_build_412 rfl ?_
                refine jr_icmp_eq (tgt := 419) hX dL_build_414 (by decide) (fun c_414 => ?_) (fun c_414 => absurd rfl c_414)
                refine jr_iinc hX dL_build_419 rfl (by first | with_reducible exact jj_inc _ | with_reducible exact jj_inc1 _) rfl ?_
                refine jr_goto (tgt := 346) hX dL_build_422 (by decide) ?_
                exact jr_forget (fun _ _ h => h) (fun i v h => by rcases i with _ | _ | _ | _ | _ | _ | _ | _ | _ | _ | _ | _ | i <;> first | exact h | exact absurd h (by simp)) (ih _ (lb4_s hsy hb4 (by omega) (tw_c (by decide) (by decide))))
              · refine jr_bipush (v := 30) hX dL_build_389 (by decide) ?_
                refine jr_goto (tgt := 397) hX dL_build_391 (by decide) ?_
                refine jr_ret (jr_runS hX hSt kM_L_18 (l_below (jj_fl hX) (m := 30) (show _ = nI 30 from rfl) (by decide)) rfl rfl dL_build_397 rfl ⟨by simp only [jj_N]; omega, by simp only [jj_N]; omega⟩ rfl) ?_
                refine jr_iast hX (sy_k4 hsy) (sy_z4 hsy) rfl (by omega) dL_build_400 ?_
                refine jr_aload_n hX dL_build_401 rfl ?_
                refine jr_aload_n hX dL_build_402 rfl ?_
                refine jr_getr hX kF_L_49 rfl (sy_k0 hsy) (sy_p0_4 hsy) dL_build_403 ?_
                refine jr_iload hX dL_build_406 rfl ?_
                refine jr_iald hX (sy_k4 hsy) rfl (by omega) dL_build_408 ?_
                rw [jj_u_eq]
                refine jr_ret (jr_runV hX hSt kM_L_52 (c_addMerchant_ok (jj_fl hX) hly (eqA_sf (eqA_w (fun _ _ => rfl) (sy_lt hsy sv_4).1) hb4.1.1) (tw_c (by decide) (by decide)) (by omega)) rfl rfl (ly_kI hly) ⟨_, _, rfl, by decide⟩ dL_build_409 rfl ⟨by simp only [jj_N]; omega, by simp only [jj_N]; omega⟩ rfl) ?_
                refine jr_iload hX dL_build_412 rfl ?_
                refine jr_icmp_eq (tgt := 419) hX dL_build_414 (by decide) (fun c_414 => ?_) (fun c_414 => absurd rfl c_414)
                refine jr_iinc hX dL_build_419 rfl (by first | with_reducible exact jj_inc _ | with_reducible exact jj_inc1 _) rfl ?_
                refine jr_goto (tgt := 346) hX dL_build_422 (by decide) ?_
                exact jr_forget (fun _ _ h => h) (fun i v h => by rcases i with _ | _ | _ | _ | _ | _ | _ | _ | _ | _ | _ | _ | i <;> first | exact h | exact absurd h (by simp)) (ih _ (lb4_s hsy hb4 (by omega) (tw_c (by decide) (by decide))))
          have hu := h4 0 (Nat.zero_le _) _ hb4
          rw [e30] at hu
          refine jr_widen (cs1 := 69) (sl1 := 527) (by dsimp only; omega) (by dsimp only; omega) ?_
          exact jr_forget (fun _ _ h => h) (fun i v h => by rcases i with _ | _ | _ | _ | _ | _ | _ | _ | _ | _ | _ | _ | i <;> first | exact h | exact absurd h (by simp)) (hu)
        · intro x3 x4 n1 K1 P1 A J hly hsy hb2
          have g0 := sy_lt hsy (t := 0) sv_0
          refine jr_iload hX dL_build_156 rfl ?_
          refine jr_iload hX dL_build_158 rfl ?_
          refine jr_icmp_ge (tgt := 325) hX dL_build_160 (by decide) (fun c_160 => absurd c_160 (nI_ge (by assumption) (by omega))) (fun c_160 => ?_)
          refine jr_iconst (v := 1) hX dL_build_163 (by decide) ?_
          refine jr_aload_n hX dL_build_164 rfl ?_
          refine jr_iconst (v := 4) hX dL_build_165 (by decide) ?_
          refine jr_relM (jr_runS hX hSt kM_L_12 (l_cell (jj_fl hX) (k := 4) (show _ = nI 4 from rfl) (by omega)) rfl rfl dL_build_166 rfl ⟨by simp only [jj_N]; omega, by simp only [jj_N]; omega⟩ rfl) ?_
          rintro r_ n_ K_ I_ P_ G_ ⟨⟨v_, rfl⟩, rfl, rfl, rfl, rfl, rfl⟩
          simp only [Option.toList, List.nil_append, List.singleton_append, List.cons_append]
          refine jr_iconst (v := 2) hX dL_build_169 (by decide) ?_
          refine jr_iload hX dL_build_170 rfl ?_
          refine jr_imul hX dL_build_172 ?_
          refine jr_ishr hX dL_build_173 ?_
          refine jr_bipush (v := 9) hX dL_build_174 (by decide) ?_
          refine jr_ret (jr_runS hX hSt kM_L_18 (l_below (jj_fl hX) (m := 9) (show _ = nI 9 from rfl) (by decide)) rfl rfl dL_build_176 rfl ⟨by simp only [jj_N]; omega, by simp only [jj_N]; omega⟩ rfl) ?_
          refine jr_iadd hX dL_build_179 ?_
          obtain ⟨lg, lg1, eg⟩ : ∃ m, (1 ≤ m ∧ m ≤ 9) ∧ m = 1 + bw (v_ >>> ((2 * nI h) &&& 31)) 9 := ⟨_, ⟨by omega, by have := bw_lt (v := v_ >>> ((2 * nI h) &&& 31)) (m := 9) (by decide); omega⟩, rfl⟩
          rw [show (1 : Int32) + nI (bw (v_ >>> ((2 * nI h) &&& 31)) 9) = nI (1 + bw (v_ >>> ((2 * nI h) &&& 31)) 9) from nI_add 1 _, ← eg]
          have hleg : (1 : Int32) ≤ nI lg ∧ nI lg ≤ 9 := ⟨by rw [show (1 : Int32) = nI 1 from rfl]; exact nI_le lg1.1 (by omega), by rw [show (9 : Int32) = nI 9 from rfl]; exact nI_le lg1.2 (by omega)⟩
          refine jr_istore hX dL_build_180 rfl ?_
          refine jr_aload_n hX dL_build_182 rfl ?_
          refine jr_iconst (v := 5) hX dL_build_183 (by decide) ?_
          refine jr_relM (jr_runS hX hSt kM_L_12 (l_cell (jj_fl hX) (k := 5) (show _ = nI 5 from rfl) (by omega)) rfl rfl dL_build_184 rfl ⟨by simp only [jj_N]; omega, by simp only [jj_N]; omega⟩ rfl) ?_
          rintro r_ n_ K_ I_ P_ G_ ⟨⟨v_, rfl⟩, rfl, rfl, rfl, rfl, rfl⟩
          simp only [Option.toList, List.nil_append, List.singleton_append, List.cons_append]
          refine jr_iload hX dL_build_187 rfl ?_
          refine jr_ishr hX dL_build_189 ?_
          refine jr_bipush (v := 6) hX dL_build_190 (by decide) ?_
          refine jr_ret (jr_runS hX hSt kM_L_18 (l_below (jj_fl hX) (m := 6) (show _ = nI 6 from rfl) (by decide)) rfl rfl dL_build_192 rfl ⟨by simp only [jj_N]; omega, by simp only [jj_N]; omega⟩ rfl) ?_
          obtain ⟨be, be1, eb⟩ : ∃ m, m ≤ 5 ∧ m = bw (v_ >>> (nI h &&& 31)) 6 := ⟨_, by have := bw_lt (v := v_ >>> (nI h &&& 31)) (m := 6) (by decide); omega, rfl⟩
          rw [← eb]
          have hbe : (0 : Int32) ≤ nI be ∧ nI be ≤ 5 := ⟨nI_pos' (by omega), by rw [show (5 : Int32) = nI 5 from rfl]; exact nI_le be1 (by omega)⟩
          refine jr_istore hX dL_build_195 rfl ?_
          refine jr_aload_n hX dL_build_197 rfl ?_
          refine jr_iload hX dL_build_198 rfl ?_
          refine jr_iload hX dL_build_200 rfl ?_
          refine jr_ret (jr_runV hX hSt kM_L_31 (c_addHarbour_ok (jj_fl hX) hly hb2.1.1 hleg hbe (by omega)) rfl rfl (ly_kI hly) ⟨_, _, rfl, by decide⟩ dL_build_202 rfl ⟨by simp only [jj_N]; omega, by simp only [jj_N]; omega⟩ rfl) ?_
          refine jr_iload hX dL_build_205 rfl ?_
          refine jr_icmp_eq (tgt := 212) hX dL_build_207 (by decide) (fun c_207 => ?_) (fun c_207 => absurd rfl c_207)
          refine jr_aload_n hX dL_build_212 rfl ?_
          refine jr_getr hX kF_L_34 rfl (sy_k0 hsy) (sy_p0_2 hsy) dL_build_213 ?_
          refine jr_iload hX dL_build_216 rfl ?_
          refine jr_iload hX dL_build_218 rfl ?_
          refine jr_iast hX (sy_k2 hsy) (sy_z2 hsy) rfl (by omega) dL_build_220 ?_
          refine jr_iconst (v := 5) hX dL_build_221 (by decide) ?_
          refine jr_newI hX kA_int (show _ = nI 5 from rfl) (by omega) dL_build_222 ⟨by dsimp only; omega, by dsimp only; omega⟩ ?_
          have hly : ly (jj_uK K1 n1 (10, 5)) P1 := ly_up hly (fun a ha => by unfold jj_uK; rw [if_neg (by omega)]) (fun a ha => rfl)
          have hsyq : sy A h 0 0 0 (n1 + 1) (jj_uK K1 n1 (10, 5)) P1 := sy_up hsy (by omega) (fun a ha => by unfold jj_uK; rw [if_neg (by omega)]) (fun a ha => rfl)
          refine jr_dup hX dL_build_224 rfl ?_
          refine jr_iconst (v := 0) hX dL_build_225 (by decide) ?_
          refine jr_iload hX dL_build_226 rfl ?_
          refine jr_iast hX (by unfold jj_uK; rw [if_pos rfl]) (by omega) (show _ = nI 0 from rfl) (by omega) dL_build_228 ?_
          refine jr_dup hX dL_build_229 rfl ?_
          refine jr_iconst (v := 1) hX dL_build_230 (by decide) ?_
          refine jr_iconst (v := 0) hX dL_build_231 (by decide) ?_
          refine jr_iast hX (by unfold jj_uK; rw [if_pos rfl]) (by omega) (show _ = nI 1 from rfl) (by omega) dL_build_232 ?_
          refine jr_dup hX dL_build_233 rfl ?_
          refine jr_iconst (v := 2) hX dL_build_234 (by decide) ?_
          refine jr_iconst (v := 0) hX dL_build_235 (by decide) ?_
          refine jr_iast hX (by unfold jj_uK; rw [if_pos rfl]) (by omega) (show _ = nI 2 from rfl) (by omega) dL_build_236 ?_
          refine jr_dup hX dL_build_237 rfl ?_
          refine jr_iconst (v := 3) hX dL_build_238 (by decide) ?_
          refine jr_iconst (v := 0) hX dL_build_239 (by decide) ?_
          refine jr_iast hX (by unfold jj_uK; rw [if_pos rfl]) (by omega) (show _ = nI 3 from rfl) (by omega) dL_build_240 ?_
          refine jr_dup hX dL_build_241 rfl ?_
          refine jr_iconst (v := 4) hX dL_build_242 (by decide) ?_
          refine jr_iconst (v := 0) hX dL_build_243 (by decide) ?_
          refine jr_iast hX (by unfold jj_uK; rw [if_pos rfl]) (by omega) (show _ = nI 4 from rfl) (by omega) dL_build_244 ?_
          refine jr_astore hX dL_build_245 rfl ?_
          refine jr_iconst (v := 0) hX dL_build_247 (by decide) ?_
          refine jr_istore hX dL_build_248 rfl ?_
          have h3 : ∀ j, j ≤ 4 → ∀ J1 : jj_I, lb3 A h n1 (nI lg) (nI be) J j J1 → jj_J X D 12 (54 + 2 * h + 1) (270 + 36 * h + 5) (jj_MQ X D { frames := 9, cells := 100, slots := 800, locals := 156 } (fun r n1 K1 I1 P1 G1 => G1 = G ∧ ∃ A H M B, r = some (.ref (A 0)) ∧ (1 ≤ H ∧ H ≤ 7) ∧ (2 ≤ M ∧ M ≤ 5) ∧ (1 ≤ B ∧ B ≤ 9) ∧ ly K1 P1 ∧ sy A H M B 0 n1 K1 P1 ∧ ms A H M B 0 I1 I1 ∧ tn_c 196 H M B 0 I1 ∧ sz I1 ∧ lw B I1) jj_noX) (n1 + 1) (jj_uK K1 n1 (10, 5)) (J1) (P1) (G) 250 [some (.ref 1), some (.ref 0), some (.ref (A 0)), some (.int x3), some (.int x4), some (.int (nI hN)), some (.int (nI h)), some (.int (nI lg)), some (.int (nI be)), some (.ref n1), some (.int (nI j)), none] [] := by
            refine jj_for (4) _ ?_ (fun j hj ih => ?_)
            · intro J1 hb3
              refine jr_iload hX dL_build_250 rfl ?_
              refine jr_iconst (v := 4) hX dL_build_252 (by decide) ?_
              refine jr_icmp_ge (tgt := 306) hX dL_build_253 (by decide) (fun c_253 => ?_) (fun c_253 => absurd (by decide) c_253)
              refine jr_aload_n hX dL_build_306 rfl ?_
              refine jr_aload_n hX dL_build_307 rfl ?_
              refine jr_getr hX kF_L_41 rfl (sy_k0 hsyq) (sy_p0_1 hsyq) dL_build_308 ?_
              refine jr_aload hX dL_build_311 rfl ?_
              refine jr_ret (jr_runS hX hSt kM_L_45 (s_more (jj_fl hX) (a := A 5) (L := h) (q := n1) (z := 5) (r := fun j => A (10 + j)) (sy_k5 hsyq) (by omega) (sy_lt hsyq sv_5).2 (by omega) (by unfold jj_uK; rw [if_pos rfl]) (by omega) (sy_rH hsyq)) rfl rfl dL_build_313 rfl ⟨by simp only [jj_N]; omega, by simp only [jj_N]; omega⟩ rfl) ?_
              refine jr_putr hX kF_L_41 rfl (by unfold jj_uK; rw [if_neg (by omega), if_neg (by omega)]; exact sy_k0 hsy) (sy_z0 hsy) dL_build_316 ?_
              refine jr_iinc hX dL_build_319 rfl (by first | with_reducible exact jj_inc _ | with_reducible exact jj_inc1 _) rfl ?_
              refine jr_goto (tgt := 156) hX dL_build_322 (by decide) ?_
              obtain ⟨A2, e0, s2, b2⟩ := lb2_e hsy hb2 hb3 (by omega)
              have ih2 := ih x3 x4 _ _ _ A2 _ (ly_up hly (fun a ha => by unfold jj_uK; rw [if_neg (by omega), if_neg (by omega)]) (fun a ha => by rw [jj_u_ne (by omega), jj_u_ne (by omega), (it_Pn h).2.2 a (by omega), jj_uR_ne (by omega)])) s2 b2
              rw [e0] at ih2
              exact jr_forget (fun _ _ h => h) (fun i v h => by rcases i with _ | _ | _ | _ | _ | _ | _ | _ | _ | _ | _ | _ | i <;> first | exact h | exact absurd h (by simp)) (ih2)
            · intro J1 hb3
              refine jr_iload hX dL_build_250 rfl ?_
              refine jr_iconst (v := 4) hX dL_build_252 (by decide) ?_
              refine jr_icmp_ge (tgt := 306) hX dL_build_253 (by decide) (fun c_253 => absurd c_253 (show ¬ nI 4 ≤ nI j from nI_ge (by assumption) (by omega))) (fun c_253 => ?_)
              refine jr_aload hX dL_build_256 rfl ?_
              refine jr_iconst (v := 1) hX dL_build_258 (by decide) ?_
              refine jr_iload hX dL_build_259 rfl ?_
              refine jr_iadd hX dL_build_261 ?_
              refine jr_aload_n hX dL_build_262 rfl ?_
              refine jr_bipush (v := 6) hX dL_build_263 (by decide) ?_
              refine jr_iload hX dL_build_265 rfl ?_
              refine jr_iadd hX dL_build_267 ?_
              refine jr_relM (jr_runS hX hSt kM_L_12 (l_cell (jj_fl hX) (k := 6 + j) (nI_add 6 j) (by omega)) rfl rfl dL_build_268 rfl ⟨by simp only [jj_N]; omega, by simp only [jj_N]; omega⟩ rfl) ?_
              rintro r_ n_ K_ I_ P_ G_ ⟨⟨v_, rfl⟩, rfl, rfl, rfl, rfl, rfl⟩
              simp only [Option.toList, List.nil_append, List.singleton_append, List.cons_append]
              refine jr_iload hX dL_build_271 rfl ?_
              refine jr_ishr hX dL_build_273 ?_
              refine jr_bipush (v := 51) hX dL_build_274 (by decide) ?_
              refine jr_ret (jr_runS hX hSt kM_L_18 (l_below (jj_fl hX) (m := 51) (show _ = nI 51 from rfl) (by decide)) rfl rfl dL_build_276 rfl ⟨by simp only [jj_N]; omega, by simp only [jj_N]; omega⟩ rfl) ?_
              refine jr_iast hX (by unfold jj_uK; rw [if_pos rfl]) (by omega) (nI_add 1 j) (by omega) dL_build_279 ?_
              refine jr_aload_n hX dL_build_280 rfl ?_
              refine jr_iload hX dL_build_281 rfl ?_
              refine jr_iload hX dL_build_283 rfl ?_
              refine jr_aload hX dL_build_285 rfl ?_
              refine jr_iconst (v := 1) hX dL_build_287 (by decide) ?_
              refine jr_iload hX dL_build_288 rfl ?_
              refine jr_iadd hX dL_build_290 ?_
              refine jr_iald hX (by unfold jj_uK; rw [if_pos rfl]) (nI_add 1 j) (by omega) dL_build_291 ?_
              rw [jj_u_eq]
              refine jr_ret (jr_runV hX hSt kM_L_37 (c_setPrice_ok (jj_fl hX) hly (eqA_sf (eqA_w (fun _ _ => rfl) (by omega)) hb3.1.1) (Nat.lt_succ_self h) hj ⟨nI_pos' (by have := bw_lt (v := v_ >>> (nI h &&& 31)) (m := 51) (by decide); omega), by rw [show (50 : Int32) = nI 50 from rfl]; exact nI_le (by have := bw_lt (v := v_ >>> (nI h &&& 31)) (m := 51) (by decide); omega) (by omega)⟩) rfl rfl (ly_kI hly) ⟨_, _, rfl, by decide⟩ dL_build_292 rfl ⟨by simp only [jj_N]; omega, by simp only [jj_N]; omega⟩ rfl) ?_
              rw [jj_u_ne (b := aPr 0) (show aPr 0 ≠ n1 by simp only [aPr]; omega), hb3.2.2.2.2.2.2.2.2.2.1 (h * 4 + j) (by omega)]
              refine jr_if_eq (tgt := 300) hX dL_build_295 (by decide) (fun c_295 => ?_) (fun c_295 => absurd rfl c_295)
              refine jr_iinc hX dL_build_300 rfl (by first | with_reducible exact jj_inc _ | with_reducible exact jj_inc1 _) rfl ?_
              refine jr_goto (tgt := 250) hX dL_build_303 (by decide) ?_
              exact jr_forget (fun _ _ h => h) (fun i v h => by rcases i with _ | _ | _ | _ | _ | _ | _ | _ | _ | _ | _ | _ | i <;> first | exact h | exact absurd h (by simp)) (ih _ (lb3_s (n := n1) (K := K1) (P := P1) hb3 (by omega) (by omega) hj (by have := bw_lt (v := v_ >>> (nI h &&& 31)) (m := 51) (by decide); omega)))
          exact h3 0 (Nat.zero_le _) _ (lb3_0 hsy hb2 (by omega) hleg hbe)
      have hu := h2 0 (Nat.zero_le _) x3 x4 _ K1 P1 A J hly hsy ⟨tc_up hb1.1 (by omega) (by omega), hb1.2.1, hb1.2.2.2⟩
      exact hu
    · intro x3 x4 J hb1
      refine jr_iload hX dL_build_36 rfl ?_
      refine jr_bipush (v := 40) hX dL_build_38 (by decide) ?_
      refine jr_icmp_ge (tgt := 139) hX dL_build_40 (by decide) (fun c_40 => absurd c_40 (show ¬ nI 40 ≤ nI k from nI_ge (by assumption) (by omega))) (fun c_40 => ?_)
      refine jr_iload hX dL_build_43 rfl ?_
      refine jr_iload_n hX dL_build_45 rfl ?_
      refine jr_isub hX dL_build_46 ?_
      refine jr_bipush (v := 40) hX dL_build_47 (by decide) ?_
      refine jr_iadd hX dL_build_49 ?_
      refine jr_bipush (v := 40) hX dL_build_50 (by decide) ?_
      refine jr_irem hX dL_build_52 (by decide) ?_
      refine jr_iload hX dL_build_53 rfl ?_
      refine jr_icmp_ge (tgt := 62) hX dL_build_55 (by decide) (fun c_55 => ?_) (fun c_55 => ?_)
      · refine jr_iconst (v := 0) hX dL_build_62 (by decide) ?_
        refine jr_istore hX dL_build_63 rfl ?_
        refine jr_iload hX dL_build_65 rfl ?_
        refine jr_if_eq (tgt := 90) hX dL_build_67 (by decide) (fun c_67 => ?_) (fun c_67 => absurd rfl c_67)
        refine jr_aload_n hX dL_build_90 rfl ?_
        refine jr_iconst (v := 2) hX dL_build_91 (by decide) ?_
        refine jr_relM (jr_runS hX hSt kM_L_12 (l_cell (jj_fl hX) (k := 2) (show _ = nI 2 from rfl) (by omega)) rfl rfl dL_build_92 rfl ⟨by simp only [jj_N]; omega, by simp only [jj_N]; omega⟩ rfl) ?_
        rintro r_ n_ K_ I_ P_ G_ ⟨⟨v_, rfl⟩, rfl, rfl, rfl, rfl, rfl⟩
        simp only [Option.toList, List.nil_append, List.singleton_append, List.cons_append]
        refine jr_iload hX dL_build_95 rfl ?_
        refine jr_bipush (v := 20) hX dL_build_97 (by decide) ?_
        refine jr_irem hX dL_build_99 (by decide) ?_
        refine jr_ishr hX dL_build_100 ?_
        refine jr_bipush (v := 12) hX dL_build_101 (by decide) ?_
        refine jr_ret (jr_runS hX hSt kM_L_18 (l_below (jj_fl hX) (m := 12) (show _ = nI 12 from rfl) (by decide)) rfl rfl dL_build_103 rfl ⟨by simp only [jj_N]; omega, by simp only [jj_N]; omega⟩ rfl) ?_
        refine jr_iconst (v := 2) hX dL_build_106 (by decide) ?_
        refine jr_isub hX dL_build_107 ?_
        refine jr_istore hX dL_build_108 rfl ?_
        refine jr_aload_n hX dL_build_110 rfl ?_
        refine jr_getr hX kF_L_22 rfl (sy_k0 hsy) (sy_p0_0 hsy) dL_build_111 ?_
        refine jr_iload hX dL_build_114 rfl ?_
        refine jr_iload hX dL_build_116 rfl ?_
        refine jr_iast hX (sy_k1 hsy) (sy_z1 hsy) rfl (by omega) dL_build_118 ?_
        refine jr_aload_n hX dL_build_119 rfl ?_
        refine jr_iload hX dL_build_120 rfl ?_
        refine jr_iload hX dL_build_122 rfl ?_
        refine jr_ret (jr_runV hX hSt kM_L_26 (c_setWarm_ok (jj_fl hX) hly (eqA_sf (eqA_w (fun _ _ => rfl) (sy_lt hsy sv_1).1) hb1.1.1) hk tw_b) rfl rfl (ly_kI hly) ⟨_, _, rfl, by decide⟩ dL_build_124 rfl ⟨by simp only [jj_N]; omega, by simp only [jj_N]; omega⟩ rfl) ?_
        rw [jj_u_ne (b := aWm 0) (show aWm 0 ≠ A 1 by have := (sy_lt hsy (t := 1) sv_1).1; simp only [aWm]; omega), hb1.2.2.1 k (Nat.le_refl _) hk]
        refine jr_iconst (v := 4) hX dL_build_127 (by decide) ?_
        refine jr_icmp_eq (tgt := 133) hX dL_build_128 (by decide) (fun c_128 => ?_) (fun c_128 => absurd rfl c_128)
        refine jr_iinc hX dL_build_133 rfl (by first | with_reducible exact jj_inc _ | with_reducible exact jj_inc1 _) rfl ?_
        refine jr_goto (tgt := 36) hX dL_build_136 (by decide) ?_
        exact jr_forget (fun _ _ h => h) (fun i v h => by rcases i with _ | _ | _ | _ | _ | _ | _ | _ | _ | _ | _ | _ | i <;> first | exact h | exact absurd h (by simp)) (ih x3 x4 _ (lb1_s hsy hb1 hk))
      · refine jr_iconst (v := 1) hX dL_build_58 (by decide) ?_
        refine jr_goto (tgt := 63) hX dL_build_59 (by decide) ?_
        refine jr_istore hX dL_build_63 rfl ?_
        refine jr_iload hX dL_build_65 rfl ?_
        refine jr_if_eq (tgt := 90) hX dL_build_67 (by decide) (fun c_67 => absurd c_67 (by decide)) (fun c_67 => ?_)
        refine jr_aload_n hX dL_build_70 rfl ?_
        refine jr_iconst (v := 1) hX dL_build_71 (by decide) ?_
        refine jr_relM (jr_runS hX hSt kM_L_12 (l_cell (jj_fl hX) (k := 1) (show _ = nI 1 from rfl) (by omega)) rfl rfl dL_build_72 rfl ⟨by simp only [jj_N]; omega, by simp only [jj_N]; omega⟩ rfl) ?_
        rintro r_ n_ K_ I_ P_ G_ ⟨⟨v_, rfl⟩, rfl, rfl, rfl, rfl, rfl⟩
        simp only [Option.toList, List.nil_append, List.singleton_append, List.cons_append]
        refine jr_iload hX dL_build_75 rfl ?_
        refine jr_bipush (v := 20) hX dL_build_77 (by decide) ?_
        refine jr_irem hX dL_build_79 (by decide) ?_
        refine jr_ishr hX dL_build_80 ?_
        refine jr_bipush (v := 10) hX dL_build_81 (by decide) ?_
        refine jr_ret (jr_runS hX hSt kM_L_18 (l_below (jj_fl hX) (m := 10) (show _ = nI 10 from rfl) (by decide)) rfl rfl dL_build_83 rfl ⟨by simp only [jj_N]; omega, by simp only [jj_N]; omega⟩ rfl) ?_
        refine jr_ineg hX dL_build_86 ?_
        refine jr_goto (tgt := 108) hX dL_build_87 (by decide) ?_
        refine jr_istore hX dL_build_108 rfl ?_
        refine jr_aload_n hX dL_build_110 rfl ?_
        refine jr_getr hX kF_L_22 rfl (sy_k0 hsy) (sy_p0_0 hsy) dL_build_111 ?_
        refine jr_iload hX dL_build_114 rfl ?_
        refine jr_iload hX dL_build_116 rfl ?_
        refine jr_iast hX (sy_k1 hsy) (sy_z1 hsy) rfl (by omega) dL_build_118 ?_
        refine jr_aload_n hX dL_build_119 rfl ?_
        refine jr_iload hX dL_build_120 rfl ?_
        refine jr_iload hX dL_build_122 rfl ?_
        refine jr_ret (jr_runV hX hSt kM_L_26 (c_setWarm_ok (jj_fl hX) hly (eqA_sf (eqA_w (fun _ _ => rfl) (sy_lt hsy sv_1).1) hb1.1.1) hk tw_a) rfl rfl (ly_kI hly) ⟨_, _, rfl, by decide⟩ dL_build_124 rfl ⟨by simp only [jj_N]; omega, by simp only [jj_N]; omega⟩ rfl) ?_
        rw [jj_u_ne (b := aWm 0) (show aWm 0 ≠ A 1 by have := (sy_lt hsy (t := 1) sv_1).1; simp only [aWm]; omega), hb1.2.2.1 k (Nat.le_refl _) hk]
        refine jr_iconst (v := 4) hX dL_build_127 (by decide) ?_
        refine jr_icmp_eq (tgt := 133) hX dL_build_128 (by decide) (fun c_128 => ?_) (fun c_128 => absurd rfl c_128)
        refine jr_iinc hX dL_build_133 rfl (by first | with_reducible exact jj_inc _ | with_reducible exact jj_inc1 _) rfl ?_
        refine jr_goto (tgt := 36) hX dL_build_136 (by decide) ?_
        exact jr_forget (fun _ _ h => h) (fun i v h => by rcases i with _ | _ | _ | _ | _ | _ | _ | _ | _ | _ | _ | _ | i <;> first | exact h | exact absurd h (by simp)) (ih x3 x4 _ (lb1_s hsy hb1 hk))
  have hu := fun x3 x4 => (by
    have q := h1 0 (Nat.zero_le _) x3 x4 I1 hb1
    rw [hA0] at q
    exact q)
  exact hu _ _
