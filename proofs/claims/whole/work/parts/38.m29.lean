/-! what the model keeps and brings back -/
theorem ly_ltP {a k q : Nat} (h : ly_P0 a k = some q) : a < 161 := by
  unfold ly_P0 at h
  by_cases e : a < 161
  · exact e
  · rw [if_neg (by omega), if_neg (by omega), if_neg (by omega), if_neg (by omega), if_neg (by omega)] at h
    exact absurd h (by simp)
theorem ly_uPR {K : jj_K} {P : jj_P} {n : Nat} {f : Nat → Option Nat} (h : ly K P) (hn : 161 ≤ n) : ly K (jj_uR P n f) :=
  ⟨h.1, fun a k q e => by
    have := ly_ltP e
    rw [jj_uR_ne (by omega)]
    exact h.2 a k q e⟩
theorem ly_uPu {K : jj_K} {P : jj_P} {n j : Nat} {v : Option Nat} (h : ly K P) (hn : 161 ≤ n) : ly K (jj_u P n j v) :=
  ⟨h.1, fun a k q e => by
    have := ly_ltP e
    rw [jj_u_ne (by omega)]
    exact h.2 a k q e⟩
def kK (n : Nat) (K : jj_K) : jj_K := jj_uK (jj_uK (jj_uK (jj_uK (jj_uK (jj_uK (jj_uK K n (15, 6)) (n + 1) (10, 8)) (n + 2) (10, 5)) (n + 3) (10, 160)) (n + 4) (10, 120)) (n + 5) (10, 210)) (n + 6) (10, 1)
def kP (n : Nat) (P : jj_P) : jj_P := jj_u (jj_u (jj_u (jj_u (jj_u (jj_u (jj_uR P n (fun _ => none)) n 0 (some (n + 1))) n 1 (some (n + 2))) n 2 (some (n + 3))) n 3 (some (n + 4))) n 4 (some (n + 5))) n 5 (some (n + 6))
/-- rows that stand apart -/
def kR (n : Nat) (S J : jj_I) : Prop := J (n + 1) = S 155 ∧ J (n + 2) = S 156 ∧ J (n + 3) = S 157 ∧ J (n + 4) = S 158 ∧ J (n + 5) = S 159 ∧ J (n + 6) = S 160
set_option maxHeartbeats 4000000 in
set_option maxRecDepth 100000 in
theorem c_kept {l : Launch} (hfl : l.stackTraces = false) {D : jj_D} {n : Nat} {K : jj_K} {I : jj_I} {P : jj_P} {G : jj_G} (hly : ly K P)  (hn : 161 ≤ n) (hKn : ∀ a, n ≤ a → K a = none) :
    jj_Met l D yX6_kept (jj_ws yX6_kept cX6_kept 1 (some (.array (.array .int)))) { frames := 1, cells := 7, slots := 510, locals := 22 } [.ref 150] n K I P G (jj_RS (fun r J => r = some (.ref n) ∧ kR n I J ∧ ∀ a, a ≤ n → J a = I a) (n + 7) (kK n K) (kP n P) G) jj_noX := by
  refine jj_of hfl (by decide +kernel) [some (.ref 150)] rfl rfl ?_
  intro X hXl hX hSt
  refine jr_bipush (v := 6) hX dX6_kept_0 (by decide) ?_
  refine jr_newII hX hSt kC_X6_158 (show _ = nI 6 from rfl) (by omega) dX6_kept_2 ⟨jj_b1 rfl, jj_b1 rfl⟩ ?_
  have hly := ly_uPR (f := fun _ => none) (ly_uK (kd := (15, 6)) hly hn) hn
  refine jr_dup hX dX6_kept_5 rfl ?_
  refine jr_iconst (v := 0) hX dX6_kept_6 (by decide) ?_
  refine jr_aload_n hX dX6_kept_7 rfl ?_
  refine jr_getr hX kF_X6_22 rfl (ly_kMo hly) (ly_p6_9 hly) dX6_kept_8 ?_
  refine jr_clone hX hSt kM_X6_159 (ly_k155 hly) (by omega) dX6_kept_11 rfl ⟨jj_b1 rfl, jj_b1 rfl⟩ ?_
  have hly := ly_uK (n := n + 1) (kd := (10, 8)) hly (by omega)
  refine jr_cast hX kC_X6_158 (if_pos rfl) dX6_kept_14 ?_
  refine jr_aastI hX hSt (len := 6) (j := 0) (z := 8) (by unfold jj_uK; repeat (first | exact if_pos rfl | rw [if_neg (by omega)])) (by omega) (show _ = nI 0 from rfl) (by decide) (if_pos rfl) dX6_kept_17 ?_
  have hly := ly_uPu (n := n) (j := 0) (v := some (n + 1)) hly hn
  refine jr_dup hX dX6_kept_18 rfl ?_
  refine jr_iconst (v := 1) hX dX6_kept_19 (by decide) ?_
  refine jr_aload_n hX dX6_kept_20 rfl ?_
  refine jr_getr hX kF_X6_25 rfl (ly_kMo hly) (ly_p6_10 hly) dX6_kept_21 ?_
  refine jr_clone hX hSt kM_X6_159 (ly_k156 hly) (by omega) dX6_kept_24 rfl ⟨jj_b1 rfl, jj_b1 rfl⟩ ?_
  have hly := ly_uK (n := n + 1 + 1) (kd := (10, 5)) hly (by omega)
  refine jr_cast hX kC_X6_158 (if_pos rfl) dX6_kept_27 ?_
  refine jr_aastI hX hSt (len := 6) (j := 1) (z := 5) (by unfold jj_uK; repeat (first | exact if_pos rfl | rw [if_neg (by omega)])) (by omega) (show _ = nI 1 from rfl) (by decide) (if_pos rfl) dX6_kept_30 ?_
  have hly := ly_uPu (n := n) (j := 1) (v := some (n + 1 + 1)) hly hn
  refine jr_dup hX dX6_kept_31 rfl ?_
  refine jr_iconst (v := 2) hX dX6_kept_32 (by decide) ?_
  refine jr_aload_n hX dX6_kept_33 rfl ?_
  refine jr_getr hX kF_X6_28 rfl (ly_kMo hly) (ly_p6_11 hly) dX6_kept_34 ?_
  refine jr_clone hX hSt kM_X6_159 (ly_k157 hly) (by omega) dX6_kept_37 rfl ⟨jj_b1 rfl, jj_b1 rfl⟩ ?_
  have hly := ly_uK (n := n + 1 + 1 + 1) (kd := (10, 160)) hly (by omega)
  refine jr_cast hX kC_X6_158 (if_pos rfl) dX6_kept_40 ?_
  refine jr_aastI hX hSt (len := 6) (j := 2) (z := 160) (by unfold jj_uK; repeat (first | exact if_pos rfl | rw [if_neg (by omega)])) (by omega) (show _ = nI 2 from rfl) (by decide) (if_pos rfl) dX6_kept_43 ?_
  have hly := ly_uPu (n := n) (j := 2) (v := some (n + 1 + 1 + 1)) hly hn
  refine jr_dup hX dX6_kept_44 rfl ?_
  refine jr_iconst (v := 3) hX dX6_kept_45 (by decide) ?_
  refine jr_aload_n hX dX6_kept_46 rfl ?_
  refine jr_getr hX kF_X6_31 rfl (ly_kMo hly) (ly_p6_12 hly) dX6_kept_47 ?_
  refine jr_clone hX hSt kM_X6_159 (ly_k158 hly) (by omega) dX6_kept_50 rfl ⟨jj_b1 rfl, jj_b1 rfl⟩ ?_
  have hly := ly_uK (n := n + 1 + 1 + 1 + 1) (kd := (10, 120)) hly (by omega)
  refine jr_cast hX kC_X6_158 (if_pos rfl) dX6_kept_53 ?_
  refine jr_aastI hX hSt (len := 6) (j := 3) (z := 120) (by unfold jj_uK; repeat (first | exact if_pos rfl | rw [if_neg (by omega)])) (by omega) (show _ = nI 3 from rfl) (by decide) (if_pos rfl) dX6_kept_56 ?_
  have hly := ly_uPu (n := n) (j := 3) (v := some (n + 1 + 1 + 1 + 1)) hly hn
  refine jr_dup hX dX6_kept_57 rfl ?_
  refine jr_iconst (v := 4) hX dX6_kept_58 (by decide) ?_
  refine jr_aload_n hX dX6_kept_59 rfl ?_
  refine jr_getr hX kF_X6_34 rfl (ly_kMo hly) (ly_p6_13 hly) dX6_kept_60 ?_
  refine jr_clone hX hSt kM_X6_159 (ly_k159 hly) (by omega) dX6_kept_63 rfl ⟨jj_b1 rfl, jj_b1 rfl⟩ ?_
  have hly := ly_uK (n := n + 1 + 1 + 1 + 1 + 1) (kd := (10, 210)) hly (by omega)
  refine jr_cast hX kC_X6_158 (if_pos rfl) dX6_kept_66 ?_
  refine jr_aastI hX hSt (len := 6) (j := 4) (z := 210) (by unfold jj_uK; repeat (first | exact if_pos rfl | rw [if_neg (by omega)])) (by omega) (show _ = nI 4 from rfl) (by decide) (if_pos rfl) dX6_kept_69 ?_
  have hly := ly_uPu (n := n) (j := 4) (v := some (n + 1 + 1 + 1 + 1 + 1)) hly hn
  refine jr_dup hX dX6_kept_70 rfl ?_
  refine jr_iconst (v := 5) hX dX6_kept_71 (by decide) ?_
  refine jr_aload_n hX dX6_kept_72 rfl ?_
  refine jr_getr hX kF_X6_37 rfl (ly_kMo hly) (ly_p6_14 hly) dX6_kept_73 ?_
  refine jr_clone hX hSt kM_X6_159 (ly_k160 hly) (by omega) dX6_kept_76 rfl ⟨jj_b1 rfl, jj_b1 rfl⟩ ?_
  have hly := ly_uK (n := n + 1 + 1 + 1 + 1 + 1 + 1) (kd := (10, 1)) hly (by omega)
  refine jr_cast hX kC_X6_158 (if_pos rfl) dX6_kept_79 ?_
  refine jr_aastI hX hSt (len := 6) (j := 5) (z := 1) (by unfold jj_uK; repeat (first | exact if_pos rfl | rw [if_neg (by omega)])) (by omega) (show _ = nI 5 from rfl) (by decide) (if_pos rfl) dX6_kept_82 ?_
  have hly := ly_uPu (n := n) (j := 5) (v := some (n + 1 + 1 + 1 + 1 + 1 + 1)) hly hn
  exact jr_aret hX (Or.inr ⟨_, rfl⟩) dX6_kept_83 rfl rfl ⟨⟨rfl, ⟨by rw [jj_uR_ne (by omega), jj_uR_ne (by omega), jj_uR_ne (by omega), jj_uR_ne (by omega), jj_uR_ne (by omega), jj_uR_eq], by rw [jj_uR_ne (by omega), jj_uR_ne (by omega), jj_uR_ne (by omega), jj_uR_ne (by omega), jj_uR_eq, jj_uR_ne (by omega)], by rw [jj_uR_ne (by omega), jj_uR_ne (by omega), jj_uR_ne (by omega), jj_uR_eq, jj_uR_ne (by omega), jj_uR_ne (by omega)], by rw [jj_uR_ne (by omega), jj_uR_ne (by omega), jj_uR_eq, jj_uR_ne (by omega), jj_uR_ne (by omega), jj_uR_ne (by omega)], by rw [jj_uR_ne (by omega), jj_uR_eq, jj_uR_ne (by omega), jj_uR_ne (by omega), jj_uR_ne (by omega), jj_uR_ne (by omega)], by rw [jj_uR_eq, jj_uR_ne (by omega), jj_uR_ne (by omega), jj_uR_ne (by omega), jj_uR_ne (by omega), jj_uR_ne (by omega)]⟩, fun a ha => by rw [jj_uR_ne (by omega), jj_uR_ne (by omega), jj_uR_ne (by omega), jj_uR_ne (by omega), jj_uR_ne (by omega), jj_uR_ne (by omega)]⟩, rfl, rfl, rfl, rfl⟩
def f_bb (q : Nat) (I : jj_I) : jj_I := (jj_uR (jj_uR (jj_uR (jj_uR (jj_uR (jj_uR I 155 (va_cpy (I (q + 1)) (I 155) 0 0 8)) 156 (va_cpy (I (q + 2)) (I 156) 0 0 5)) 157 (va_cpy (I (q + 3)) (I 157) 0 0 160)) 158 (va_cpy (I (q + 4)) (I 158) 0 0 120)) 159 (va_cpy (I (q + 5)) (I 159) 0 0 210)) 160 (va_cpy (I (q + 6)) (I 160) 0 0 1))
set_option maxHeartbeats 4000000 in
set_option maxRecDepth 100000 in
theorem c_bringBack {l : Launch} (hfl : l.stackTraces = false) {D : jj_D} {n : Nat} {K : jj_K} {I : jj_I} {P : jj_P} {G : jj_G} (hly : ly K P) {q : Nat} (hq : 161 ≤ q ∧ q + 7 ≤ n) (kq : K q = some (15, 6)) (kq0 : K (q + 1) = some (10, 8)) (kq1 : K (q + 2) = some (10, 5)) (kq2 : K (q + 3) = some (10, 160)) (kq3 : K (q + 4) = some (10, 120)) (kq4 : K (q + 5) = some (10, 210)) (kq5 : K (q + 6) = some (10, 1)) (pq0 : P q 0 = some (q + 1)) (pq1 : P q 1 = some (q + 2)) (pq2 : P q 2 = some (q + 3)) (pq3 : P q 3 = some (q + 4)) (pq4 : P q 4 = some (q + 5)) (pq5 : P q 5 = some (q + 6)) (hKn : ∀ a, n ≤ a → K a = none) :
    jj_Met l D yX6_bringBack (jj_ws yX6_bringBack cX6_bringBack 4 none) { frames := 1, cells := 1, slots := 6, locals := 26 } [.ref 150, .ref q] n K I P G (jj_R (none) (n + 1) (K) (f_bb q I) (P) (G)) jj_noX := by
  refine jj_of hfl (by decide +kernel) [some (.ref 150), some (.ref q), none, none] rfl rfl ?_
  intro X hXl hX hSt
  refine jr_bipush (v := 6) hX dX6_bringBack_0 (by decide) ?_
  refine jr_newII hX hSt kC_X6_158 (show _ = nI 6 from rfl) (by omega) dX6_bringBack_2 ⟨jj_b1 rfl, jj_b1 rfl⟩ ?_
  have hly := ly_uPR (f := fun _ => none) (ly_uK (kd := (15, 6)) hly (show 161 ≤ n by omega)) (show 161 ≤ n by omega)
  have kn : jj_uK K n (15, 6) n = some (15, 6) := if_pos rfl
  have ko : ∀ a kd, K a = some kd → jj_uK K n (15, 6) a = some kd := fun a kd h => by
    unfold jj_uK
    rw [if_neg (fun e => by subst e; rw [hKn a (Nat.le_refl _)] at h; exact absurd h (by simp))]
    exact h
  refine jr_dup hX dX6_bringBack_5 rfl ?_
  refine jr_iconst (v := 0) hX dX6_bringBack_6 (by decide) ?_
  refine jr_aload_n hX dX6_bringBack_7 rfl ?_
  refine jr_getr hX kF_X6_22 rfl (ly_kMo hly) (ly_p6_9 hly) dX6_bringBack_8 ?_
  refine jr_aastI hX hSt (len := 6) (j := 0) (z := 8) kn (by omega) (show _ = nI 0 from rfl) (by decide) (ly_k155 hly) dX6_bringBack_11 ?_
  have hly := ly_uPu (n := n) (j := 0) (v := some 155) hly (show 161 ≤ n by omega)
  refine jr_dup hX dX6_bringBack_12 rfl ?_
  refine jr_iconst (v := 1) hX dX6_bringBack_13 (by decide) ?_
  refine jr_aload_n hX dX6_bringBack_14 rfl ?_
  refine jr_getr hX kF_X6_25 rfl (ly_kMo hly) (ly_p6_10 hly) dX6_bringBack_15 ?_
  refine jr_aastI hX hSt (len := 6) (j := 1) (z := 5) kn (by omega) (show _ = nI 1 from rfl) (by decide) (ly_k156 hly) dX6_bringBack_18 ?_
  have hly := ly_uPu (n := n) (j := 1) (v := some 156) hly (show 161 ≤ n by omega)
  refine jr_dup hX dX6_bringBack_19 rfl ?_
  refine jr_iconst (v := 2) hX dX6_bringBack_20 (by decide) ?_
  refine jr_aload_n hX dX6_bringBack_21 rfl ?_
  refine jr_getr hX kF_X6_28 rfl (ly_kMo hly) (ly_p6_11 hly) dX6_bringBack_22 ?_
  refine jr_aastI hX hSt (len := 6) (j := 2) (z := 160) kn (by omega) (show _ = nI 2 from rfl) (by decide) (ly_k157 hly) dX6_bringBack_25 ?_
  have hly := ly_uPu (n := n) (j := 2) (v := some 157) hly (show 161 ≤ n by omega)
  refine jr_dup hX dX6_bringBack_26 rfl ?_
  refine jr_iconst (v := 3) hX dX6_bringBack_27 (by decide) ?_
  refine jr_aload_n hX dX6_bringBack_28 rfl ?_
  refine jr_getr hX kF_X6_31 rfl (ly_kMo hly) (ly_p6_12 hly) dX6_bringBack_29 ?_
  refine jr_aastI hX hSt (len := 6) (j := 3) (z := 120) kn (by omega) (show _ = nI 3 from rfl) (by decide) (ly_k158 hly) dX6_bringBack_32 ?_
  have hly := ly_uPu (n := n) (j := 3) (v := some 158) hly (show 161 ≤ n by omega)
  refine jr_dup hX dX6_bringBack_33 rfl ?_
  refine jr_iconst (v := 4) hX dX6_bringBack_34 (by decide) ?_
  refine jr_aload_n hX dX6_bringBack_35 rfl ?_
  refine jr_getr hX kF_X6_34 rfl (ly_kMo hly) (ly_p6_13 hly) dX6_bringBack_36 ?_
  refine jr_aastI hX hSt (len := 6) (j := 4) (z := 210) kn (by omega) (show _ = nI 4 from rfl) (by decide) (ly_k159 hly) dX6_bringBack_39 ?_
  have hly := ly_uPu (n := n) (j := 4) (v := some 159) hly (show 161 ≤ n by omega)
  refine jr_dup hX dX6_bringBack_40 rfl ?_
  refine jr_iconst (v := 5) hX dX6_bringBack_41 (by decide) ?_
  refine jr_aload_n hX dX6_bringBack_42 rfl ?_
  refine jr_getr hX kF_X6_37 rfl (ly_kMo hly) (ly_p6_14 hly) dX6_bringBack_43 ?_
  refine jr_aastI hX hSt (len := 6) (j := 5) (z := 1) kn (by omega) (show _ = nI 5 from rfl) (by decide) (ly_k160 hly) dX6_bringBack_46 ?_
  have hly := ly_uPu (n := n) (j := 5) (v := some 160) hly (show 161 ≤ n by omega)
  refine jr_astore_n hX dX6_bringBack_47 rfl ?_
  refine jr_iconst (v := 0) hX dX6_bringBack_48 (by decide) ?_
  refine jr_istore_n hX dX6_bringBack_49 rfl ?_
  refine jr_iload_n hX dX6_bringBack_50 rfl ?_
  refine jr_aload_n hX dX6_bringBack_51 rfl ?_
  refine jr_alen (t := 15) hX (by decide) kn dX6_bringBack_52 ?_
  refine jr_icmp_ge (tgt := 77) hX dX6_bringBack_53 (by decide) (fun c_53 => absurd c_53 (by decide)) (fun c_53 => ?_)
  refine jr_aload_n hX dX6_bringBack_56 rfl ?_
  refine jr_iload_n hX dX6_bringBack_57 rfl ?_
  refine jr_aald hX (t := 15) (len := 6) (j := 0) (q := q + 1) (by decide) (ko _ _ kq) (show _ = nI 0 from rfl) (by decide) (by rw [jj_u_ne (by omega), jj_u_ne (by omega), jj_u_ne (by omega), jj_u_ne (by omega), jj_u_ne (by omega), jj_u_ne (by omega), jj_uR_ne (by omega)]; exact pq0) dX6_bringBack_58 ?_
  refine jr_iconst (v := 0) hX dX6_bringBack_59 (by decide) ?_
  refine jr_aload_n hX dX6_bringBack_60 rfl ?_
  refine jr_iload_n hX dX6_bringBack_61 rfl ?_
  refine jr_aald hX (t := 15) (len := 6) (j := 0) (q := 155) (by decide) kn (show _ = nI 0 from rfl) (by decide) (by rw [jj_u_nk (by decide), jj_u_nk (by decide), jj_u_nk (by decide), jj_u_nk (by decide), jj_u_nk (by decide), jj_u_eq]) dX6_bringBack_62 ?_
  refine jr_iconst (v := 0) hX dX6_bringBack_63 (by decide) ?_
  refine jr_aload_n hX dX6_bringBack_64 rfl ?_
  refine jr_iload_n hX dX6_bringBack_65 rfl ?_
  refine jr_aald hX (t := 15) (len := 6) (j := 0) (q := 155) (by decide) kn (show _ = nI 0 from rfl) (by decide) (by rw [jj_u_nk (by decide), jj_u_nk (by decide), jj_u_nk (by decide), jj_u_nk (by decide), jj_u_nk (by decide), jj_u_eq]) dX6_bringBack_66 ?_
  refine jr_alen (t := 10) hX (by decide) (ly_k155 hly) dX6_bringBack_67 ?_
  refine jr_copy hX kM_X6_115 (ko _ _ kq0) (ly_k155 hly) (by decide) (show _ = nI 0 from rfl) (show _ = nI 0 from rfl) rfl (by omega) dX6_bringBack_68 rfl ?_
  refine jr_iinc hX dX6_bringBack_71 rfl (jj_inc1 _) rfl ?_
  refine jr_goto (tgt := 50) hX dX6_bringBack_74 (by decide) ?_
  refine jr_iload_n hX dX6_bringBack_50 rfl ?_
  refine jr_aload_n hX dX6_bringBack_51 rfl ?_
  refine jr_alen (t := 15) hX (by decide) kn dX6_bringBack_52 ?_
  refine jr_icmp_ge (tgt := 77) hX dX6_bringBack_53 (by decide) (fun c_53 => absurd c_53 (by decide)) (fun c_53 => ?_)
  refine jr_aload_n hX dX6_bringBack_56 rfl ?_
  refine jr_iload_n hX dX6_bringBack_57 rfl ?_
  refine jr_aald hX (t := 15) (len := 6) (j := 1) (q := q + 2) (by decide) (ko _ _ kq) (show _ = nI 1 from rfl) (by decide) (by rw [jj_u_ne (by omega), jj_u_ne (by omega), jj_u_ne (by omega), jj_u_ne (by omega), jj_u_ne (by omega), jj_u_ne (by omega), jj_uR_ne (by omega)]; exact pq1) dX6_bringBack_58 ?_
  refine jr_iconst (v := 0) hX dX6_bringBack_59 (by decide) ?_
  refine jr_aload_n hX dX6_bringBack_60 rfl ?_
  refine jr_iload_n hX dX6_bringBack_61 rfl ?_
  refine jr_aald hX (t := 15) (len := 6) (j := 1) (q := 156) (by decide) kn (show _ = nI 1 from rfl) (by decide) (by rw [jj_u_nk (by decide), jj_u_nk (by decide), jj_u_nk (by decide), jj_u_nk (by decide), jj_u_eq]) dX6_bringBack_62 ?_
  refine jr_iconst (v := 0) hX dX6_bringBack_63 (by decide) ?_
  refine jr_aload_n hX dX6_bringBack_64 rfl ?_
  refine jr_iload_n hX dX6_bringBack_65 rfl ?_
  refine jr_aald hX (t := 15) (len := 6) (j := 1) (q := 156) (by decide) kn (show _ = nI 1 from rfl) (by decide) (by rw [jj_u_nk (by decide), jj_u_nk (by decide), jj_u_nk (by decide), jj_u_nk (by decide), jj_u_eq]) dX6_bringBack_66 ?_
  refine jr_alen (t := 10) hX (by decide) (ly_k156 hly) dX6_bringBack_67 ?_
  refine jr_copy hX kM_X6_115 (ko _ _ kq1) (ly_k156 hly) (by decide) (show _ = nI 0 from rfl) (show _ = nI 0 from rfl) rfl (by omega) dX6_bringBack_68 rfl ?_
  rw [jj_uR_ne (show q + 2 ≠ 155 by omega), jj_uR_ne (show (156 : Nat) ≠ 155 by decide)]
  refine jr_iinc hX dX6_bringBack_71 rfl (jj_inc1 _) rfl ?_
  refine jr_goto (tgt := 50) hX dX6_bringBack_74 (by decide) ?_
  refine jr_iload_n hX dX6_bringBack_50 rfl ?_
  refine jr_aload_n hX dX6_bringBack_51 rfl ?_
  refine jr_alen (t := 15) hX (by decide) kn dX6_bringBack_52 ?_
  refine jr_icmp_ge (tgt := 77) hX dX6_bringBack_53 (by decide) (fun c_53 => absurd c_53 (by decide)) (fun c_53 => ?_)
  refine jr_aload_n hX dX6_bringBack_56 rfl ?_
  refine jr_iload_n hX dX6_bringBack_57 rfl ?_
  refine jr_aald hX (t := 15) (len := 6) (j := 2) (q := q + 3) (by decide) (ko _ _ kq) (show _ = nI 2 from rfl) (by decide) (by rw [jj_u_ne (by omega), jj_u_ne (by omega), jj_u_ne (by omega), jj_u_ne (by omega), jj_u_ne (by omega), jj_u_ne (by omega), jj_uR_ne (by omega)]; exact pq2) dX6_bringBack_58 ?_
  refine jr_iconst (v := 0) hX dX6_bringBack_59 (by decide) ?_
  refine jr_aload_n hX dX6_bringBack_60 rfl ?_
  refine jr_iload_n hX dX6_bringBack_61 rfl ?_
  refine jr_aald hX (t := 15) (len := 6) (j := 2) (q := 157) (by decide) kn (show _ = nI 2 from rfl) (by decide) (by rw [jj_u_nk (by decide), jj_u_nk (by decide), jj_u_nk (by decide), jj_u_eq]) dX6_bringBack_62 ?_
  refine jr_iconst (v := 0) hX dX6_bringBack_63 (by decide) ?_
  refine jr_aload_n hX dX6_bringBack_64 rfl ?_
  refine jr_iload_n hX dX6_bringBack_65 rfl ?_
  refine jr_aald hX (t := 15) (len := 6) (j := 2) (q := 157) (by decide) kn (show _ = nI 2 from rfl) (by decide) (by rw [jj_u_nk (by decide), jj_u_nk (by decide), jj_u_nk (by decide), jj_u_eq]) dX6_bringBack_66 ?_
  refine jr_alen (t := 10) hX (by decide) (ly_k157 hly) dX6_bringBack_67 ?_
  refine jr_copy hX kM_X6_115 (ko _ _ kq2) (ly_k157 hly) (by decide) (show _ = nI 0 from rfl) (show _ = nI 0 from rfl) rfl (by omega) dX6_bringBack_68 rfl ?_
  rw [jj_uR_ne (show q + 3 ≠ 156 by omega), jj_uR_ne (show q + 3 ≠ 155 by omega), jj_uR_ne (show (157 : Nat) ≠ 156 by decide), jj_uR_ne (show (157 : Nat) ≠ 155 by decide)]
  refine jr_iinc hX dX6_bringBack_71 rfl (jj_inc1 _) rfl ?_
  refine jr_goto (tgt := 50) hX dX6_bringBack_74 (by decide) ?_
  refine jr_iload_n hX dX6_bringBack_50 rfl ?_
  refine jr_aload_n hX dX6_bringBack_51 rfl ?_
  refine jr_alen (t := 15) hX (by decide) kn dX6_bringBack_52 ?_
  refine jr_icmp_ge (tgt := 77) hX dX6_bringBack_53 (by decide) (fun c_53 => absurd c_53 (by decide)) (fun c_53 => ?_)
  refine jr_aload_n hX dX6_bringBack_56 rfl ?_
  refine jr_iload_n hX dX6_bringBack_57 rfl ?_
  refine jr_aald hX (t := 15) (len := 6) (j := 3) (q := q + 4) (by decide) (ko _ _ kq) (show _ = nI 3 from rfl) (by decide) (by rw [jj_u_ne (by omega), jj_u_ne (by omega), jj_u_ne (by omega), jj_u_ne (by omega), jj_u_ne (by omega), jj_u_ne (by omega), jj_uR_ne (by omega)]; exact pq3) dX6_bringBack_58 ?_
  refine jr_iconst (v := 0) hX dX6_bringBack_59 (by decide) ?_
  refine jr_aload_n hX dX6_bringBack_60 rfl ?_
  refine jr_iload_n hX dX6_bringBack_61 rfl ?_
  refine jr_aald hX (t := 15) (len := 6) (j := 3) (q := 158) (by decide) kn (show _ = nI 3 from rfl) (by decide) (by rw [jj_u_nk (by decide), jj_u_nk (by decide), jj_u_eq]) dX6_bringBack_62 ?_
  refine jr_iconst (v := 0) hX dX6_bringBack_63 (by decide) ?_
  refine jr_aload_n hX dX6_bringBack_64 rfl ?_
  refine jr_iload_n hX dX6_bringBack_65 rfl ?_
  refine jr_aald hX (t := 15) (len := 6) (j := 3) (q := 158) (by decide) kn (show _ = nI 3 from rfl) (by decide) (by rw [jj_u_nk (by decide), jj_u_nk (by decide), jj_u_eq]) dX6_bringBack_66 ?_
  refine jr_alen (t := 10) hX (by decide) (ly_k158 hly) dX6_bringBack_67 ?_
  refine jr_copy hX kM_X6_115 (ko _ _ kq3) (ly_k158 hly) (by decide) (show _ = nI 0 from rfl) (show _ = nI 0 from rfl) rfl (by omega) dX6_bringBack_68 rfl ?_
  rw [jj_uR_ne (show q + 4 ≠ 157 by omega), jj_uR_ne (show q + 4 ≠ 156 by omega), jj_uR_ne (show q + 4 ≠ 155 by omega), jj_uR_ne (show (158 : Nat) ≠ 157 by decide), jj_uR_ne (show (158 : Nat) ≠ 156 by decide), jj_uR_ne (show (158 : Nat) ≠ 155 by decide)]
  refine jr_iinc hX dX6_bringBack_71 rfl (jj_inc1 _) rfl ?_
  refine jr_goto (tgt := 50) hX dX6_bringBack_74 (by decide) ?_
  refine jr_iload_n hX dX6_bringBack_50 rfl ?_
  refine jr_aload_n hX dX6_bringBack_51 rfl ?_
  refine jr_alen (t := 15) hX (by decide) kn dX6_bringBack_52 ?_
  refine jr_icmp_ge (tgt := 77) hX dX6_bringBack_53 (by decide) (fun c_53 => absurd c_53 (by decide)) (fun c_53 => ?_)
  refine jr_aload_n hX dX6_bringBack_56 rfl ?_
  refine jr_iload_n hX dX6_bringBack_57 rfl ?_
  refine jr_aald hX (t := 15) (len := 6) (j := 4) (q := q + 5) (by decide) (ko _ _ kq) (show _ = nI 4 from rfl) (by decide) (by rw [jj_u_ne (by omega), jj_u_ne (by omega), jj_u_ne (by omega), jj_u_ne (by omega), jj_u_ne (by omega), jj_u_ne (by omega), jj_uR_ne (by omega)]; exact pq4) dX6_bringBack_58 ?_
  refine jr_iconst (v := 0) hX dX6_bringBack_59 (by decide) ?_
  refine jr_aload_n hX dX6_bringBack_60 rfl ?_
  refine jr_iload_n hX dX6_bringBack_61 rfl ?_
  refine jr_aald hX (t := 15) (len := 6) (j := 4) (q := 159) (by decide) kn (show _ = nI 4 from rfl) (by decide) (by rw [jj_u_nk (by decide), jj_u_eq]) dX6_bringBack_62 ?_
  refine jr_iconst (v := 0) hX dX6_bringBack_63 (by decide) ?_
  refine jr_aload_n hX dX6_bringBack_64 rfl ?_
  refine jr_iload_n hX dX6_bringBack_65 rfl ?_
  refine jr_aald hX (t := 15) (len := 6) (j := 4) (q := 159) (by decide) kn (show _ = nI 4 from rfl) (by decide) (by rw [jj_u_nk (by decide), jj_u_eq]) dX6_bringBack_66 ?_
  refine jr_alen (t := 10) hX (by decide) (ly_k159 hly) dX6_bringBack_67 ?_
  refine jr_copy hX kM_X6_115 (ko _ _ kq4) (ly_k159 hly) (by decide) (show _ = nI 0 from rfl) (show _ = nI 0 from rfl) rfl (by omega) dX6_bringBack_68 rfl ?_
  rw [jj_uR_ne (show q + 5 ≠ 158 by omega), jj_uR_ne (show q + 5 ≠ 157 by omega), jj_uR_ne (show q + 5 ≠ 156 by omega), jj_uR_ne (show q + 5 ≠ 155 by omega), jj_uR_ne (show (159 : Nat) ≠ 158 by decide), jj_uR_ne (show (159 : Nat) ≠ 157 by decide), jj_uR_ne (show (159 : Nat) ≠ 156 by decide), jj_uR_ne (show (159 : Nat) ≠ 155 by decide)]
  refine jr_iinc hX dX6_bringBack_71 rfl (jj_inc1 _) rfl ?_
  refine jr_goto (tgt := 50) hX dX6_bringBack_74 (by decide) ?_
  refine jr_iload_n hX dX6_bringBack_50 rfl ?_
  refine jr_aload_n hX dX6_bringBack_51 rfl ?_
  refine jr_alen (t := 15) hX (by decide) kn dX6_bringBack_52 ?_
  refine jr_icmp_ge (tgt := 77) hX dX6_bringBack_53 (by decide) (fun c_53 => absurd c_53 (by decide)) (fun c_53 => ?_)
  refine jr_aload_n hX dX6_bringBack_56 rfl ?_
  refine jr_iload_n hX dX6_bringBack_57 rfl ?_
  refine jr_aald hX (t := 15) (len := 6) (j := 5) (q := q + 6) (by decide) (ko _ _ kq) (show _ = nI 5 from rfl) (by decide) (by rw [jj_u_ne (by omega), jj_u_ne (by omega), jj_u_ne (by omega), jj_u_ne (by omega), jj_u_ne (by omega), jj_u_ne (by omega), jj_uR_ne (by omega)]; exact pq5) dX6_bringBack_58 ?_
  refine jr_iconst (v := 0) hX dX6_bringBack_59 (by decide) ?_
  refine jr_aload_n hX dX6_bringBack_60 rfl ?_
  refine jr_iload_n hX dX6_bringBack_61 rfl ?_
  refine jr_aald hX (t := 15) (len := 6) (j := 5) (q := 160) (by decide) kn (show _ = nI 5 from rfl) (by decide) (by rw [jj_u_eq]) dX6_bringBack_62 ?_
  refine jr_iconst (v := 0) hX dX6_bringBack_63 (by decide) ?_
  refine jr_aload_n hX dX6_bringBack_64 rfl ?_
  refine jr_iload_n hX dX6_bringBack_65 rfl ?_
  refine jr_aald hX (t := 15) (len := 6) (j := 5) (q := 160) (by decide) kn (show _ = nI 5 from rfl) (by decide) (by rw [jj_u_eq]) dX6_bringBack_66 ?_
  refine jr_alen (t := 10) hX (by decide) (ly_k160 hly) dX6_bringBack_67 ?_
  refine jr_copy hX kM_X6_115 (ko _ _ kq5) (ly_k160 hly) (by decide) (show _ = nI 0 from rfl) (show _ = nI 0 from rfl) rfl (by omega) dX6_bringBack_68 rfl ?_
  rw [jj_uR_ne (show q + 6 ≠ 159 by omega), jj_uR_ne (show q + 6 ≠ 158 by omega), jj_uR_ne (show q + 6 ≠ 157 by omega), jj_uR_ne (show q + 6 ≠ 156 by omega), jj_uR_ne (show q + 6 ≠ 155 by omega), jj_uR_ne (show (160 : Nat) ≠ 159 by decide), jj_uR_ne (show (160 : Nat) ≠ 158 by decide), jj_uR_ne (show (160 : Nat) ≠ 157 by decide), jj_uR_ne (show (160 : Nat) ≠ 156 by decide), jj_uR_ne (show (160 : Nat) ≠ 155 by decide)]
  refine jr_iinc hX dX6_bringBack_71 rfl (jj_inc1 _) rfl ?_
  refine jr_goto (tgt := 50) hX dX6_bringBack_74 (by decide) ?_
  refine jr_iload_n hX dX6_bringBack_50 rfl ?_
  refine jr_aload_n hX dX6_bringBack_51 rfl ?_
  refine jr_alen (t := 15) hX (by decide) kn dX6_bringBack_52 ?_
  refine jr_icmp_ge (tgt := 77) hX dX6_bringBack_53 (by decide) (fun c_53 => ?_) (fun c_53 => absurd (by decide) c_53)
  refine jr_clean (K1 := K) (I1 := f_bb q I) (P1 := P) (fun a kd h => ko a kd h) (fun a kd h => rfl) (fun a kd h => ?_) ?_
  · have ne : a ≠ n := fun e => by subst e; rw [hKn a (Nat.le_refl _)] at h; exact absurd h (by simp)
    rw [jj_u_ne ne, jj_u_ne ne, jj_u_ne ne, jj_u_ne ne, jj_u_ne ne, jj_u_ne ne, jj_uR_ne ne]
  exact jr_vret hX dX6_bringBack_77 rfl rfl ⟨rfl, rfl, rfl, rfl, rfl, rfl⟩
