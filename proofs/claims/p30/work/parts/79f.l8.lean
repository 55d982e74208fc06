/-! goods are lent -/
section LW
variable {A : Nat → Nat} {H M B N n t : Nat} {K : jj_K} {P : jj_P} {I J C J1 J2 : jj_I}
/-- the law's own river when goods are lent: both stocks, the debt's row -/
def s_le (A : Nat → Nat) (m o h g n : Nat) (y v : Int32) (I : jj_I) : jj_I :=
  let J1 := jj_u I (A (110 + 8 * m + h)) g (I (A (110 + 8 * m + h)) g - y)
  let J2 := jj_u J1 (A (110 + 8 * o + h)) g (J1 (A (110 + 8 * o + h)) g + y)
  jj_u (jj_u (jj_u (jj_u (jj_u (jj_u (jj_u (jj_uR J2 n (fun _ => 0)) n 0 (nI m)) n 1 (nI o)) n 2 (nI h)) n 3 (nI g)) n 4 (y + y / 10)) n 5 v) n 6 0
theorem eqA_op {k a b h g : Nat} {m d : Int32} (e : eqA J I) : eqA (f_op 0 k (nI a) (nI b) (nI h) (nI g) m d J) (f_op 0 k (nI a) (nI b) (nI h) (nI g) m d I) := by
  unfold f_op
  exact eqA_u (eqA_u (eqA_u (eqA_u (eqA_u (eqA_u (eqA_u e))))))
theorem op_off {k a b h g x : Nat} {m d : Int32} (e : x ≠ aD 0 k) : f_op 0 k (nI a) (nI b) (nI h) (nI g) m d I x = I x := by
  unfold f_op
  rw [jj_u_ne e, jj_u_ne e, jj_u_ne e, jj_u_ne e, jj_u_ne e, jj_u_ne e, jj_u_ne e]
theorem hd_off {q a c x : Nat} {m : Int32} (e1 : x ≠ aMt 0 q) (e2 : x ≠ aMt 0 a) : f_hd 0 q a c m I x = I x := by
  unfold f_hd
  try dsimp only
  rw [jj_u_ne e2, jj_u_ne e1]
theorem la_lend {m o h g y v : Nat} (hv : lv A H M B N n t K I P) (ht : t + 2 ≤ 512) (hN : N < 30) (hm : m < M) (ho : o < M) (hmo : ¬ m = o) (hh : h < H) (hg : g < 4) (hy : 1 ≤ y ∧ y < 2147483648) (he : nI y ≤ I (aMt 0 m) (4 * h + g)) :
    lv (fun t => if t = 7 then n + 1 else if t = 60 + N then n else A t) H M B (N + 1) (n + 2) (t + 2) (jj_uK (jj_uK K n (10, 7)) (n + 1) (15, N + 1)) (f_lend m o h g N (nI y) (nI v) (s_le A m o h g n (nI y) (nI v) I))
      (jj_u (jj_u (it (fun j R => jj_u R (n + 1) j (some (A (60 + j)))) (jj_uR P (n + 1) (fun _ => none)) N) (n + 1) N (some n)) (A 0) 7 (some (n + 1))) := by
  obtain ⟨a1, a2, a3, a4, a5, a6, a7, a8⟩ := id hv
  have g0 := sy_lt a2 (t := 0) sv_0
  have gm := sy_lt a2 (t := 110 + 8 * m + h) (sv_S a2.1 (by omega) (by omega))
  have go := sy_lt a2 (t := 110 + 8 * o + h) (sv_S a2.1 (by omega) (by omega))
  have s2 := sy_addN2 a2 hN
  have wW : aW 0 = 2 := rfl
  have wD : aD 0 N = 42 + N := by first | rfl | (simp only [aD])
  have eq : eqA (s_le A m o h g n (nI y) (nI v) I) I := fun a ha => by
    unfold s_le
    try dsimp only
    rw [jj_u_ne (by omega), jj_u_ne (by omega), jj_u_ne (by omega), jj_u_ne (by omega), jj_u_ne (by omega), jj_u_ne (by omega), jj_u_ne (by omega), jj_uR_ne (by omega), jj_u_ne (by omega), jj_u_ne (by omega)]
  have eq2 : eqA (f_lend m o h g N (nI y) (nI v) (s_le A m o h g n (nI y) (nI v) I)) (f_lend m o h g N (nI y) (nI v) I) := by
    unfold f_lend
    exact eqA_u (eqA_op (eqA_hd eq (by omega) (by omega)))
  have hi : ∀ a, 150 ≤ a → f_lend m o h g N (nI y) (nI v) (s_le A m o h g n (nI y) (nI v) I) a = s_le A m o h g n (nI y) (nI v) I a := fun a ha => by
    unfold f_lend
    rw [jj_u_ne (by omega), op_off (by omega), hd_off (by simp only [aMt]; omega) (by simp only [aMt]; omega)]
  have hC := tc_lend (v := nI v) a4 (by omega) hm ho hh hg hN (y := nI y) (by rw [show (1 : Int32) = nI 1 from rfl]; exact nI_le hy.1 (by omega)) (by rw [show h * 4 + g = 4 * h + g by omega]; exact he)
  have m1 := ms_stock (v := I (aMt 0 m) (4 * h + g) - nI y) a2 a3 (show m < 5 by omega) (show h < 8 by omega) hg
  have e1 := a3.2.2.2.2.2.2.2.2 m (by omega) h (by omega) g hg
  have e2 := m1.2.2.2.2.2.2.2.2 o (by omega) h (by omega) g hg
  have m2 := ms_stock (v := jj_u I (aMt 0 m) (4 * h + g) (I (aMt 0 m) (4 * h + g) - nI y) (aMt 0 o) (4 * h + g) + nI y) a2 m1 (show o < 5 by omega) (show h < 8 by omega) hg
  have lw : ly (jj_uK (jj_uK K n (10, 7)) (n + 1) (15, N + 1)) (jj_u (jj_u (it (fun j R => jj_u R (n + 1) j (some (A (60 + j)))) (jj_uR P (n + 1) (fun _ => none)) N) (n + 1) N (some n)) (A 0) 7 (some (n + 1))) :=
    ly_up a1 (fun a ha => by unfold jj_uK; rw [if_neg (by omega), if_neg (by omega)]) (fun a ha => by rw [jj_u_ne (by omega), jj_u_ne (by omega), (it_Pn N).2.2 a (by omega), jj_uR_ne (by omega)])
  refine ⟨lw, s2, ?_, eqA_tc eq2 (by omega) hC, fun d hd => ?_, a6, a7, a8.1, a8.2.1, ⟨fun k hk c h1 h2 => by rw [eq2 _ (by simp only [aMt]; omega)]; unfold f_lend; rw [jj_u_ne (show aMt 0 k ≠ aW 0 by simp only [aMt, aW]; omega), op_off (by simp only [aMt, aD]; omega)]; exact oz_hd a8.2.2.1 (by omega) k hk c h1 h2, fun k hk => by rw [eq2 _ (by simp only [aB]; omega)]; unfold f_lend; rw [jj_u_ne (show aB 0 k ≠ aW 0 by simp only [aB, aW]; omega), op_off (by simp only [aB, aD]; omega), hd_off (by simp only [aB, aMt]; omega) (by simp only [aB, aMt]; omega)]; exact a8.2.2.2 k hk⟩⟩
  · refine ms_addN (A := A) (C := f_hd 0 m o (4 * h + g) (nI y) I) s2.1 (I := jj_u (jj_u I (A (110 + 8 * m + h)) g (I (aMt 0 m) (4 * h + g) - nI y)) (A (110 + 8 * o + h)) g (jj_u I (aMt 0 m) (4 * h + g) (I (aMt 0 m) (4 * h + g) - nI y) (aMt 0 o) (4 * h + g) + nI y)) ?_ (fun t ht h7 => ?_) (fun a ha q1 q2 => ?_) (fun f hf => ?_)
    · unfold f_hd
      exact m2
    · have lt := sy_lt a2 ht
      have h6 : t ≠ 60 + N := fun c => by
        subst c
        exact ht (by unfold sy_K; rw [if_neg (by omega), if_neg (by omega), if_neg (by omega), if_neg (by omega), if_neg (by omega), if_neg (by omega), if_neg (by omega), if_neg (by omega), if_neg (by omega), if_neg (by omega), if_neg (by omega), if_neg (by omega), if_neg (by omega), if_neg (by omega), if_neg (by omega)])
      (try dsimp only)
      rw [if_neg h7, if_neg h6, hi _ lt.1]
      unfold s_le
      try dsimp only
      rw [jj_u_ne (by omega), jj_u_ne (by omega), jj_u_ne (by omega), jj_u_ne (by omega), jj_u_ne (by omega), jj_u_ne (by omega), jj_u_ne (by omega), jj_uR_ne (by omega), e1, e2]
    · rw [eq2 a ha]
      unfold f_lend
      rw [jj_u_ne q2, op_off q1, show h * 4 + g = 4 * h + g by omega]
    · (try dsimp only)
      rw [if_neg (by omega), if_pos rfl, hi n (by omega), eq2 _ (by omega)]
      unfold f_lend
      rw [jj_u_ne (show aD 0 N ≠ aW 0 by omega)]
      unfold s_le f_op
      try dsimp only
      rcases (show f = 0 ∨ f = 1 ∨ f = 2 ∨ f = 3 ∨ f = 4 ∨ f = 5 ∨ f = 6 by omega) with rfl | rfl | rfl | rfl | rfl | rfl | rfl <;> simp [jj_u]
  · rw [eq2 _ (by have := a2.1.2.2.2; simp only [aD]; omega)]
    unfold f_lend
    rw [jj_u_ne (show aD 0 d ≠ aW 0 by simp only [aD]; omega)]
    by_cases e : d = N
    · subst e
      refine Or.inl ?_
      unfold f_op
      rw [jj_u_eq]
    · rw [op_off (by simp only [aD]; omega), hd_off (by simp only [aD, aMt]; omega) (by simp only [aD, aMt]; omega)]
      exact a5 d (by omega)
end LW
