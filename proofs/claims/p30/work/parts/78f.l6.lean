/-! the law's own river grows, as its methods leave it -/
section SK
variable {A : Nat → Nat} {H M B N n q : Nat} {K : jj_K} {P : jj_P} {C I : jj_I}
theorem sy_addH2 (hs : sy A H M B N q K P) (hH : H < 8) : sy (fun t => if t = 5 then q + 1 else if t = 10 + H then q else A t) (H + 1) M B N (q + 2) (jj_uK (jj_uK K q (10, 5)) (q + 1) (15, H + 1))
    (jj_u (jj_u (it (fun j R => jj_u R (q + 1) j (some (A (10 + j)))) (jj_uR P (q + 1) (fun _ => none)) H) (q + 1) H (some q)) (A 0) 1 (some (q + 1))) := by
  have l0 := sy_lt hs (t := 0) sv_0
  obtain ⟨i1, i2, i3⟩ := it_Pn (n := q + 1) (r := fun j => some (A (10 + j))) (P := jj_uR P (q + 1) (fun _ => none)) H
  refine sy_addH hs hH (by unfold jj_uK; rw [if_neg (by omega), if_pos rfl]) (by unfold jj_uK; rw [if_pos rfl]) (fun a ha => by unfold jj_uK; rw [if_neg (by omega), if_neg (by omega)]) (fun a ha h0 => ?_) (fun k hk => ?_) jj_u_eq (fun k hk => ?_) ?_
  · rw [jj_u_ne h0, jj_u_ne (by omega), i3 a (by omega), jj_uR_ne (by omega)]
  · rw [jj_u_nk hk, jj_u_ne (by omega), i3 _ (by omega), jj_uR_ne (by omega)]
  · rw [jj_u_ne (by omega), jj_u_nk (by omega), i1 k hk, sy_qH hs hk]
  · rw [jj_u_ne (by omega), jj_u_eq]
theorem sy_addN2 (hs : sy A H M B N q K P) (hN : N < 30) : sy (fun t => if t = 7 then q + 1 else if t = 60 + N then q else A t) H M B (N + 1) (q + 2) (jj_uK (jj_uK K q (10, 7)) (q + 1) (15, N + 1))
    (jj_u (jj_u (it (fun j R => jj_u R (q + 1) j (some (A (60 + j)))) (jj_uR P (q + 1) (fun _ => none)) N) (q + 1) N (some q)) (A 0) 7 (some (q + 1))) := by
  have l0 := sy_lt hs (t := 0) sv_0
  obtain ⟨i1, i2, i3⟩ := it_Pn (n := q + 1) (r := fun j => some (A (60 + j))) (P := jj_uR P (q + 1) (fun _ => none)) N
  refine sy_addN hs hN (by unfold jj_uK; rw [if_neg (by omega), if_pos rfl]) (by unfold jj_uK; rw [if_pos rfl]) (fun a ha => by unfold jj_uK; rw [if_neg (by omega), if_neg (by omega)]) (fun a ha h0 => ?_) (fun k hk => ?_) jj_u_eq (fun k hk => ?_) ?_
  · rw [jj_u_ne h0, jj_u_ne (by omega), i3 a (by omega), jj_uR_ne (by omega)]
  · rw [jj_u_nk hk, jj_u_ne (by omega), i3 _ (by omega), jj_uR_ne (by omega)]
  · rw [jj_u_ne (by omega), jj_u_nk (by omega), i1 k hk, sy_qD hs hk]
  · rw [jj_u_ne (by omega), jj_u_eq]
theorem sy_addB2 (hs : sy A H M B N n K P) (hB : B < 10) : sy (fun t => if t = 6 then n else if t = 20 + B then n + 1 else if t = 40 + B then n + 2 else A t) H M (B + 1) N (n + 3) (jj_uK (jj_uK (jj_uK K n (17, B + 1)) (n + 1) (6, 0)) (n + 1 + 1) (10, 4))
    (jj_u (jj_u (jj_u (jj_uR (it (fun j R => jj_u R n j (some (A (20 + j)))) (jj_uR P n (fun _ => none)) B) (n + 1) (fun _ => none)) (n + 1) 8 (some (n + 1 + 1))) n B (some (n + 1))) (A 0) 6 (some n)) := by
  have l0 := sy_lt hs (t := 0) sv_0
  obtain ⟨i1, i2, i3⟩ := it_Pn (n := n) (r := fun j => some (A (20 + j))) (P := jj_uR P n (fun _ => none)) B
  refine sy_addB hs hB (by unfold jj_uK; rw [if_neg (by omega), if_neg (by omega), if_pos rfl]) (by unfold jj_uK; rw [if_neg (by omega), if_pos rfl]) (by unfold jj_uK; rw [if_pos (by omega)]) (fun a ha => by unfold jj_uK; rw [if_neg (by omega), if_neg (by omega), if_neg (by omega)]) (fun a ha h0 => ?_) (fun k hk => ?_) jj_u_eq (fun k hk => ?_) ?_ ?_
  · rw [jj_u_ne h0, jj_u_ne (by omega), jj_u_ne (by omega), jj_uR_ne (by omega), i3 a (by omega), jj_uR_ne (by omega)]
  · rw [jj_u_nk hk, jj_u_ne (by omega), jj_u_ne (by omega), jj_uR_ne (by omega), i3 _ (by omega), jj_uR_ne (by omega)]
  · rw [jj_u_ne (by omega), jj_u_nk (by omega), jj_u_ne (by omega), jj_uR_ne (by omega), i1 k hk, sy_qB hs hk]
  · rw [jj_u_ne (by omega), jj_u_eq]
  · rw [jj_u_ne (by omega), jj_u_ne (by omega), jj_u_eq]
/-- what build and more want of their rows -/
theorem sy_rH (hs : sy A H M B N n K P) : ∀ j, j < H → P (A 5) j = some (A (10 + j)) ∧ A (10 + j) < n ∧ ∃ z, K (A (10 + j)) = some (10, z) := fun j hj => ⟨sy_qH hs hj, (sy_lt hs (sv_H hs.1 hj)).2, 5, sy_kH hs hj⟩
theorem sy_rN (hs : sy A H M B N n K P) : ∀ j, j < N → P (A 7) j = some (A (60 + j)) ∧ A (60 + j) < n ∧ ∃ z, K (A (60 + j)) = some (10, z) := fun j hj => ⟨sy_qD hs hj, (sy_lt hs (sv_D hs.1 hj)).2, 7, sy_kD hs hj⟩
end SK
