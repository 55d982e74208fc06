/-! the law makes both rivers: merchants, boats -/
def lb4 (A : Nat → Nat) (H m : Nat) (J : jj_I) : Prop := tn_c (168 + 2 * m) H m 0 0 J ∧ ms A H m 0 0 J J ∧ sz J
theorem lb4_s {A : Nat → Nat} {H M m n : Nat} {K : jj_K} {P : jj_P} {J : jj_I} {v : Int32} (hsy : sy A H M 0 0 n K P) (h : lb4 A H m J) (hm : m < 5) (hv : 0 ≤ v ∧ v ≤ 5000) : lb4 A H (m + 1) (jj_u (jj_u (jj_u J (A 4) m v) (aM 0 m) 0 v) (aW 0) 1 (nI (m + 1))) := by
  obtain ⟨h1, h2, h3⟩ := h
  have l4 := sy_lt hsy (t := 4) sv_4
  have w1 : aW 0 = 2 := rfl
  have w2 : aM 0 m = 12 + 2 * m := rfl
  have eq : eqA (jj_u (jj_u (jj_u J (A 4) m v) (aM 0 m) 0 v) (aW 0) 1 (nI (m + 1))) (jj_u (jj_u J (aM 0 m) 0 v) (aW 0) 1 (nI (m + 1))) := eqA_u (eqA_u (eqA_w (fun _ _ => rfl) l4.1))
  refine ⟨tc_up (eqA_tc eq (by omega) (tc_mer2 h1 (by omega) hv hm)) (by omega) (by omega), ?_, sz_cg h3 (fun k hk => ?_)⟩
  refine ms_addM hsy.1 h2 (fun t ht h9 => ?_) (fun k hk => ?_) (fun a ha e1 e2 => ?_) ?_ hm
  · have := sy_lt hsy ht
    rw [jj_u_ne (by omega), jj_u_ne (by omega), sy_off hsy sv_4 ht h9]
  · rw [jj_u_ne (by omega), jj_u_ne (by omega), jj_u_nk (by omega)]
  · rw [jj_u_ne e2, jj_u_ne e1, jj_u_ne (by omega)]
  · rw [jj_u_ne (b := A 4) (by omega), jj_u_ne (b := A 4) (by omega), jj_u_eq, jj_u_ne (b := aM 0 m) (by omega), jj_u_eq]
  · rw [jj_u_ne (by simp only [aMt, aW]; omega), jj_u_ne (by simp only [aMt, aM]; omega), jj_u_ne (by simp only [aMt]; omega)]
def lb5 (A : Nat → Nat) (H M b : Nat) (J : jj_I) : Prop := tn_c (178 + 2 * b) H M b 0 J ∧ ms A H M b 0 J J ∧ sz J ∧ lw b J
theorem lb5_s {A : Nat → Nat} {H M b n n' m h y : Nat} {K K' : jj_K} {P P' : jj_P} {J : jj_I} (hsy : sy A H M b 0 n K P) (hl : lb5 A H M b J) (hb : b < 9) (hm : m < M) (hh : h < H) (hy : 1 ≤ y ∧ y ≤ 60)
    (hs2 : sy (fun t => if t = 6 then n else if t = 20 + b then n + 1 else if t = 40 + b then n + 2 else A t) H M (b + 1) 0 n' K' P') :
    lb5 (fun t => if t = 6 then n else if t = 20 + b then n + 1 else if t = 40 + b then n + 2 else A t) H M (b + 1)
      (jj_u (jj_u (jj_u (jj_u (jj_uR (jj_u (jj_uR (jj_u (f_la 0 b (nI m) (nI h) (nI y) J) (aW 0) 2 (nI (b + 1))) (n + 1) (fun _ => 0)) (n + 1) 1 20) (n + 1 + 1) (fun _ => 0)) (n + 1) 0 (nI m)) (n + 1) 2 (nI y)) (n + 1) 4 (nI h)) (n + 1) 5 (nI h)) := by
  obtain ⟨h1, h2, h3, h4⟩ := hl
  have ge := (sy_lt hsy (t := 0) sv_0)
  have w1 : aW 0 = 2 := rfl
  have w2 : aB 0 b = 22 + 2 * b := rfl
  have w3 : aBc 0 b = 23 + 2 * b := rfl
  obtain ⟨fb7, fbc⟩ := h1.2.2.2.2.2.1 b (Nat.le_refl _) (by omega)
  have low : ∀ a, a < 150 → (jj_u (jj_u (jj_u (jj_u (jj_uR (jj_u (jj_uR (jj_u (f_la 0 b (nI m) (nI h) (nI y) J) (aW 0) 2 (nI (b + 1))) (n + 1) (fun _ => 0)) (n + 1) 1 20) (n + 1 + 1) (fun _ => 0)) (n + 1) 0 (nI m)) (n + 1) 2 (nI y)) (n + 1) 4 (nI h)) (n + 1) 5 (nI h)) a = jj_u (f_la 0 b (nI m) (nI h) (nI y) J) (aW 0) 2 (nI (b + 1)) a := fun a ha => by
    rw [jj_u_ne (by omega), jj_u_ne (by omega), jj_u_ne (by omega), jj_u_ne (by omega), jj_uR_ne (by omega), jj_u_ne (by omega), jj_uR_ne (by omega)]
  have la : ∀ a, a ≠ aB 0 b → f_la 0 b (nI m) (nI h) (nI y) J a = J a := fun a ha => by
    unfold f_la
    rw [jj_u_ne ha, jj_u_ne ha, jj_u_ne ha, jj_u_ne ha, jj_u_ne ha, jj_u_ne ha]
  have y9 : (1 : Int32) ≤ nI y ∧ nI y ≤ 60 := ⟨by rw [show (1 : Int32) = nI 1 from rfl]; exact nI_le hy.1 (by omega), by rw [show (60 : Int32) = nI 60 from rfl]; exact nI_le hy.2 (by omega)⟩
  refine ⟨tc_up (eqA_tc low (by omega) (tc_build h1 (by omega) hm hh y9 (by omega))) (by omega) (by omega), ?_, sz_cg h3 (fun k hk => ?_), fun k hk => ?_⟩
  refine ms_addB hs2.1 h2 (fun t ht h9 => ?_) (fun a ha e1 e2 e3 => ?_) ?_
  · have := sy_lt hsy ht
    have q1 : t ≠ 20 + b ∧ t ≠ 40 + b := by
      obtain ⟨b1, b2, b3, b4⟩ := hs2.1
      refine ⟨fun e => ?_, fun e => ?_⟩
      · subst e
        exact ht (by unfold sy_K; rw [if_neg (by omega), if_neg (by omega), if_neg (by omega), if_neg (by omega), if_neg (by omega), if_neg (by omega), if_neg (by omega), if_neg (by omega), if_neg (by omega), if_neg (by omega), if_neg (by omega), if_neg (by omega), if_neg (by omega), if_neg (by omega), if_neg (by omega)])
      · subst e
        exact ht (by unfold sy_K; rw [if_neg (by omega), if_neg (by omega), if_neg (by omega), if_neg (by omega), if_neg (by omega), if_neg (by omega), if_neg (by omega), if_neg (by omega), if_neg (by omega), if_neg (by omega), if_neg (by omega), if_neg (by omega), if_neg (by omega), if_neg (by omega), if_neg (by omega)])
    try dsimp only
    rw [if_neg h9, if_neg q1.1, if_neg q1.2, jj_u_ne (by omega), jj_u_ne (by omega), jj_u_ne (by omega), jj_u_ne (by omega), jj_uR_ne (by omega), jj_u_ne (by omega), jj_uR_ne (by omega), jj_u_ne (by omega), la _ (by omega)]
  · rw [low a ha, jj_u_ne e3, la a e1]
  · unfold msB
    try dsimp only
    rw [if_neg (show ¬ 20 + b = 6 by omega), if_pos rfl, if_neg (show ¬ 40 + b = 6 by omega), if_neg (show ¬ 40 + b = 20 + b by omega), if_pos rfl, low (aB 0 b) (by omega), low (aBc 0 b) (by omega), jj_u_ne (b := aB 0 b) (a := aW 0) (by omega), jj_u_ne (b := aBc 0 b) (a := aW 0) (by omega), la (aBc 0 b) (by omega)]
    have n2 : ∀ (X : jj_I) k v, jj_u X (n + 1) k v (n + 2) = X (n + 2) := fun X k v => jj_u_ne (by omega)
    rw [n2, n2, n2, n2, show n + 2 = n + 1 + 1 from rfl, jj_uR_eq]
    have n3 : ∀ (X : jj_I) f, jj_uR X (n + 1 + 1) f (n + 1) = X (n + 1) := fun X f => jj_uR_ne (by omega)
    refine ⟨?_, ?_, ?_, ?_, ?_, ?_, ?_, fun e => ?_, fun g hg => (fbc g hg).symm⟩
    · rw [jj_u_nk (by decide), jj_u_nk (by decide), jj_u_nk (by decide), jj_u_eq]; simp [f_la, jj_u]
    · rw [jj_u_nk (by decide), jj_u_nk (by decide), jj_u_nk (by decide), jj_u_nk (by decide), n3, jj_u_eq]; simp [f_la, jj_u]
    · rw [jj_u_nk (by decide), jj_u_nk (by decide), jj_u_eq]; simp [f_la, jj_u]
    · rw [jj_u_nk (by decide), jj_u_nk (by decide), jj_u_nk (by decide), jj_u_nk (by decide), n3, jj_u_nk (by decide), jj_uR_eq]; simp [f_la, jj_u]
    · rw [jj_u_nk (by decide), jj_u_eq]; simp [f_la, jj_u]
    · rw [jj_u_eq]; simp [f_la, jj_u]
    · rw [jj_u_nk (by decide), jj_u_nk (by decide), jj_u_nk (by decide), jj_u_nk (by decide), n3, jj_u_nk (by decide), jj_uR_eq]
      unfold f_la
      rw [jj_u_nk (by decide), jj_u_nk (by decide), jj_u_nk (by decide), jj_u_nk (by decide), jj_u_nk (by decide), jj_u_nk (by decide), fb7]
    · exfalso
      revert e
      unfold f_la
      rw [jj_u_nk (by decide), jj_u_nk (by decide), jj_u_eq]
      decide
  · rw [low (aMt 0 k) (by simp only [aMt]; omega), jj_u_ne (by simp only [aMt, aW]; omega), la _ (by simp only [aMt, aB]; omega)]
  · rw [low (aB 0 k) (by simp only [aB]; omega), jj_u_ne (by simp only [aB, aW]; omega)]
    by_cases e : k = b
    · subst e
      refine ⟨fun _ => ?_, fun q => ?_⟩
      · unfold f_la
        rw [jj_u_nk (by decide), jj_u_nk (by decide), jj_u_nk (by decide), jj_u_nk (by decide), jj_u_nk (by decide), jj_u_nk (by decide), fb7]
      · exfalso
        revert q
        unfold f_la
        rw [jj_u_nk (by decide), jj_u_nk (by decide), jj_u_eq]
        decide
    · rw [la _ (by simp only [aB]; omega)]
      exact h4 k (by omega)
