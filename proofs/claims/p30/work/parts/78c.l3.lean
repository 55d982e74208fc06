/-! the law's own river grows: debts, boats, coins, and the river when it is new -/
section SH
variable {A A' : Nat → Nat} {H M B N n n' : Nat} {K K' : jj_K} {P P' : jj_P} {C C' I I' : jj_I}
theorem sy_u1_6 {t k u : Nat} (e : sy_P H B N t k = some u) (ht : ¬ (t = 0 ∧ k = 6)) : u ≠ 6 := by
  unfold sy_P at e
  intro c
  subst c
  repeat' split at e
  all_goals first | (cases e; done) | (cases e; omega) | (have := Option.some.inj e; omega)
theorem sy_u1_7 {t k u : Nat} (e : sy_P H B N t k = some u) (ht : ¬ (t = 0 ∧ k = 7)) : u ≠ 7 := by
  unfold sy_P at e
  intro c
  subst c
  repeat' split at e
  all_goals first | (cases e; done) | (cases e; omega) | (have := Option.some.inj e; omega)
/-- one debt more: its row is the cell q, the rows' row the one behind it -/
theorem sy_addN {q : Nat} (hs : sy A H M B N q K P) (hN : N < 30) (hq : K' q = some (10, 7)) (hq2 : K' (q + 1) = some (15, N + 1)) (hK : ∀ a, a < q → K' a = K a) (hP : ∀ a, a < q → a ≠ A 0 → P' a = P a) (hP0 : ∀ k, k ≠ 7 → P' (A 0) k = P (A 0) k) (hP1 : P' (A 0) 7 = some (q + 1)) (hPn : ∀ k, k < N → P' (q + 1) k = P (A 7) k) (hPl : P' (q + 1) N = some q) :
    sy (fun t => if t = 7 then q + 1 else if t = 60 + N then q else A t) H M B (N + 1) (q + 2) K' P' := by
  obtain ⟨n1, n2, n3, n4⟩ := id hs.1
  have hn' : sy_N H M B (N + 1) := ⟨n1, n2, n3, by omega⟩
  refine sy_new hs hn' (by omega) (fun t => t == 7 || t == 60 + N) (fun t h ht => ?_) (fun t h ht => ?_) (fun t u h g e => ?_) (fun t kd h e => ?_) hK (fun t k u e => ?_)
  · have h5 : t ≠ 7 := fun e => by subst e; simp at h
    have h6 : t ≠ 60 + N := fun e => by subst e; simp at h
    try dsimp only
    exact ⟨by rw [if_neg h5, if_neg h6], (sy_KN h5 h6).symm⟩
  · try dsimp only
    by_cases h5 : t = 7
    · rw [if_pos h5]; omega
    · rw [if_neg h5]
      have h6 : t = 60 + N := by simpa [h5] using h
      rw [if_pos h6]; omega
  · try dsimp only at e
    by_cases h5 : t = 7
    · by_cases g5 : u = 7
      · omega
      · rw [if_pos h5, if_neg g5, if_pos (by simpa [g5] using g)] at e; omega
    · have h6 : t = 60 + N := by simpa [h5] using h
      by_cases g5 : u = 7
      · rw [if_neg h5, if_pos h6, if_pos g5] at e; omega
      · have g6 : u = 60 + N := by simpa [g5] using g
        omega
  · try dsimp only
    by_cases h5 : t = 7
    · rw [if_pos h5, hq2]
      subst h5
      exact e
    · have h6 : t = 60 + N := by simpa [h5] using h
      rw [if_neg h5, if_pos h6, hq]
      subst h6
      rw [sy_eD hn' (by omega)] at e
      exact e
  · obtain ⟨lt, lu⟩ := sy_live (M := M) hn' e
    try dsimp only
    by_cases h5 : t = 7
    · subst h5
      rw [if_pos rfl]
      have e9 : k < N + 1 ∧ u = 60 + k := by
        unfold sy_P at e
        rw [if_neg (by decide), if_neg (by decide), if_neg (by decide), if_pos rfl] at e
        split at e
        · cases e; exact ⟨by assumption, rfl⟩
        · cases e
      obtain ⟨k1, rfl⟩ := e9
      rw [if_neg (by omega)]
      by_cases c : k = N
      · subst c; rw [if_pos rfl]; exact hPl
      · rw [if_neg (by omega), hPn k (by omega)]
        exact sy_qD hs (by omega)
    · rw [if_neg h5]
      have h6 : t ≠ 60 + N := fun c => by
        subst c
        unfold sy_P at e
        rw [if_neg (by omega), if_neg (by omega), if_neg (by omega), if_neg (by omega), if_neg (by omega), if_neg (by omega), if_neg (by omega)] at e
        cases e
      rw [if_neg h6]
      rw [sy_PN h5] at e
      have lt2 : sy_K H M B N t ≠ none := (sy_live hs.1 e).1
      have lu2 : sy_K H M B N u ≠ none := (sy_live hs.1 e).2
      have hu6 : u ≠ 60 + N := fun c => by
        subst c
        exact lu2 (by unfold sy_K; rw [if_neg (by omega), if_neg (by omega), if_neg (by omega), if_neg (by omega), if_neg (by omega), if_neg (by omega), if_neg (by omega), if_neg (by omega), if_neg (by omega), if_neg (by omega), if_neg (by omega), if_neg (by omega), if_neg (by omega), if_neg (by omega), if_neg (by omega)])
      have ll := sy_lt hs lt2
      have old := hs.2.2.1 t k u e
      rw [if_neg hu6]
      by_cases c0 : t = 0 ∧ k = 7
      · obtain ⟨rfl, rfl⟩ := c0
        have e9 : u = 7 := (Option.some.inj e).symm
        subst e9
        rw [if_pos rfl]; exact hP1
      · rw [if_neg (sy_u1_7 e c0), ← old]
        by_cases c1 : t = 0
        · subst c1
          rw [hP0 k (fun w => c0 ⟨rfl, w⟩)]
        · rw [hP _ ll.2 (fun c => c1 (hs.2.2.2 t 0 lt2 sv_0 c))]
/-- one boat more: the boats' row is the cell n, the boat and its goods the two behind it -/
theorem sy_addB (hs : sy A H M B N n K P) (hB : B < 10) (hq : K' n = some (17, B + 1)) (hq2 : K' (n + 1) = some (6, 0)) (hq3 : K' (n + 2) = some (10, 4)) (hK : ∀ a, a < n → K' a = K a) (hP : ∀ a, a < n → a ≠ A 0 → P' a = P a) (hP0 : ∀ k, k ≠ 6 → P' (A 0) k = P (A 0) k) (hP1 : P' (A 0) 6 = some n) (hPn : ∀ k, k < B → P' n k = P (A 6) k) (hPl : P' n B = some (n + 1)) (hPg : P' (n + 1) 8 = some (n + 2)) :
    sy (fun t => if t = 6 then n else if t = 20 + B then n + 1 else if t = 40 + B then n + 2 else A t) H M (B + 1) N (n + 3) K' P' := by
  obtain ⟨n1, n2, n3, n4⟩ := id hs.1
  have hn' : sy_N H M (B + 1) N := ⟨n1, n2, by omega, n4⟩
  have c3 : ∀ t, (t == 6 || (t == 20 + B || t == 40 + B)) = true → t = 6 ∨ t = 20 + B ∨ t = 40 + B := fun t h => by simpa using h
  refine sy_new hs hn' (by omega) (fun t => t == 6 || (t == 20 + B || t == 40 + B)) (fun t h ht => ?_) (fun t h ht => ?_) (fun t u h g e => ?_) (fun t kd h e => ?_) hK (fun t k u e => ?_)
  · have h5 : t ≠ 6 := fun e => by subst e; simp at h
    have h6 : t ≠ 20 + B := fun e => by subst e; simp at h
    have h7 : t ≠ 40 + B := fun e => by subst e; simp at h
    try dsimp only
    exact ⟨by rw [if_neg h5, if_neg h6, if_neg h7], (sy_KB h5 h6 h7).symm⟩
  · try dsimp only
    rcases c3 t h with rfl | rfl | rfl
    · rw [if_pos rfl]; omega
    · rw [if_neg (by omega), if_pos rfl]; omega
    · rw [if_neg (by omega), if_neg (by omega), if_pos rfl]; omega
  · try dsimp only at e
    rcases c3 t h with rfl | rfl | rfl <;> rcases c3 u g with rfl | rfl | rfl
    · rfl
    · rw [if_pos rfl, if_neg (by omega), if_pos rfl] at e; omega
    · rw [if_pos rfl, if_neg (by omega), if_neg (by omega), if_pos rfl] at e; omega
    · rw [if_neg (by omega), if_pos rfl, if_pos rfl] at e; omega
    · rfl
    · rw [if_neg (by omega), if_pos rfl, if_neg (by omega), if_neg (by omega), if_pos rfl] at e; omega
    · rw [if_neg (by omega), if_neg (by omega), if_pos rfl, if_pos rfl] at e; omega
    · rw [if_neg (by omega), if_neg (by omega), if_pos rfl, if_neg (by omega), if_pos rfl] at e; omega
    · rfl
  · try dsimp only
    rcases c3 t h with rfl | rfl | rfl
    · rw [if_pos rfl, hq]; exact e
    · rw [if_neg (by omega), if_pos rfl, hq2]
      rw [sy_eB hn' (by omega)] at e
      exact e
    · rw [if_neg (by omega), if_neg (by omega), if_pos rfl, hq3]
      rw [sy_eG hn' (by omega)] at e
      exact e
  · obtain ⟨lt, lu⟩ := sy_live (M := M) hn' e
    try dsimp only
    by_cases h5 : t = 6
    · subst h5
      rw [if_pos rfl]
      have e9 : k < B + 1 ∧ u = 20 + k := by
        unfold sy_P at e
        rw [if_neg (by decide), if_neg (by decide), if_pos rfl] at e
        split at e
        · cases e; exact ⟨by assumption, rfl⟩
        · cases e
      obtain ⟨k1, rfl⟩ := e9
      rw [if_neg (by omega)]
      by_cases c : k = B
      · subst c; rw [if_pos rfl]; exact hPl
      · rw [if_neg (by omega), if_neg (by omega), hPn k (by omega)]
        exact sy_qB hs (by omega)
    · rw [if_neg h5]
      by_cases h6 : t = 20 + B
      · subst h6
        rw [if_pos rfl]
        have e9 : k = 8 ∧ u = 40 + B := by
          unfold sy_P at e
          rw [if_neg (by omega), if_neg (by omega), if_neg (by omega), if_neg (by omega), if_neg (by omega), if_pos (by omega)] at e
          split at e
          · cases e; exact ⟨by assumption, by omega⟩
          · cases e
        obtain ⟨rfl, rfl⟩ := e9
        rw [if_neg (by omega), if_neg (by omega), if_pos rfl]
        exact hPg
      · rw [if_neg h6]
        have h7 : t ≠ 40 + B := fun c => by
          subst c
          unfold sy_P at e
          rw [if_neg (by omega), if_neg (by omega), if_neg (by omega), if_neg (by omega), if_neg (by omega), if_neg (by omega), if_neg (by omega)] at e
          cases e
        rw [if_neg h7]
        rw [sy_PB h5 h6] at e
        have lt2 : sy_K H M B N t ≠ none := (sy_live hs.1 e).1
        have lu2 : sy_K H M B N u ≠ none := (sy_live hs.1 e).2
        have hu6 : u ≠ 20 + B := fun c => by
          subst c
          exact lu2 (by unfold sy_K; rw [if_neg (by omega), if_neg (by omega), if_neg (by omega), if_neg (by omega), if_neg (by omega), if_neg (by omega), if_neg (by omega), if_neg (by omega), if_neg (by omega), if_neg (by omega), if_neg (by omega), if_neg (by omega), if_neg (by omega), if_neg (by omega), if_neg (by omega)])
        have hu7 : u ≠ 40 + B := fun c => by
          subst c
          exact lu2 (by unfold sy_K; rw [if_neg (by omega), if_neg (by omega), if_neg (by omega), if_neg (by omega), if_neg (by omega), if_neg (by omega), if_neg (by omega), if_neg (by omega), if_neg (by omega), if_neg (by omega), if_neg (by omega), if_neg (by omega), if_neg (by omega), if_neg (by omega), if_neg (by omega)])
        have ll := sy_lt hs lt2
        have old := hs.2.2.1 t k u e
        rw [if_neg hu6, if_neg hu7]
        by_cases c0 : t = 0 ∧ k = 6
        · obtain ⟨rfl, rfl⟩ := c0
          have e9 : u = 6 := (Option.some.inj e).symm
          subst e9
          rw [if_pos rfl]; exact hP1
        · rw [if_neg (sy_u1_6 e c0), ← old]
          by_cases c1 : t = 0
          · subst c1
            rw [hP0 k (fun w => c0 ⟨rfl, w⟩)]
          · rw [hP _ ll.2 (fun c => c1 (hs.2.2.2 t 0 lt2 sv_0 c))]
/-- coins, of as many as there are -/
theorem sy_coins {M' : Nat} (hs : sy A H M B N n K P) (hM : M' ≤ 5) (hq : K' n = some (10, M')) (hK : ∀ a, a < n → K' a = K a) (hP : ∀ a, a < n → a ≠ A 0 → P' a = P a) (hP0 : ∀ k, k ≠ 4 → P' (A 0) k = P (A 0) k) (hP1 : P' (A 0) 4 = some n) :
    sy (fun t => if t = 4 then n else A t) H M' B N (n + 1) K' P' := by
  obtain ⟨n1, n2, n3, n4⟩ := id hs.1
  have hn' : sy_N H M' B N := ⟨n1, hM, n3, n4⟩
  refine sy_new hs hn' (by omega) (fun t => t == 4) (fun t h ht => ?_) (fun t h ht => ?_) (fun t u h g e => ?_) (fun t kd h e => ?_) hK (fun t k u e => ?_)
  · have h5 : t ≠ 4 := by simpa using h
    try dsimp only
    exact ⟨by rw [if_neg h5], (sy_KM h5).symm⟩
  · try dsimp only
    have h5 : t = 4 := by simpa using h
    rw [if_pos h5]; omega
  · have h5 : t = 4 := by simpa using h
    have g5 : u = 4 := by simpa using g
    omega
  · have h5 : t = 4 := by simpa using h
    subst h5
    try dsimp only
    rw [if_pos rfl, hq]
    exact e
  · try dsimp only
    obtain ⟨lt2, lu2⟩ := sy_live hs.1 e
    have h4 : t ≠ 4 := fun c => by
      subst c
      unfold sy_P at e
      rw [if_neg (by omega), if_neg (by omega), if_neg (by omega), if_neg (by omega), if_neg (by omega), if_neg (by omega), if_neg (by omega)] at e
      cases e
    rw [if_neg h4]
    have ll := sy_lt hs lt2
    have old := hs.2.2.1 t k u e
    by_cases c0 : t = 0 ∧ k = 4
    · obtain ⟨rfl, rfl⟩ := c0
      have e9 : u = 4 := (Option.some.inj e).symm
      subst e9
      rw [if_pos rfl]; exact hP1
    · have hu : u ≠ 4 := fun c => by
        subst c
        unfold sy_P at e
        repeat' split at e
        all_goals first | (cases e; done) | (cases e; omega) | (have := Option.some.inj e; omega)
      rw [if_neg hu, ← old]
      by_cases c1 : t = 0
      · subst c1
        rw [hP0 k (fun w => c0 ⟨rfl, w⟩)]
      · rw [hP _ ll.2 (fun c => c1 (hs.2.2.2 t 0 lt2 sv_0 c))]
end SH
