/-! the law's own river when it is new -/
def sA0 (a n t : Nat) : Nat := if t = 0 then a else if t = 1 then n else if t = 2 then n + 2 else if t = 3 then n + 3 else if t = 4 then n + 4 else if t = 5 then n + 1 else if t = 6 then n + 51 else if t = 7 then n + 52 else if t = 8 then n + 5 else if t < 105 then n + 6 + 9 * (t - 100) else n + 7 + 9 * ((t - 110) / 8) + (t - 110) % 8
theorem sA0_M {a n m : Nat} (h : m < 5) : sA0 a n (100 + m) = n + 6 + 9 * m := by
  unfold sA0
  rw [if_neg (by omega), if_neg (by omega), if_neg (by omega), if_neg (by omega), if_neg (by omega), if_neg (by omega), if_neg (by omega), if_neg (by omega), if_neg (by omega), if_pos (by omega), show 100 + m - 100 = m by omega]
theorem sA0_S {a n m h : Nat} (hm : m < 5) (hh : h < 8) : sA0 a n (110 + 8 * m + h) = n + 7 + 9 * m + h := by
  unfold sA0
  rw [if_neg (by omega), if_neg (by omega), if_neg (by omega), if_neg (by omega), if_neg (by omega), if_neg (by omega), if_neg (by omega), if_neg (by omega), if_neg (by omega), if_neg (by omega), show 110 + 8 * m + h - 110 = 8 * m + h by omega, show (8 * m + h) / 8 = m by omega, show (8 * m + h) % 8 = h by omega]
theorem sy_K0_cases {t : Nat} (h : sy_K 0 0 0 0 t ≠ none) : t < 9 ∨ (∃ m, m < 5 ∧ t = 100 + m) ∨ ∃ m k, m < 5 ∧ k < 8 ∧ t = 110 + 8 * m + k := by
  by_cases h1 : t < 9
  · exact Or.inl h1
  · by_cases h2 : 100 ≤ t ∧ t < 105
    · exact Or.inr (Or.inl ⟨t - 100, by omega, by omega⟩)
    · by_cases h3 : 110 ≤ t ∧ t < 150
      · exact Or.inr (Or.inr ⟨(t - 110) / 8, (t - 110) % 8, by omega, by omega, by omega⟩)
      · exfalso
        apply h
        unfold sy_K
        rw [if_neg (by omega), if_neg (by omega), if_neg (by omega), if_neg (by omega), if_neg (by omega), if_neg (by omega), if_neg (by omega), if_neg (by omega), if_neg (by omega), if_neg (by omega), if_neg (by omega), if_neg (by omega), if_neg (by omega), if_neg (by omega), if_neg (by omega)]
theorem sA0_b {a n t : Nat} (ha : a < n) (h : sy_K 0 0 0 0 t ≠ none) : (t = 0 ∧ sA0 a n t = a) ∨ (t ≠ 0 ∧ n ≤ sA0 a n t ∧ sA0 a n t < n + 53) := by
  rcases sy_K0_cases h with h | ⟨m, hm, rfl⟩ | ⟨m, k, hm, hk, rfl⟩
  · have : t = 0 ∨ t = 1 ∨ t = 2 ∨ t = 3 ∨ t = 4 ∨ t = 5 ∨ t = 6 ∨ t = 7 ∨ t = 8 := by omega
    rcases this with rfl | rfl | rfl | rfl | rfl | rfl | rfl | rfl | rfl <;> simp [sA0]
  · rw [sA0_M hm]; omega
  · rw [sA0_S hm hk]; omega
theorem sA0_inj {a n t u : Nat} (ha : a < n) (ht : sy_K 0 0 0 0 t ≠ none) (hu : sy_K 0 0 0 0 u ≠ none) (e : sA0 a n t = sA0 a n u) : t = u := by
  have key : ∀ v, v < 9 → ∃ d, sA0 a n v = (if v = 0 then a else n + d) ∧ d = (if v = 1 then 0 else if v = 2 then 2 else if v = 3 then 3 else if v = 4 then 4 else if v = 5 then 1 else if v = 6 then 51 else if v = 7 then 52 else 5) := fun v hv => by
    have : v = 0 ∨ v = 1 ∨ v = 2 ∨ v = 3 ∨ v = 4 ∨ v = 5 ∨ v = 6 ∨ v = 7 ∨ v = 8 := by omega
    rcases this with rfl | rfl | rfl | rfl | rfl | rfl | rfl | rfl | rfl <;> exact ⟨_, by simp [sA0], rfl⟩
  have k5 : ∀ v, v < 9 → v ≠ 0 → sA0 a n v ≤ n + 5 ∨ n + 51 ≤ sA0 a n v := fun v hv h0 => by
    obtain ⟨d, h1, h2⟩ := key v hv
    rw [h1, if_neg h0]
    repeat' split at h2
    all_goals omega
  rcases sy_K0_cases ht with h | ⟨m, hm, rfl⟩ | ⟨m, k, hm, hk, rfl⟩ <;> rcases sy_K0_cases hu with g | ⟨m', hm', rfl⟩ | ⟨m', k', hm', hk', rfl⟩
  · obtain ⟨d, h1, h2⟩ := key t h
    obtain ⟨d', g1, g2⟩ := key u g
    rw [h1, g1] at e
    have : t = 0 ∨ t = 1 ∨ t = 2 ∨ t = 3 ∨ t = 4 ∨ t = 5 ∨ t = 6 ∨ t = 7 ∨ t = 8 := by omega
    have : u = 0 ∨ u = 1 ∨ u = 2 ∨ u = 3 ∨ u = 4 ∨ u = 5 ∨ u = 6 ∨ u = 7 ∨ u = 8 := by omega
    subst h2
    subst g2
    rcases ‹t = 0 ∨ _› with rfl | rfl | rfl | rfl | rfl | rfl | rfl | rfl | rfl <;> rcases ‹u = 0 ∨ _› with rfl | rfl | rfl | rfl | rfl | rfl | rfl | rfl | rfl <;> first | rfl | (simp at e; done) | (simp at e; omega)
  · by_cases h0 : t = 0
    · subst h0; rw [sA0_M hm'] at e; simp [sA0] at e; omega
    · have := k5 t h h0; rw [sA0_M hm'] at e; omega
  · by_cases h0 : t = 0
    · subst h0; rw [sA0_S hm' hk'] at e; simp [sA0] at e; omega
    · have := k5 t h h0; rw [sA0_S hm' hk'] at e; omega
  · by_cases h0 : u = 0
    · subst h0; rw [sA0_M hm] at e; simp [sA0] at e; omega
    · have := k5 u g h0; rw [sA0_M hm] at e; omega
  · rw [sA0_M hm, sA0_M hm'] at e; omega
  · rw [sA0_M hm, sA0_S hm' hk'] at e; omega
  · by_cases h0 : u = 0
    · subst h0; rw [sA0_S hm hk] at e; simp [sA0] at e; omega
    · have := k5 u g h0; rw [sA0_S hm hk] at e; omega
  · rw [sA0_S hm hk, sA0_M hm'] at e; omega
  · rw [sA0_S hm hk, sA0_S hm' hk'] at e; omega
theorem sy_init {a n : Nat} {K1 : jj_K} {P1 : jj_P} (ha : 150 ≤ a ∧ a < n) (ka : K1 a = some (7, 0)) (k0 : K1 n = some (10, 40)) (k1 : K1 (n + 1) = some (15, 0)) (k2 : K1 (n + 2) = some (10, 8)) (k3 : K1 (n + 3) = some (10, 8)) (k4 : K1 (n + 4) = some (10, 0)) (k5 : K1 (n + 5) = some (16, 5)) (k6 : K1 (n + 51) = some (17, 0)) (k7 : K1 (n + 52) = some (15, 0))
    (km : ∀ m, m < 5 → K1 (n + 6 + 9 * m) = some (15, 8)) (ks : ∀ m k, m < 5 → k < 8 → K1 (n + 7 + 9 * m + k) = some (10, 4))
    (p0 : P1 a 0 = some n) (p1 : P1 a 1 = some (n + 1)) (p2 : P1 a 2 = some (n + 2)) (p3 : P1 a 3 = some (n + 3)) (p4 : P1 a 4 = some (n + 4)) (p5 : P1 a 5 = some (n + 5)) (p6 : P1 a 6 = some (n + 51)) (p7 : P1 a 7 = some (n + 52)) (pm : ∀ m, m < 5 → P1 (n + 5) m = some (n + 6 + 9 * m)) (ps : ∀ m k, m < 5 → k < 8 → P1 (n + 6 + 9 * m) k = some (n + 7 + 9 * m + k)) : sy (sA0 a n) 0 0 0 0 (n + 53) K1 P1 := by
  have hn : sy_N 0 0 0 0 := ⟨by decide, by decide, by decide, by decide⟩
  refine ⟨hn, fun t kd e => ?_, fun t k u e => ?_, fun t u ht hu e => sA0_inj ha.2 ht hu e⟩
  · have hl : sy_K 0 0 0 0 t ≠ none := by rw [e]; simp
    refine ⟨by rcases sA0_b ha.2 hl with q | q <;> omega, ?_⟩
    rcases sy_K0_cases hl with h | ⟨m, hm, rfl⟩ | ⟨m, k, hm, hk, rfl⟩
    · have : t = 0 ∨ t = 1 ∨ t = 2 ∨ t = 3 ∨ t = 4 ∨ t = 5 ∨ t = 6 ∨ t = 7 ∨ t = 8 := by omega
      rcases this with rfl | rfl | rfl | rfl | rfl | rfl | rfl | rfl | rfl <;> cases e
      · exact ka
      · exact k0
      · exact k2
      · exact k3
      · exact k4
      · exact k1
      · exact k6
      · exact k7
      · exact k5
    · rw [sA0_M hm, km m hm, ← e, sy_eM hn hm]
    · rw [sA0_S hm hk, ks m k hm hk, ← e, sy_eS hn hm hk]
  · obtain ⟨lt, lu⟩ := sy_live hn e
    rcases sy_K0_cases lt with h | ⟨m, hm, rfl⟩ | ⟨m, k', hm, hk, rfl⟩
    · have : t = 0 ∨ t = 1 ∨ t = 2 ∨ t = 3 ∨ t = 4 ∨ t = 5 ∨ t = 6 ∨ t = 7 ∨ t = 8 := by omega
      rcases this with rfl | rfl | rfl | rfl | rfl | rfl | rfl | rfl | rfl
      · show P1 a k = _
        unfold sy_P at e
        rw [if_pos rfl] at e
        by_cases c0 : k = 0
        · subst c0; cases e; exact p0
        · rw [if_neg c0] at e
          by_cases c1 : k = 1
          · subst c1; cases e; exact p1
          · rw [if_neg c1] at e
            by_cases c2 : k = 2
            · subst c2; cases e; exact p2
            · rw [if_neg c2] at e
              by_cases c3 : k = 3
              · subst c3; cases e; exact p3
              · rw [if_neg c3] at e
                by_cases c4 : k = 4
                · subst c4; cases e; exact p4
                · rw [if_neg c4] at e
                  by_cases c5 : k = 5
                  · subst c5; cases e; exact p5
                  · rw [if_neg c5] at e
                    by_cases c6 : k = 6
                    · subst c6; cases e; exact p6
                    · rw [if_neg c6] at e
                      by_cases c7 : k = 7
                      · subst c7; cases e; exact p7
                      · rw [if_neg c7] at e; cases e
      all_goals first | (simp [sy_P] at e; done) | skip
      · unfold sy_P at e
        rw [if_neg (by decide), if_neg (by decide), if_neg (by decide), if_neg (by decide), if_pos rfl] at e
        split at e
        · cases e
          rw [sA0_M (by assumption)]
          exact pm k (by assumption)
        · cases e
    · unfold sy_P at e
      rw [if_neg (by omega), if_neg (by omega), if_neg (by omega), if_neg (by omega), if_neg (by omega), if_neg (by omega), if_pos (by omega)] at e
      split at e
      · cases e
        rw [sA0_M hm, show 100 + m - 100 = m by omega, sA0_S hm (by assumption)]
        exact ps m k hm (by assumption)
      · cases e
    · unfold sy_P at e
      rw [if_neg (by omega), if_neg (by omega), if_neg (by omega), if_neg (by omega), if_neg (by omega), if_neg (by omega), if_neg (by omega)] at e
      cases e
