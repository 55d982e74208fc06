/-! the law's own river grows -/
section SG
variable {A A' : Nat → Nat} {H M B N n n' : Nat} {K K' : jj_K} {P P' : jj_P} {C C' I I' : jj_I}
theorem sy_lt (hs : sy A H M B N n K P) {t : Nat} (ht : sy_K H M B N t ≠ none) : 150 ≤ A t ∧ A t < n := by
  cases h : sy_K H M B N t with
  | none => exact absurd h ht
  | some kd => exact (hs.2.1 t kd h).1
theorem sy_KH {t : Nat} (h5 : t ≠ 5) (h : t ≠ 10 + H) : sy_K (H + 1) M B N t = sy_K H M B N t := by
  have e : (10 ≤ t ∧ t < 10 + (H + 1)) = (10 ≤ t ∧ t < 10 + H) := propext ⟨fun q => ⟨q.1, by omega⟩, fun q => ⟨q.1, by omega⟩⟩
  unfold sy_K
  simp only [h5, if_false, e]
theorem sy_KM {t : Nat} {M' : Nat} (h4 : t ≠ 4) : sy_K H M' B N t = sy_K H M B N t := by
  unfold sy_K
  simp only [h4, if_false]
theorem sy_KN {t : Nat} (h7 : t ≠ 7) (h : t ≠ 60 + N) : sy_K H M B (N + 1) t = sy_K H M B N t := by
  have e : (60 ≤ t ∧ t < 60 + (N + 1)) = (60 ≤ t ∧ t < 60 + N) := propext ⟨fun q => ⟨q.1, by omega⟩, fun q => ⟨q.1, by omega⟩⟩
  unfold sy_K
  simp only [h7, if_false, e]
theorem sy_KB {t : Nat} (h6 : t ≠ 6) (h : t ≠ 20 + B) (h2 : t ≠ 40 + B) : sy_K H M (B + 1) N t = sy_K H M B N t := by
  have e : (20 ≤ t ∧ t < 20 + (B + 1)) = (20 ≤ t ∧ t < 20 + B) := propext ⟨fun q => ⟨q.1, by omega⟩, fun q => ⟨q.1, by omega⟩⟩
  have e2 : (40 ≤ t ∧ t < 40 + (B + 1)) = (40 ≤ t ∧ t < 40 + B) := propext ⟨fun q => ⟨q.1, by omega⟩, fun q => ⟨q.1, by omega⟩⟩
  unfold sy_K
  simp only [h6, if_false, e, e2]
theorem sy_PH {t k : Nat} (h5 : t ≠ 5) : sy_P (H + 1) B N t k = sy_P H B N t k := by
  unfold sy_P
  simp only [h5, if_false]
theorem sy_PN {t k : Nat} (h7 : t ≠ 7) : sy_P H B (N + 1) t k = sy_P H B N t k := by
  unfold sy_P
  simp only [h7, if_false]
theorem sy_PB {t k : Nat} (h6 : t ≠ 6) (h : t ≠ 20 + B) : sy_P H (B + 1) N t k = sy_P H B N t k := by
  have e : (20 ≤ t ∧ t < 20 + (B + 1)) = (20 ≤ t ∧ t < 20 + B) := propext ⟨fun q => ⟨q.1, by omega⟩, fun q => ⟨q.1, by omega⟩⟩
  unfold sy_P
  simp only [h6, if_false, e]
/-- the cells that a reference of the river leads to are the river's -/
theorem sy_live (hn : sy_N H M B N) {t k u : Nat} (e : sy_P H B N t k = some u) : sy_K H M B N t ≠ none ∧ sy_K H M B N u ≠ none := by
  obtain ⟨n1, n2, n3, n4⟩ := id hn
  unfold sy_P at e
  by_cases c0 : t = 0
  · subst c0
    rw [if_pos rfl] at e
    refine ⟨sv_0, ?_⟩
    repeat' split at e
    all_goals first | (cases e; done) | skip
    all_goals cases e
    all_goals first | exact sv_1 | exact sv_5 | exact sv_2 | exact sv_3 | exact sv_4 | exact sv_8 | exact sv_6 | exact sv_7
  · rw [if_neg c0] at e
    by_cases c5 : t = 5
    · subst c5
      rw [if_pos rfl] at e
      split at e
      · cases e; exact ⟨sv_5, sv_H hn (by assumption)⟩
      · cases e
    · rw [if_neg c5] at e
      by_cases c6 : t = 6
      · subst c6
        rw [if_pos rfl] at e
        split at e
        · cases e; exact ⟨sv_6, sv_B hn (by assumption)⟩
        · cases e
      · rw [if_neg c6] at e
        by_cases c7 : t = 7
        · subst c7
          rw [if_pos rfl] at e
          split at e
          · cases e; exact ⟨sv_7, sv_D hn (by assumption)⟩
          · cases e
        · rw [if_neg c7] at e
          by_cases c8 : t = 8
          · subst c8
            rw [if_pos rfl] at e
            split at e
            · cases e; exact ⟨sv_8, sv_M hn (by assumption)⟩
            · cases e
          · rw [if_neg c8] at e
            by_cases cB : 20 ≤ t ∧ t < 20 + B
            · rw [if_pos cB] at e
              obtain ⟨b, rfl⟩ : ∃ b, t = 20 + b := ⟨t - 20, by omega⟩
              split at e
              · cases e
                rw [show 20 + b + 20 = 40 + b by omega]
                exact ⟨sv_B hn (by omega), sv_G hn (by omega)⟩
              · cases e
            · rw [if_neg cB] at e
              by_cases cM : 100 ≤ t ∧ t < 105
              · rw [if_pos cM] at e
                obtain ⟨m, rfl⟩ : ∃ m, t = 100 + m := ⟨t - 100, by omega⟩
                split at e
                · cases e
                  rw [show 100 + m - 100 = m by omega]
                  exact ⟨sv_M hn (by omega), sv_S hn (by omega) (by assumption)⟩
                · cases e
              · rw [if_neg cM] at e
                cases e
/-- the river's rows as a whole: some of them new -/
theorem sy_new {H' M' B' N' : Nat} (hs : sy A H M B N n K P) (hn' : sy_N H' M' B' N') (hnn : n ≤ n') (new : Nat → Bool) (hA : ∀ t, new t = false → sy_K H' M' B' N' t ≠ none → A' t = A t ∧ sy_K H M B N t = sy_K H' M' B' N' t) (hA2 : ∀ t, new t = true → sy_K H' M' B' N' t ≠ none → n ≤ A' t ∧ A' t < n')
    (hA3 : ∀ t u, new t = true → new u = true → A' t = A' u → t = u) (hK : ∀ t kd, new t = true → sy_K H' M' B' N' t = some kd → K' (A' t) = some kd) (hK2 : ∀ a, a < n → K' a = K a) (hP : ∀ t k u, sy_P H' B' N' t k = some u → P' (A' t) k = some (A' u)) : sy A' H' M' B' N' n' K' P' := by
  refine ⟨hn', fun t kd e => ?_, hP, fun t u ht hu e => ?_⟩
  · cases h : new t with
    | false =>
      obtain ⟨q1, q2⟩ := hA t h (by rw [e]; simp)
      have := hs.2.1 t kd (q2.trans e)
      rw [q1]
      exact ⟨by omega, by rw [hK2 _ this.1.2]; exact this.2⟩
    | true =>
      have q := hA2 t h (by rw [e]; simp)
      have := (hs.2.1 0 _ sy_e0).1
      exact ⟨by omega, hK t kd h e⟩
  · cases h : new t with
    | false =>
      obtain ⟨q1, q2⟩ := hA t h ht
      have lt := sy_lt hs (t := t) (by rw [q2]; exact ht)
      cases g : new u with
      | false =>
        obtain ⟨p1, p2⟩ := hA u g hu
        rw [q1, p1] at e
        exact hs.2.2.2 t u (by rw [q2]; exact ht) (by rw [p2]; exact hu) e
      | true =>
        have := hA2 u g hu
        omega
    | true =>
      cases g : new u with
      | false =>
        obtain ⟨p1, p2⟩ := hA u g hu
        have lt := sy_lt hs (t := u) (by rw [p2]; exact hu)
        have := hA2 t h ht
        omega
      | true => exact hA3 t u h g e
/-- one harbour more: its row is the cell q, the rows' row n -/
theorem sy_addH {q : Nat} (hs : sy A H M B N q K P) (hH : H < 8) (hq : K' q = some (10, 5)) (hq2 : K' (q + 1) = some (15, H + 1)) (hK : ∀ a, a < q → K' a = K a) (hP : ∀ a, a < q → a ≠ A 0 → P' a = P a) (hP0 : ∀ k, k ≠ 1 → P' (A 0) k = P (A 0) k) (hP1 : P' (A 0) 1 = some (q + 1)) (hPn : ∀ k, k < H → P' (q + 1) k = P (A 5) k) (hPl : P' (q + 1) H = some q) :
    sy (fun t => if t = 5 then q + 1 else if t = 10 + H then q else A t) (H + 1) M B N (q + 2) K' P' := by
  obtain ⟨n1, n2, n3, n4⟩ := id hs.1
  have hn' : sy_N (H + 1) M B N := ⟨by omega, n2, n3, n4⟩
  refine sy_new hs hn' (by omega) (fun t => t == 5 || t == 10 + H) (fun t h ht => ?_) (fun t h ht => ?_) (fun t u h g e => ?_) (fun t kd h e => ?_) hK (fun t k u e => ?_)
  · have h5 : t ≠ 5 := fun e => by subst e; simp at h
    have h6 : t ≠ 10 + H := fun e => by subst e; simp at h
    try dsimp only
    exact ⟨by rw [if_neg h5, if_neg h6], (sy_KH h5 h6).symm⟩
  · try dsimp only
    by_cases h5 : t = 5
    · rw [if_pos h5]; omega
    · rw [if_neg h5]
      have h6 : t = 10 + H := by simpa [h5] using h
      rw [if_pos h6]; omega
  · try dsimp only at e
    by_cases h5 : t = 5
    · by_cases g5 : u = 5
      · omega
      · rw [if_pos h5, if_neg g5, if_pos (by simpa [g5] using g)] at e; omega
    · have h6 : t = 10 + H := by simpa [h5] using h
      by_cases g5 : u = 5
      · rw [if_neg h5, if_pos h6, if_pos g5] at e; omega
      · have g6 : u = 10 + H := by simpa [g5] using g
        omega
  · try dsimp only
    by_cases h5 : t = 5
    · rw [if_pos h5, hq2]
      subst h5
      exact e
    · have h6 : t = 10 + H := by simpa [h5] using h
      rw [if_neg h5, if_pos h6, hq]
      subst h6
      rw [sy_eH hn' (by omega)] at e
      exact e
  · obtain ⟨lt, lu⟩ := sy_live (M := M) hn' e
    try dsimp only
    by_cases h5 : t = 5
    · subst h5
      rw [if_pos rfl]
      have e9 : k < H + 1 ∧ u = 10 + k := by
        unfold sy_P at e
        rw [if_neg (by decide), if_pos rfl] at e
        split at e
        · cases e; exact ⟨by assumption, rfl⟩
        · cases e
      obtain ⟨k1, rfl⟩ := e9
      rw [if_neg (by omega)]
      by_cases c : k = H
      · subst c; rw [if_pos rfl]; exact hPl
      · rw [if_neg (by omega), hPn k (by omega)]
        exact sy_qH hs (by omega)
    · rw [if_neg h5]
      have h6 : t ≠ 10 + H := fun c => by
        subst c
        unfold sy_P at e
        rw [if_neg (by omega), if_neg (by omega), if_neg (by omega), if_neg (by omega), if_neg (by omega), if_neg (by omega), if_neg (by omega)] at e
        cases e
      rw [if_neg h6]
      rw [sy_PH h5] at e
      have lt2 : sy_K H M B N t ≠ none := (sy_live hs.1 e).1
      have ll := sy_lt hs lt2
      have old := hs.2.2.1 t k u e
      by_cases c0 : t = 0
      · subst c0
        by_cases c1 : k = 1
        · subst c1
          have e9 : u = 5 := (Option.some.inj e).symm
          subst e9
          rw [if_pos rfl]; exact hP1
        · rw [hP0 k c1, old]
          have hu : u ≠ 5 ∧ u ≠ 10 + H := by
            unfold sy_P at e
            rw [if_pos rfl] at e
            repeat' split at e
            all_goals first | (cases e; done) | (exact absurd rfl (by assumption)) | (cases e; omega)
          rw [if_neg hu.1, if_neg hu.2]
      · rw [hP _ ll.2 (fun c => c0 (hs.2.2.2 t 0 lt2 sv_0 c)), old]
        have hu : u ≠ 5 ∧ u ≠ 10 + H := by
          unfold sy_P at e
          rw [if_neg c0, if_neg h5] at e
          repeat' split at e
          all_goals first | (cases e; done) | (cases e; omega)
        rw [if_neg hu.1, if_neg hu.2]
end SG
