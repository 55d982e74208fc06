/-! ice, and when a leg opens: the day after tells a day less -/
section DQ
variable {H M B N d : Nat} {C J X Y : jj_I}
theorem fr_at {x : Int32} {k : Nat} : ∀ n, (k < n → it (fun l J => jj_u J (aIc 0) l (f_ib (J (aIc 0) l) x)) C n (aIc 0) k = f_ib (C (aIc 0) k) x) ∧ (n ≤ k → it (fun l J => jj_u J (aIc 0) l (f_ib (J (aIc 0) l) x)) C n (aIc 0) k = C (aIc 0) k)
  | 0 => ⟨fun h => absurd h (Nat.not_lt_zero _), fun _ => rfl⟩
  | n + 1 => by
    obtain ⟨h1, h2⟩ := fr_at (x := x) (k := k) n
    refine ⟨fun h => ?_, fun h => ?_⟩
    · show jj_u _ (aIc 0) n (f_ib (it _ C n (aIc 0) n) x) (aIc 0) k = _
      by_cases e : k = n
      · subst e; rw [jj_u_eq, h2 (Nat.le_refl _)]
      · rw [jj_u_nk e]; exact h1 (by omega)
    · show jj_u _ (aIc 0) n (f_ib (it _ C n (aIc 0) n) x) (aIc 0) k = _
      rw [jj_u_nk (by omega)]
      exact h2 (by omega)
theorem pd_ic {k : Nat} (hs : sf 0 H M B N C) (hk : sk 0 H M B N C) (hB : 0 < B) (h : k < H - 1) : f_pd 0 H B N d C (aIc 0) k = f_ib (C (aIc 0) k) (C (aWm 0) (d % 40)) := by
  obtain ⟨X, -, -, -, -, -, -, e⟩ := pd_boat (d := d) hs hk hB
  rw [e]
  exact (fr_at (H - 1)).1 h
theorem pd_fr {a : Nat} (hs : sf 0 H M B N C) (hk : sk 0 H M B N C) (h1 : a ≠ aIc 0) (h2 : a ≠ aR 0) (h3 : ∀ b, b < 10 → a ≠ aB 0 b ∧ a ≠ aBc 0 b) (h4 : ∀ m, m < 5 → a ≠ aM 0 m ∧ a ≠ aMt 0 m) (h5 : ∀ k, k < 30 → a ≠ aD 0 k) : f_pd 0 H B N d C a = C a := by
  have hB2 := hs.2.2.1.2
  have hN2 := hs.2.2.2.1.2
  refine pd_in (S := fun y => y a = C a) hs hk (fr_fr h1) (fun k y q1 q2 q3 q4 => ?_) (fun k y q1 q2 q3 q4 => (fr_gb (h3 k (by omega)).1 (h3 k (by omega)).2).trans q4) (fun k y q1 q2 q3 q4 => ?_) (fun y q4 => (jj_u_ne h2).trans q4)
  · obtain ⟨o, ho, eo⟩ := (q2.2.2.2.2.1 k q1).1
    exact (fr_py (h3 k (by omega)).1 (by rw [eo, nv_nI (by omega)]; exact (h4 o ho).1)).trans q4
  · obtain ⟨⟨o, ho, e0⟩, ⟨q, hq, e1⟩, -⟩ := q2.2.2.2.2.2 k q1
    exact (fr_se (h5 k (by omega)) (by rw [e1, nv_nI (by omega)]; exact (h4 q hq).1) (by rw [e0, nv_nI (by omega)]; exact (h4 o ho).1) (by rw [e1, nv_nI (by omega)]; exact (h4 q hq).2) (by rw [e0, nv_nI (by omega)]; exact (h4 o ho).2)).trans q4
theorem pd_wm (hs : sf 0 H M B N C) (hk : sk 0 H M B N C) : f_pd 0 H B N d C (aWm 0) = C (aWm 0) :=
  pd_fr hs hk (by simp only [aWm, aIc]; omega) (by simp only [aWm, aR]; omega) (fun b hb => ⟨by simp only [aWm, aB]; omega, by simp only [aWm, aBc]; omega⟩) (fun m hm => ⟨by simp only [aWm, aM]; omega, by simp only [aWm, aMt]; omega⟩) (fun k hk => by simp only [aWm, aD]; omega)
theorem ice_s {l : Nat} (hs : sf 0 H M B N C) (hk : sk 0 H M B N C) (hB : 0 < B) (hl : l < H - 1) : ∀ k, f_ice l d C (k + 1) = f_ice l (d + 1) (f_pd 0 H B N d C) k
  | 0 => by
    show f_ib (C (aIc 0) l) (C (aWm 0) ((d + 0) % 40)) = f_pd 0 H B N d C (aIc 0) l
    rw [pd_ic hs hk hB hl]
    rfl
  | k + 1 => by
    show f_ib (f_ice l d C (k + 1)) (C (aWm 0) ((d + (k + 1)) % 40)) = f_ib (f_ice l (d + 1) (f_pd 0 H B N d C) k) (f_pd 0 H B N d C (aWm 0) ((d + 1 + k) % 40))
    rw [ice_s hs hk hB hl k, pd_wm hs hk, show d + (k + 1) = d + 1 + k by omega]
theorem fs_at {g : Nat → Option Int32} {j : Nat} {r : Int32} (hj : g j = some r) : ∀ m k, k ≤ j → j < k + m → (∀ i, k ≤ i → i < j → g i = none) → f_fs g m k = r
  | 0, k, h1, h2, _ => absurd h1 (by omega)
  | m + 1, k, h1, h2, h3 => by
    by_cases e : k = j
    · subst e; exact f_fs_s hj
    · rw [f_fs_n (h3 k (Nat.le_refl _) (by omega))]
      exact fs_at hj m (k + 1) (by omega) (by omega) (fun i q1 q2 => h3 i (by omega) q2)
theorem fs_ex {g : Nat → Option Int32} : ∀ m k, f_fs g m k = -1 ∨ ∃ j, k ≤ j ∧ j < k + m ∧ g j = some (f_fs g m k) ∧ ∀ i, k ≤ i → i < j → g i = none
  | 0, k => Or.inl rfl
  | m + 1, k => by
    cases e : g k with
    | some r =>
      rw [f_fs_s e]
      exact Or.inr ⟨k, Nat.le_refl _, by omega, e, fun i h1 h2 => absurd h1 (by omega)⟩
    | none =>
      rw [f_fs_n e]
      rcases fs_ex (g := g) m (k + 1) with h | ⟨j, h1, h2, h3, h4⟩
      · exact Or.inl h
      · refine Or.inr ⟨j, by omega, by omega, h3, fun i q1 q2 => ?_⟩
        by_cases ei : i = k
        · subst ei; exact e
        · exact h4 i (by omega) q2
theorem i_1lt {j : Nat} (hj : j < 1000) : (1 : Int32) < nI j ↔ 1 < j := sn_il (a := 1) (by omega) (by omega)
theorem opn_s {l : Nat} (hs : sf 0 H M B N C) (hk : sk 0 H M B N C) (hB : 0 < B) (hl : l < H - 1) : (1 < f_fs (g_op l d C) 121 0 → f_fs (g_op l d C) 121 0 < 120 → f_fs (g_op l (d + 1) (f_pd 0 H B N d C)) 121 0 = f_fs (g_op l d C) 121 0 - 1) ∧ (f_fs (g_op l d C) 121 0 = 1 → f_pd 0 H B N d C (aIc 0) l ≤ 10) := by
  have hi := ice_s (d := d) hs hk hB hl
  have hj0 : ∀ k, f_ice l d C (k + 1) ≤ 10 → g_op l (d + 1) (f_pd 0 H B N d C) k = some (nI k) := fun k h => by
    unfold g_op
    rw [← hi k, if_pos h]
  have hj1 : ∀ k, g_op l d C (k + 1) = none → g_op l (d + 1) (f_pd 0 H B N d C) k = none := fun k h => by
    unfold g_op at h ⊢
    rw [← hi k]
    by_cases c : f_ice l d C (k + 1) ≤ 10
    · rw [if_pos c] at h; exact absurd h (by simp)
    · rw [if_neg c]
  have gs : ∀ j r, g_op l d C j = some r → f_ice l d C j ≤ 10 ∧ r = nI j := fun j r h => by
    unfold g_op at h
    by_cases c : f_ice l d C j ≤ 10
    · rw [if_pos c] at h
      exact ⟨c, (Option.some.inj h).symm⟩
    · rw [if_neg c] at h; exact absurd h (by simp)
  rcases fs_ex (g := g_op l d C) 121 0 with h | ⟨j, h1, h2, h3, h4⟩
  · rw [h]
    exact ⟨fun q => absurd q (by decide), fun q => absurd q (by decide)⟩
  · obtain ⟨c, er⟩ := gs _ _ h3
    rw [er]
    refine ⟨fun q _ => ?_, fun q => ?_⟩
    · have j1 := (i_1lt (by omega)).mp q
      obtain ⟨i, rfl⟩ : ∃ i, j = i + 1 := ⟨j - 1, by omega⟩
      rw [nI_pred, fs_at (hj0 i c) 121 0 (by omega) (by omega) (fun x q1 q2 => hj1 x (h4 (x + 1) (by omega) (by omega)))]
    · have j1 : j = 1 := by
        have h5 := congrArg nv q
        rw [nv_nI (by omega)] at h5
        exact h5
      subst j1
      have := hi 0
      show f_ice l (d + 1) (f_pd 0 H B N d C) 0 ≤ 10
      rw [← this]
      exact c
end DQ
