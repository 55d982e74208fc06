/-! the class's look-ahead answers and the model's -/
theorem ao_cg {op op2 : Nat → Bool} {d0 : Nat} : ∀ {n : Nat}, (∀ t, d0 < t → t ≤ d0 + n → op t = op2 t) → f_ao op d0 n = f_ao op2 d0 n
  | 0, _ => rfl
  | n + 1, e => by
    show (f_ao op d0 n && op (d0 + n + 1)) = (f_ao op2 d0 n && op2 (d0 + n + 1))
    rw [ao_cg (n := n) (fun t h1 h2 => e t h1 (by omega)), e (d0 + n + 1) (by omega) (by omega)]
theorem fw_cg {op op2 : Nat → Nat → Bool} {lg dur dur2 : Nat → Nat} {Q : Nat} (ho : ∀ l t, l < Q → t < 187 → op l t = op2 l t) : ∀ (m k day : Nat), (∀ i, k ≤ i → i < k + m → lg i < Q ∧ dur i ≤ 18 ∧ dur i = dur2 i) → day + 18 * m < 187 → f_fw op lg dur m k day = f_fw op2 lg dur2 m k day
  | 0, _, _, _, _ => rfl
  | m + 1, k, day, h, hd => by
    obtain ⟨h1, h2, h3⟩ := h k (Nat.le_refl _) (by omega)
    show (f_ao (op (lg k)) day (dur k) && f_fw op lg dur m (k + 1) (day + dur k)) = (f_ao (op2 (lg k)) day (dur2 k) && f_fw op2 lg dur2 m (k + 1) (day + dur2 k))
    rw [← h3, ao_cg (op2 := op2 (lg k)) (fun t t1 t2 => ho _ _ h1 (by omega)), fw_cg ho m (k + 1) (day + dur k) (fun i i1 i2 => h i (by omega) (by omega)) (by omega)]
theorem lt_cg {f g : Nat → Bool} : ∀ {m : Nat}, (∀ k, k < m → f k = g k) → f_lt f m = f_lt g m
  | 0, _ => rfl
  | m + 1, h => by
    simp only [f_lt]
    rw [h m (by omega), lt_cg (m := m) (fun k hk => h k (by omega))]
theorem latest_eq {H d a b : Nat} {C J : jj_I} (hJ : fIc d C (H - 1) 0 J) (hL : sfL 0 H C) (hH : H ≤ 8) (ha : a < H) (hb : b < H) : f_lt (fun wt => f_fwb a b wt J) 61 = f_lt (fun wt => m_gt d a b wt C) 61 := by
  refine lt_cg (fun wt hw => ?_)
  have hlw : f_lw a b < 8 := by unfold f_lw; split <;> omega
  unfold f_fwb m_gt
  refine fw_cg (Q := H - 1) (fun l t hl ht => ?_) _ _ _ (fun i _ hi => ?_) (by omega)
  · unfold f_opn m_op1
    rw [hJ.2.1 l hl t ht]
  · have hlg : f_lg a b i + 1 < H := by unfold f_lg; unfold f_lw at hi; split <;> split at hi <;> omega
    obtain ⟨t, t1, t2, et⟩ := hL _ hlg
    have e1 : J (aLd 0) = C (aLd 0) := hJ.1 _ (Or.inl (by decide))
    have e2 : f_du a b J i = f_du a b C i := by
      unfold f_du f_do
      rw [e1]
    refine ⟨by omega, ?_, e2⟩
    rw [e2]
    unfold f_du f_do
    by_cases h : a < b
    · rw [if_pos h, if_neg (by decide), et, nv_nI (by omega)]
      omega
    · rw [if_neg h, if_pos rfl, et, show (2 : Int32) = nI 2 from rfl, pk_mul, nv_nI (by omega)]
      omega
