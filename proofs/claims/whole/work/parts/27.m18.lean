/-! what the model tells is what the class tells -/
theorem sm_add {f g h : Nat → Int32} : ∀ {n : Nat}, (∀ k, k < n → h k = f k + g k) → sm h n = sm f n + sm g n
  | 0, _ => (by decide : (0 : Int32) = 0 + 0)
  | n + 1, e => by
    show sm h n + h n = (sm f n + f n) + (sm g n + g n)
    rw [sm_add (f := f) (g := g) (n := n) (fun k hk => e k (by omega)), e n (by omega)]
    rw [Int32.add_assoc, Int32.add_assoc, ← Int32.add_assoc (sm g n), Int32.add_comm (sm g n) (f n), Int32.add_assoc]
theorem sm_z {f : Nat → Int32} : ∀ {n : Nat}, (∀ k, k < n → f k = 0) → sm f n = 0
  | 0, _ => rfl
  | n + 1, e => by
    show sm f n + f n = 0
    rw [sm_z (n := n) (fun k hk => e k (by omega)), e n (by omega)]
    decide
theorem sm_one {f : Nat → Int32} {q : Nat} {x : Int32} : ∀ {n : Nat}, q < n → f q = x → (∀ k, k < n → k ≠ q → f k = 0) → sm f n = x
  | n + 1, hq, hx, h0 => by
    show sm f n + f n = x
    by_cases e : q = n
    · subst e
      rw [sm_z (fun k hk => h0 k (by omega) (by omega)), hx, Int32.zero_add]
    · rw [h0 n (by omega) (fun e2 => e e2.symm), Int32.add_zero]
      exact sm_one (n := n) (by omega) hx (fun k hk => h0 k (by omega))
theorem sm_swap {f : Nat → Nat → Int32} : ∀ {m n : Nat}, sm (fun i => sm (fun j => f i j) n) m = sm (fun j => sm (fun i => f i j) m) n
  | 0, n => by
    show 0 = sm (fun j => 0) n
    rw [sm_z (fun _ _ => rfl)]
  | m + 1, n => by
    show sm (fun i => sm (fun j => f i j) n) m + sm (fun j => f m j) n = _
    rw [sm_swap (m := m) (n := n)]
    exact (sm_add (fun k _ => rfl)).symm
theorem sm_ext {f : Nat → Int32} {n : Nat} : ∀ {m : Nat}, n ≤ m → (∀ k, n ≤ k → k < m → f k = 0) → sm f m = sm f n
  | 0, h, _ => by rw [show n = 0 by omega]
  | m + 1, h, e => by
    by_cases q : n = m + 1
    · rw [q]
    · show sm f m + f m = _
      rw [e m (by omega) (by omega), Int32.add_zero]
      exact sm_ext (by omega) (fun k h1 h2 => e k h1 (by omega))
/-- what no merchant has yet -/
def mz (M : Nat) (C I : jj_I) : Prop := ∀ m, M ≤ m → m < 5 → I 156 m = 0 ∧ ∀ k, k < 32 → I 157 (32 * m + k) = 0 ∧ C (aMt 0 m) k = 0
section MT
variable {w H M B N : Nat} {C I : jj_I}
theorem t1_eq {x : Int32} (h : ml w H M B N C I) : sm (m_t1 x I) B = sm (q_bl w x 1 C) B := sm_congr (fun k hk => by
  obtain ⟨h0, h1, h2, h3, h4, -⟩ := ml_hB h hk
  unfold m_t1 q_bl
  rw [h3, h4]
  by_cases e : C (aB w k) 4 = x ∧ C (aB w k) 3 = 1
  · rw [if_pos e, if_pos ⟨e.2, e.1⟩]
  · rw [if_neg e, if_neg (fun q => e ⟨q.2, q.1⟩)])
theorem t0_eq {x : Int32} (hs : sf w H M B N C) (h : ml w H M B N C I) : sm (m_t0 x I) B = sm (q_bl w x 1 C) B + sm (q_bl w x 0 C) B := sm_add (fun k hk => by
  obtain ⟨h0, h1, h2, h3, h4, -⟩ := ml_hB h hk
  obtain ⟨-, hp, -⟩ := hs.2.2.2.2.1 k hk
  unfold m_t0 q_bl
  rw [h3, h4]
  by_cases e : C (aB w k) 4 = x
  · rcases hp with p | p | p | p <;> rw [p] <;> simp [e] <;> decide
  · rw [if_neg (fun q => e q.1), if_neg (fun q => e q.2), if_neg (fun q => e q.2)]
    decide)
theorem ld_eq {b : Nat} (h : ml w H M B N C I) (hb : b < B) : m_ld b I = sm (C (aBc w b)) 4 := sm_congr (fun g hg => (ml_hB h hb).2.2.2.2.2.2.2.2 g hg)
theorem on_eq {x : Int32} (h : ml w H M B N C I) : sm (m_on x I) B = sm (q_bo w x C) B := sm_congr (fun k hk => by
  obtain ⟨h0, h1, h2, h3, h4, h5, h6, h7, h8⟩ := ml_hB h hk
  unfold m_on q_bo
  rw [h3]
  by_cases e : C (aB w k) 3 = 2
  · rw [h7 e]
  · rw [if_neg (fun q => e q.1), if_neg (fun q => e q.1)])
theorem af_eq {x : Int32} (h : ml w H M B N C I) : sm (m_af x I) B = sm (q_ba w x C) B := sm_congr (fun k hk => by
  obtain ⟨h0, h1, h2, h3, -⟩ := ml_hB h hk
  unfold m_af q_ba
  rw [h0, h3]
  by_cases e : C (aB w k) 0 = x
  · by_cases e2 : C (aB w k) 3 = 3
    · rw [if_pos e, if_pos e2, if_neg (fun q => q.2 e2)]
    · rw [if_pos e, if_neg e2, if_pos ⟨e, e2⟩]
  · rw [if_neg e, if_neg (fun q => e q.1)])
theorem co_eq {x : Int32} (h : ml w H M B N C I) : sm (m_co x I) B = sm (q_co w x C) B := sm_congr (fun k hk => by
  obtain ⟨h0, -⟩ := ml_hB h hk
  unfold m_co q_co
  rw [h0, ld_eq h hk])
theorem do_eq {x s : Int32} (h : ml w H M B N C I) : sm (m_do x s I) N = sm (q_do w x s C) N := sm_congr (fun k hk => by
  unfold m_do q_do
  rw [ml_hDebt h hk (show 1 < 7 by decide), ml_hDebt h hk (show 6 < 7 by decide)])
theorem ol_eq (h : ml w H M B N C I) (hH : H ≤ 8) : sm (m_ol I) (H - 1) = sm (q_ol w C) (H - 1) := sm_congr (fun k hk => jm_ol h (by omega))
theorem op_eq (h : ml w H M B N C I) (hk : sk w H M B N C) (z : mlZ M B N) : sm (m_op I) N = sm (fun m => sm (q_do w (nI m) 0 C) N) M := by
  obtain ⟨z1, z2, z3⟩ := z
  show _ = sm (fun m => sm (fun d => q_do w (nI m) 0 C d) N) M
  rw [sm_swap]
  refine sm_congr (fun d hd => ?_)
  obtain ⟨-, q, hq, eq⟩ := hk.2.2 d hd
  refine (sm_one hq ?_ (fun m hm hne => ?_)).symm
  · unfold m_op q_do
    rw [ml_hDebt h hd (show 6 < 7 by decide), eq]
    by_cases e : C (aD w d) 6 = 0
    · rw [if_pos e, if_pos ⟨rfl, e⟩]
    · rw [if_neg e, if_neg (fun x => e x.2)]
  · unfold q_do
    rw [if_neg (show ¬ (C (aD w d) 1 = nI m ∧ C (aD w d) 6 = 0) from fun e => hne (jm_n (e.1.symm.trans eq) (by omega) (by omega)))]
theorem coins_eq (h : ml 0 H M B N C I) (hz : mz M C I) (z : mlZ M B N) : sm (I 156) 5 = sm (fun m => C (aM 0 m) 0) M := by
  obtain ⟨z1, z2, z3⟩ := z
  rw [sm_ext (n := M) z1 (fun k h1 h2 => (hz k h1 h2).1)]
  exact sm_congr (fun m hm => ml_hCoin h hm)
theorem cf_eq {t : Nat} (hs : sf 0 H M B N C) (h : ml 0 H M B N C I) (hk : sk 0 H M B N C) (hz : mz M C I) : m_cf H M B N I t = q_cf H M B N C t := by
  unfold m_cf q_cf
  rw [ml_hDay h, h.1.1, h.1.2.1, h.1.2.2.1, h.1.2.2.2, hs.1.1, hs.2.1.1, hs.2.2.1.1, hs.2.2.2.1.1, jm_st h, jm_st h, op_eq h hk (sf_Z hs), coins_eq h hz (sf_Z hs), ol_eq h hs.1.2]
theorem hf_eq {j t : Nat} (hs : sf 0 H M B N C) (h : ml 0 H M B N C I) (hj : j < H) (ht : t < 8) : m_hf j H B I t = q_hf j H B C t := by
  have hH := hs.1.2
  unfold m_hf q_hf
  rw [ml_hBer h (show j < 8 by omega), t1_eq h, t0_eq hs h, jm_ia h hH hj, ml_hPr h (show 4 * j + (t - 4) < 32 by omega), Nat.mul_comm 4 j]
theorem lf_eq {j t : Nat} (h : ml 0 H M B N C I) (hj : j < 7) : m_lf j B I t = q_lf j B C t := by
  unfold m_lf q_lf
  rw [ml_hLeg h hj, ml_hIce h hj, jm_ol h hj, on_eq h]
theorem mf_eq {m t : Nat} (h : ml 0 H M B N C I) (hm : m < M) : m_mf m B N I t = q_mf m B N C t := by
  unfold m_mf q_mf
  rw [ml_hCoin h hm, af_eq h, do_eq h, do_eq h, co_eq h, sm_congr (f := fun k => I 157 (32 * m + k)) (g := C (aMt 0 m)) (fun k hk => ml_hStock h hm hk)]
theorem bf_eq {b t : Nat} (h : ml 0 H M B N C I) (hb : b < B) (ht : t < 12) : m_bf b I t = q_bf b C t := by
  obtain ⟨h0, h1, h2, h3, h4, h5, h6, h7, h8⟩ := ml_hB h hb
  have ht2 : t = 0 ∨ t = 1 ∨ t = 2 ∨ t = 3 ∨ t = 4 ∨ t = 5 ∨ t = 6 ∨ t = 7 ∨ t = 8 ∨ t = 9 ∨ t = 10 ∨ t = 11 := by omega
  unfold m_bf q_bf
  rcases ht2 with rfl | rfl | rfl | rfl | rfl | rfl | rfl | rfl | rfl | rfl | rfl | rfl
  · exact h0
  · exact h1
  · exact h2
  · exact h3
  · exact h4
  · exact h5
  · exact h6
  · exact ld_eq h hb
  · exact h8 0 (by decide)
  · exact h8 1 (by decide)
  · exact h8 2 (by decide)
  · exact h8 3 (by decide)
/-- only 'thrown' written -/
theorem ml_th {v : Int32} (h : ml w H M B N C I) (z : mlZ M B N) : ml w H M B N C (jj_u I 150 0 v) := ml_cg (fun _ _ _ => rfl) (fun a h1 h2 => ⟨fun e => by subst e; exact ⟨jj_u_nk (by decide), jj_u_nk (by decide), jj_u_nk (by decide), jj_u_nk (by decide)⟩, fun e => jj_u_ne e⟩) z h
theorem mz_th {v : Int32} (h : mz M C I) : mz M C (jj_u I 150 0 v) := fun m h1 h2 => by
  rw [jj_u_ne (by decide), jj_u_ne (by decide)]
  exact h m h1 h2
end MT
