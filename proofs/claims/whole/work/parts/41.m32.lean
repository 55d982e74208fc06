/-! the copy, beside the model; what is kept lies apart -/
section CPY
variable {H M B N n : Nat} {C I : jj_I} {K : jj_K} {P : jj_P}
theorem cp_row {w1 k : Nat} (hs : sf 0 H M B N C) (h : 73 ≤ w1 ∧ w1 ≤ 78) : f_cpW M B N C w1 k = f_cpR C w1 k := by
  rw [cp_1 hs.2.1.2 hs.2.2.2.1.2 hs.2.2.1.2 h]
theorem ml_cp (hs : sf 0 H M B N C) (h : ml 0 H M B N C I) : ml 1 H M B N (f_cpW M B N C) I := by
  have hM := hs.2.1.2
  have hB := hs.2.2.1.2
  have hN := hs.2.2.2.1.2
  refine ⟨h.1, ?_, fun q hq => ?_, fun q hq => ?_, fun q hq => ?_, fun q hq => ?_, fun q hq => ?_, fun m hm => ?_, fun m hm k hk => ?_, fun b hb => ?_, fun d hd k hk => ?_⟩
  · rw [cp_row hs (by decide), cpR_R.1]; exact ml_hDay h
  · rw [cp_row hs (by decide), cpR_Wm hq]; exact ml_hWarm h hq
  · rw [cp_row hs (by decide), cpR_Ld hq]; exact ml_hLeg h hq
  · rw [cp_row hs (by decide), cpR_Be hq]; exact ml_hBer h hq
  · rw [cp_row hs (by decide), cpR_Pr hq]; exact ml_hPr h hq
  · rw [cp_row hs (by decide), cpR_Ic hq]; exact ml_hIce h hq
  · rw [cp_M hM hN hB hm]; exact ml_hCoin h hm
  · rw [cp_Mt hM hN hB hm hk]; exact ml_hStock h hm hk
  · obtain ⟨h0, h1, h2, h3, h4, h5, h6, h7, h8⟩ := ml_hB h hb
    have e : ∀ s, s < 8 → f_cpW M B N C (aB 1 b) s = C (aB 0 b) s := fun s hs8 => cp_B hM hN hB hb hs8
    refine ⟨?_, ?_, ?_, ?_, ?_, ?_, ?_, fun q => ?_, fun g hg => ?_⟩
    · rw [e 0 (by decide)]; exact h0
    · rw [e 1 (by decide)]; exact h1
    · rw [e 2 (by decide)]; exact h2
    · rw [e 3 (by decide)]; exact h3
    · rw [e 4 (by decide)]; exact h4
    · rw [e 6 (by decide)]; exact h5
    · rw [e 7 (by decide)]; exact h6
    · rw [e 3 (by decide)] at q; rw [e 5 (by decide)]; exact h7 q
    · rw [cp_Bc hM hN hB hb hg]; exact h8 g hg
  · rw [cp_D hM hN hB hd hk]; exact ml_hDebt h hd hk
theorem sk_cp (hs : sf 0 H M B N C) (h : sk 0 H M B N C) : sk 1 H M B N (f_cpW M B N C) := by
  have hM := hs.2.1.2
  have hB := hs.2.2.1.2
  have hN := hs.2.2.2.1.2
  have hH := hs.1.2
  obtain ⟨h1, h2, h3⟩ := h
  refine ⟨fun l hl => ?_, fun b hb => ⟨fun e => ?_, ?_⟩, fun d hd => ?_⟩
  · rw [cp_row hs (by decide), cpR_Ld (show l < 7 by omega)]; exact h1 l hl
  · rw [cp_B hM hN hB hb (by decide)] at e ⊢; exact (h2 b hb).1 e
  · rw [cp_B hM hN hB hb (by decide)]; exact (h2 b hb).2
  · rw [cp_D hM hN hB hd (by decide), cp_D hM hN hB hd (by decide)]; exact h3 d hd
theorem sfE_cp (hs : sf 0 H M B N C) (h : sfE 0 H C) : sfE 1 H (f_cpW M B N C) := fun j hj => by
  have hH := hs.1.2
  rw [cp_row hs (by decide), cpR_Be (show j < 8 by omega)]
  exact h j hj
theorem cp_day {d : Nat} (hs : sf 0 H M B N C) (hd : C (aR 0) 0 = nI d) : f_cpW M B N C (aR 1) 0 = nI d := by
  rw [cp_row hs (by decide), cpR_R.1]
  exact hd
theorem ly_k7 (h : ly K P) (hn : 161 ≤ n) : ly (kK n K) (kP n P) := by
  unfold kK kP
  exact ly_uPu (ly_uPu (ly_uPu (ly_uPu (ly_uPu (ly_uPu (ly_uPR (ly_uK (ly_uK (ly_uK (ly_uK (ly_uK (ly_uK (ly_uK h hn) (by omega)) (by omega)) (by omega)) (by omega)) (by omega)) (by omega)) hn) hn) hn) hn) hn) hn) hn
theorem kK_o {a : Nat} (h : a < n ∨ n + 7 ≤ a) : kK n K a = K a := by
  unfold kK jj_uK
  rw [if_neg (by omega), if_neg (by omega), if_neg (by omega), if_neg (by omega), if_neg (by omega), if_neg (by omega), if_neg (by omega)]
theorem kP_o {a : Nat} (h : a ≠ n) : kP n P a = P a := by
  unfold kP
  rw [jj_u_ne h, jj_u_ne h, jj_u_ne h, jj_u_ne h, jj_u_ne h, jj_u_ne h, jj_uR_ne h]
theorem kK_k : kK n K n = some (15, 6) ∧ kK n K (n + 1) = some (10, 8) ∧ kK n K (n + 2) = some (10, 5) ∧ kK n K (n + 3) = some (10, 160) ∧ kK n K (n + 4) = some (10, 120) ∧ kK n K (n + 5) = some (10, 210) ∧ kK n K (n + 6) = some (10, 1) := by
  refine ⟨?_, ?_, ?_, ?_, ?_, ?_, ?_⟩ <;> simp [kK, jj_uK]
theorem kP_k : kP n P n 0 = some (n + 1) ∧ kP n P n 1 = some (n + 2) ∧ kP n P n 2 = some (n + 3) ∧ kP n P n 3 = some (n + 4) ∧ kP n P n 4 = some (n + 5) ∧ kP n P n 5 = some (n + 6) := by
  refine ⟨?_, ?_, ?_, ?_, ?_, ?_⟩ <;> simp [kP, jj_u]
/-- brought back: as it was -/
theorem bb_ok {S J : jj_I} (hn : 161 ≤ n) (z : mlZ M B N) (hm : ml 0 H M B N C S) (hk : kR n S J) (o : ∀ a, a < 155 → J a = S a) : ml 0 H M B N C (f_bb n J) ∧ ∀ a, a < 155 ∨ 161 ≤ a → f_bb n J a = J a := by
  obtain ⟨k1, k2, k3, k4, k5, k6⟩ := hk
  have r : ∀ a, a < 155 ∨ 161 ≤ a → f_bb n J a = J a := fun a ha => by
    unfold f_bb
    rw [jj_uR_ne (by omega), jj_uR_ne (by omega), jj_uR_ne (by omega), jj_uR_ne (by omega), jj_uR_ne (by omega), jj_uR_ne (by omega)]
  have c : ∀ (f g : Nat → Int32) (len k : Nat), k < len → va_cpy f g 0 0 len k = f k := fun f g len k hk => by
    rw [pk_cpy_in (Nat.zero_le _) (by omega)]
    simp
  refine ⟨ml_cgp z hm (by unfold mlN; rw [r 150 (by omega), o 150 (by omega)]; exact hm.1) (fun a h1 h2 => (r a (by omega)).trans (o a (by omega))) ?_ (fun k hk => ?_) (fun k hk => ?_) (fun k hk => ?_) (fun k hk => ?_) (fun k hk => ?_), r⟩ <;> unfold f_bb
  · rw [jj_uR_eq, c _ _ _ _ (by decide), k6]
  · rw [jj_uR_ne (by decide), jj_uR_ne (by decide), jj_uR_ne (by decide), jj_uR_ne (by decide), jj_uR_ne (by decide), jj_uR_eq, c _ _ _ _ hk, k1]
  · rw [jj_uR_ne (by decide), jj_uR_ne (by decide), jj_uR_ne (by decide), jj_uR_ne (by decide), jj_uR_eq, c _ _ _ _ hk, k2]
  · rw [jj_uR_ne (by decide), jj_uR_ne (by decide), jj_uR_ne (by decide), jj_uR_eq, c _ _ _ _ hk, k3]
  · rw [jj_uR_ne (by decide), jj_uR_ne (by decide), jj_uR_eq, c _ _ _ _ hk, k4]
  · rw [jj_uR_ne (by decide), jj_uR_eq, c _ _ _ _ hk, k5]
end CPY
