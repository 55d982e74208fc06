/-! what is told ahead depends on the world's own rows alone -/
section DV
variable {H M B N d : Nat} {C J X : jj_I}
theorem er_T (h : er H M B N X J) (e : eqT J C) (hM : M ≤ 5) (hB : B ≤ 10) (hN : N ≤ 30) : er H M B N X C := by
  obtain ⟨h1, h2, h3, h4, h5, h6, h7, h8, h9⟩ := h
  exact ⟨fun k hk => by rw [← e _ (by simp only [aWm]; omega)]; exact h1 k hk, fun k hk => by rw [← e _ (by simp only [aLd]; omega)]; exact h2 k hk, fun k hk => by rw [← e _ (by simp only [aIc]; omega)]; exact h3 k hk, fun k hk => by rw [← e _ (by simp only [aPr]; omega)]; exact h4 k hk, by rw [← e _ (by simp only [aR]; omega)]; exact h5, fun m hm => by rw [← e _ (by simp only [aM]; omega)]; exact h6 m hm, fun m hm c hc => by rw [← e _ (by simp only [aMt]; omega)]; exact h7 m hm c hc, fun b hb s hs => by rw [← e _ (by simp only [aB]; omega)]; exact h8 b hb s hs, fun k hk s hs => by rw [← e _ (by simp only [aD]; omega)]; exact h9 k hk s hs⟩
theorem ga_T {b : Nat} (e : eqT J C) (hsJ : sf 0 H M B N J) (hs : sf 0 H M B N C) (hk : sk 0 H M B N C) (hb : b < B) : g_ar H M B N b d J = g_ar H M B N b d C := funext (fun k => by
  have r := (er_ds (d := d) (er_T (er_cp hsJ) e hs.2.1.2 hs.2.2.1.2 hs.2.2.2.1.2) hs hk k).2.2.2.2.2.2.2.2.1 b hb
  rw [ga_eq hs hk hb k]
  unfold g_ar g_a0
  try dsimp only
  rw [r 3 (by decide), r 4 (by decide), r 6 (by decide)])
theorem gop_T {l : Nat} (e : eqT J C) : g_op l d J = g_op l d C := funext (fun k => by
  unfold g_op f_ice
  rw [e (aWm 0) (by simp only [aWm]; omega), e (aIc 0) (by simp only [aIc]; omega)])
end DV
