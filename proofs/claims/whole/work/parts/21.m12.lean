/-! the class's numbers and the model's rows: what one is of the other -/
def mlN (H M B N : Nat) (I : jj_I) : Prop := I 150 2 = nI H ∧ I 150 6 = nI M ∧ I 150 7 = nI B ∧ I 150 8 = nI N
def mlB (w : Nat) (C I : jj_I) (b : Nat) : Prop := I 158 (12 * b + 0) = C (aB w b) 0 ∧ I 158 (12 * b + 1) = C (aB w b) 1 ∧ I 158 (12 * b + 2) = C (aB w b) 2 ∧ I 158 (12 * b + 3) = C (aB w b) 3 ∧ I 158 (12 * b + 4) = C (aB w b) 4 ∧ I 158 (12 * b + 5) = C (aB w b) 6 ∧ I 158 (12 * b + 6) = C (aB w b) 7 ∧ (C (aB w b) 3 = 2 → I 158 (12 * b + 7) = C (aB w b) 5) ∧ ∀ g, g < 4 → I 158 (12 * b + (8 + g)) = C (aBc w b) g
def ml (w H M B N : Nat) (C I : jj_I) : Prop := mlN H M B N I ∧ I 160 0 = C (aR w) 0 ∧ (∀ k, k < 40 → I 151 k = C (aWm w) k) ∧ (∀ k, k < 7 → I 152 k = C (aLd w) k) ∧ (∀ k, k < 8 → I 153 k = C (aBe w) k) ∧ (∀ k, k < 32 → I 154 k = C (aPr w) k) ∧ (∀ k, k < 7 → I 155 k = C (aIc w) k) ∧ (∀ m, m < M → I 156 m = C (aM w m) 0) ∧ (∀ m, m < M → ∀ k, k < 32 → I 157 (32 * m + k) = C (aMt w m) k) ∧ (∀ b, b < B → mlB w C I b) ∧ ∀ d, d < N → ∀ k, k < 7 → I 159 (7 * d + k) = C (aD w d) k
def mlZ (M B N : Nat) : Prop := M ≤ 5 ∧ B ≤ 10 ∧ N ≤ 30
theorem sf_Z {w H M B N : Nat} {C : jj_I} (h : sf w H M B N C) : mlZ M B N := ⟨h.2.1.2, h.2.2.1.2, h.2.2.2.1.2⟩
section ML
variable {w H M B N : Nat} {C C' I I' : jj_I}
theorem mlB_cg {b : Nat} (e1 : C' (aB w b) = C (aB w b)) (e2 : C' (aBc w b) = C (aBc w b)) (e3 : ∀ s, 12 * b ≤ s → s < 12 * b + 12 → I' 158 s = I 158 s) (h : mlB w C I b) : mlB w C' I' b := by
  unfold mlB
  rw [e1, e2, e3 (12 * b + 0) (by omega) (by omega), e3 (12 * b + 1) (by omega) (by omega), e3 (12 * b + 2) (by omega) (by omega), e3 (12 * b + 3) (by omega) (by omega), e3 (12 * b + 4) (by omega) (by omega), e3 (12 * b + 5) (by omega) (by omega), e3 (12 * b + 6) (by omega) (by omega), e3 (12 * b + 7) (by omega) (by omega)]
  obtain ⟨h0, h1, h2, h3, h4, h5, h6, h7, h8⟩ := h
  exact ⟨h0, h1, h2, h3, h4, h5, h6, h7, fun g hg => by rw [e3 _ (by omega) (by omega)]; exact h8 g hg⟩
/-- the same world, the same rows -/
theorem ml_cg (e1 : ∀ a, 2 + 70 * w ≤ a → a < 72 + 70 * w → C' a = C a) (e2 : ∀ a, 150 ≤ a → a < 161 → (a = 150 → I' a 2 = I a 2 ∧ I' a 6 = I a 6 ∧ I' a 7 = I a 7 ∧ I' a 8 = I a 8) ∧ (a ≠ 150 → I' a = I a)) (z : mlZ M B N) (h : ml w H M B N C I) : ml w H M B N C' I' := by
  obtain ⟨z1, z2, z3⟩ := z
  obtain ⟨⟨n1, n2, n3, n4⟩, h0, h1, h2, h3, h4, h5, h6, h7, h8, h9⟩ := h
  have q := (e2 150 (by decide) (by decide)).1 rfl
  have e : ∀ a, 151 ≤ a → a < 161 → I' a = I a := fun a h1 h2 => (e2 a (by omega) h2).2 (by omega)
  refine ⟨⟨q.1.trans n1, q.2.1.trans n2, q.2.2.1.trans n3, q.2.2.2.trans n4⟩, ?_, fun k hk => ?_, fun k hk => ?_, fun k hk => ?_, fun k hk => ?_, fun k hk => ?_, fun m hm => ?_, fun m hm k hk => ?_, fun b hb => ?_, fun d hd k hk => ?_⟩
  · rw [e _ (by omega) (by omega), e1 _ (by simp only [aR]; omega) (by simp only [aR]; omega)]; exact h0
  · rw [e _ (by omega) (by omega), e1 _ (by simp only [aWm]; omega) (by simp only [aWm]; omega)]; exact h1 k hk
  · rw [e _ (by omega) (by omega), e1 _ (by simp only [aLd]; omega) (by simp only [aLd]; omega)]; exact h2 k hk
  · rw [e _ (by omega) (by omega), e1 _ (by simp only [aBe]; omega) (by simp only [aBe]; omega)]; exact h3 k hk
  · rw [e _ (by omega) (by omega), e1 _ (by simp only [aPr]; omega) (by simp only [aPr]; omega)]; exact h4 k hk
  · rw [e _ (by omega) (by omega), e1 _ (by simp only [aIc]; omega) (by simp only [aIc]; omega)]; exact h5 k hk
  · rw [e _ (by omega) (by omega), e1 _ (by simp only [aM]; omega) (by simp only [aM]; omega)]; exact h6 m hm
  · rw [e _ (by omega) (by omega), e1 _ (by simp only [aMt]; omega) (by simp only [aMt]; omega)]; exact h7 m hm k hk
  · exact mlB_cg (e1 _ (by simp only [aB]; omega) (by simp only [aB]; omega)) (e1 _ (by simp only [aBc]; omega) (by simp only [aBc]; omega)) (fun s _ _ => by rw [e 158 (by decide) (by decide)]) (h8 b hb)
  · rw [e _ (by omega) (by omega), e1 _ (by simp only [aD]; omega) (by simp only [aD]; omega)]; exact h9 d hd k hk
theorem ml_uDay {v : Int32} (h : ml w H M B N C I) (z : mlZ M B N) : ml w H M B N (jj_u C (aR w) 0 v) (jj_u I 160 (0) v) := by
  obtain ⟨z1, z2, z3⟩ := z
  obtain ⟨⟨n1, n2, n3, n4⟩, h0, h1, h2, h3, h4, h5, h6, h7, h8, h9⟩ := h
  refine ⟨by unfold mlN; rw [jj_u_ne (by decide)]; exact ⟨n1, n2, n3, n4⟩, ?_, fun q hq => ?_, fun q hq => ?_, fun q hq => ?_, fun q hq => ?_, fun q hq => ?_, fun m0 hm0 => ?_, fun m0 hm0 q hq => ?_, fun b0 hb0 => ?_, fun d0 hd0 q hq => ?_⟩
  · rw [jj_u_eq, jj_u_eq]
  · rw [jj_u_ne (by decide), jj_u_ne (by simp only [aWm, aR]; omega)]; exact h1 q hq
  · rw [jj_u_ne (by decide), jj_u_ne (by simp only [aLd, aR]; omega)]; exact h2 q hq
  · rw [jj_u_ne (by decide), jj_u_ne (by simp only [aBe, aR]; omega)]; exact h3 q hq
  · rw [jj_u_ne (by decide), jj_u_ne (by simp only [aPr, aR]; omega)]; exact h4 q hq
  · rw [jj_u_ne (by decide), jj_u_ne (by simp only [aIc, aR]; omega)]; exact h5 q hq
  · rw [jj_u_ne (by decide), jj_u_ne (by simp only [aM, aR]; omega)]; exact h6 m0 hm0
  · rw [jj_u_ne (by decide), jj_u_ne (by simp only [aMt, aR]; omega)]; exact h7 m0 hm0 q hq
  · exact mlB_cg (jj_u_ne (by simp only [aB, aR]; omega)) (jj_u_ne (by simp only [aBc, aR]; omega)) (fun s _ _ => by rw [jj_u_ne (by decide)]) (h8 b0 hb0)
  · rw [jj_u_ne (by decide), jj_u_ne (by simp only [aD, aR]; omega)]; exact h9 d0 hd0 q hq
theorem ml_uWarm {k : Nat} {v : Int32} (h : ml w H M B N C I) (z : mlZ M B N) : ml w H M B N (jj_u C (aWm w) k v) (jj_u I 151 (k) v) := by
  obtain ⟨z1, z2, z3⟩ := z
  obtain ⟨⟨n1, n2, n3, n4⟩, h0, h1, h2, h3, h4, h5, h6, h7, h8, h9⟩ := h
  refine ⟨by unfold mlN; rw [jj_u_ne (by decide)]; exact ⟨n1, n2, n3, n4⟩, ?_, fun q hq => ?_, fun q hq => ?_, fun q hq => ?_, fun q hq => ?_, fun q hq => ?_, fun m0 hm0 => ?_, fun m0 hm0 q hq => ?_, fun b0 hb0 => ?_, fun d0 hd0 q hq => ?_⟩
  · rw [jj_u_ne (by decide), jj_u_ne (by simp only [aR, aWm]; omega)]; exact h0
  · by_cases e : q = k
    · subst e; rw [jj_u_eq, jj_u_eq]
    · rw [jj_u_nk e, jj_u_nk e]; exact h1 q hq
  · rw [jj_u_ne (by decide), jj_u_ne (by simp only [aLd, aWm]; omega)]; exact h2 q hq
  · rw [jj_u_ne (by decide), jj_u_ne (by simp only [aBe, aWm]; omega)]; exact h3 q hq
  · rw [jj_u_ne (by decide), jj_u_ne (by simp only [aPr, aWm]; omega)]; exact h4 q hq
  · rw [jj_u_ne (by decide), jj_u_ne (by simp only [aIc, aWm]; omega)]; exact h5 q hq
  · rw [jj_u_ne (by decide), jj_u_ne (by simp only [aM, aWm]; omega)]; exact h6 m0 hm0
  · rw [jj_u_ne (by decide), jj_u_ne (by simp only [aMt, aWm]; omega)]; exact h7 m0 hm0 q hq
  · exact mlB_cg (jj_u_ne (by simp only [aB, aWm]; omega)) (jj_u_ne (by simp only [aBc, aWm]; omega)) (fun s _ _ => by rw [jj_u_ne (by decide)]) (h8 b0 hb0)
  · rw [jj_u_ne (by decide), jj_u_ne (by simp only [aD, aWm]; omega)]; exact h9 d0 hd0 q hq
theorem ml_uLeg {k : Nat} {v : Int32} (h : ml w H M B N C I) (z : mlZ M B N) : ml w H M B N (jj_u C (aLd w) k v) (jj_u I 152 (k) v) := by
  obtain ⟨z1, z2, z3⟩ := z
  obtain ⟨⟨n1, n2, n3, n4⟩, h0, h1, h2, h3, h4, h5, h6, h7, h8, h9⟩ := h
  refine ⟨by unfold mlN; rw [jj_u_ne (by decide)]; exact ⟨n1, n2, n3, n4⟩, ?_, fun q hq => ?_, fun q hq => ?_, fun q hq => ?_, fun q hq => ?_, fun q hq => ?_, fun m0 hm0 => ?_, fun m0 hm0 q hq => ?_, fun b0 hb0 => ?_, fun d0 hd0 q hq => ?_⟩
  · rw [jj_u_ne (by decide), jj_u_ne (by simp only [aR, aLd]; omega)]; exact h0
  · rw [jj_u_ne (by decide), jj_u_ne (by simp only [aWm, aLd]; omega)]; exact h1 q hq
  · by_cases e : q = k
    · subst e; rw [jj_u_eq, jj_u_eq]
    · rw [jj_u_nk e, jj_u_nk e]; exact h2 q hq
  · rw [jj_u_ne (by decide), jj_u_ne (by simp only [aBe, aLd]; omega)]; exact h3 q hq
  · rw [jj_u_ne (by decide), jj_u_ne (by simp only [aPr, aLd]; omega)]; exact h4 q hq
  · rw [jj_u_ne (by decide), jj_u_ne (by simp only [aIc, aLd]; omega)]; exact h5 q hq
  · rw [jj_u_ne (by decide), jj_u_ne (by simp only [aM, aLd]; omega)]; exact h6 m0 hm0
  · rw [jj_u_ne (by decide), jj_u_ne (by simp only [aMt, aLd]; omega)]; exact h7 m0 hm0 q hq
  · exact mlB_cg (jj_u_ne (by simp only [aB, aLd]; omega)) (jj_u_ne (by simp only [aBc, aLd]; omega)) (fun s _ _ => by rw [jj_u_ne (by decide)]) (h8 b0 hb0)
  · rw [jj_u_ne (by decide), jj_u_ne (by simp only [aD, aLd]; omega)]; exact h9 d0 hd0 q hq
theorem ml_uBer {k : Nat} {v : Int32} (h : ml w H M B N C I) (z : mlZ M B N) : ml w H M B N (jj_u C (aBe w) k v) (jj_u I 153 (k) v) := by
  obtain ⟨z1, z2, z3⟩ := z
  obtain ⟨⟨n1, n2, n3, n4⟩, h0, h1, h2, h3, h4, h5, h6, h7, h8, h9⟩ := h
  refine ⟨by unfold mlN; rw [jj_u_ne (by decide)]; exact ⟨n1, n2, n3, n4⟩, ?_, fun q hq => ?_, fun q hq => ?_, fun q hq => ?_, fun q hq => ?_, fun q hq => ?_, fun m0 hm0 => ?_, fun m0 hm0 q hq => ?_, fun b0 hb0 => ?_, fun d0 hd0 q hq => ?_⟩
  · rw [jj_u_ne (by decide), jj_u_ne (by simp only [aR, aBe]; omega)]; exact h0
  · rw [jj_u_ne (by decide), jj_u_ne (by simp only [aWm, aBe]; omega)]; exact h1 q hq
  · rw [jj_u_ne (by decide), jj_u_ne (by simp only [aLd, aBe]; omega)]; exact h2 q hq
  · by_cases e : q = k
    · subst e; rw [jj_u_eq, jj_u_eq]
    · rw [jj_u_nk e, jj_u_nk e]; exact h3 q hq
  · rw [jj_u_ne (by decide), jj_u_ne (by simp only [aPr, aBe]; omega)]; exact h4 q hq
  · rw [jj_u_ne (by decide), jj_u_ne (by simp only [aIc, aBe]; omega)]; exact h5 q hq
  · rw [jj_u_ne (by decide), jj_u_ne (by simp only [aM, aBe]; omega)]; exact h6 m0 hm0
  · rw [jj_u_ne (by decide), jj_u_ne (by simp only [aMt, aBe]; omega)]; exact h7 m0 hm0 q hq
  · exact mlB_cg (jj_u_ne (by simp only [aB, aBe]; omega)) (jj_u_ne (by simp only [aBc, aBe]; omega)) (fun s _ _ => by rw [jj_u_ne (by decide)]) (h8 b0 hb0)
  · rw [jj_u_ne (by decide), jj_u_ne (by simp only [aD, aBe]; omega)]; exact h9 d0 hd0 q hq
theorem ml_uPr {k : Nat} {v : Int32} (h : ml w H M B N C I) (z : mlZ M B N) : ml w H M B N (jj_u C (aPr w) k v) (jj_u I 154 (k) v) := by
  obtain ⟨z1, z2, z3⟩ := z
  obtain ⟨⟨n1, n2, n3, n4⟩, h0, h1, h2, h3, h4, h5, h6, h7, h8, h9⟩ := h
  refine ⟨by unfold mlN; rw [jj_u_ne (by decide)]; exact ⟨n1, n2, n3, n4⟩, ?_, fun q hq => ?_, fun q hq => ?_, fun q hq => ?_, fun q hq => ?_, fun q hq => ?_, fun m0 hm0 => ?_, fun m0 hm0 q hq => ?_, fun b0 hb0 => ?_, fun d0 hd0 q hq => ?_⟩
  · rw [jj_u_ne (by decide), jj_u_ne (by simp only [aR, aPr]; omega)]; exact h0
  · rw [jj_u_ne (by decide), jj_u_ne (by simp only [aWm, aPr]; omega)]; exact h1 q hq
  · rw [jj_u_ne (by decide), jj_u_ne (by simp only [aLd, aPr]; omega)]; exact h2 q hq
  · rw [jj_u_ne (by decide), jj_u_ne (by simp only [aBe, aPr]; omega)]; exact h3 q hq
  · by_cases e : q = k
    · subst e; rw [jj_u_eq, jj_u_eq]
    · rw [jj_u_nk e, jj_u_nk e]; exact h4 q hq
  · rw [jj_u_ne (by decide), jj_u_ne (by simp only [aIc, aPr]; omega)]; exact h5 q hq
  · rw [jj_u_ne (by decide), jj_u_ne (by simp only [aM, aPr]; omega)]; exact h6 m0 hm0
  · rw [jj_u_ne (by decide), jj_u_ne (by simp only [aMt, aPr]; omega)]; exact h7 m0 hm0 q hq
  · exact mlB_cg (jj_u_ne (by simp only [aB, aPr]; omega)) (jj_u_ne (by simp only [aBc, aPr]; omega)) (fun s _ _ => by rw [jj_u_ne (by decide)]) (h8 b0 hb0)
  · rw [jj_u_ne (by decide), jj_u_ne (by simp only [aD, aPr]; omega)]; exact h9 d0 hd0 q hq
theorem ml_uIce {k : Nat} {v : Int32} (h : ml w H M B N C I) (z : mlZ M B N) : ml w H M B N (jj_u C (aIc w) k v) (jj_u I 155 (k) v) := by
  obtain ⟨z1, z2, z3⟩ := z
  obtain ⟨⟨n1, n2, n3, n4⟩, h0, h1, h2, h3, h4, h5, h6, h7, h8, h9⟩ := h
  refine ⟨by unfold mlN; rw [jj_u_ne (by decide)]; exact ⟨n1, n2, n3, n4⟩, ?_, fun q hq => ?_, fun q hq => ?_, fun q hq => ?_, fun q hq => ?_, fun q hq => ?_, fun m0 hm0 => ?_, fun m0 hm0 q hq => ?_, fun b0 hb0 => ?_, fun d0 hd0 q hq => ?_⟩
  · rw [jj_u_ne (by decide), jj_u_ne (by simp only [aR, aIc]; omega)]; exact h0
  · rw [jj_u_ne (by decide), jj_u_ne (by simp only [aWm, aIc]; omega)]; exact h1 q hq
  · rw [jj_u_ne (by decide), jj_u_ne (by simp only [aLd, aIc]; omega)]; exact h2 q hq
  · rw [jj_u_ne (by decide), jj_u_ne (by simp only [aBe, aIc]; omega)]; exact h3 q hq
  · rw [jj_u_ne (by decide), jj_u_ne (by simp only [aPr, aIc]; omega)]; exact h4 q hq
  · by_cases e : q = k
    · subst e; rw [jj_u_eq, jj_u_eq]
    · rw [jj_u_nk e, jj_u_nk e]; exact h5 q hq
  · rw [jj_u_ne (by decide), jj_u_ne (by simp only [aM, aIc]; omega)]; exact h6 m0 hm0
  · rw [jj_u_ne (by decide), jj_u_ne (by simp only [aMt, aIc]; omega)]; exact h7 m0 hm0 q hq
  · exact mlB_cg (jj_u_ne (by simp only [aB, aIc]; omega)) (jj_u_ne (by simp only [aBc, aIc]; omega)) (fun s _ _ => by rw [jj_u_ne (by decide)]) (h8 b0 hb0)
  · rw [jj_u_ne (by decide), jj_u_ne (by simp only [aD, aIc]; omega)]; exact h9 d0 hd0 q hq
theorem ml_uCoin {m : Nat} {v : Int32} (h : ml w H M B N C I) (z : mlZ M B N) (hm : m < 5) : ml w H M B N (jj_u C (aM w m) 0 v) (jj_u I 156 (m) v) := by
  obtain ⟨z1, z2, z3⟩ := z
  obtain ⟨⟨n1, n2, n3, n4⟩, h0, h1, h2, h3, h4, h5, h6, h7, h8, h9⟩ := h
  refine ⟨by unfold mlN; rw [jj_u_ne (by decide)]; exact ⟨n1, n2, n3, n4⟩, ?_, fun q hq => ?_, fun q hq => ?_, fun q hq => ?_, fun q hq => ?_, fun q hq => ?_, fun m0 hm0 => ?_, fun m0 hm0 q hq => ?_, fun b0 hb0 => ?_, fun d0 hd0 q hq => ?_⟩
  · rw [jj_u_ne (by decide), jj_u_ne (by simp only [aR, aM]; omega)]; exact h0
  · rw [jj_u_ne (by decide), jj_u_ne (by simp only [aWm, aM]; omega)]; exact h1 q hq
  · rw [jj_u_ne (by decide), jj_u_ne (by simp only [aLd, aM]; omega)]; exact h2 q hq
  · rw [jj_u_ne (by decide), jj_u_ne (by simp only [aBe, aM]; omega)]; exact h3 q hq
  · rw [jj_u_ne (by decide), jj_u_ne (by simp only [aPr, aM]; omega)]; exact h4 q hq
  · rw [jj_u_ne (by decide), jj_u_ne (by simp only [aIc, aM]; omega)]; exact h5 q hq
  · by_cases e : m0 = m
    · subst e; rw [jj_u_eq, jj_u_eq]
    · rw [jj_u_nk e, jj_u_ne (by simp only [aM]; omega)]; exact h6 m0 hm0
  · rw [jj_u_ne (by decide), jj_u_ne (by simp only [aMt, aM]; omega)]; exact h7 m0 hm0 q hq
  · exact mlB_cg (jj_u_ne (by simp only [aB, aM]; omega)) (jj_u_ne (by simp only [aBc, aM]; omega)) (fun s _ _ => by rw [jj_u_ne (by decide)]) (h8 b0 hb0)
  · rw [jj_u_ne (by decide), jj_u_ne (by simp only [aD, aM]; omega)]; exact h9 d0 hd0 q hq
theorem ml_uStock {m k : Nat} {v : Int32} (h : ml w H M B N C I) (z : mlZ M B N) (hm : m < 5) (hk : k < 32) : ml w H M B N (jj_u C (aMt w m) k v) (jj_u I 157 (32 * m + k) v) := by
  obtain ⟨z1, z2, z3⟩ := z
  obtain ⟨⟨n1, n2, n3, n4⟩, h0, h1, h2, h3, h4, h5, h6, h7, h8, h9⟩ := h
  refine ⟨by unfold mlN; rw [jj_u_ne (by decide)]; exact ⟨n1, n2, n3, n4⟩, ?_, fun q hq => ?_, fun q hq => ?_, fun q hq => ?_, fun q hq => ?_, fun q hq => ?_, fun m0 hm0 => ?_, fun m0 hm0 q hq => ?_, fun b0 hb0 => ?_, fun d0 hd0 q hq => ?_⟩
  · rw [jj_u_ne (by decide), jj_u_ne (by simp only [aR, aMt]; omega)]; exact h0
  · rw [jj_u_ne (by decide), jj_u_ne (by simp only [aWm, aMt]; omega)]; exact h1 q hq
  · rw [jj_u_ne (by decide), jj_u_ne (by simp only [aLd, aMt]; omega)]; exact h2 q hq
  · rw [jj_u_ne (by decide), jj_u_ne (by simp only [aBe, aMt]; omega)]; exact h3 q hq
  · rw [jj_u_ne (by decide), jj_u_ne (by simp only [aPr, aMt]; omega)]; exact h4 q hq
  · rw [jj_u_ne (by decide), jj_u_ne (by simp only [aIc, aMt]; omega)]; exact h5 q hq
  · rw [jj_u_ne (by decide), jj_u_ne (by simp only [aM, aMt]; omega)]; exact h6 m0 hm0
  · by_cases e : m0 = m
    · subst e
      by_cases e2 : q = k
      · subst e2; rw [jj_u_eq, jj_u_eq]
      · rw [jj_u_nk (by omega), jj_u_nk e2]; exact h7 m0 hm0 q hq
    · rw [jj_u_nk (by omega), jj_u_ne (by simp only [aMt]; omega)]; exact h7 m0 hm0 q hq
  · exact mlB_cg (jj_u_ne (by simp only [aB, aMt]; omega)) (jj_u_ne (by simp only [aBc, aMt]; omega)) (fun s _ _ => by rw [jj_u_ne (by decide)]) (h8 b0 hb0)
  · rw [jj_u_ne (by decide), jj_u_ne (by simp only [aD, aMt]; omega)]; exact h9 d0 hd0 q hq
theorem ml_uDebt {d k : Nat} {v : Int32} (h : ml w H M B N C I) (z : mlZ M B N) (hd : d < 30) (hk : k < 7) : ml w H M B N (jj_u C (aD w d) k v) (jj_u I 159 (7 * d + k) v) := by
  obtain ⟨z1, z2, z3⟩ := z
  obtain ⟨⟨n1, n2, n3, n4⟩, h0, h1, h2, h3, h4, h5, h6, h7, h8, h9⟩ := h
  refine ⟨by unfold mlN; rw [jj_u_ne (by decide)]; exact ⟨n1, n2, n3, n4⟩, ?_, fun q hq => ?_, fun q hq => ?_, fun q hq => ?_, fun q hq => ?_, fun q hq => ?_, fun m0 hm0 => ?_, fun m0 hm0 q hq => ?_, fun b0 hb0 => ?_, fun d0 hd0 q hq => ?_⟩
  · rw [jj_u_ne (by decide), jj_u_ne (by simp only [aR, aD]; omega)]; exact h0
  · rw [jj_u_ne (by decide), jj_u_ne (by simp only [aWm, aD]; omega)]; exact h1 q hq
  · rw [jj_u_ne (by decide), jj_u_ne (by simp only [aLd, aD]; omega)]; exact h2 q hq
  · rw [jj_u_ne (by decide), jj_u_ne (by simp only [aBe, aD]; omega)]; exact h3 q hq
  · rw [jj_u_ne (by decide), jj_u_ne (by simp only [aPr, aD]; omega)]; exact h4 q hq
  · rw [jj_u_ne (by decide), jj_u_ne (by simp only [aIc, aD]; omega)]; exact h5 q hq
  · rw [jj_u_ne (by decide), jj_u_ne (by simp only [aM, aD]; omega)]; exact h6 m0 hm0
  · rw [jj_u_ne (by decide), jj_u_ne (by simp only [aMt, aD]; omega)]; exact h7 m0 hm0 q hq
  · exact mlB_cg (jj_u_ne (by simp only [aB, aD]; omega)) (jj_u_ne (by simp only [aBc, aD]; omega)) (fun s _ _ => by rw [jj_u_ne (by decide)]) (h8 b0 hb0)
  · by_cases e : d0 = d
    · subst e
      by_cases e2 : q = k
      · subst e2; rw [jj_u_eq, jj_u_eq]
      · rw [jj_u_nk (by omega), jj_u_nk e2]; exact h9 d0 hd0 q hq
    · rw [jj_u_nk (by omega), jj_u_ne (by simp only [aD]; omega)]; exact h9 d0 hd0 q hq
/-- a boat's block -/
theorem ml_uB {k : Nat} (h : ml w H M B N C I) (z : mlZ M B N) (hk : k < 10) (hC : ∀ a, a ≠ aB w k → a ≠ aBc w k → C' a = C a) (hI : ∀ a, a ≠ 158 → I' a = I a) (hS : ∀ s, s < 12 * k ∨ 12 * k + 12 ≤ s → I' 158 s = I 158 s) (hb : mlB w C' I' k) : ml w H M B N C' I' := by
  obtain ⟨z1, z2, z3⟩ := z
  obtain ⟨⟨n1, n2, n3, n4⟩, h0, h1, h2, h3, h4, h5, h6, h7, h8, h9⟩ := h
  have c : ∀ a, (∀ b, b < 10 → a ≠ aB w b) → (∀ b, b < 10 → a ≠ aBc w b) → C' a = C a := fun a e1 e2 => hC a (e1 k hk) (e2 k hk)
  refine ⟨by unfold mlN; rw [hI _ (by decide)]; exact ⟨n1, n2, n3, n4⟩, ?_, fun q hq => ?_, fun q hq => ?_, fun q hq => ?_, fun q hq => ?_, fun q hq => ?_, fun m0 hm0 => ?_, fun m0 hm0 q hq => ?_, fun b0 hb0 => ?_, fun d0 hd0 q hq => ?_⟩
  · rw [hI _ (by decide), hC _ (by simp only [aR, aB]; omega) (by simp only [aR, aBc]; omega)]; exact h0
  · rw [hI _ (by decide), hC _ (by simp only [aWm, aB]; omega) (by simp only [aWm, aBc]; omega)]; exact h1 q hq
  · rw [hI _ (by decide), hC _ (by simp only [aLd, aB]; omega) (by simp only [aLd, aBc]; omega)]; exact h2 q hq
  · rw [hI _ (by decide), hC _ (by simp only [aBe, aB]; omega) (by simp only [aBe, aBc]; omega)]; exact h3 q hq
  · rw [hI _ (by decide), hC _ (by simp only [aPr, aB]; omega) (by simp only [aPr, aBc]; omega)]; exact h4 q hq
  · rw [hI _ (by decide), hC _ (by simp only [aIc, aB]; omega) (by simp only [aIc, aBc]; omega)]; exact h5 q hq
  · rw [hI _ (by decide), hC _ (by simp only [aM, aB]; omega) (by simp only [aM, aBc]; omega)]; exact h6 m0 hm0
  · rw [hI _ (by decide), hC _ (by simp only [aMt, aB]; omega) (by simp only [aMt, aBc]; omega)]; exact h7 m0 hm0 q hq
  · by_cases e : b0 = k
    · subst e; exact hb
    · exact mlB_cg (hC _ (by simp only [aB]; omega) (by simp only [aB, aBc]; omega)) (hC _ (by simp only [aB, aBc]; omega) (by simp only [aBc]; omega)) (fun s _ _ => hS s (by omega)) (h8 b0 hb0)
  · rw [hI _ (by decide), hC _ (by simp only [aD, aB]; omega) (by simp only [aD, aBc]; omega)]; exact h9 d0 hd0 q hq
theorem ml_hN (h : ml w H M B N C I) : mlN H M B N I := h.1
theorem ml_hDay (h : ml w H M B N C I) : I 160 0 = C (aR w) 0 := h.2.1
theorem ml_hWarm (h : ml w H M B N C I) {k : Nat} (hk : k < 40) : I 151 k = C (aWm w) k := h.2.2.1 k hk
theorem ml_hLeg (h : ml w H M B N C I) {k : Nat} (hk : k < 7) : I 152 k = C (aLd w) k := h.2.2.2.1 k hk
theorem ml_hBer (h : ml w H M B N C I) {k : Nat} (hk : k < 8) : I 153 k = C (aBe w) k := h.2.2.2.2.1 k hk
theorem ml_hPr (h : ml w H M B N C I) {k : Nat} (hk : k < 32) : I 154 k = C (aPr w) k := h.2.2.2.2.2.1 k hk
theorem ml_hIce (h : ml w H M B N C I) {k : Nat} (hk : k < 7) : I 155 k = C (aIc w) k := h.2.2.2.2.2.2.1 k hk
theorem ml_hCoin (h : ml w H M B N C I) {m : Nat} (hm : m < M) : I 156 m = C (aM w m) 0 := h.2.2.2.2.2.2.2.1 m hm
theorem ml_hStock (h : ml w H M B N C I) {m k : Nat} (hm : m < M) (hk : k < 32) : I 157 (32 * m + k) = C (aMt w m) k := h.2.2.2.2.2.2.2.2.1 m hm k hk
theorem ml_hB (h : ml w H M B N C I) {b : Nat} (hb : b < B) : mlB w C I b := h.2.2.2.2.2.2.2.2.2.1 b hb
theorem ml_hDebt (h : ml w H M B N C I) {d k : Nat} (hd : d < N) (hk : k < 7) : I 159 (7 * d + k) = C (aD w d) k := h.2.2.2.2.2.2.2.2.2.2 d hd k hk
/-- frost, both sides -/
theorem m_fb_ib {i x : Int32} : m_fb i x = f_ib i x := by
  unfold m_fb f_ib
  by_cases h : x < 0
  · rw [if_pos h, if_pos h]
  · rw [if_neg h, if_neg h]
end ML
/-- the places in the book of places that a call of the model leaves -/
def offM (a : Nat) : Prop := a < 155 ∨ 161 ≤ a
def offN (a : Nat) : Prop := a < 150 ∨ 161 ≤ a
