/-! the law's own river grows: what it tells -/
section SJ
variable {A A' : Nat → Nat} {H M B N n n' : Nat} {K K' : jj_K} {P P' : jj_P} {C C' I I' : jj_I}
/-- one harbour more -/
theorem ms_addH (hn : sy_N (H + 1) M B N) (hm : ms A H M B N C I) (hI : ∀ t, sy_K H M B N t ≠ none → t ≠ 5 → I' (A' t) = I (A t)) (hC : ∀ a, a < 150 → a ≠ aLd 0 → a ≠ aBe 0 → a ≠ aPr 0 → a ≠ aR 0 → C' a = C a) (hR : C' (aR 0) 0 = C (aR 0) 0) (hL : ∀ l, l + 1 < H → C' (aLd 0) l = C (aLd 0) l) (hB : ∀ h, h < H → C' (aBe 0) h = C (aBe 0) h) (hP : ∀ c, c < 4 * H → C' (aPr 0) c = C (aPr 0) c)
    (n1 : ∀ l, l + 1 = H → I (A 2) H = C' (aLd 0) l ∧ I (A 3) H = C (aIc 0) l) (n2 : I' (A' (10 + H)) 0 = C' (aBe 0) H) (n3 : ∀ g, g < 4 → I' (A' (10 + H)) (1 + g) = C' (aPr 0) (4 * H + g)) : ms A' (H + 1) M B N C' I' := by
  obtain ⟨m1, m2, m3, m4, m5, m6, m7, m8, m9⟩ := hm
  obtain ⟨b1, b2, b3, b4⟩ := id hn
  have hn0 : sy_N H M B N := ⟨by omega, b2, b3, b4⟩
  refine ⟨?_, fun k hk => ?_, fun l hl => ?_, fun l hl => ?_, fun m hm => ?_, fun h hh => ?_, fun b hb => ?_, fun d hd f hf => ?_, fun m hm h hh g hg => ?_⟩
  · rw [hI 0 sv_0 (by decide), hR]; exact m1
  · rw [hI 1 sv_1 (by decide), hC _ (by simp only [aWm]; omega) (by simp only [aWm, aLd]; omega) (by simp only [aWm, aBe]; omega) (by simp only [aWm, aPr]; omega) (by simp only [aWm, aR]; omega)]; exact m2 k hk
  · rw [hI 2 sv_2 (by decide)]
    by_cases e : l + 1 = H
    · rw [e]; exact (n1 l e).1
    · rw [hL l (by omega)]; exact m3 l (by omega)
  · rw [hI 3 sv_3 (by decide), hC _ (by simp only [aIc]; omega) (by simp only [aIc, aLd]; omega) (by simp only [aIc, aBe]; omega) (by simp only [aIc, aPr]; omega) (by simp only [aIc, aR]; omega)]
    by_cases e : l + 1 = H
    · rw [e]; exact (n1 l e).2
    · exact m4 l (by omega)
  · rw [hI 4 sv_4 (by decide), hC _ (by simp only [aM]; omega) (by simp only [aM, aLd]; omega) (by simp only [aM, aBe]; omega) (by simp only [aM, aPr]; omega) (by simp only [aM, aR]; omega)]; exact m5 m hm
  · by_cases e : h = H
    · subst e; exact ⟨n2, n3⟩
    · rw [hI _ (sv_H hn0 (by omega)) (by omega)]
      exact ⟨by rw [hB h (by omega)]; exact (m6 h (by omega)).1, fun g hg => by rw [hP _ (by omega)]; exact (m6 h (by omega)).2 g hg⟩
  · exact msB_cg (m7 b hb) (hI _ (sv_B hn0 hb) (by omega)) (hI _ (sv_G hn0 hb) (by omega)) (hC _ (by simp only [aB]; omega) (by simp only [aB, aLd]; omega) (by simp only [aB, aBe]; omega) (by simp only [aB, aPr]; omega) (by simp only [aB, aR]; omega)) (hC _ (by simp only [aBc]; omega) (by simp only [aBc, aLd]; omega) (by simp only [aBc, aBe]; omega) (by simp only [aBc, aPr]; omega) (by simp only [aBc, aR]; omega))
  · rw [hI _ (sv_D hn0 hd) (by omega), hC _ (by simp only [aD]; omega) (by simp only [aD, aLd]; omega) (by simp only [aD, aBe]; omega) (by simp only [aD, aPr]; omega) (by simp only [aD, aR]; omega)]; exact m8 d hd f hf
  · rw [hI _ (sv_S hn0 hm hh) (by omega), hC _ (by simp only [aMt]; omega) (by simp only [aMt, aLd]; omega) (by simp only [aMt, aBe]; omega) (by simp only [aMt, aPr]; omega) (by simp only [aMt, aR]; omega)]; exact m9 m hm h hh g hg
/-- one merchant more -/
theorem ms_addM {M0 : Nat} (hn : sy_N H M0 B N) (hm : ms A H M B N C I) (hI : ∀ t, sy_K H M0 B N t ≠ none → t ≠ 4 → I' (A' t) = I (A t)) (hI4 : ∀ m, m < M → I' (A' 4) m = I (A 4) m) (hC : ∀ a, a < 150 → a ≠ aM 0 M → a ≠ aW 0 → C' a = C a) (n1 : I' (A' 4) M = C' (aM 0 M) 0) (hM : M < 5) : ms A' H (M + 1) B N C' I' := by
  obtain ⟨m1, m2, m3, m4, m5, m6, m7, m8, m9⟩ := hm
  obtain ⟨b1, b2, b3, b4⟩ := id hn
  refine ⟨?_, fun k hk => ?_, fun l hl => ?_, fun l hl => ?_, fun m hm => ?_, fun h hh => ?_, fun b hb => ?_, fun d hd f hf => ?_, fun m hm h hh g hg => ?_⟩
  · rw [hI 0 sv_0 (by decide), hC _ (by simp only [aR]; omega) (by simp only [aR, aM]; omega) (by simp only [aR, aW]; omega)]; exact m1
  · rw [hI 1 sv_1 (by decide), hC _ (by simp only [aWm]; omega) (by simp only [aWm, aM]; omega) (by simp only [aWm, aW]; omega)]; exact m2 k hk
  · rw [hI 2 sv_2 (by decide), hC _ (by simp only [aLd]; omega) (by simp only [aLd, aM]; omega) (by simp only [aLd, aW]; omega)]; exact m3 l hl
  · rw [hI 3 sv_3 (by decide), hC _ (by simp only [aIc]; omega) (by simp only [aIc, aM]; omega) (by simp only [aIc, aW]; omega)]; exact m4 l hl
  · by_cases e : m = M
    · subst e; exact n1
    · rw [hI4 m (by omega), hC _ (by simp only [aM]; omega) (by simp only [aM]; omega) (by simp only [aM, aW]; omega)]; exact m5 m (by omega)
  · rw [hI _ (sv_H hn hh) (by omega), hC _ (by simp only [aBe]; omega) (by simp only [aBe, aM]; omega) (by simp only [aBe, aW]; omega), hC _ (by simp only [aPr]; omega) (by simp only [aPr, aM]; omega) (by simp only [aPr, aW]; omega)]; exact m6 h hh
  · exact msB_cg (m7 b hb) (hI _ (sv_B hn hb) (by omega)) (hI _ (sv_G hn hb) (by omega)) (hC _ (by simp only [aB]; omega) (by simp only [aB, aM]; omega) (by simp only [aB, aW]; omega)) (hC _ (by simp only [aBc]; omega) (by simp only [aBc, aM]; omega) (by simp only [aBc, aW]; omega))
  · rw [hI _ (sv_D hn hd) (by omega), hC _ (by simp only [aD]; omega) (by simp only [aD, aM]; omega) (by simp only [aD, aW]; omega)]; exact m8 d hd f hf
  · rw [hI _ (sv_S hn hm hh) (by omega), hC _ (by simp only [aMt]; omega) (by simp only [aMt, aM]; omega) (by simp only [aMt, aW]; omega)]; exact m9 m hm h hh g hg
/-- one boat more -/
theorem ms_addB (hn : sy_N H M (B + 1) N) (hm : ms A H M B N C I) (hI : ∀ t, sy_K H M B N t ≠ none → t ≠ 6 → I' (A' t) = I (A t)) (hC : ∀ a, a < 150 → a ≠ aB 0 B → a ≠ aBc 0 B → a ≠ aW 0 → C' a = C a) (hb : msB A' C' I' B) : ms A' H M (B + 1) N C' I' := by
  obtain ⟨m1, m2, m3, m4, m5, m6, m7, m8, m9⟩ := hm
  obtain ⟨b1, b2, b3, b4⟩ := id hn
  have hn0 : sy_N H M B N := ⟨b1, b2, by omega, b4⟩
  refine ⟨?_, fun k hk => ?_, fun l hl => ?_, fun l hl => ?_, fun m hm => ?_, fun h hh => ?_, fun b hb9 => ?_, fun d hd f hf => ?_, fun m hm h hh g hg => ?_⟩
  · rw [hI 0 sv_0 (by decide), hC _ (by simp only [aR]; omega) (by simp only [aR, aB]; omega) (by simp only [aR, aBc]; omega) (by simp only [aR, aW]; omega)]; exact m1
  · rw [hI 1 sv_1 (by decide), hC _ (by simp only [aWm]; omega) (by simp only [aWm, aB]; omega) (by simp only [aWm, aBc]; omega) (by simp only [aWm, aW]; omega)]; exact m2 k hk
  · rw [hI 2 sv_2 (by decide), hC _ (by simp only [aLd]; omega) (by simp only [aLd, aB]; omega) (by simp only [aLd, aBc]; omega) (by simp only [aLd, aW]; omega)]; exact m3 l hl
  · rw [hI 3 sv_3 (by decide), hC _ (by simp only [aIc]; omega) (by simp only [aIc, aB]; omega) (by simp only [aIc, aBc]; omega) (by simp only [aIc, aW]; omega)]; exact m4 l hl
  · rw [hI 4 sv_4 (by decide), hC _ (by simp only [aM]; omega) (by simp only [aM, aB]; omega) (by simp only [aM, aBc]; omega) (by simp only [aM, aW]; omega)]; exact m5 m hm
  · rw [hI _ (sv_H hn0 hh) (by omega), hC _ (by simp only [aBe]; omega) (by simp only [aBe, aB]; omega) (by simp only [aBe, aBc]; omega) (by simp only [aBe, aW]; omega), hC _ (by simp only [aPr]; omega) (by simp only [aPr, aB]; omega) (by simp only [aPr, aBc]; omega) (by simp only [aPr, aW]; omega)]; exact m6 h hh
  · by_cases e : b = B
    · subst e; exact hb
    · exact msB_cg (m7 b (by omega)) (hI _ (sv_B hn0 (by omega)) (by omega)) (hI _ (sv_G hn0 (by omega)) (by omega)) (hC _ (by simp only [aB]; omega) (by simp only [aB]; omega) (by simp only [aB, aBc]; omega) (by simp only [aB, aW]; omega)) (hC _ (by simp only [aBc]; omega) (by simp only [aBc, aB]; omega) (by simp only [aBc]; omega) (by simp only [aBc, aW]; omega))
  · rw [hI _ (sv_D hn0 hd) (by omega), hC _ (by simp only [aD]; omega) (by simp only [aD, aB]; omega) (by simp only [aD, aBc]; omega) (by simp only [aD, aW]; omega)]; exact m8 d hd f hf
  · rw [hI _ (sv_S hn0 hm hh) (by omega), hC _ (by simp only [aMt]; omega) (by simp only [aMt, aB]; omega) (by simp only [aMt, aBc]; omega) (by simp only [aMt, aW]; omega)]; exact m9 m hm h hh g hg
/-- one debt more -/
theorem ms_addN (hn : sy_N H M B (N + 1)) (hm : ms A H M B N C I) (hI : ∀ t, sy_K H M B N t ≠ none → t ≠ 7 → I' (A' t) = I (A t)) (hC : ∀ a, a < 150 → a ≠ aD 0 N → a ≠ aW 0 → C' a = C a) (hd : ∀ f, f < 7 → I' (A' (60 + N)) f = C' (aD 0 N) f) : ms A' H M B (N + 1) C' I' := by
  obtain ⟨m1, m2, m3, m4, m5, m6, m7, m8, m9⟩ := hm
  obtain ⟨b1, b2, b3, b4⟩ := id hn
  have hn0 : sy_N H M B N := ⟨b1, b2, b3, by omega⟩
  refine ⟨?_, fun k hk => ?_, fun l hl => ?_, fun l hl => ?_, fun m hm => ?_, fun h hh => ?_, fun b hb9 => ?_, fun d hd9 f hf => ?_, fun m hm h hh g hg => ?_⟩
  · rw [hI 0 sv_0 (by decide), hC _ (by simp only [aR]; omega) (by simp only [aR, aD]; omega) (by simp only [aR, aW]; omega)]; exact m1
  · rw [hI 1 sv_1 (by decide), hC _ (by simp only [aWm]; omega) (by simp only [aWm, aD]; omega) (by simp only [aWm, aW]; omega)]; exact m2 k hk
  · rw [hI 2 sv_2 (by decide), hC _ (by simp only [aLd]; omega) (by simp only [aLd, aD]; omega) (by simp only [aLd, aW]; omega)]; exact m3 l hl
  · rw [hI 3 sv_3 (by decide), hC _ (by simp only [aIc]; omega) (by simp only [aIc, aD]; omega) (by simp only [aIc, aW]; omega)]; exact m4 l hl
  · rw [hI 4 sv_4 (by decide), hC _ (by simp only [aM]; omega) (by simp only [aM, aD]; omega) (by simp only [aM, aW]; omega)]; exact m5 m hm
  · rw [hI _ (sv_H hn0 hh) (by omega), hC _ (by simp only [aBe]; omega) (by simp only [aBe, aD]; omega) (by simp only [aBe, aW]; omega), hC _ (by simp only [aPr]; omega) (by simp only [aPr, aD]; omega) (by simp only [aPr, aW]; omega)]; exact m6 h hh
  · exact msB_cg (m7 b hb9) (hI _ (sv_B hn0 hb9) (by omega)) (hI _ (sv_G hn0 hb9) (by omega)) (hC _ (by simp only [aB]; omega) (by simp only [aB, aD]; omega) (by simp only [aB, aW]; omega)) (hC _ (by simp only [aBc]; omega) (by simp only [aBc, aD]; omega) (by simp only [aBc, aW]; omega))
  · by_cases e : d = N
    · subst e; exact hd f hf
    · rw [hI _ (sv_D hn0 (by omega)) (by omega), hC _ (by simp only [aD]; omega) (by simp only [aD]; omega) (by simp only [aD, aW]; omega)]; exact m8 d (by omega) f hf
  · rw [hI _ (sv_S hn0 hm hh) (by omega), hC _ (by simp only [aMt]; omega) (by simp only [aMt, aD]; omega) (by simp only [aMt, aW]; omega)]; exact m9 m hm h hh g hg
end SJ
