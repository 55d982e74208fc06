/-! what the law's own river tells of the class's world -/
theorem sv_0 {H M B N : Nat} : sy_K H M B N 0 ≠ none := by rw [sy_e0]; simp
theorem sv_1 {H M B N : Nat} : sy_K H M B N 1 ≠ none := by rw [sy_e1]; simp
theorem sv_2 {H M B N : Nat} : sy_K H M B N 2 ≠ none := by rw [sy_e2]; simp
theorem sv_3 {H M B N : Nat} : sy_K H M B N 3 ≠ none := by rw [sy_e3]; simp
theorem sv_4 {H M B N : Nat} : sy_K H M B N 4 ≠ none := by rw [sy_e4]; simp
theorem sv_5 {H M B N : Nat} : sy_K H M B N 5 ≠ none := by rw [sy_e5]; simp
theorem sv_6 {H M B N : Nat} : sy_K H M B N 6 ≠ none := by rw [sy_e6]; simp
theorem sv_7 {H M B N : Nat} : sy_K H M B N 7 ≠ none := by rw [sy_e7]; simp
theorem sv_8 {H M B N : Nat} : sy_K H M B N 8 ≠ none := by rw [sy_e8]; simp
theorem sv_H {H M B N h : Nat} (hn : sy_N H M B N) (hh : h < H) : sy_K H M B N (10 + h) ≠ none := by rw [sy_eH hn hh]; simp
theorem sv_B {H M B N h : Nat} (hn : sy_N H M B N) (hh : h < B) : sy_K H M B N (20 + h) ≠ none := by rw [sy_eB hn hh]; simp
theorem sv_G {H M B N h : Nat} (hn : sy_N H M B N) (hh : h < B) : sy_K H M B N (40 + h) ≠ none := by rw [sy_eG hn hh]; simp
theorem sv_D {H M B N h : Nat} (hn : sy_N H M B N) (hh : h < N) : sy_K H M B N (60 + h) ≠ none := by rw [sy_eD hn hh]; simp
theorem sv_M {H M B N h : Nat} (hn : sy_N H M B N) (hh : h < 5) : sy_K H M B N (100 + h) ≠ none := by rw [sy_eM hn hh]; simp
theorem sv_S {H M B N k h : Nat} (hn : sy_N H M B N) (hk : k < 5) (hh : h < 8) : sy_K H M B N (110 + 8 * k + h) ≠ none := by rw [sy_eS hn hk hh]; simp
def msB (A : Nat → Nat) (C I : jj_I) (b : Nat) : Prop := I (A (20 + b)) 0 = C (aB 0 b) 0 ∧ I (A (20 + b)) 1 = C (aB 0 b) 1 ∧ I (A (20 + b)) 2 = C (aB 0 b) 2 ∧ I (A (20 + b)) 3 = C (aB 0 b) 3 ∧ I (A (20 + b)) 4 = C (aB 0 b) 4 ∧ I (A (20 + b)) 5 = C (aB 0 b) 6 ∧ I (A (20 + b)) 6 = C (aB 0 b) 7 ∧ (C (aB 0 b) 3 = 2 → I (A (20 + b)) 7 = C (aB 0 b) 5 + 1) ∧ ∀ g, g < 4 → I (A (40 + b)) g = C (aBc 0 b) g
def ms (A : Nat → Nat) (H M B N : Nat) (C I : jj_I) : Prop := I (A 0) 8 = C (aR 0) 0 ∧ (∀ k, k < 40 → I (A 1) k = C (aWm 0) k) ∧ (∀ l, l + 1 < H → I (A 2) (l + 1) = C (aLd 0) l) ∧ (∀ l, l + 1 < H → I (A 3) (l + 1) = C (aIc 0) l) ∧ (∀ m, m < M → I (A 4) m = C (aM 0 m) 0) ∧
  (∀ h, h < H → I (A (10 + h)) 0 = C (aBe 0) h ∧ ∀ g, g < 4 → I (A (10 + h)) (1 + g) = C (aPr 0) (4 * h + g)) ∧ (∀ b, b < B → msB A C I b) ∧ (∀ d, d < N → ∀ f, f < 7 → I (A (60 + d)) f = C (aD 0 d) f) ∧ ∀ m, m < 5 → ∀ h, h < 8 → ∀ g, g < 4 → I (A (110 + 8 * m + h)) g = C (aMt 0 m) (4 * h + g)
theorem msB_cg {A A' : Nat → Nat} {C C' I I' : jj_I} {b : Nat} (h : msB A C I b) (h1 : I' (A' (20 + b)) = I (A (20 + b))) (h2 : I' (A' (40 + b)) = I (A (40 + b))) (h3 : C' (aB 0 b) = C (aB 0 b)) (h4 : C' (aBc 0 b) = C (aBc 0 b)) : msB A' C' I' b := by
  unfold msB
  rw [h1, h2, h3, h4]
  exact h
section MS
variable {A A' : Nat → Nat} {H M B N n : Nat} {K : jj_K} {P : jj_P} {C C' I I' : jj_I}
/-- the rows are the same, on both sides -/
theorem ms_cg (hn : sy_N H M B N) (hm : ms A H M B N C I) (hI : ∀ t, sy_K H M B N t ≠ none → I' (A' t) = I (A t)) (hC : ∀ a, a < 150 → C' a = C a) : ms A' H M B N C' I' := by
  obtain ⟨m1, m2, m3, m4, m5, m6, m7, m8, m9⟩ := hm
  obtain ⟨n1, n2, n3, n4⟩ := id hn
  refine ⟨?_, fun k hk => ?_, fun l hl => ?_, fun l hl => ?_, fun m hm => ?_, fun h hh => ?_, fun b hb => ?_, fun d hd f hf => ?_, fun m hm h hh g hg => ?_⟩
  · rw [hI 0 sv_0, hC _ (by simp only [aR]; omega)]; exact m1
  · rw [hI 1 sv_1, hC _ (by simp only [aWm]; omega)]; exact m2 k hk
  · rw [hI 2 sv_2, hC _ (by simp only [aLd]; omega)]; exact m3 l hl
  · rw [hI 3 sv_3, hC _ (by simp only [aIc]; omega)]; exact m4 l hl
  · rw [hI 4 sv_4, hC _ (by simp only [aM]; omega)]; exact m5 m hm
  · rw [hI _ (sv_H hn hh), hC _ (by simp only [aBe]; omega), hC _ (by simp only [aPr]; omega)]; exact m6 h hh
  · exact msB_cg (m7 b hb) (hI _ (sv_B hn hb)) (hI _ (sv_G hn hb)) (hC _ (by simp only [aB]; omega)) (hC _ (by simp only [aBc]; omega))
  · rw [hI _ (sv_D hn hd), hC _ (by simp only [aD]; omega)]; exact m8 d hd f hf
  · rw [hI _ (sv_S hn hm hh), hC _ (by simp only [aMt]; omega)]; exact m9 m hm h hh g hg
/-- one boat is another, and no other row -/
theorem ms_b1 (hn : sy_N H M B N) (hm : ms A H M B N C I) {x : Nat} (hx : x < B) (hI : ∀ t, sy_K H M B N t ≠ none → t ≠ 20 + x → t ≠ 40 + x → I' (A' t) = I (A t)) (hC : ∀ a, a < 150 → a ≠ aB 0 x → a ≠ aBc 0 x → C' a = C a) (hb : msB A' C' I' x) : ms A' H M B N C' I' := by
  obtain ⟨m1, m2, m3, m4, m5, m6, m7, m8, m9⟩ := hm
  obtain ⟨n1, n2, n3, n4⟩ := id hn
  refine ⟨?_, fun k hk => ?_, fun l hl => ?_, fun l hl => ?_, fun m hm => ?_, fun h hh => ?_, fun b hb9 => ?_, fun d hd f hf => ?_, fun m hm h hh g hg => ?_⟩
  · rw [hI 0 sv_0 (by omega) (by omega), hC _ (by simp only [aR]; omega) (by simp only [aR, aB]; omega) (by simp only [aR, aBc]; omega)]; exact m1
  · rw [hI 1 sv_1 (by omega) (by omega), hC _ (by simp only [aWm]; omega) (by simp only [aWm, aB]; omega) (by simp only [aWm, aBc]; omega)]; exact m2 k hk
  · rw [hI 2 sv_2 (by omega) (by omega), hC _ (by simp only [aLd]; omega) (by simp only [aLd, aB]; omega) (by simp only [aLd, aBc]; omega)]; exact m3 l hl
  · rw [hI 3 sv_3 (by omega) (by omega), hC _ (by simp only [aIc]; omega) (by simp only [aIc, aB]; omega) (by simp only [aIc, aBc]; omega)]; exact m4 l hl
  · rw [hI 4 sv_4 (by omega) (by omega), hC _ (by simp only [aM]; omega) (by simp only [aM, aB]; omega) (by simp only [aM, aBc]; omega)]; exact m5 m hm
  · rw [hI _ (sv_H hn hh) (by omega) (by omega), hC _ (by simp only [aBe]; omega) (by simp only [aBe, aB]; omega) (by simp only [aBe, aBc]; omega), hC _ (by simp only [aPr]; omega) (by simp only [aPr, aB]; omega) (by simp only [aPr, aBc]; omega)]; exact m6 h hh
  · by_cases e : b = x
    · subst e; exact hb
    · exact msB_cg (m7 b hb9) (hI _ (sv_B hn hb9) (by omega) (by omega)) (hI _ (sv_G hn hb9) (by omega) (by omega)) (hC _ (by simp only [aB]; omega) (by simp only [aB]; omega) (by simp only [aB, aBc]; omega)) (hC _ (by simp only [aBc]; omega) (by simp only [aBc, aB]; omega) (by simp only [aBc]; omega))
  · rw [hI _ (sv_D hn hd) (by omega) (by omega), hC _ (by simp only [aD]; omega) (by simp only [aD, aB]; omega) (by simp only [aD, aBc]; omega)]; exact m8 d hd f hf
  · rw [hI _ (sv_S hn hm hh) (by omega) (by omega), hC _ (by simp only [aMt]; omega) (by simp only [aMt, aB]; omega) (by simp only [aMt, aBc]; omega)]; exact m9 m hm h hh g hg
theorem ms_day (hs : sy A H M B N n K P) (hm : ms A H M B N C I)  {v : Int32}  : ms A H M B N (jj_u C (aR 0) 0 v) (jj_u I (A (0)) 8 v) := by
  have hn := hs.1
  obtain ⟨m1, m2, m3, m4, m5, m6, m7, m8, m9⟩ := hm
  obtain ⟨n1, n2, n3, n4⟩ := id hn
  refine ⟨?_, fun k hk => ?_, fun l hl => ?_, fun l hl => ?_, fun m hm9 => ?_, fun h hh => ?_, fun b hb => ?_, fun d hd f hf => ?_, fun m hm9 h hh g hg => ?_⟩
  · rw [jj_u_eq, jj_u_eq]
  · rw [sy_off hs sv_0 sv_1 (by omega), jj_u_ne (b := aWm 0) (by simp only [aR, aWm]; omega)]; exact m2 k hk
  · rw [sy_off hs sv_0 sv_2 (by omega), jj_u_ne (b := aLd 0) (by simp only [aLd, aR]; omega)]; exact m3 l hl
  · rw [sy_off hs sv_0 sv_3 (by omega), jj_u_ne (b := aIc 0) (by simp only [aIc, aR]; omega)]; exact m4 l hl
  · rw [sy_off hs sv_0 sv_4 (by omega), jj_u_ne (b := aM 0 m) (by simp only [aM, aR]; omega)]; exact m5 m hm9
  · rw [sy_off hs sv_0 (sv_H hn hh) (by omega), jj_u_ne (b := aBe 0) (by simp only [aBe, aR]; omega), jj_u_ne (b := aPr 0) (by simp only [aPr, aR]; omega)]; exact m6 h hh
  · exact msB_cg (m7 b hb) (sy_off hs sv_0 (sv_B hn hb) (by omega)) (sy_off hs sv_0 (sv_G hn hb) (by omega)) (jj_u_ne (by simp only [aB, aR]; omega)) (jj_u_ne (by simp only [aBc, aR]; omega))
  · rw [sy_off hs sv_0 (sv_D hn hd) (by omega), jj_u_ne (b := aD 0 d) (by simp only [aD, aR]; omega)]; exact m8 d hd f hf
  · rw [sy_off hs sv_0 (sv_S hn hm9 hh) (by omega), jj_u_ne (b := aMt 0 m) (by simp only [aMt, aR]; omega)]; exact m9 m hm9 h hh g hg
theorem ms_warm (hs : sy A H M B N n K P) (hm : ms A H M B N C I) {x : Nat} {v : Int32}  : ms A H M B N (jj_u C (aWm 0) x v) (jj_u I (A (1)) x v) := by
  have hn := hs.1
  obtain ⟨m1, m2, m3, m4, m5, m6, m7, m8, m9⟩ := hm
  obtain ⟨n1, n2, n3, n4⟩ := id hn
  refine ⟨?_, fun k hk => ?_, fun l hl => ?_, fun l hl => ?_, fun m hm9 => ?_, fun h hh => ?_, fun b hb => ?_, fun d hd f hf => ?_, fun m hm9 h hh g hg => ?_⟩
  · rw [sy_off hs sv_1 sv_0 (by omega), jj_u_ne (b := aR 0) (by simp only [aR, aWm]; omega)]; exact m1
  · by_cases e : k = x
    · subst e; rw [jj_u_eq, jj_u_eq]
    · rw [jj_u_nk (e), jj_u_nk e]; exact m2 k hk
  · rw [sy_off hs sv_1 sv_2 (by omega), jj_u_ne (b := aLd 0) (by simp only [aLd, aWm]; omega)]; exact m3 l hl
  · rw [sy_off hs sv_1 sv_3 (by omega), jj_u_ne (b := aIc 0) (by simp only [aIc, aWm]; omega)]; exact m4 l hl
  · rw [sy_off hs sv_1 sv_4 (by omega), jj_u_ne (b := aM 0 m) (by simp only [aM, aWm]; omega)]; exact m5 m hm9
  · rw [sy_off hs sv_1 (sv_H hn hh) (by omega), jj_u_ne (b := aBe 0) (by simp only [aBe, aWm]; omega), jj_u_ne (b := aPr 0) (by simp only [aPr, aWm]; omega)]; exact m6 h hh
  · exact msB_cg (m7 b hb) (sy_off hs sv_1 (sv_B hn hb) (by omega)) (sy_off hs sv_1 (sv_G hn hb) (by omega)) (jj_u_ne (by simp only [aB, aWm]; omega)) (jj_u_ne (by simp only [aBc, aWm]; omega))
  · rw [sy_off hs sv_1 (sv_D hn hd) (by omega), jj_u_ne (b := aD 0 d) (by simp only [aD, aWm]; omega)]; exact m8 d hd f hf
  · rw [sy_off hs sv_1 (sv_S hn hm9 hh) (by omega), jj_u_ne (b := aMt 0 m) (by simp only [aMt, aWm]; omega)]; exact m9 m hm9 h hh g hg
theorem ms_ice (hs : sy A H M B N n K P) (hm : ms A H M B N C I) {x : Nat} {v : Int32}  : ms A H M B N (jj_u C (aIc 0) x v) (jj_u I (A (3)) (x + 1) v) := by
  have hn := hs.1
  obtain ⟨m1, m2, m3, m4, m5, m6, m7, m8, m9⟩ := hm
  obtain ⟨n1, n2, n3, n4⟩ := id hn
  refine ⟨?_, fun k hk => ?_, fun l hl => ?_, fun l hl => ?_, fun m hm9 => ?_, fun h hh => ?_, fun b hb => ?_, fun d hd f hf => ?_, fun m hm9 h hh g hg => ?_⟩
  · rw [sy_off hs sv_3 sv_0 (by omega), jj_u_ne (b := aR 0) (by simp only [aIc, aR]; omega)]; exact m1
  · rw [sy_off hs sv_3 sv_1 (by omega), jj_u_ne (b := aWm 0) (by simp only [aIc, aWm]; omega)]; exact m2 k hk
  · rw [sy_off hs sv_3 sv_2 (by omega), jj_u_ne (b := aLd 0) (by simp only [aIc, aLd]; omega)]; exact m3 l hl
  · by_cases e : l = x
    · subst e; rw [jj_u_eq, jj_u_eq]
    · rw [jj_u_nk (by omega), jj_u_nk e]; exact m4 l hl
  · rw [sy_off hs sv_3 sv_4 (by omega), jj_u_ne (b := aM 0 m) (by simp only [aIc, aM]; omega)]; exact m5 m hm9
  · rw [sy_off hs sv_3 (sv_H hn hh) (by omega), jj_u_ne (b := aBe 0) (by simp only [aBe, aIc]; omega), jj_u_ne (b := aPr 0) (by simp only [aIc, aPr]; omega)]; exact m6 h hh
  · exact msB_cg (m7 b hb) (sy_off hs sv_3 (sv_B hn hb) (by omega)) (sy_off hs sv_3 (sv_G hn hb) (by omega)) (jj_u_ne (by simp only [aB, aIc]; omega)) (jj_u_ne (by simp only [aBc, aIc]; omega))
  · rw [sy_off hs sv_3 (sv_D hn hd) (by omega), jj_u_ne (b := aD 0 d) (by simp only [aD, aIc]; omega)]; exact m8 d hd f hf
  · rw [sy_off hs sv_3 (sv_S hn hm9 hh) (by omega), jj_u_ne (b := aMt 0 m) (by simp only [aIc, aMt]; omega)]; exact m9 m hm9 h hh g hg
theorem ms_coin (hs : sy A H M B N n K P) (hm : ms A H M B N C I) {x : Nat} {v : Int32} (hx : x < M) : ms A H M B N (jj_u C (aM 0 x) 0 v) (jj_u I (A (4)) x v) := by
  have hn := hs.1
  obtain ⟨m1, m2, m3, m4, m5, m6, m7, m8, m9⟩ := hm
  obtain ⟨n1, n2, n3, n4⟩ := id hn
  refine ⟨?_, fun k hk => ?_, fun l hl => ?_, fun l hl => ?_, fun m hm9 => ?_, fun h hh => ?_, fun b hb => ?_, fun d hd f hf => ?_, fun m hm9 h hh g hg => ?_⟩
  · rw [sy_off hs sv_4 sv_0 (by omega), jj_u_ne (b := aR 0) (by simp only [aM, aR]; omega)]; exact m1
  · rw [sy_off hs sv_4 sv_1 (by omega), jj_u_ne (b := aWm 0) (by simp only [aM, aWm]; omega)]; exact m2 k hk
  · rw [sy_off hs sv_4 sv_2 (by omega), jj_u_ne (b := aLd 0) (by simp only [aLd, aM]; omega)]; exact m3 l hl
  · rw [sy_off hs sv_4 sv_3 (by omega), jj_u_ne (b := aIc 0) (by simp only [aIc, aM]; omega)]; exact m4 l hl
  · by_cases e : m = x
    · subst e; rw [jj_u_eq, jj_u_eq]
    · rw [jj_u_nk (e), jj_u_ne (b := aM 0 m) (by simp only [aM]; omega)]; exact m5 m hm9
  · rw [sy_off hs sv_4 (sv_H hn hh) (by omega), jj_u_ne (b := aBe 0) (by simp only [aBe, aM]; omega), jj_u_ne (b := aPr 0) (by simp only [aM, aPr]; omega)]; exact m6 h hh
  · exact msB_cg (m7 b hb) (sy_off hs sv_4 (sv_B hn hb) (by omega)) (sy_off hs sv_4 (sv_G hn hb) (by omega)) (jj_u_ne (by simp only [aB, aM]; omega)) (jj_u_ne (by simp only [aBc, aM]; omega))
  · rw [sy_off hs sv_4 (sv_D hn hd) (by omega), jj_u_ne (b := aD 0 d) (by simp only [aD, aM]; omega)]; exact m8 d hd f hf
  · rw [sy_off hs sv_4 (sv_S hn hm9 hh) (by omega), jj_u_ne (b := aMt 0 m) (by simp only [aM, aMt]; omega)]; exact m9 m hm9 h hh g hg
theorem ms_debt (hs : sy A H M B N n K P) (hm : ms A H M B N C I) {x y : Nat} {v : Int32} (hx : x < N) : ms A H M B N (jj_u C (aD 0 x) y v) (jj_u I (A (60 + x)) y v) := by
  have hn := hs.1
  obtain ⟨m1, m2, m3, m4, m5, m6, m7, m8, m9⟩ := hm
  obtain ⟨n1, n2, n3, n4⟩ := id hn
  refine ⟨?_, fun k hk => ?_, fun l hl => ?_, fun l hl => ?_, fun m hm9 => ?_, fun h hh => ?_, fun b hb => ?_, fun d hd f hf => ?_, fun m hm9 h hh g hg => ?_⟩
  · rw [sy_off hs (sv_D hn hx) sv_0 (by omega), jj_u_ne (b := aR 0) (by simp only [aD, aR]; omega)]; exact m1
  · rw [sy_off hs (sv_D hn hx) sv_1 (by omega), jj_u_ne (b := aWm 0) (by simp only [aD, aWm]; omega)]; exact m2 k hk
  · rw [sy_off hs (sv_D hn hx) sv_2 (by omega), jj_u_ne (b := aLd 0) (by simp only [aD, aLd]; omega)]; exact m3 l hl
  · rw [sy_off hs (sv_D hn hx) sv_3 (by omega), jj_u_ne (b := aIc 0) (by simp only [aD, aIc]; omega)]; exact m4 l hl
  · rw [sy_off hs (sv_D hn hx) sv_4 (by omega), jj_u_ne (b := aM 0 m) (by simp only [aD, aM]; omega)]; exact m5 m hm9
  · rw [sy_off hs (sv_D hn hx) (sv_H hn hh) (by omega), jj_u_ne (b := aBe 0) (by simp only [aBe, aD]; omega), jj_u_ne (b := aPr 0) (by simp only [aD, aPr]; omega)]; exact m6 h hh
  · exact msB_cg (m7 b hb) (sy_off hs (sv_D hn hx) (sv_B hn hb) (by omega)) (sy_off hs (sv_D hn hx) (sv_G hn hb) (by omega)) (jj_u_ne (by simp only [aB, aD]; omega)) (jj_u_ne (by simp only [aBc, aD]; omega))
  · by_cases e : d = x
    · subst e
      by_cases e2 : f = y
      · subst e2; rw [jj_u_eq, jj_u_eq]
      · rw [jj_u_nk e2, jj_u_nk e2]; exact m8 d hd f hf
    · rw [sy_off hs (sv_D hn hx) (sv_D hn hd) (by omega), jj_u_ne (b := aD 0 d) (by simp only [aD]; omega)]; exact m8 d hd f hf
  · rw [sy_off hs (sv_D hn hx) (sv_S hn hm9 hh) (by omega), jj_u_ne (b := aMt 0 m) (by simp only [aD, aMt]; omega)]; exact m9 m hm9 h hh g hg
theorem ms_stock (hs : sy A H M B N n K P) (hm : ms A H M B N C I) {x y z : Nat} {v : Int32} (hx : x < 5) (hy : y < 8) (hz : z < 4) : ms A H M B N (jj_u C (aMt 0 x) (4 * y + z) v) (jj_u I (A (110 + 8 * x + y)) z v) := by
  have hn := hs.1
  obtain ⟨m1, m2, m3, m4, m5, m6, m7, m8, m9⟩ := hm
  obtain ⟨n1, n2, n3, n4⟩ := id hn
  refine ⟨?_, fun k hk => ?_, fun l hl => ?_, fun l hl => ?_, fun m hm9 => ?_, fun h hh => ?_, fun b hb => ?_, fun d hd f hf => ?_, fun m hm9 h hh g hg => ?_⟩
  · rw [sy_off hs (sv_S hn hx hy) sv_0 (by omega), jj_u_ne (b := aR 0) (by simp only [aMt, aR]; omega)]; exact m1
  · rw [sy_off hs (sv_S hn hx hy) sv_1 (by omega), jj_u_ne (b := aWm 0) (by simp only [aMt, aWm]; omega)]; exact m2 k hk
  · rw [sy_off hs (sv_S hn hx hy) sv_2 (by omega), jj_u_ne (b := aLd 0) (by simp only [aLd, aMt]; omega)]; exact m3 l hl
  · rw [sy_off hs (sv_S hn hx hy) sv_3 (by omega), jj_u_ne (b := aIc 0) (by simp only [aIc, aMt]; omega)]; exact m4 l hl
  · rw [sy_off hs (sv_S hn hx hy) sv_4 (by omega), jj_u_ne (b := aM 0 m) (by simp only [aM, aMt]; omega)]; exact m5 m hm9
  · rw [sy_off hs (sv_S hn hx hy) (sv_H hn hh) (by omega), jj_u_ne (b := aBe 0) (by simp only [aBe, aMt]; omega), jj_u_ne (b := aPr 0) (by simp only [aMt, aPr]; omega)]; exact m6 h hh
  · exact msB_cg (m7 b hb) (sy_off hs (sv_S hn hx hy) (sv_B hn hb) (by omega)) (sy_off hs (sv_S hn hx hy) (sv_G hn hb) (by omega)) (jj_u_ne (by simp only [aB, aMt]; omega)) (jj_u_ne (by simp only [aBc, aMt]; omega))
  · rw [sy_off hs (sv_S hn hx hy) (sv_D hn hd) (by omega), jj_u_ne (b := aD 0 d) (by simp only [aD, aMt]; omega)]; exact m8 d hd f hf
  · by_cases e : m = x ∧ h = y
    · obtain ⟨rfl, rfl⟩ := e
      by_cases e2 : g = z
      · subst e2; rw [jj_u_eq, jj_u_eq]
      · rw [jj_u_nk e2, jj_u_nk (by omega)]; exact m9 m hm9 h hh g hg
    · rw [sy_off hs (sv_S hn hx hy) (sv_S hn hm9 hh) (by omega)]
      by_cases e3 : m = x
      · subst e3; rw [jj_u_nk (by omega)]; exact m9 m hm9 h hh g hg
      · rw [jj_u_ne (b := aMt 0 m) (by simp only [aMt]; omega)]; exact m9 m hm9 h hh g hg
theorem ms_st (hs : sy A H M B N n K P) (hm : ms A H M B N C I) {x : Nat} {v : Int32} (hx : x < B) (hv : v = 2 → I (A (20 + x)) 7 = C (aB 0 x) 5 + 1) : ms A H M B N (jj_u C (aB 0 x) 3 v) (jj_u I (A (20 + x)) 3 v) := by
  have hn := hs.1
  obtain ⟨n1, n2, n3, n4⟩ := id hn
  obtain ⟨q0, q1, q2, q3, q4, q5, q6, q7, q8⟩ := hm.2.2.2.2.2.2.1 x hx
  refine ms_b1 hn hm hx (fun t ht h1 h2 => sy_off hs (sv_B hn hx) ht h1) (fun a ha h1 h2 => jj_u_ne h1) ⟨?_, ?_, ?_, ?_, ?_, ?_, ?_, ?_, ?_⟩
  · rw [jj_u_nk (by decide), jj_u_nk (by decide)]; exact q0
  · rw [jj_u_nk (by decide), jj_u_nk (by decide)]; exact q1
  · rw [jj_u_nk (by decide), jj_u_nk (by decide)]; exact q2
  · rw [jj_u_eq, jj_u_eq]
  · rw [jj_u_nk (by decide), jj_u_nk (by decide)]; exact q4
  · rw [jj_u_nk (by decide), jj_u_nk (by decide)]; exact q5
  · rw [jj_u_nk (by decide), jj_u_nk (by decide)]; exact q6
  · rw [jj_u_eq, jj_u_nk (by decide), jj_u_nk (by decide)]; exact hv
  · intro g hg; rw [sy_off hs (sv_B hn hx) (sv_G hn hx) (by omega), jj_u_ne (by simp only [aB, aBc]; omega)]; exact q8 g hg
theorem ms_hull (hs : sy A H M B N n K P) (hm : ms A H M B N C I) {x : Nat} {v : Int32} (hx : x < B) : ms A H M B N (jj_u C (aB 0 x) 1 v) (jj_u I (A (20 + x)) 1 v) := by
  have hn := hs.1
  obtain ⟨n1, n2, n3, n4⟩ := id hn
  obtain ⟨q0, q1, q2, q3, q4, q5, q6, q7, q8⟩ := hm.2.2.2.2.2.2.1 x hx
  refine ms_b1 hn hm hx (fun t ht h1 h2 => sy_off hs (sv_B hn hx) ht h1) (fun a ha h1 h2 => jj_u_ne h1) ⟨?_, ?_, ?_, ?_, ?_, ?_, ?_, ?_, ?_⟩
  · rw [jj_u_nk (by decide), jj_u_nk (by decide)]; exact q0
  · rw [jj_u_eq, jj_u_eq]
  · rw [jj_u_nk (by decide), jj_u_nk (by decide)]; exact q2
  · rw [jj_u_nk (by decide), jj_u_nk (by decide)]; exact q3
  · rw [jj_u_nk (by decide), jj_u_nk (by decide)]; exact q4
  · rw [jj_u_nk (by decide), jj_u_nk (by decide)]; exact q5
  · rw [jj_u_nk (by decide), jj_u_nk (by decide)]; exact q6
  · rw [jj_u_nk (by decide), jj_u_nk (by decide), jj_u_nk (by decide)]; exact q7
  · intro g hg; rw [sy_off hs (sv_B hn hx) (sv_G hn hx) (by omega), jj_u_ne (by simp only [aB, aBc]; omega)]; exact q8 g hg
theorem ms_goal (hs : sy A H M B N n K P) (hm : ms A H M B N C I) {x : Nat} {v : Int32} (hx : x < B) : ms A H M B N (jj_u C (aB 0 x) 6 v) (jj_u I (A (20 + x)) 5 v) := by
  have hn := hs.1
  obtain ⟨n1, n2, n3, n4⟩ := id hn
  obtain ⟨q0, q1, q2, q3, q4, q5, q6, q7, q8⟩ := hm.2.2.2.2.2.2.1 x hx
  refine ms_b1 hn hm hx (fun t ht h1 h2 => sy_off hs (sv_B hn hx) ht h1) (fun a ha h1 h2 => jj_u_ne h1) ⟨?_, ?_, ?_, ?_, ?_, ?_, ?_, ?_, ?_⟩
  · rw [jj_u_nk (by decide), jj_u_nk (by decide)]; exact q0
  · rw [jj_u_nk (by decide), jj_u_nk (by decide)]; exact q1
  · rw [jj_u_nk (by decide), jj_u_nk (by decide)]; exact q2
  · rw [jj_u_nk (by decide), jj_u_nk (by decide)]; exact q3
  · rw [jj_u_nk (by decide), jj_u_nk (by decide)]; exact q4
  · rw [jj_u_eq, jj_u_eq]
  · rw [jj_u_nk (by decide), jj_u_nk (by decide)]; exact q6
  · rw [jj_u_nk (by decide), jj_u_nk (by decide), jj_u_nk (by decide)]; exact q7
  · intro g hg; rw [sy_off hs (sv_B hn hx) (sv_G hn hx) (by omega), jj_u_ne (by simp only [aB, aBc]; omega)]; exact q8 g hg
theorem ms_good (hs : sy A H M B N n K P) (hm : ms A H M B N C I) {x y : Nat} {v : Int32} (hx : x < B) : ms A H M B N (jj_u C (aBc 0 x) y v) (jj_u I (A (40 + x)) y v) := by
  have hn := hs.1
  obtain ⟨n1, n2, n3, n4⟩ := id hn
  obtain ⟨q0, q1, q2, q3, q4, q5, q6, q7, q8⟩ := hm.2.2.2.2.2.2.1 x hx
  refine ms_b1 hn hm hx (fun t ht h1 h2 => sy_off hs (sv_G hn hx) ht h2) (fun a ha h1 h2 => jj_u_ne h2) ?_
  unfold msB
  rw [sy_off hs (sv_G hn hx) (sv_B hn hx) (by omega), jj_u_ne (b := aB 0 x) (by simp only [aB, aBc]; omega)]
  refine ⟨q0, q1, q2, q3, q4, q5, q6, q7, fun g hg => ?_⟩
  by_cases e : g = y
  · subst e; rw [jj_u_eq, jj_u_eq]
  · rw [jj_u_nk e, jj_u_nk e]; exact q8 g hg
end MS
