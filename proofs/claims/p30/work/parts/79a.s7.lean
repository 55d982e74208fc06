/-! the law makes both rivers -/
theorem tw_a {v : Int32} : -9 ≤ -nI (bw v 10) ∧ -nI (bw v 10) ≤ 9 := by
  have h : bw v 10 < 10 := bw_lt (by decide)
  generalize bw v 10 = j at h
  have : ∀ j, j < 10 → -9 ≤ -nI j ∧ -nI j ≤ 9 := by decide +kernel
  exact this j h
theorem tw_b {v : Int32} : -9 ≤ nI (bw v 12) - 2 ∧ nI (bw v 12) - 2 ≤ 9 := by
  have h : bw v 12 < 12 := bw_lt (by decide)
  generalize bw v 12 = j at h
  have : ∀ j, j < 12 → -9 ≤ nI j - 2 ∧ nI j - 2 ≤ 9 := by decide +kernel
  exact this j h
/-- no goods on land yet -/
def sz (J : jj_I) : Prop := ∀ m, m < 5 → ∀ c, c < 32 → J (aMt 0 m) c = 0
theorem sz_cg {J J' : jj_I} (h : sz J) (e : ∀ m, m < 5 → J' (aMt 0 m) = J (aMt 0 m)) : sz J' := fun m hm c hc => by
  rw [e m hm]
  exact h m hm c hc
/-- days left: none but on a leg, and there 1 to 17 -/
def lw (B : Nat) (J : jj_I) : Prop := ∀ b, b < B → (¬ J (aB 0 b) 3 = 2 → J (aB 0 b) 7 = 0) ∧ (J (aB 0 b) 3 = 2 → ∃ t, 1 ≤ t ∧ t ≤ 17 ∧ J (aB 0 b) 7 = nI t)
/-- what is still as it was when it was made -/
def lz (A : Nat → Nat) (H : Nat) (J : jj_I) : Prop := (∀ c, 4 * H ≤ c → J (aPr 0) c = 0) ∧ (∀ k, J (A 3) k = 0) ∧ (∀ k, J (aIc 0) k = 0) ∧ sz J
/-- the warmth of k days is told -/
def lb1 (A : Nat → Nat) (k : Nat) (J : jj_I) : Prop := tn_c (2 * k + 1) 0 0 0 0 J ∧ ms A 0 0 0 0 J J ∧ (∀ j, k ≤ j → j < 40 → J (aWm 0) j = 4) ∧ lz A 0 J
theorem lb1_s {A : Nat → Nat} {n k : Nat} {K : jj_K} {P : jj_P} {J : jj_I} {t : Int32} (hsy : sy A 0 0 0 0 n K P) (h : lb1 A k J) (hk : k < 40) : lb1 A (k + 1) (jj_u (jj_u J (A 1) k t) (aWm 0) k t) := by
  obtain ⟨h1, h2, h3, h4, h5, h6, hs7⟩ := h
  have l1 := sy_lt hsy (t := 1) sv_1
  have l3 := sy_lt hsy (t := 3) sv_3
  have w1 : aWm 0 = 4 := rfl
  have eq : eqA (jj_u (jj_u J (A 1) k t) (aWm 0) k t) (jj_u J (aWm 0) k t) := eqA_u (eqA_w (fun _ _ => rfl) l1.1)
  refine ⟨tc_up (eqA_tc eq (by omega) (tc_warm h1 (by omega))) (by omega) (by omega), ?_, fun j h7 h8 => ?_, fun c hc => ?_, fun c => ?_, fun c => ?_, sz_cg hs7 (fun m hm => ?_)⟩
  · exact ms_in hsy (ms_warm hsy h2) eq (fun a ha _ => jj_u_ne (by omega))
  · rw [jj_u_nk (by omega), jj_u_ne (by omega)]; exact h3 j (by omega) h8
  · rw [jj_u_ne (by simp only [aPr, aWm]; omega), jj_u_ne (by simp only [aPr]; omega)]; exact h4 c hc
  · rw [jj_u_ne (by omega), jj_u_ne (fun e => by have := hsy.2.2.2 3 1 sv_3 sv_1 e; omega)]; exact h5 c
  · rw [jj_u_ne (by simp only [aIc, aWm]; omega), jj_u_ne (by simp only [aIc]; omega)]; exact h6 c
  · rw [jj_u_ne (by simp only [aMt, aWm]; omega), jj_u_ne (by simp only [aMt]; omega)]
/-- a row of days ahead of its use -/
theorem ms_dayrow {A : Nat → Nat} {H M B N n : Nat} {K : jj_K} {P : jj_P} {C I : jj_I} {v : Int32} (hs : sy A H M B N n K P) (hm : ms A H M B N C I) : ms A H M B N C (jj_u I (A 2) H v) := by
  obtain ⟨m1, m2, m3, m4, m5, m6, m7, m8, m9⟩ := hm
  have hn := hs.1
  obtain ⟨b1, b2, b3, b4⟩ := id hn
  have o : ∀ t, sy_K H M B N t ≠ none → t ≠ 2 → jj_u I (A 2) H v (A t) = I (A t) := fun t ht h => sy_off hs sv_2 ht h
  refine ⟨?_, fun k hk => ?_, fun l hl => ?_, fun l hl => ?_, fun m hm => ?_, fun h hh => ?_, fun b hb => ?_, fun d hd f hf => ?_, fun m hm h hh g hg => ?_⟩
  · rw [o 0 sv_0 (by decide)]; exact m1
  · rw [o 1 sv_1 (by decide)]; exact m2 k hk
  · rw [jj_u_nk (by omega)]; exact m3 l hl
  · rw [o 3 sv_3 (by decide)]; exact m4 l hl
  · rw [o 4 sv_4 (by decide)]; exact m5 m hm
  · rw [o _ (sv_H hn hh) (by omega)]; exact m6 h hh
  · exact msB_cg (m7 b hb) (o _ (sv_B hn hb) (by omega)) (o _ (sv_G hn hb) (by omega)) rfl rfl
  · rw [o _ (sv_D hn hd) (by omega)]; exact m8 d hd f hf
  · rw [o _ (sv_S hn hm hh) (by omega)]; exact m9 m hm h hh g hg
/-- h harbours are told -/
def lb2 (A : Nat → Nat) (h : Nat) (J : jj_I) : Prop := tn_c (82 + 12 * h) h 0 0 0 J ∧ ms A h 0 0 0 J J ∧ lz A h J
/-- a harbour's row q, when j of its prices are told; Jb: the river ahead of it -/
def lb3 (A : Nat → Nat) (h q : Nat) (leg be : Int32) (J : jj_I) (j : Nat) (J1 : jj_I) : Prop :=
  tn_c (82 + 12 * h + 2 + 2 * j) (h + 1) 0 0 0 J1 ∧ (∀ a, 150 ≤ a → a ≠ q → J1 a = jj_u J (A 2) h leg a) ∧ (∀ a, a < 150 → a ≠ aLd 0 → a ≠ aBe 0 → a ≠ aPr 0 → a ≠ aR 0 → J1 a = J a) ∧ J1 (aR 0) 0 = J (aR 0) 0 ∧ (∀ l, l + 1 < h → J1 (aLd 0) l = J (aLd 0) l) ∧ (∀ l, l + 1 = h → J1 (aLd 0) l = leg) ∧ (∀ c, c < h → J1 (aBe 0) c = J (aBe 0) c) ∧ J1 (aBe 0) h = be ∧
  (∀ c, c < 4 * h → J1 (aPr 0) c = J (aPr 0) c) ∧ (∀ c, 4 * h + j ≤ c → J1 (aPr 0) c = 0) ∧ J1 q 0 = be ∧ ∀ g, g < j → J1 q (1 + g) = J1 (aPr 0) (4 * h + g)
theorem lb3_0 {A : Nat → Nat} {h n : Nat} {K : jj_K} {P : jj_P} {J : jj_I} {leg be : Int32} (hsy : sy A h 0 0 0 n K P) (hl : lb2 A h J) (h8 : h < 7) (hleg : 1 ≤ leg ∧ leg ≤ 9) (hbe : 0 ≤ be ∧ be ≤ 5) :
    lb3 A h n leg be J 0 (jj_u (jj_u (jj_u (jj_u (jj_u (jj_uR (jj_u (f_gr 0 h leg be J) (A 2) h leg) n (fun _ => 0)) n 0 be) n 1 0) n 2 0) n 3 0) n 4 0) := by
  obtain ⟨h1, h2, h3, h4, h5⟩ := hl
  have l2 := sy_lt hsy (t := 2) sv_2
  have gr : ∀ a, 150 ≤ a → f_gr 0 h leg be J a = J a := fun a ha => by
    unfold f_gr
    rw [jj_u_ne (by simp only [aR]; omega), jj_u_ne (by simp only [aBe]; omega)]
    split
    · rw [jj_u_ne (by simp only [aLd]; omega)]
    · rfl
  have low : ∀ a, a < 150 → (jj_u (jj_u (jj_u (jj_u (jj_u (jj_uR (jj_u (f_gr 0 h leg be J) (A 2) h leg) n (fun _ => 0)) n 0 be) n 1 0) n 2 0) n 3 0) n 4 0) a = f_gr 0 h leg be J a := fun a ha => by
    rw [jj_u_ne (by omega), jj_u_ne (by omega), jj_u_ne (by omega), jj_u_ne (by omega), jj_u_ne (by omega), jj_uR_ne (by omega), jj_u_ne (by omega)]
  refine ⟨?_, fun a ha hq => ?_, fun a ha e1 e2 e3 e4 => ?_, ?_, fun l hl => ?_, fun l hl => ?_, fun c hc => ?_, ?_, fun c hc => ?_, fun c hc => ?_, ?_, fun g hg => absurd hg (Nat.not_lt_zero _)⟩
  · exact tc_up (eqA_tc low (by omega) (tc_grow h1 (by omega) hleg hbe (by omega))) (by omega) (by omega)
  · rw [jj_u_ne hq, jj_u_ne hq, jj_u_ne hq, jj_u_ne hq, jj_u_ne hq, jj_uR_ne hq]
    by_cases e : a = A 2
    · subst e
      funext j
      unfold jj_u
      rw [gr _ ha]
    · rw [jj_u_ne e, jj_u_ne e]; exact gr a ha
  · rw [low a ha]
    unfold f_gr
    rw [jj_u_ne e4, jj_u_ne e2]
    split
    · rw [jj_u_ne e1]
    · rfl
  · rw [low _ (by simp only [aR]; omega)]
    unfold f_gr
    rw [jj_u_nk (by decide), jj_u_ne (by simp only [aR, aBe]; omega)]
    split
    · rw [jj_u_ne (by simp only [aR, aLd]; omega)]
    · rfl
  · rw [low _ (by simp only [aLd]; omega)]
    unfold f_gr
    rw [jj_u_ne (by simp only [aR, aLd]; omega), jj_u_ne (by simp only [aLd, aBe]; omega), if_pos (by omega), jj_u_nk (by omega)]
  · rw [low _ (by simp only [aLd]; omega)]
    unfold f_gr
    rw [jj_u_ne (by simp only [aR, aLd]; omega), jj_u_ne (by simp only [aLd, aBe]; omega), if_pos (by omega), show l = h - 1 by omega, jj_u_eq]
  · rw [low _ (by simp only [aBe]; omega)]
    unfold f_gr
    rw [jj_u_ne (by simp only [aR, aBe]; omega), jj_u_nk (by omega)]
    split
    · rw [jj_u_ne (by simp only [aBe, aLd]; omega)]
    · rfl
  · rw [low _ (by simp only [aBe]; omega)]
    unfold f_gr
    rw [jj_u_ne (by simp only [aR, aBe]; omega), jj_u_eq]
  · rw [low _ (by simp only [aPr]; omega)]
    unfold f_gr
    rw [jj_u_ne (by simp only [aR, aPr]; omega), jj_u_ne (by simp only [aPr, aBe]; omega)]
    split
    · rw [jj_u_ne (by simp only [aPr, aLd]; omega)]
    · rfl
  · rw [low _ (by simp only [aPr]; omega)]
    unfold f_gr
    rw [jj_u_ne (by simp only [aR, aPr]; omega), jj_u_ne (by simp only [aPr, aBe]; omega)]
    split
    · rw [jj_u_ne (by simp only [aPr, aLd]; omega)]; exact h3 c (by omega)
    · exact h3 c (by omega)
  · simp [jj_u]
theorem lb3_s {A : Nat → Nat} {h n q j : Nat} {K : jj_K} {P : jj_P} {J J1 : jj_I} {leg be : Int32} {p : Nat} (hl : lb3 A h q leg be J j J1) (hq : 150 ≤ q) (h8 : h < 7) (hj : j < 4) (hp : p ≤ 50) : lb3 A h q leg be J (j + 1) (jj_u (jj_u J1 q (1 + j) (nI p)) (aPr 0) (h * 4 + j) (nI p)) := by
  obtain ⟨h1, h2, h3, h4, h5, h6, h7, g1, g2, g3, g4, g5⟩ := hl
  have w1 : aPr 0 = 8 := rfl
  have w2 : aR 0 = 3 := rfl
  have w3 : aLd 0 = 5 := rfl
  have w4 : aBe 0 = 7 := rfl
  have eq : eqA (jj_u (jj_u J1 q (1 + j) (nI p)) (aPr 0) (h * 4 + j) (nI p)) (jj_u J1 (aPr 0) (h * 4 + j) (nI p)) := eqA_u (eqA_w (fun _ _ => rfl) hq)
  refine ⟨tc_up (eqA_tc eq (by omega) (tc_price h1 (by omega) ⟨nI_pos' (by omega), by rw [show (50 : Int32) = nI 50 from rfl]; exact nI_le hp (by omega)⟩)) (by omega) (by omega), fun a ha hqa => ?_, fun a ha e1 e2 e3 e4 => ?_, ?_, fun l hl => ?_, fun l hl => ?_, fun c hc => ?_, ?_, fun c hc => ?_, fun c hc => ?_, ?_, fun g hg => ?_⟩
  · rw [jj_u_ne (by omega), jj_u_ne hqa]; exact h2 a ha hqa
  · rw [jj_u_ne e3, jj_u_ne (by omega)]; exact h3 a ha e1 e2 e3 e4
  · rw [jj_u_ne (by omega), jj_u_ne (by omega)]; exact h4
  · rw [jj_u_ne (by omega), jj_u_ne (by omega)]; exact h5 l hl
  · rw [jj_u_ne (by omega), jj_u_ne (by omega)]; exact h6 l hl
  · rw [jj_u_ne (by omega), jj_u_ne (by omega)]; exact h7 c hc
  · rw [jj_u_ne (by omega), jj_u_ne (by omega)]; exact g1
  · rw [jj_u_nk (by omega), jj_u_ne (by omega)]; exact g2 c hc
  · rw [jj_u_nk (by omega), jj_u_ne (by omega)]; exact g3 c (by omega)
  · rw [jj_u_ne (by omega), jj_u_nk (by omega)]; exact g4
  · rw [jj_u_ne (b := q) (by omega)]
    by_cases e : g = j
    · subst e
      rw [jj_u_eq, show 4 * h + g = h * 4 + g by omega, jj_u_eq]
    · rw [jj_u_nk (by omega), jj_u_nk (by omega), jj_u_ne (b := aPr 0) (by omega)]; exact g5 g (by omega)
theorem lb2_s {A : Nat → Nat} {h q n' : Nat} {K K' : jj_K} {P P' : jj_P} {J J1 : jj_I} {leg be : Int32} (hsy : sy A h 0 0 0 q K P) (hl : lb2 A h J) (hk : lb3 A h q leg be J 4 J1) (h8 : h < 7) (hs2 : sy (fun t => if t = 5 then q + 1 else if t = 10 + h then q else A t) (h + 1) 0 0 0 n' K' P') : lb2 (fun t => if t = 5 then q + 1 else if t = 10 + h then q else A t) (h + 1) J1 := by
  obtain ⟨a1, a2, a3, a4, a5, a6⟩ := hl
  obtain ⟨h1, h2, h3, h4, h5, h6, h7, g1, g2, g3, g4, g5⟩ := hk
  have w5 : aIc 0 = 6 := rfl
  have l2 := sy_lt hsy (t := 2) sv_2
  have l3 := sy_lt hsy (t := 3) sv_3
  have md := ms_dayrow (v := leg) hsy a2
  have lt : ∀ t, sy_K h 0 0 0 t ≠ none → 150 ≤ A t ∧ A t ≠ q := fun t ht => by have := sy_lt hsy ht; omega
  refine ⟨tc_up h1 (by omega) (by omega), ?_, fun c hc => g3 c (by omega), fun k => ?_, fun k => ?_, sz_cg a6 (fun m hm => h3 _ (by simp only [aMt]; omega) (by simp only [aMt, aLd]; omega) (by simp only [aMt, aBe]; omega) (by simp only [aMt, aPr]; omega) (by simp only [aMt, aR]; omega))⟩
  · refine ms_addH hs2.1 md (fun t ht h9 => ?_) h3 h4 h5 h7 g2 (fun l hl => ?_) ?_ (fun g hg => ?_)
    · try dsimp only
      have : t ≠ 10 + h := fun e => by
        subst e
        exact ht (by unfold sy_K; rw [if_neg (by omega), if_neg (by omega), if_neg (by omega), if_neg (by omega), if_neg (by omega), if_neg (by omega), if_neg (by omega), if_neg (by omega), if_neg (by omega), if_neg (by omega), if_neg (by omega), if_neg (by omega), if_neg (by omega), if_neg (by omega), if_neg (by omega)])
      rw [if_neg h9, if_neg this]
      exact h2 _ (lt t ht).1 (lt t ht).2
    · rw [jj_u_eq, h6 l hl]
      refine ⟨rfl, ?_⟩
      rw [sy_off hsy sv_2 sv_3 (by decide), a4, a5]
    · try dsimp only
      rw [if_neg (by omega), if_pos rfl, g4, g1]
    · try dsimp only
      rw [if_neg (by omega), if_pos rfl]
      exact g5 g hg
  · try dsimp only
    rw [if_neg (by decide), if_neg (by omega), h2 _ (lt 3 sv_3).1 (lt 3 sv_3).2, sy_off hsy sv_2 sv_3 (by decide)]
    exact a4 k
  · rw [h3 _ (by omega) (by decide) (by decide) (by decide) (by decide)]
    exact a5 k
