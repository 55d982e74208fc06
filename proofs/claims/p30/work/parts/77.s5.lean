/-! a day goes by in the law's own river, beside the class -/
section
variable {w H M B N : Nat} {C I : jj_I}
theorem jj_u_comm {I : jj_I} {a b j k : Nat} {v x : Int32} (h : a ≠ b ∨ j ≠ k) : jj_u (jj_u I a j v) b k x = jj_u (jj_u I b k x) a j v := by
  funext q s
  unfold jj_u
  by_cases h1 : q = b ∧ s = k
  · by_cases h2 : q = a ∧ s = j
    · exact absurd h (by omega)
    · rw [if_pos h1, if_neg h2, if_pos h1]
  · by_cases h2 : q = a ∧ s = j
    · rw [if_neg h1, if_pos h2, if_pos h2]
    · rw [if_neg h1, if_neg h2, if_neg h2, if_neg h1]
end
theorem py_eq {w k o : Nat} {C : jj_I} (eo : C (aB w k) 0 = nI o) (ho : o < 5) : f_py w k C = if C (aB w k) 3 = 1 then (if 0 < C (aM w o) 0 then jj_u C (aM w o) 0 (C (aM w o) 0 - 1) else jj_u C (aB w k) 3 0) else C := by
  unfold f_py
  rw [eo, nv_nI (by omega)]

theorem jj_mono {l : Launch} {D : jj_D} {y : MethodName} {ws : List Cond} {rm : Room} {av : List Value} {n : Nat} {K : jj_K} {I : jj_I} {P : jj_P} {G : jj_G} {post post1 : jj_post} {px : jj_px} (h : jj_Met l D y ws rm av n K I P G post px) (hp : ∀ r n1 K1 I1 P1 G1, post r n1 K1 I1 P1 G1 → post1 r n1 K1 I1 P1 G1) : jj_Met l D y ws rm av n K I P G post1 px :=
  MetFree.mono h (fun _ _ q => q) (fun _ _ _ _ _ q => q) (fun _ _ _ _ _ q => by
    rcases q with ⟨⟨⟨r, n1, K1, I1, P1, G1, h1, h2, h3⟩, h4⟩, h5⟩ | q
    · exact Or.inl ⟨⟨⟨r, n1, K1, I1, P1, G1, h1, hp _ _ _ _ _ _ h2, h3⟩, h4⟩, h5⟩
    · exact Or.inr q)
theorem i32_pos {x : Int32} (h : 0 ≤ x) (h0 : ¬ x = 0) : 0 < x := by
  rw [Int32.le_iff_toInt_le] at h
  rw [Int32.lt_iff_toInt_lt]
  have : x.toInt ≠ (0 : Int32).toInt := fun e => h0 (Int32.toInt_inj.mp e)
  omega
theorem i32_dec {x : Int32} (h : 0 < x) : 0 ≤ x - 1 := by
  obtain ⟨j, hj, rfl⟩ := nI_of (x := x) (Int32.not_lt.mpr (Int32.le_of_lt h))
  have h1 : j ≠ 0 := fun e => by subst e; exact absurd h (by decide)
  rw [jm_sub1 (by omega)]
  exact nI_pos' (by omega)
theorem s_ib_f {x t : Int32} : s_ib x t = f_ib x t := by
  have e : x + (if t < 0 then -t else -2 * t) = if t < 0 then x - t else x - 2 * t := by
    by_cases h : t < 0
    · rw [if_pos h, if_pos h, Int32.sub_eq_add_neg]
    · rw [if_neg h, if_neg h, Int32.sub_eq_add_neg, Int32.neg_mul]
  unfold s_ib f_ib
  rw [e]
  dsimp only
  generalize (if t < 0 then x - t else x - 2 * t) = y
  have c0 : (0 : Int32).toInt = 0 := rfl
  have c6 : (60 : Int32).toInt = 60 := rfl
  have l0 : ∀ z : Int32, z < 0 ↔ z.toInt < 0 := fun z => by rw [Int32.lt_iff_toInt_lt, c0]
  have l1 : ∀ z : Int32, 0 < z ↔ 0 < z.toInt := fun z => by rw [Int32.lt_iff_toInt_lt, c0]
  have l6 : ∀ z : Int32, 60 < z ↔ 60 < z.toInt := fun z => by rw [Int32.lt_iff_toInt_lt, c6]
  have l7 : ∀ z : Int32, z < 60 ↔ z.toInt < 60 := fun z => by rw [Int32.lt_iff_toInt_lt, c6]
  by_cases h0 : y < 0
  · rw [if_pos h0, if_neg (by decide)]
    have := (l0 y).mp h0
    rw [if_pos (show y < 60 from (l7 y).mpr (by omega)), if_neg (show ¬ 0 < y from fun q => by have := (l1 y).mp q; omega)]
  · rw [if_neg h0]
    have := mt (l0 y).mpr h0
    by_cases h6 : 60 < y
    · have := (l6 y).mp h6
      rw [if_pos h6, if_neg (show ¬ y < 60 from fun q => by have := (l7 y).mp q; omega), if_pos (by decide)]
    · have := mt (l6 y).mpr h6
      rw [if_neg h6]
      by_cases h7 : y < 60
      · rw [if_pos h7]
        by_cases hz : 0 < y
        · rw [if_pos hz]
        · rw [if_neg hz]
          have := mt (l1 y).mpr hz
          exact Int32.toInt_inj.mp (by rw [c0]; omega)
      · have := mt (l7 y).mpr h7
        rw [if_neg h7, if_pos (by decide)]
        exact Int32.toInt_inj.mp (by rw [c6]; omega)
section PS
variable {A : Nat → Nat} {H M B N n : Nat} {K : jj_K} {P : jj_P} {C I : jj_I}
theorem ms_fr1 {k : Nat} {x : Int32} (hs : sy A H M B N n K P) (h1 : ms A H M B N C I) (hk : k + 1 < H) : ms A H M B N (jj_u C (aIc 0) k (f_ib (C (aIc 0) k) x)) (jj_u I (A 3) (k + 1) (s_ib (I (A 3) (k + 1)) x)) := by
  rw [h1.2.2.2.1 k hk, s_ib_f]
  exact ms_ice hs h1
theorem ms_fr {d : Nat} (hs : sy A H M B N n K P) (hm : ms A H M B N C I) : ms A H M B N (f_fr 0 H d C) (s_fr A H d I) ∧ fw A H M B N n K I P A n K (s_fr A H d I) P := by
  have hw : I (A 1) (d % 40) = C (aWm 0) (d % 40) := hm.2.1 _ (Nat.mod_lt _ (by decide))
  unfold f_fr s_fr
  rw [hw]
  generalize C (aWm 0) (d % 40) = x
  have key : ∀ k, k + 1 ≤ H ∨ k = 0 → ms A H M B N (it (fun l J => jj_u J (aIc 0) l (f_ib (J (aIc 0) l) x)) C k) (it (fun j J => jj_u J (A 3) (j + 1) (s_ib (J (A 3) (j + 1)) x)) I k) ∧ fw A H M B N n K I P A n K (it (fun j J => jj_u J (A 3) (j + 1) (s_ib (J (A 3) (j + 1)) x)) I k) P := by
    intro k
    induction k with
    | zero => exact fun _ => ⟨hm, fw_refl⟩
    | succ k ih =>
      intro hk
      obtain ⟨h1, h2⟩ := ih (by omega)
      exact ⟨ms_fr1 hs h1 (by omega), fw_tr h2 (fw_u 3 sv_3)⟩
  exact key (H - 1) (by omega)
def cz (C : jj_I) : Prop := ∀ m, m < 5 → 0 ≤ C (aM 0 m) 0
def dz (N : Nat) (C : jj_I) : Prop := ∀ d, d < N → C (aD 0 d) 6 = 0 ∨ C (aD 0 d) 6 = 1 ∨ C (aD 0 d) 6 = 2
theorem cz_fr {d : Nat} (h : cz C) : cz (f_fr 0 H d C) := fun m hm => by rw [fr_fr (by simp only [aM, aIc]; omega)]; exact h m hm
theorem cz_py {k : Nat} (hf : sf 0 H M B N C) (hk : sk 0 H M B N C) (hb : k < B) (h : cz C) : cz (f_py 0 k C) := fun m hm => by
  obtain ⟨o, ho, eo⟩ := (hk.2.1 k hb).2
  have hM2 := hf.2.1.2
  have hB2 := hf.2.2.1.2
  rw [py_eq eo (by omega)]
  split
  · split
    · rename_i h1 h2
      by_cases e : m = o
      · subst e; rw [jj_u_eq]; exact i32_dec h2
      · rw [jj_u_ne (by simp only [aM]; omega)]; exact h m hm
    · rw [jj_u_ne (by simp only [aM, aB]; omega)]; exact h m hm
  · exact h m hm
theorem dz_off {J : jj_I} (h : dz N C) (e : ∀ d, d < N → J (aD 0 d) = C (aD 0 d)) : dz N J := fun d hd => by rw [e d hd]; exact h d hd
theorem dz_fr {d : Nat} (h : dz N C) : dz N (f_fr 0 H d C) := dz_off h (fun d _ => fr_fr (by simp only [aD, aIc]; omega))
theorem dz_py {k : Nat} (hf : sf 0 H M B N C) (hk : sk 0 H M B N C) (hb : k < B) (h : dz N C) : dz N (f_py 0 k C) := by
  obtain ⟨o, ho, eo⟩ := (hk.2.1 k hb).2
  have hM2 := hf.2.1.2
  have hB2 := hf.2.2.1.2
  exact dz_off h (fun d _ => fr_py (by simp only [aD, aB]; omega) (by rw [eo, nv_nI (by omega)]; simp only [aD, aM]; omega))
theorem dz_gb {k : Nat} (hf : sf 0 H M B N C) (hb : k < B) (h : dz N C) : dz N (f_bi 0 k H (f_go 0 k C)) := by
  have hB2 := hf.2.2.1.2
  exact dz_off h (fun d _ => (fr_bi (by simp only [aD, aB]; omega) (by simp only [aD, aBc]; omega)).trans (fr_go (by simp only [aD, aB]; omega)))
theorem dz_se {k : Nat} (hf : sf 0 H M B N C) (hk : sk 0 H M B N C) (hb : k < N) (h : dz N C) : dz N (f_se 0 k C) := by
  have hM2 := hf.2.1.2
  have hN2 := hf.2.2.2.1.2
  have hH2 := hf.1.2
  obtain ⟨⟨a, ha, e0⟩, ⟨q, hq, e1⟩⟩ := hk.2.2 k hb
  obtain ⟨-, -, ⟨x, hx, e2⟩, ⟨g, hg, e3⟩⟩ := hf.2.2.2.2.2 k hb
  intro d hd
  by_cases e : d = k
  · subst e
    rw [se_eq e0 e1 e2 e3 (by omega) (by omega) (by omega) hg]
    split
    · split
      · split
        · rw [jj_u_eq]; exact Or.inr (Or.inr rfl)
        · rw [jj_u_eq]; exact Or.inr (Or.inl rfl)
      · rw [jj_u_eq]; exact Or.inr (Or.inl rfl)
    · exact h d hd
  · have : f_se 0 k C (aD 0 d) = C (aD 0 d) := fr_se (by simp only [aD]; omega) (by rw [e1, nv_nI (by omega)]; simp only [aD, aM]; omega) (by rw [e0, nv_nI (by omega)]; simp only [aD, aM]; omega) (by rw [e1, nv_nI (by omega)]; simp only [aD, aMt]; omega) (by rw [e0, nv_nI (by omega)]; simp only [aD, aMt]; omega)
    rw [this]
    exact h d hd
/-- a debt paid in goods, on both sides -/
theorem ms_py {d a q h g : Nat} (hs : sy A H M B N n K P) (hm : ms A H M B N C I) (hd : d < N) (ha : a < 5) (hq : q < 5) (hh : h < 8) (hg : g < 4) : ms A H M B N (jj_u (f_hd 0 q a (4 * h + g) (C (aD 0 d) 4) C) (aD 0 d) 6 1) (s_py A a q h g d I) ∧ fw A H M B N n K I P A n K (s_py A a q h g d I) P := by
  have e4 : I (A (60 + d)) 4 = C (aD 0 d) 4 := hm.2.2.2.2.2.2.2.1 d hd 4 (by decide)
  have eq := hm.2.2.2.2.2.2.2.2 q hq h hh g hg
  unfold s_py f_hd
  dsimp only
  rw [e4, eq]
  have s1 := ms_stock (v := C (aMt 0 q) (4 * h + g) - C (aD 0 d) 4) hs hm hq hh hg
  have e2 := s1.2.2.2.2.2.2.2.2 a ha h hh g hg
  rw [e2]
  have s2 := ms_stock (v := jj_u C (aMt 0 q) (4 * h + g) (C (aMt 0 q) (4 * h + g) - C (aD 0 d) 4) (aMt 0 a) (4 * h + g) + C (aD 0 d) 4) hs s1 ha hh hg
  exact ⟨ms_debt hs s2 hd, fw_tr (fw_tr (fw_u _ (sv_S hs.1 hq hh)) (fw_u _ (sv_S hs.1 ha hh))) (fw_u _ (sv_D hs.1 hd))⟩
/-- a debt settled in coins, on both sides -/
theorem ms_cn {d a q : Nat} {x : Int32} (hs : sy A H M B N n K P) (hm : ms A H M B N C I) (hd : d < N) (ha : a < M) (hq : q < M) : ms A H M B N (jj_u (jj_u (jj_u C (aM 0 q) 0 (C (aM 0 q) 0 - x)) (aM 0 a) 0 (jj_u C (aM 0 q) 0 (C (aM 0 q) 0 - x) (aM 0 a) 0 + x)) (aD 0 d) 6 1) (jj_u (jj_u (jj_u I (A (60 + d)) 6 1) (A 4) q (C (aM 0 q) 0 - x)) (A 4) a (jj_u (jj_u I (A (60 + d)) 6 1) (A 4) q (C (aM 0 q) 0 - x) (A 4) a + x)) ∧ fw A H M B N n K I P A n K (jj_u (jj_u (jj_u I (A (60 + d)) 6 1) (A 4) q (C (aM 0 q) 0 - x)) (A 4) a (jj_u (jj_u I (A (60 + d)) 6 1) (A 4) q (C (aM 0 q) 0 - x) (A 4) a + x)) P := by
  obtain ⟨n1, n2, n3, n4⟩ := id hs.1
  have ne : ∀ m, m < 5 → aM 0 m ≠ aD 0 d := fun m hm => by simp only [aM, aD]; omega
  have s1 := ms_debt (y := 6) (v := 1) hs hm hd
  have s2 := ms_coin (v := C (aM 0 q) 0 - x) hs s1 hq
  have e2 := s2.2.2.2.2.1 a ha
  refine ⟨?_, fw_tr (fw_tr (fw_u _ (sv_D hs.1 hd)) (fw_u 4 sv_4)) (fw_u 4 sv_4)⟩
  rw [e2]
  have s3 := ms_coin (v := jj_u (jj_u C (aD 0 d) 6 1) (aM 0 q) 0 (C (aM 0 q) 0 - x) (aM 0 a) 0 + x) hs s2 ha
  rw [jj_u_comm (a := aM 0 a) (b := aD 0 d) (Or.inl (ne a (by omega))), jj_u_comm (a := aM 0 q) (b := aD 0 d) (Or.inl (ne q (by omega)))]
  have e3 : jj_u (jj_u C (aD 0 d) 6 1) (aM 0 q) 0 (C (aM 0 q) 0 - x) (aM 0 a) = jj_u C (aM 0 q) 0 (C (aM 0 q) 0 - x) (aM 0 a) := by
    rw [← jj_u_comm (a := aM 0 q) (b := aD 0 d) (Or.inl (ne q (by omega)))]
    exact jj_u_ne (ne a (by omega))
  rw [e3] at s3 ⊢
  exact s3
end PS
set_option maxHeartbeats 4000000 in
theorem s_sailM {l : Launch} (hfl : l.stackTraces = false) {D : jj_D} {n : Nat} {K : jj_K} {I C : jj_I} {P : jj_P} {G : jj_G} {A : Nat → Nat} {H M B N b : Nat} (hsy : sy A H M B N n K P) (hf : sf 0 H M B N C) (hk : sk 0 H M B N C) (hm : ms A H M B N C I) (hb : b < B) :
    jj_Met l D yX7_sail (jj_ws yX7_sail cX7_sail 4 none) { frames := 1, cells := 1, slots := 4, locals := 21 } [.ref (A 0), .ref (A (20 + b))] n K I P G (fun r n1 K1 I1 P1 G1 => r = none ∧ G1 = G ∧ ∃ A1, sy A1 H M B N n1 K1 P1 ∧ ms A1 H M B N (f_bi 0 b H (f_go 0 b C)) I1 ∧ fw A H M B N n K I P A1 n1 K1 I1 P1 ∧ gA A A1 ∧ n1 ≤ n + 1) jj_noX := by
  obtain ⟨q0, q1, q2, q3, q4, q5, q6, q7, q8⟩ := hm.2.2.2.2.2.2.1 b hb
  obtain ⟨-, f3, f4, f5, ⟨g, hg, eg⟩⟩ := hf.2.2.2.2.1 b hb
  have hH := hf.1.2
  by_cases h3 : C (aB 0 b) 3 = 3
  · refine jj_mono (s_sail3 hfl hsy hb (q3.trans h3)) (fun r n1 K1 I1 P1 G1 q => ?_)
    obtain ⟨rfl, rfl, rfl, rfl, rfl, rfl⟩ := q
    have e1 : f_go 0 b C = C := by
      have : f_g1 0 b C = C := by
        unfold f_g1
        rw [if_neg (by rw [h3]; rintro ⟨w | w, -⟩ <;> exact absurd w (by decide)), if_neg (by rw [h3]; exact fun w => absurd w.1 (by decide))]
      unfold f_go
      rw [this]
      exact g2_no C (by rw [h3]; exact fun w => absurd w.1 (by decide))
    have e2 : f_bi 0 b H C = C := sbi_n (by unfold cB; rw [h3]; rintro (w | w) <;> exact absurd w.1 (by decide))
    rw [e1, e2]
    exact ⟨rfl, rfl, A, hsy, hm, fw_refl, fun _ _ => rfl, Nat.le_succ _⟩
  · refine jj_mono (s_sail hfl hsy hb (by rw [q3]; exact h3) (fun _ => ?_) (fun e => ?_) ?_ ?_) (fun r n1 K1 I1 P1 G1 q => ?_)
    · rw [q3]
      rcases f3 with e | e | e | e
      · exact Or.inl e
      · exact Or.inr (Or.inl e)
      · exact Or.inr (Or.inr e)
      · exact absurd e h3
    · rw [q3] at e
      obtain ⟨k, hk9, ek⟩ := f5 e
      exact ⟨k + 1, by omega, by omega, by rw [q7 e, ek, nI_1]⟩
    · obtain ⟨h, hh, eh⟩ := f4 h3
      exact ⟨h, hh, by rw [q4, eh]⟩
    · exact ⟨g, hg, by rw [q5, eg]⟩
    · obtain ⟨rfl, rfl, hR⟩ := q
      obtain ⟨A1, a1, a2, a3, a4, a5⟩ := ms_sail hsy hf hk hm hb h3 hR
      exact ⟨rfl, rfl, A1, a1, a2, a3, a5, a4⟩
theorem s_pays {l : Launch} (hfl : l.stackTraces = false) {D : jj_D} {n : Nat} {K : jj_K} {I : jj_I} {P : jj_P} {G : jj_G} {A : Nat → Nat} {H M B N : Nat} (hsy : sy A H M B N n K P) {d h a q g : Nat} (hdN : d < N) (hh : h < 8) (ha : I (A (60 + d)) 0 = nI a) (ha5 : a < 5) (hq : I (A (60 + d)) 1 = nI q) (hq5 : q < 5) (hg : I (A (60 + d)) 3 = nI g) (hg4 : g < 4) :
    jj_Met l D yX7_pays (jj_ws yX7_pays cX7_pays 3 (some .boolean)) { frames := 0, cells := 0, slots := 0, locals := 0 } [.ref (A 0), .ref (A (60 + d)), .int (nI h)] n K I P G (jj_R (some (.int (if I (A (110 + 8 * q + h)) g < I (A (60 + d)) 4 then 0 else 1))) n K (if I (A (110 + 8 * q + h)) g < I (A (60 + d)) 4 then I else s_py A a q h g d I) P G) jj_noX := by
  by_cases hc : I (A (110 + 8 * q + h)) g < I (A (60 + d)) 4
  · rw [if_pos hc, if_pos hc]; exact s_pays_n hfl hsy hdN hh ha ha5 hq hq5 hg hg4 hc
  · rw [if_neg hc, if_neg hc]; exact s_pays_y hfl hsy hdN hh ha ha5 hq hq5 hg hg4 (Int32.not_lt.mp hc)
theorem jm_c0 {c : Prop} {hd : Decidable c} (h : (if c then (0 : Int32) else 1) = 0) : c := Decidable.byContradiction (fun n => by rw [if_neg n] at h; exact absurd h (by decide))
theorem jm_c1 {c : Prop} {hd : Decidable c} (h : ¬ (if c then (0 : Int32) else 1) = 0) : ¬ c := fun n => h (if_pos n)
set_option maxHeartbeats 4000000 in
set_option maxRecDepth 100000 in
theorem s_pass {l : Launch} (hfl : l.stackTraces = false) {D : jj_D} {n : Nat} {K : jj_K} {I : jj_I} {P : jj_P} {G : jj_G} {A : Nat → Nat} {H M B N : Nat} {C : jj_I} {d : Nat} (hsy : sy A H M B N n K P) (hs : sf 0 H M B N C) (hk : sk 0 H M B N C) (hm : ms A H M B N C I) (hc : cz C) (hz : dz N C) (hd : C (aR 0) 0 = nI d) (hd2 : d < 2147483648) (hH1 : 1 ≤ H) :
    jj_Met l D yX7_pass (jj_ws yX7_pass cX7_pass 7 (some .int)) { frames := 2, cells := 10, slots := 40, locals := 44 } [.ref (A 0)] n K I P G (fun r n1 K1 I1 P1 G1 => G1 = G ∧ (∃ v, r = some (.int v)) ∧ ∃ A1, sy A1 H M B N n1 K1 P1 ∧ ms A1 H M B N (f_pd 0 H B N d C) I1 ∧ fw A H M B N n K I P A1 n1 K1 I1 P1 ∧ gA A A1 ∧ n1 ≤ n + B) jj_noX := by
  refine jj_of hfl (by decide +kernel) [some (.ref (A 0)), none, none, none, none, none, none] rfl rfl ?_
  intro X hXl hX hSt
  obtain ⟨hH8, hM5, hB10, hN30⟩ := id hsy.1
  have d0 : I (A 0) 8 = nI d := hm.1.trans hd
  obtain ⟨f1, f2⟩ := ms_fr (d := d) hsy hm
  have a1 : ∀ k, k ≤ B → (sf 0 H M B N (it (f_py 0) (f_fr 0 H d C) k) ∧ sk 0 H M B N (it (f_py 0) (f_fr 0 H d C) k)) ∧ cz (it (f_py 0) (f_fr 0 H d C) k) ∧ dz N (it (f_py 0) (f_fr 0 H d C) k) := it_in (S := fun J => (sf 0 H M B N J ∧ sk 0 H M B N J) ∧ cz J ∧ dz N J) ⟨⟨sf_fr hs, sk_fr hk⟩, cz_fr hc, dz_fr hz⟩ (fun k y h1 hy => ⟨⟨sf_py hy.1.1 h1, sk_py hy.1.1 hy.1.2 h1⟩, cz_py hy.1.1 hy.1.2 h1 hy.2.1, dz_py hy.1.1 hy.1.2 h1 hy.2.2⟩)
  have a2 : ∀ k, k ≤ B → (sf 0 H M B N (it (fun k M => f_bi 0 k H (f_go 0 k M)) (it (f_py 0) (f_fr 0 H d C) B) k) ∧ sk 0 H M B N (it (fun k M => f_bi 0 k H (f_go 0 k M)) (it (f_py 0) (f_fr 0 H d C) B) k)) ∧ dz N (it (fun k M => f_bi 0 k H (f_go 0 k M)) (it (f_py 0) (f_fr 0 H d C) B) k) := it_in (S := fun J => (sf 0 H M B N J ∧ sk 0 H M B N J) ∧ dz N J) ⟨(a1 B (Nat.le_refl _)).1, (a1 B (Nat.le_refl _)).2.2⟩ (fun k y h1 hy => ⟨⟨sf_gb hy.1.1 h1, sk_gb hy.1.1 hy.1.2 h1⟩, dz_gb hy.1.1 h1 hy.2⟩)
  have a3 : ∀ k, k ≤ N → (sf 0 H M B N (it (f_se 0) (it (fun k M => f_bi 0 k H (f_go 0 k M)) (it (f_py 0) (f_fr 0 H d C) B) B) k) ∧ sk 0 H M B N (it (f_se 0) (it (fun k M => f_bi 0 k H (f_go 0 k M)) (it (f_py 0) (f_fr 0 H d C) B) B) k)) ∧ dz N (it (f_se 0) (it (fun k M => f_bi 0 k H (f_go 0 k M)) (it (f_py 0) (f_fr 0 H d C) B) B) k) := it_in (S := fun J => (sf 0 H M B N J ∧ sk 0 H M B N J) ∧ dz N J) (a2 B (Nat.le_refl _)) (fun k y h1 hy => ⟨⟨sf_se hy.1.1 h1, sk_se hy.1.1 hy.1.2 h1⟩, dz_se hy.1.1 hy.1.2 h1 hy.2⟩)
  refine jr_aload_n hX dX7_pass_0 rfl ?_
  refine jr_ret (jr_runV hX hSt kM_X7_86 (s_sunk (jj_fl hX) hsy) rfl rfl (sy_k0 hsy) ⟨_, _, rfl, by decide⟩ dX7_pass_1 rfl ⟨by simp only [jj_N]; omega, by simp only [jj_N]; omega⟩ rfl) ?_
  refine jr_istore_n hX dX7_pass_4 rfl ?_
  refine jr_aload_n hX dX7_pass_5 rfl ?_
  refine jr_void (jr_runV hX hSt kM_X7_90 (s_freeze (jj_fl hX) hsy d0 hd2 hH1) rfl rfl (sy_k0 hsy) ⟨_, _, rfl, by decide⟩ dX7_pass_6 rfl ⟨by simp only [jj_N]; omega, by simp only [jj_N]; omega⟩ rfl) ?_
  refine jr_aload_n hX dX7_pass_9 rfl ?_
  refine jr_getr hX kF_X7_34 rfl (sy_k0 hsy) (sy_p0_6 hsy) dX7_pass_10 ?_
  refine jr_astore_n hX dX7_pass_13 rfl ?_
  refine jr_aload_n hX dX7_pass_14 rfl ?_
  refine jr_alen (t := 17) hX (by decide) (sy_k6 hsy) dX7_pass_15 ?_
  refine jr_istore_n hX dX7_pass_16 rfl ?_
  refine jr_iconst (v := 0) hX dX7_pass_17 (by decide) ?_
  refine jr_istore hX dX7_pass_18 rfl ?_
  have h1 : ∀ k, k ≤ B → ∀ J : jj_I, ms A H M B N (it (f_py 0) (f_fr 0 H d C) k) J → fw A H M B N n K I P A n K J P → jj_J X D 7 (0) (0) (jj_MQ X D { frames := 2, cells := 10, slots := 40, locals := 44 } (fun r n1 K1 I1 P1 G1 => G1 = G ∧ (∃ v, r = some (.int v)) ∧ ∃ A1, sy A1 H M B N n1 K1 P1 ∧ ms A1 H M B N (f_pd 0 H B N d C) I1 ∧ fw A H M B N n K I P A1 n1 K1 I1 P1 ∧ gA A A1 ∧ n1 ≤ n + B) jj_noX) (n) (K) (J) (P) (G) 20 [some (.ref (A 0)), some (.int (sm (s_su A I) B)), some (.ref (A 6)), some (.int (nI B)), some (.int (nI k)), none, none] [] := by
    refine jj_for (B) _ ?_ (fun k hk ih => ?_)
    · intro J o1 o2
      refine jr_iload hX dX7_pass_20 rfl ?_
      refine jr_iload_n hX dX7_pass_22 rfl ?_
      refine jr_icmp_ge (tgt := 86) hX dX7_pass_23 (by decide) (fun c_23 => ?_) (fun c_23 => absurd (nI_le (Nat.le_refl _) (by omega)) c_23)
      refine jr_aload_n hX dX7_pass_86 rfl ?_
      refine jr_getr hX kF_X7_34 rfl (sy_k0 hsy) (sy_p0_6 hsy) dX7_pass_87 ?_
      refine jr_astore_n hX dX7_pass_90 rfl ?_
      refine jr_aload_n hX dX7_pass_91 rfl ?_
      refine jr_alen (t := 17) hX (by decide) (sy_k6 hsy) dX7_pass_92 ?_
      refine jr_istore_n hX dX7_pass_93 rfl ?_
      refine jr_iconst (v := 0) hX dX7_pass_94 (by decide) ?_
      refine jr_istore hX dX7_pass_95 rfl ?_
      have h2 : ∀ j, j ≤ B → ∀ (n1 : Nat) (K1 : jj_K) (P1 : jj_P) (A1 : Nat → Nat) (J : jj_I), sy A1 H M B N n1 K1 P1 → ms A1 H M B N (it (fun k M => f_bi 0 k H (f_go 0 k M)) (it (f_py 0) (f_fr 0 H d C) B) j) J → fw A H M B N n K I P A1 n1 K1 J P1 → gA A A1 → n1 ≤ n + j → jj_J X D 7 (j) (4 * j) (jj_MQ X D { frames := 2, cells := 10, slots := 40, locals := 44 } (fun r n1 K1 I1 P1 G1 => G1 = G ∧ (∃ v, r = some (.int v)) ∧ ∃ A1, sy A1 H M B N n1 K1 P1 ∧ ms A1 H M B N (f_pd 0 H B N d C) I1 ∧ fw A H M B N n K I P A1 n1 K1 I1 P1 ∧ gA A A1 ∧ n1 ≤ n + B) jj_noX) (n1) (K1) (J) (P1) (G) 97 [some (.ref (A1 0)), some (.int (sm (s_su A I) B)), some (.ref (A1 6)), some (.int (nI B)), some (.int (nI j)), none, none] [] := by
        refine jj_for (B) _ ?_ (fun j hj ih => ?_)
        · intro n1 K1 P1 A1 J hsy o1 o2 o3 o4
          refine jr_widen (cs1 := 10) (sl1 := 40) (by omega) (by omega) ?_
          refine jr_iload hX dX7_pass_97 rfl ?_
          refine jr_iload_n hX dX7_pass_99 rfl ?_
          refine jr_icmp_ge (tgt := 121) hX dX7_pass_100 (by decide) (fun c_100 => ?_) (fun c_100 => absurd (nI_le (Nat.le_refl _) (by omega)) c_100)
          refine jr_aload_n hX dX7_pass_121 rfl ?_
          refine jr_getr hX kF_X7_38 rfl (sy_k0 hsy) (sy_p0_7 hsy) dX7_pass_122 ?_
          refine jr_astore_n hX dX7_pass_125 rfl ?_
          refine jr_aload_n hX dX7_pass_126 rfl ?_
          refine jr_alen (t := 15) hX (by decide) (sy_k7 hsy) dX7_pass_127 ?_
          refine jr_istore_n hX dX7_pass_128 rfl ?_
          refine jr_iconst (v := 0) hX dX7_pass_129 (by decide) ?_
          refine jr_istore hX dX7_pass_130 rfl ?_
          have h3 : ∀ i, i ≤ N → ∀ J : jj_I, ms A1 H M B N (it (f_se 0) (it (fun k M => f_bi 0 k H (f_go 0 k M)) (it (f_py 0) (f_fr 0 H d C) B) B) i) J → fw A H M B N n K I P A1 n1 K1 J P1 → jj_J X D 7 (10) (40) (jj_MQ X D { frames := 2, cells := 10, slots := 40, locals := 44 } (fun r n1 K1 I1 P1 G1 => G1 = G ∧ (∃ v, r = some (.int v)) ∧ ∃ A1, sy A1 H M B N n1 K1 P1 ∧ ms A1 H M B N (f_pd 0 H B N d C) I1 ∧ fw A H M B N n K I P A1 n1 K1 I1 P1 ∧ gA A A1 ∧ n1 ≤ n + B) jj_noX) (n1) (K1) (J) (P1) (G) 132 [some (.ref (A1 0)), some (.int (sm (s_su A I) B)), some (.ref (A1 7)), some (.int (nI N)), some (.int (nI i)), none, none] [] := by
            refine jj_for (N) _ ?_ (fun i hi ih => ?_)
            · intro J o1 o2
              refine jr_iload hX dX7_pass_132 rfl ?_
              refine jr_iload_n hX dX7_pass_134 rfl ?_
              refine jr_icmp_ge (tgt := 272) hX dX7_pass_135 (by decide) (fun c_135 => ?_) (fun c_135 => absurd (nI_le (Nat.le_refl _) (by omega)) c_135)
              refine jr_aload_n hX dX7_pass_272 rfl ?_
              refine jr_dup hX dX7_pass_273 rfl ?_
              refine jr_geti hX kF_X7_50 rfl (sy_k0 hsy) dX7_pass_274 ?_
              rw [o1.1]
              refine jr_iconst (v := 1) hX dX7_pass_277 (by decide) ?_
              refine jr_iadd hX dX7_pass_278 ?_
              refine jr_puti hX kF_X7_50 rfl (sy_k0 hsy) (sy_z0 hsy) dX7_pass_279 ?_
              have hfin := ms_day (v := (it (f_se 0) (it (fun k M => f_bi 0 k H (f_go 0 k M)) (it (f_py 0) (f_fr 0 H d C) B) B) N) (aR 0) 0 + 1) hsy o1
              refine jr_aload_n hX dX7_pass_282 rfl ?_
              refine jr_ret (jr_runV hX hSt kM_X7_86 (s_sunk (jj_fl hX) hsy) rfl rfl (sy_k0 hsy) ⟨_, _, rfl, by decide⟩ dX7_pass_283 rfl ⟨by simp only [jj_N]; omega, by simp only [jj_N]; omega⟩ rfl) ?_
              refine jr_iload_n hX dX7_pass_286 rfl ?_
              refine jr_isub hX dX7_pass_287 ?_
              exact jr_iret hX dX7_pass_288 (Nat.ble_eq.mpr (by first | (dsimp only; omega) | (simp only [jj_N]; omega))) (Nat.ble_eq.mpr (by first | (dsimp only; omega) | (simp only [jj_N]; omega))) ⟨rfl, ⟨_, rfl⟩, A1, hsy, hfin, fw_tr o2 (fw_u 0 sv_0), o3, o4⟩
            · intro J o1 o2
              obtain ⟨⟨b1, b2⟩, b3⟩ := a3 i (Nat.le_of_lt hi)
              obtain ⟨⟨a, ha, e0⟩, ⟨q, hq, e1⟩⟩ := b2.2.2 i hi
              obtain ⟨-, -, ⟨h, hh, e2⟩, ⟨g, hg, e3⟩⟩ := b1.2.2.2.2.2 i hi
              have md := o1.2.2.2.2.2.2.2.1 i hi
              have mq := o1.2.2.2.2.2.2.2.2 q (by omega) h (by omega) g hg
              have se := se_eq e0 e1 e2 e3 (by omega) (by omega) (by omega) hg
              refine jr_iload hX dX7_pass_132 rfl ?_
              refine jr_iload_n hX dX7_pass_134 rfl ?_
              refine jr_icmp_ge (tgt := 272) hX dX7_pass_135 (by decide) (fun c_135 => absurd c_135 (nI_ge (by assumption) (by omega))) (fun c_135 => ?_)
              refine jr_aload_n hX dX7_pass_138 rfl ?_
              refine jr_iload hX dX7_pass_139 rfl ?_
              refine jr_aald (t := 15) hX (by decide) (sy_k7 hsy) rfl (by omega) (sy_qD hsy (by omega)) dX7_pass_141 ?_
              refine jr_astore hX dX7_pass_142 rfl ?_
              refine jr_aload hX dX7_pass_144 rfl ?_
              refine jr_bipush (v := 6) hX dX7_pass_146 (by decide) ?_
              refine jr_iald hX (sy_kD hsy hi) (show _ = nI 6 from rfl) (by omega) dX7_pass_148 ?_
              rw [md 6 (by decide)]
              refine jr_if_gt (tgt := 266) hX dX7_pass_149 (by decide) (fun c_149 => ?_) (fun c_149 => ?_)
              · refine jr_iinc hX dX7_pass_266 rfl (by first | with_reducible exact jj_inc _ | with_reducible exact jj_inc1 _) rfl ?_
                refine jr_goto (tgt := 132) hX dX7_pass_269 (by decide) ?_
                exact jr_forget (fun _ _ h => h) (fun i v h => by rcases i with _ | _ | _ | _ | _ | _ | _ | i <;> first | exact h | exact absurd h (by simp)) (ih J (by show ms A1 H M B N (f_se 0 i (it (f_se 0) (it (fun k M => f_bi 0 k H (f_go 0 k M)) (it (f_py 0) (f_fr 0 H d C) B) B) i)) _; rw [se, if_neg (fun w => by rw [w.1] at c_149; exact absurd c_149 (by decide))]; exact o1) o2)
              · have z6 : (it (f_se 0) (it (fun k M => f_bi 0 k H (f_go 0 k M)) (it (f_py 0) (f_fr 0 H d C) B) B) i) (aD 0 i) 6 = 0 := by
                  rcases b3 i hi with w | w | w
                  · exact w
                  · rw [w] at c_149; exact absurd (show (0 : Int32) < 1 by decide) c_149
                  · rw [w] at c_149; exact absurd (show (0 : Int32) < 2 by decide) c_149
                refine jr_aload hX dX7_pass_152 rfl ?_
                refine jr_iconst (v := 5) hX dX7_pass_154 (by decide) ?_
                refine jr_iald hX (sy_kD hsy hi) (show _ = nI 5 from rfl) (by omega) dX7_pass_155 ?_
                rw [md 5 (by decide)]
                refine jr_aload_n hX dX7_pass_156 rfl ?_
                refine jr_geti hX kF_X7_50 rfl (sy_k0 hsy) dX7_pass_157 ?_
                rw [o1.1]
                refine jr_icmp_gt (tgt := 266) hX dX7_pass_160 (by decide) (fun c_160 => ?_) (fun c_160 => ?_)
                · refine jr_iinc hX dX7_pass_266 rfl (by first | with_reducible exact jj_inc _ | with_reducible exact jj_inc1 _) rfl ?_
                  refine jr_goto (tgt := 132) hX dX7_pass_269 (by decide) ?_
                  exact jr_forget (fun _ _ h => h) (fun i v h => by rcases i with _ | _ | _ | _ | _ | _ | _ | i <;> first | exact h | exact absurd h (by simp)) (ih J (by show ms A1 H M B N (f_se 0 i (it (f_se 0) (it (fun k M => f_bi 0 k H (f_go 0 k M)) (it (f_py 0) (f_fr 0 H d C) B) B) i)) _; rw [se, if_neg (fun w => absurd w.2 (Int32.not_le.mpr c_160))]; exact o1) o2)
                · refine jr_aload_n hX dX7_pass_163 rfl ?_
                  refine jr_aload hX dX7_pass_164 rfl ?_
                  refine jr_aload hX dX7_pass_166 rfl ?_
                  refine jr_iconst (v := 2) hX dX7_pass_168 (by decide) ?_
                  refine jr_iald hX (sy_kD hsy hi) (show _ = nI 2 from rfl) (by omega) dX7_pass_169 ?_
                  rw [md 2 (by decide), e2]
                  refine jr_ret (jr_runV hX hSt kM_X7_97 (s_pays (jj_fl hX) hsy hi (by omega) ((md 0 (by decide)).trans e0) (by omega) ((md 1 (by decide)).trans e1) (by omega) ((md 3 (by decide)).trans e3) hg) rfl rfl (sy_k0 hsy) ⟨_, _, rfl, by decide⟩ dX7_pass_170 rfl ⟨by simp only [jj_N]; omega, by simp only [jj_N]; omega⟩ rfl) ?_
                  rw [md 4 (by decide), mq]
                  refine jr_if_eq (tgt := 179) hX dX7_pass_173 (by decide) (fun c_173 => ?_) (fun c_173 => ?_)
                  · have hc9 := jm_c0 c_173
                    rw [if_pos hc9]
                    refine jr_aload hX dX7_pass_179 rfl ?_
                    refine jr_iconst (v := 4) hX dX7_pass_181 (by decide) ?_
                    refine jr_iald hX (sy_kD hsy hi) (show _ = nI 4 from rfl) (by omega) dX7_pass_182 ?_
                    rw [md 4 (by decide)]
                    refine jr_aload_n hX dX7_pass_183 rfl ?_
                    refine jr_getr hX kF_X7_14 rfl (sy_k0 hsy) (sy_p0_1 hsy) dX7_pass_184 ?_
                    refine jr_aload hX dX7_pass_187 rfl ?_
                    refine jr_iconst (v := 2) hX dX7_pass_189 (by decide) ?_
                    refine jr_iald hX (sy_kD hsy hi) (show _ = nI 2 from rfl) (by omega) dX7_pass_190 ?_
                    rw [md 2 (by decide), e2]
                    refine jr_aald (t := 15) hX (by decide) (sy_k5 hsy) rfl (by omega) (sy_qH hsy (by omega)) dX7_pass_191 ?_
                    refine jr_iconst (v := 1) hX dX7_pass_192 (by decide) ?_
                    refine jr_aload hX dX7_pass_193 rfl ?_
                    refine jr_iconst (v := 3) hX dX7_pass_195 (by decide) ?_
                    refine jr_iald hX (sy_kD hsy hi) (show _ = nI 3 from rfl) (by omega) dX7_pass_196 ?_
                    rw [md 3 (by decide), e3]
                    refine jr_iadd hX dX7_pass_197 ?_
                    rw [show (1 : Int32) + nI g = nI (1 + g) from nI_add 1 g]
                    refine jr_iald hX (sy_kH hsy (by omega)) rfl (by omega) dX7_pass_198 ?_
                    rw [(o1.2.2.2.2.2.1 h hh).2 g hg]
                    refine jr_imul hX dX7_pass_199 ?_
                    refine jr_istore hX dX7_pass_200 rfl ?_
                    refine jr_aload hX dX7_pass_202 rfl ?_
                    refine jr_bipush (v := 6) hX dX7_pass_204 (by decide) ?_
                    refine jr_aload_n hX dX7_pass_206 rfl ?_
                    refine jr_getr hX kF_X7_24 rfl (sy_k0 hsy) (sy_p0_4 hsy) dX7_pass_207 ?_
                    refine jr_aload hX dX7_pass_210 rfl ?_
                    refine jr_iconst (v := 1) hX dX7_pass_212 (by decide) ?_
                    refine jr_iald hX (sy_kD hsy hi) (show _ = nI 1 from rfl) (by omega) dX7_pass_213 ?_
                    rw [md 1 (by decide), e1]
                    refine jr_iald hX (sy_k4 hsy) rfl (by omega) dX7_pass_214 ?_
                    rw [o1.2.2.2.2.1 q hq]
                    refine jr_iload hX dX7_pass_215 rfl ?_
                    refine jr_icmp_ge (tgt := 224) hX dX7_pass_217 (by decide) (fun c_217 => ?_) (fun c_217 => ?_)
                    · refine jr_iconst (v := 1) hX dX7_pass_224 (by decide) ?_
                      refine jr_iast hX (sy_kD hsy hi) (sy_zD hsy hi) (show _ = nI 6 from rfl) (by omega) dX7_pass_225 ?_
                      refine jr_aload hX dX7_pass_226 rfl ?_
                      refine jr_bipush (v := 6) hX dX7_pass_228 (by decide) ?_
                      refine jr_iald hX (sy_kD hsy hi) (show _ = nI 6 from rfl) (by omega) dX7_pass_230 ?_
                      rw [jj_u_eq]
                      refine jr_iconst (v := 2) hX dX7_pass_231 (by decide) ?_
                      refine jr_icmp_ne (tgt := 238) hX dX7_pass_232 (by decide) (fun c_232 => ?_) (fun c_232 => absurd c_232 (by decide))
                      refine jr_aload_n hX dX7_pass_238 rfl ?_
                      refine jr_getr hX kF_X7_24 rfl (sy_k0 hsy) (sy_p0_4 hsy) dX7_pass_239 ?_
                      refine jr_aload hX dX7_pass_242 rfl ?_
                      refine jr_iconst (v := 1) hX dX7_pass_244 (by decide) ?_
                      refine jr_iald hX (sy_kD hsy hi) (show _ = nI 1 from rfl) (by omega) dX7_pass_245 ?_
                      rw [jj_u_nk (by decide), md 1 (by decide), e1]
                      refine jr_dup2 hX dX7_pass_246 rfl rfl ?_
                      refine jr_iald hX (sy_k4 hsy) rfl (by omega) dX7_pass_247 ?_
                      rw [sy_off hsy (sv_D hsy.1 hi) sv_4 (by omega), o1.2.2.2.2.1 q hq]
                      refine jr_iload hX dX7_pass_248 rfl ?_
                      refine jr_isub hX dX7_pass_250 ?_
                      refine jr_iast hX (sy_k4 hsy) (sy_z4 hsy) rfl (by omega) dX7_pass_251 ?_
                      refine jr_aload_n hX dX7_pass_252 rfl ?_
                      refine jr_getr hX kF_X7_24 rfl (sy_k0 hsy) (sy_p0_4 hsy) dX7_pass_253 ?_
                      refine jr_aload hX dX7_pass_256 rfl ?_
                      refine jr_iconst (v := 0) hX dX7_pass_258 (by decide) ?_
                      refine jr_iald hX (sy_kD hsy hi) (show _ = nI 0 from rfl) (by omega) dX7_pass_259 ?_
                      rw [sy_off hsy sv_4 (sv_D hsy.1 hi) (by omega), jj_u_nk (by decide), md 0 (by decide), e0]
                      refine jr_dup2 hX dX7_pass_260 rfl rfl ?_
                      refine jr_iald hX (sy_k4 hsy) rfl (by omega) dX7_pass_261 ?_
                      refine jr_iload hX dX7_pass_262 rfl ?_
                      refine jr_iadd hX dX7_pass_264 ?_
                      refine jr_iast hX (sy_k4 hsy) (sy_z4 hsy) rfl (by omega) dX7_pass_265 ?_
                      refine jr_iinc hX dX7_pass_266 rfl (by first | with_reducible exact jj_inc _ | with_reducible exact jj_inc1 _) rfl ?_
                      refine jr_goto (tgt := 132) hX dX7_pass_269 (by decide) ?_
                      exact jr_forget (fun _ _ h => h) (fun i v h => by rcases i with _ | _ | _ | _ | _ | _ | _ | i <;> first | exact h | exact absurd h (by simp)) (ih _ (by show ms A1 H M B N (f_se 0 i (it (f_se 0) (it (fun k M => f_bi 0 k H (f_go 0 k M)) (it (f_py 0) (f_fr 0 H d C) B) B) i)) _; rw [se, if_pos ⟨z6, Int32.not_lt.mp c_160⟩, if_pos hc9, if_neg (Int32.not_lt.mpr c_217)]; exact (ms_cn hsy o1 hi ha hq).1) (fw_tr o2 (ms_cn hsy o1 hi ha hq).2))
                    · refine jr_iconst (v := 2) hX dX7_pass_220 (by decide) ?_
                      refine jr_goto (tgt := 225) hX dX7_pass_221 (by decide) ?_
                      refine jr_iast hX (sy_kD hsy hi) (sy_zD hsy hi) (show _ = nI 6 from rfl) (by omega) dX7_pass_225 ?_
                      refine jr_aload hX dX7_pass_226 rfl ?_
                      refine jr_bipush (v := 6) hX dX7_pass_228 (by decide) ?_
                      refine jr_iald hX (sy_kD hsy hi) (show _ = nI 6 from rfl) (by omega) dX7_pass_230 ?_
                      rw [jj_u_eq]
                      refine jr_iconst (v := 2) hX dX7_pass_231 (by decide) ?_
                      refine jr_icmp_ne (tgt := 238) hX dX7_pass_232 (by decide) (fun c_232 => absurd c_232 (fun w => w rfl)) (fun c_232 => ?_)
                      refine jr_goto (tgt := 266) hX dX7_pass_235 (by decide) ?_
                      refine jr_iinc hX dX7_pass_266 rfl (by first | with_reducible exact jj_inc _ | with_reducible exact jj_inc1 _) rfl ?_
                      refine jr_goto (tgt := 132) hX dX7_pass_269 (by decide) ?_
                      exact jr_forget (fun _ _ h => h) (fun i v h => by rcases i with _ | _ | _ | _ | _ | _ | _ | i <;> first | exact h | exact absurd h (by simp)) (ih _ (by show ms A1 H M B N (f_se 0 i (it (f_se 0) (it (fun k M => f_bi 0 k H (f_go 0 k M)) (it (f_py 0) (f_fr 0 H d C) B) B) i)) _; rw [se, if_pos ⟨z6, Int32.not_lt.mp c_160⟩, if_pos hc9, if_pos (Int32.not_le.mp c_217)]; exact ms_debt hsy o1 hi) (fw_tr o2 (fw_u _ (sv_D hsy.1 hi))))
                  · have hc9 := jm_c1 c_173
                    rw [if_neg hc9]
                    refine jr_goto (tgt := 266) hX dX7_pass_176 (by decide) ?_
                    refine jr_iinc hX dX7_pass_266 rfl (by first | with_reducible exact jj_inc _ | with_reducible exact jj_inc1 _) rfl ?_
                    refine jr_goto (tgt := 132) hX dX7_pass_269 (by decide) ?_
                    exact jr_forget (fun _ _ h => h) (fun i v h => by rcases i with _ | _ | _ | _ | _ | _ | _ | i <;> first | exact h | exact absurd h (by simp)) (ih _ (by show ms A1 H M B N (f_se 0 i (it (f_se 0) (it (fun k M => f_bi 0 k H (f_go 0 k M)) (it (f_py 0) (f_fr 0 H d C) B) B) i)) _; rw [se, if_pos ⟨z6, Int32.not_lt.mp c_160⟩, if_neg hc9]; exact (ms_py hsy o1 hi (by omega) (by omega) (by omega) hg).1) (fw_tr o2 (ms_py hsy o1 hi (by omega) (by omega) (by omega) hg).2))
          exact h3 0 (Nat.zero_le _) J o1 o2
        · intro n1 K1 P1 A1 J hsy o1 o2 o3 o4
          obtain ⟨⟨b1, b2⟩, b4⟩ := a2 j (Nat.le_of_lt hj)
          refine jr_iload hX dX7_pass_97 rfl ?_
          refine jr_iload_n hX dX7_pass_99 rfl ?_
          refine jr_icmp_ge (tgt := 121) hX dX7_pass_100 (by decide) (fun c_100 => absurd c_100 (nI_ge (by assumption) (by omega))) (fun c_100 => ?_)
          refine jr_aload_n hX dX7_pass_103 rfl ?_
          refine jr_iload hX dX7_pass_104 rfl ?_
          refine jr_aald (t := 17) hX (by decide) (sy_k6 hsy) rfl (by omega) (sy_qB hsy (by omega)) dX7_pass_106 ?_
          refine jr_astore hX dX7_pass_107 rfl ?_
          refine jr_aload_n hX dX7_pass_109 rfl ?_
          refine jr_aload hX dX7_pass_110 rfl ?_
          refine jr_relM (jr_runV hX hSt kM_X7_93 (s_sailM (jj_fl hX) hsy b1 b2 o1 hj) rfl rfl (sy_k0 hsy) ⟨_, _, rfl, by decide⟩ dX7_pass_112 rfl ⟨by simp only [jj_N]; omega, by simp only [jj_N]; omega⟩ rfl) ?_
          rintro r n2 K2 J2 P2 G2 ⟨rfl, rfl, A2, p1, p2, p3, p4, p5⟩
          simp only [Option.toList, List.nil_append]
          refine jr_iinc hX dX7_pass_115 rfl (by first | with_reducible exact jj_inc _ | with_reducible exact jj_inc1 _) rfl ?_
          refine jr_goto (tgt := 97) hX dX7_pass_118 (by decide) ?_
          have ih2 := ih n2 K2 P2 A2 J2 p1 p2 (fw_tr o2 p3) (fun t ht => (p4 t ht).trans (o3 t ht)) (by omega)
          rw [p4 0 (Or.inl (by decide)), p4 6 (Or.inl (by decide))] at ih2
          exact jr_forget (fun _ _ h => h) (fun i v h => by rcases i with _ | _ | _ | _ | _ | _ | _ | i <;> first | exact h | exact absurd h (by simp)) (ih2)
      exact h2 0 (Nat.zero_le _) n K P A J hsy o1 o2 (fun _ _ => rfl) (Nat.le_refl _)
    · intro J o1 o2
      obtain ⟨⟨b1, b2⟩, b3, b4⟩ := a1 k (Nat.le_of_lt hk)
      obtain ⟨o, ho, eo⟩ := (b2.2.1 k hk).2
      obtain ⟨q0, q1, q2, q3, q4, q5, q6, q7, q8⟩ := o1.2.2.2.2.2.2.1 k hk
      refine jr_iload hX dX7_pass_20 rfl ?_
      refine jr_iload_n hX dX7_pass_22 rfl ?_
      refine jr_icmp_ge (tgt := 86) hX dX7_pass_23 (by decide) (fun c_23 => absurd c_23 (nI_ge (by assumption) (by omega))) (fun c_23 => ?_)
      refine jr_aload_n hX dX7_pass_26 rfl ?_
      refine jr_iload hX dX7_pass_27 rfl ?_
      refine jr_aald (t := 17) hX (by decide) (sy_k6 hsy) rfl (by omega) (sy_qB hsy (by omega)) dX7_pass_29 ?_
      refine jr_astore hX dX7_pass_30 rfl ?_
      refine jr_aload hX dX7_pass_32 rfl ?_
      refine jr_geti hX kF_X7_67 rfl (sy_kB hsy (by first | assumption | omega)) dX7_pass_34 ?_
      rw [q3]
      refine jr_iconst (v := 1) hX dX7_pass_37 (by decide) ?_
      refine jr_icmp_eq (tgt := 44) hX dX7_pass_38 (by decide) (fun c_38 => ?_) (fun c_38 => ?_)
      · refine jr_aload_n hX dX7_pass_44 rfl ?_
        refine jr_getr hX kF_X7_24 rfl (sy_k0 hsy) (sy_p0_4 hsy) dX7_pass_45 ?_
        refine jr_aload hX dX7_pass_48 rfl ?_
        refine jr_geti hX kF_X7_55 rfl (sy_kB hsy (by first | assumption | omega)) dX7_pass_50 ?_
        rw [q0, eo]
        refine jr_iald hX (sy_k4 hsy) rfl (by omega) dX7_pass_53 ?_
        rw [o1.2.2.2.2.1 o ho]
        refine jr_if_ne (tgt := 66) hX dX7_pass_54 (by decide) (fun c_54 => ?_) (fun c_54 => ?_)
        · refine jr_aload_n hX dX7_pass_66 rfl ?_
          refine jr_getr hX kF_X7_24 rfl (sy_k0 hsy) (sy_p0_4 hsy) dX7_pass_67 ?_
          refine jr_aload hX dX7_pass_70 rfl ?_
          refine jr_geti hX kF_X7_55 rfl (sy_kB hsy (by first | assumption | omega)) dX7_pass_72 ?_
          rw [q0, eo]
          refine jr_dup2 hX dX7_pass_75 rfl rfl ?_
          refine jr_iald hX (sy_k4 hsy) rfl (by omega) dX7_pass_76 ?_
          rw [o1.2.2.2.2.1 o ho]
          refine jr_iconst (v := 1) hX dX7_pass_77 (by decide) ?_
          refine jr_isub hX dX7_pass_78 ?_
          refine jr_iast hX (sy_k4 hsy) (sy_z4 hsy) rfl (by omega) dX7_pass_79 ?_
          refine jr_iinc hX dX7_pass_80 rfl (by first | with_reducible exact jj_inc _ | with_reducible exact jj_inc1 _) rfl ?_
          refine jr_goto (tgt := 20) hX dX7_pass_83 (by decide) ?_
          exact jr_forget (fun _ _ h => h) (fun i v h => by rcases i with _ | _ | _ | _ | _ | _ | _ | i <;> first | exact h | exact absurd h (by simp)) (ih _ (by show ms A H M B N (f_py 0 k (it (f_py 0) (f_fr 0 H d C) k)) _; rw [py_eq eo (by omega), if_pos c_38, if_pos (i32_pos (b3 o (by omega)) c_54)]; exact ms_coin hsy o1 ho) (fw_tr o2 (fw_u 4 sv_4)))
        · refine jr_aload hX dX7_pass_57 rfl ?_
          refine jr_iconst (v := 0) hX dX7_pass_59 (by decide) ?_
          refine jr_puti hX kF_X7_67 rfl (sy_kB hsy (by first | assumption | omega)) (sy_zB hsy (by first | assumption | omega)) dX7_pass_60 ?_
          refine jr_goto (tgt := 80) hX dX7_pass_63 (by decide) ?_
          refine jr_iinc hX dX7_pass_80 rfl (by first | with_reducible exact jj_inc _ | with_reducible exact jj_inc1 _) rfl ?_
          refine jr_goto (tgt := 20) hX dX7_pass_83 (by decide) ?_
          exact jr_forget (fun _ _ h => h) (fun i v h => by rcases i with _ | _ | _ | _ | _ | _ | _ | i <;> first | exact h | exact absurd h (by simp)) (ih _ (by show ms A H M B N (f_py 0 k (it (f_py 0) (f_fr 0 H d C) k)) _; rw [py_eq eo (by omega), if_pos c_38, if_neg (by rw [c_54]; decide)]; exact ms_st hsy o1 hk (fun e => absurd e (by decide))) (fw_tr o2 (fw_u _ (sv_B hsy.1 hk))))
      · refine jr_goto (tgt := 80) hX dX7_pass_41 (by decide) ?_
        refine jr_iinc hX dX7_pass_80 rfl (by first | with_reducible exact jj_inc _ | with_reducible exact jj_inc1 _) rfl ?_
        refine jr_goto (tgt := 20) hX dX7_pass_83 (by decide) ?_
        exact jr_forget (fun _ _ h => h) (fun i v h => by rcases i with _ | _ | _ | _ | _ | _ | _ | i <;> first | exact h | exact absurd h (by simp)) (ih _ (by show ms A H M B N (f_py 0 k (it (f_py 0) (f_fr 0 H d C) k)) _; rw [py_eq eo (by omega), if_neg c_38]; exact o1) o2)
  exact h1 0 (Nat.zero_le _) _ f1 f2
