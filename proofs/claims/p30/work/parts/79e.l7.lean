/-! what holds between the law's doings -/
def oz (H : Nat) (C : jj_I) : Prop := ∀ m, m < 5 → ∀ c, 4 * H ≤ c → c < 32 → C (aMt 0 m) c = 0
def ow (H B : Nat) (C : jj_I) : Prop := oz H C ∧ lw B C
def lv (A : Nat → Nat) (H M B N n t : Nat) (K : jj_K) (I : jj_I) (P : jj_P) : Prop := ly K P ∧ sy A H M B N n K P ∧ ms A H M B N I I ∧ tn_c t H M B N I ∧ dz N I ∧ (1 ≤ H ∧ H ≤ 7) ∧ (2 ≤ M ∧ M ≤ 5) ∧ 1 ≤ B ∧ B ≤ 9 ∧ ow H B I
section LV
variable {A : Nat → Nat} {H M B N n t : Nat} {K : jj_K} {P : jj_P} {I J C J1 J2 : jj_I}
theorem lv_st {t' : Nat} (hv : lv A H M B N n t K I P) (h1 : t ≤ t') (h2 : t' ≤ 512) : lv A H M B N n t' K I P := by
  obtain ⟨a1, a2, a3, a4, a5⟩ := hv
  exact ⟨a1, a2, a3, tc_up a4 h1 h2, a5⟩
theorem oz_u {a k : Nat} {v : Int32} (h : oz H C) (hk : k < 4 * H) : oz H (jj_u C a k v) := fun m hm c h1 h2 => by
  unfold jj_u
  rw [if_neg (fun q => absurd q.2 (by omega))]
  exact h m hm c h1 h2
theorem oz_ne {a k : Nat} {v : Int32} (h : oz H C) (e : ∀ m, m < 5 → a ≠ aMt 0 m) : oz H (jj_u C a k v) := fun m hm c h1 h2 => by
  rw [jj_u_ne (fun q => e m hm q.symm)]
  exact h m hm c h1 h2
theorem oz_hd {q a c : Nat} {m : Int32} (h : oz H C) (hc : c < 4 * H) : oz H (f_hd 0 q a c m C) := by
  unfold f_hd
  exact oz_u (oz_u h hc) hc
theorem ow_ne {a k : Nat} {v : Int32} (h : ow H B C) (e : ∀ m, m < 5 → a ≠ aMt 0 m) (e2 : ∀ b, b < B → a ≠ aB 0 b) : ow H B (jj_u C a k v) := ⟨oz_ne h.1 e, fun b hb => by
  rw [jj_u_ne (fun q => e2 b hb q.symm)]
  exact h.2 b hb⟩
theorem ow_t {m k : Nat} {v : Int32} (h : ow H B C) (hm : m < 5) (hk : k < 4 * H) : ow H B (jj_u C (aMt 0 m) k v) := ⟨oz_u h.1 hk, fun b hb => by
  rw [jj_u_ne (by simp only [aMt, aB]; omega)]
  exact h.2 b hb⟩
theorem ow_s {b k : Nat} {v : Int32} (h : ow H B C) (h3 : k ≠ 3) (h7 : k ≠ 7) : ow H B (jj_u C (aB 0 b) k v) := ⟨oz_ne h.1 (fun m hm => by simp only [aMt, aB]; omega), fun x hx => by
  have e3 : jj_u C (aB 0 b) k v (aB 0 x) 3 = C (aB 0 x) 3 := by
    unfold jj_u
    rw [if_neg (fun q => h3 q.2.symm)]
  have e7 : jj_u C (aB 0 b) k v (aB 0 x) 7 = C (aB 0 x) 7 := by
    unfold jj_u
    rw [if_neg (fun q => h7 q.2.symm)]
  rw [e3, e7]
  exact h.2 x hx⟩
theorem ow_b {b : Nat} {z : Int32} (h : ow H B C) (hb : b < B) (hz : z = 0 ∨ z = 1) (hp : C (aB 0 b) 3 = 0 ∨ C (aB 0 b) 3 = 1) : ow H B (jj_u C (aB 0 b) 3 z) := ⟨oz_ne h.1 (fun m hm => by simp only [aMt, aB]; omega), fun x hx => by
  by_cases e : x = b
  · subst e
    rw [jj_u_eq, jj_u_nk (by decide)]
    refine ⟨fun _ => (h.2 x hx).1 (fun q => ?_), fun q => ?_⟩
    · rw [q] at hp; exact absurd hp (by decide)
    · rcases hz with e | e <;> rw [e] at q <;> exact absurd q (by decide)
  · rw [jj_u_ne (by simp only [aB]; omega)]
    exact h.2 x hx⟩
theorem ow_hd {q a c : Nat} {m : Int32} (h : ow H B C) (hq : q < 5) (ha : a < 5) (hc : c < 4 * H) : ow H B (f_hd 0 q a c m C) := by
  unfold f_hd
  exact ow_t (ow_t h hq hc) ha hc
theorem lv_mk (hv : lv A H M B N n t K I P) (hm : ms A H M B N C J1) (ht : tn_c (t + 1) H M B N C) (hz : dz N C) (ho : ow H B C) (h512 : t + 2 ≤ 512) (e1 : eqA J2 C) (e2 : ∀ a, 150 ≤ a → J2 a = J1 a) : lv A H M B N n (t + 2) K J2 P := by
  obtain ⟨a1, a2, a3, a4, a5, a6⟩ := hv
  refine ⟨a1, a2, ms_in a2 hm e1 (fun a h _ => e2 a h), eqA_tc e1 (by omega) ht, fun d hd => ?_, a6.1, a6.2.1, a6.2.2.1, a6.2.2.2.1, ⟨fun m hm c h1 h2 => by rw [e1 _ (by simp only [aMt]; omega)]; exact ho.1 m hm c h1 h2, fun b hb => by rw [e1 _ (by have := a2.1.2.2.1; simp only [aB]; omega)]; exact ho.2 b hb⟩⟩
  rw [e1 _ (by have := a2.1.2.2.2; simp only [aD]; omega)]
  exact hz d hd
theorem dz_ne {a k : Nat} {v : Int32} (hz : dz N C) (h : ∀ d, d < N → a ≠ aD 0 d) : dz N (jj_u C a k v) := fun d hd => by
  rw [jj_u_ne (fun e => h d hd e.symm)]
  exact hz d hd
/-- goods are brought -/
theorem la_bring {m h g y : Nat} (hv : lv A H M B N n t K I P) (ht : t + 2 ≤ 512) (hm : m < M) (hh : h < H) (hg : g < 4) (hy : 1 ≤ y ∧ y ≤ 60) : lv A H M B N n (t + 2) K (jj_u (jj_u I (A (110 + 8 * m + h)) g (I (aMt 0 m) (4 * h + g) + nI y)) (aMt 0 m) (4 * h + g) (I (aMt 0 m) (4 * h + g) + nI y)) P := by
  obtain ⟨a1, a2, a3, a4, a5, a6, a7, a8⟩ := id hv
  have ge := sy_lt a2 (t := 110 + 8 * m + h) (sv_S a2.1 (by omega) (by omega))
  have hN := a2.1.2.2.2
  refine lv_mk hv (ms_stock a2 a3 (by omega) (by omega) hg) (tc_bring a4 (by omega) (by omega) (by omega) ⟨by rw [show (1 : Int32) = nI 1 from rfl]; exact nI_le hy.1 (by omega), by rw [show (100 : Int32) = nI 100 from rfl]; exact nI_le (by omega) (by omega)⟩) (dz_ne a5 (fun d hd => by simp only [aMt, aD]; omega)) (ow_t a8.2.2 (show m < 5 by omega) (by omega)) ht ?_ (fun a ha => jj_u_ne (by simp only [aMt]; omega))
  exact eqA_u (eqA_w (fun _ _ => rfl) ge.1)
/-- goods are sold -/
theorem eqA_sell {m c : Nat} {y : Int32} (h : eqA J I) (hm : m < 5) : eqA (f_sell m c y J) (f_sell m c y I) := by
  unfold f_sell
  dsimp only
  rw [h (aMt 0 m) (by simp only [aMt]; omega)]
  have h2 : eqA (jj_u J (aMt 0 m) c (I (aMt 0 m) c - y)) (jj_u I (aMt 0 m) c (I (aMt 0 m) c - y)) := eqA_u h
  rw [h2 (aM 0 m) (by simp only [aM]; omega), h2 (aPr 0) (by simp only [aPr]; omega)]
  exact eqA_u h2
theorem sell_eq {m c : Nat} {y : Int32} (hm : m < 5) : f_sell m c y I = jj_u (jj_u I (aMt 0 m) c (I (aMt 0 m) c - y)) (aM 0 m) 0 (I (aM 0 m) 0 + y * I (aPr 0) c) := by
  unfold f_sell
  dsimp only
  rw [jj_u_ne (b := aM 0 m) (by simp only [aM, aMt]; omega), jj_u_ne (b := aPr 0) (by simp only [aPr, aMt]; omega)]
theorem la_sell {m h g y : Nat} (hv : lv A H M B N n t K I P) (ht : t + 2 ≤ 512) (hm : m < M) (hh : h < H) (hg : g < 4) (hy : 1 ≤ y ∧ y < 2147483648) (he : nI y ≤ I (aMt 0 m) (4 * h + g)) :
    lv A H M B N n (t + 2) K (f_sell m (4 * h + g) (nI y) (jj_u (jj_u I (A (110 + 8 * m + h)) g (I (aMt 0 m) (4 * h + g) - nI y)) (A 4) m (I (aM 0 m) 0 + nI y * I (aPr 0) (4 * h + g)))) P ∧
    f_sell m (4 * h + g) (nI y) (jj_u (jj_u I (A (110 + 8 * m + h)) g (I (aMt 0 m) (4 * h + g) - nI y)) (A 4) m (I (aM 0 m) 0 + nI y * I (aPr 0) (4 * h + g))) (aM 0 m) 0 = I (aM 0 m) 0 + nI y * I (aPr 0) (4 * h + g) := by
  obtain ⟨a1, a2, a3, a4, a5, a6, a7, a8⟩ := id hv
  have ge := sy_lt a2 (t := 110 + 8 * m + h) (sv_S a2.1 (by omega) (by omega))
  have g4 := sy_lt a2 (t := 4) sv_4
  have hN := a2.1.2.2.2
  have eq : eqA (jj_u (jj_u I (A (110 + 8 * m + h)) g (I (aMt 0 m) (4 * h + g) - nI y)) (A 4) m (I (aM 0 m) 0 + nI y * I (aPr 0) (4 * h + g))) I := eqA_w (eqA_w (fun _ _ => rfl) ge.1) g4.1
  refine ⟨lv_mk (J1 := jj_u (jj_u I (A (110 + 8 * m + h)) g (I (aMt 0 m) (4 * h + g) - nI y)) (A 4) m (I (aM 0 m) 0 + nI y * I (aPr 0) (4 * h + g))) hv ?_ (tc_sell (c := 4 * h + g) (y := nI y) a4 (by omega) (show m < 5 by omega) (by omega) (by rw [show (1 : Int32) = nI 1 from rfl]; exact nI_le hy.1 (by omega)) he) ?_ ?_ ht (eqA_sell eq (by omega)) (fun a ha => ?_), ?_⟩
  · rw [sell_eq (by omega)]
    exact ms_coin a2 (ms_stock a2 a3 (by omega) (by omega) hg) hm
  · rw [sell_eq (by omega)]
    exact dz_ne (dz_ne a5 (fun d hd => by simp only [aMt, aD]; omega)) (fun d hd => by simp only [aM, aD]; omega)
  · rw [sell_eq (by omega)]
    exact ow_ne (ow_t a8.2.2 (show m < 5 by omega) (by omega)) (fun k hk => by simp only [aM, aMt]; omega) (fun k hk => by simp only [aM, aB]; omega)
  · rw [sell_eq (by omega), jj_u_ne (by simp only [aM]; omega), jj_u_ne (by simp only [aMt]; omega)]
  · rw [sell_eq (by omega), jj_u_eq, eq (aM 0 m) (by simp only [aM]; omega), eq (aPr 0) (by simp only [aPr]; omega)]
/-- goods are loaded -/
theorem load_eq {b g o h : Nat} {y : Int32} (e0 : I (aB 0 b) 0 = nI o) (e4 : I (aB 0 b) 4 = nI h) (ho : o < 5) (hh : h < 8) (hb : b < 10) : f_load b g y I = jj_u (jj_u I (aMt 0 o) (4 * h + g) (I (aMt 0 o) (4 * h + g) - y)) (aBc 0 b) g (I (aBc 0 b) g + y) := by
  unfold f_load
  dsimp only
  rw [e0, e4, nv_nI (by omega), nv_nI (by omega), show h * 4 + g = 4 * h + g by omega, jj_u_ne (b := aBc 0 b) (by simp only [aBc, aMt]; omega)]
theorem s_al_eq {b : Nat} (hm : ms A H M B N C I) (hb : b < B) : s_al A b I = sm (C (aBc 0 b)) 4 := by
  have q := (hm.2.2.2.2.2.2.1 b hb).2.2.2.2.2.2.2.2
  unfold s_al
  rw [q 0 (by decide), q 1 (by decide), q 2 (by decide), q 3 (by decide)]
  show _ = 0 + C (aBc 0 b) 0 + C (aBc 0 b) 1 + C (aBc 0 b) 2 + C (aBc 0 b) 3
  rw [Int32.zero_add]
theorem la_load {b g o h : Nat} {y : Int32} (hv : lv A H M B N n t K I P) (ht : t + 2 ≤ 512) (hb : b < B) (hg : g < 4) (e0 : I (aB 0 b) 0 = nI o) (e4 : I (aB 0 b) 4 = nI h) (ho : o < 5) (hh : h < H) (hy : -60 ≤ y ∧ y ≤ 60) (h0y : ¬ y = 0) (hp : I (aB 0 b) 3 = 0 ∨ I (aB 0 b) 3 = 1) (he : (if 0 ≤ y then y else 0 - y) ≤ (if 0 < y then I (aMt 0 (nv (I (aB 0 b) 0))) (nv (I (aB 0 b) 4) * 4 + g) else I (aBc 0 b) g)) (hf : y ≤ I (aB 0 b) 2 - sm (I (aBc 0 b)) 4) :
    lv A H M B N n (t + 2) K (f_load b g y (jj_u (jj_u I (A (110 + 8 * o + h)) g (I (aMt 0 o) (4 * h + g) - y)) (A (40 + b)) g (I (aBc 0 b) g + y))) P := by
  obtain ⟨a1, a2, a3, a4, a5, a6, a7, a8⟩ := id hv
  have hN := a2.1.2.2.2
  have ge := sy_lt a2 (t := 110 + 8 * o + h) (sv_S a2.1 (by omega) (by omega))
  have gg := sy_lt a2 (t := 40 + b) (sv_G a2.1 hb)
  have eq : eqA (jj_u (jj_u I (A (110 + 8 * o + h)) g (I (aMt 0 o) (4 * h + g) - y)) (A (40 + b)) g (I (aBc 0 b) g + y)) I := eqA_w (eqA_w (fun _ _ => rfl) ge.1) gg.1
  have eb : ∀ k, jj_u (jj_u I (A (110 + 8 * o + h)) g (I (aMt 0 o) (4 * h + g) - y)) (A (40 + b)) g (I (aBc 0 b) g + y) (aB 0 b) k = I (aB 0 b) k := fun k => by rw [eq (aB 0 b) (by simp only [aB]; omega)]
  have hC := tc_load (y := y) a4 (by omega) hb hg hy h0y hp he hf
  rw [load_eq e0 e4 ho (show h < 8 by omega) (by omega)] at hC
  rw [load_eq ((eb 0).trans e0) ((eb 4).trans e4) ho (show h < 8 by omega) (by omega), eq (aMt 0 o) (by simp only [aMt]; omega), eq (aBc 0 b) (by simp only [aBc]; omega)]
  refine lv_mk hv (ms_good a2 (ms_stock a2 a3 ho (show h < 8 by omega) hg) hb) hC (dz_ne (dz_ne a5 (fun d hd => by simp only [aMt, aD]; omega)) (fun d hd => by simp only [aBc, aD]; omega)) (ow_ne (ow_t a8.2.2 ho (by omega)) (fun k hk => by simp only [aBc, aMt]; omega) (fun k hk => by simp only [aBc, aB]; omega)) ht (eqA_u (eqA_u eq)) (fun a ha => ?_)
  rw [jj_u_ne (by simp only [aBc]; omega), jj_u_ne (by simp only [aMt]; omega)]
/-- a boat is sent -/
theorem la_send {b h : Nat} (hv : lv A H M B N n t K I P) (ht : t + 2 ≤ 512) (hb : b < B) (hh : h < H) : lv A H M B N n (t + 2) K (jj_u (jj_u I (A (20 + b)) 5 (nI h)) (aB 0 b) 6 (nI h)) P := by
  obtain ⟨a1, a2, a3, a4, a5, a6, a7, a8⟩ := id hv
  have ge := sy_lt a2 (t := 20 + b) (sv_B a2.1 hb)
  have hN := a2.1.2.2.2
  exact lv_mk hv (ms_goal a2 a3 hb) (tc_send a4 (by omega) hb hh) (dz_ne a5 (fun d hd => by simp only [aB, aD]; omega)) (ow_s a8.2.2 (by decide) (by decide)) ht (eqA_u (eqA_w (fun _ _ => rfl) ge.1)) (fun a ha => jj_u_ne (by simp only [aB]; omega))
/-- a boat is berthed, or leaves its berth -/
theorem s_in_eq {x : Int32} (hm : ms A H M B N C I) : sm (s_in A x 1 I) B = sm (q_bl 0 x 1 C) B := sm_congr (fun b hb => by
  obtain ⟨q0, q1, q2, q3, q4, -⟩ := hm.2.2.2.2.2.2.1 b hb
  unfold s_in q_bl
  rw [q3, q4])
theorem la_berth {b : Nat} {z : Int32} (hv : lv A H M B N n t K I P) (ht : t + 2 ≤ 512) (hb : b < B) (hz1 : z = 0 ∨ z = 1) (hp : I (aB 0 b) 3 = 0 ∨ I (aB 0 b) 3 = 1) (hf : ¬ z = 0 → ¬ I (aB 0 b) 3 = 1 → 1 ≤ I (aBe 0) (nv (I (aB 0 b) 4)) - sm (q_bl 0 (I (aB 0 b) 4) 1 I) B) :
    lv A H M B N n (t + 2) K (f_berth b z (jj_u I (A (20 + b)) 3 z)) P := by
  obtain ⟨a1, a2, a3, a4, a5, a6, a7, a8⟩ := id hv
  have ge := sy_lt a2 (t := 20 + b) (sv_B a2.1 hb)
  have hN := a2.1.2.2.2
  have ez : (if z = 0 then (0 : Int32) else 1) = z := by rcases hz1 with rfl | rfl <;> rfl
  have hC := tc_berth (z := z) a4 (by omega) hb hp hf
  unfold f_berth at hC ⊢
  rw [ez] at hC ⊢
  exact lv_mk hv (ms_st a2 a3 hb (fun e => by rcases hz1 with rfl | rfl <;> exact absurd e (by decide))) hC (dz_ne a5 (fun d hd => by simp only [aB, aD]; omega)) (ow_b a8.2.2 hb hz1 hp) ht (eqA_u (eqA_w (fun _ _ => rfl) ge.1)) (fun a ha => jj_u_ne (by simp only [aB]; omega))
/-- a boat is mended -/
theorem mend_eq {b o p : Nat} (e0 : I (aB 0 b) 0 = nI o) (ho : o < 5) (hb : b < 10) (hp : f_pts b I = nI p) : f_mend b I = jj_u (jj_u I (aM 0 o) 0 (I (aM 0 o) 0 - nI p * 3)) (aB 0 b) 1 (I (aB 0 b) 1 + nI p) := by
  unfold f_mend
  dsimp only
  rw [hp, e0, nv_nI (by omega), jj_u_ne (b := aB 0 b) (by simp only [aB, aM]; omega)]
theorem la_mend {b o p : Nat} (hv : lv A H M B N n t K I P) (ht : t + 2 ≤ 512) (hb : b < B) (e0 : I (aB 0 b) 0 = nI o) (ho : o < M) (hp9 : f_pts b I = nI p) (hp : I (aB 0 b) 3 = 0 ∨ I (aB 0 b) 3 = 1) :
    lv A H M B N n (t + 2) K (f_mend b (jj_u (jj_u I (A (20 + b)) 1 (I (aB 0 b) 1 + nI p)) (A 4) o (I (aM 0 o) 0 - nI p * 3))) P := by
  obtain ⟨a1, a2, a3, a4, a5, a6, a7, a8⟩ := id hv
  have ge := sy_lt a2 (t := 20 + b) (sv_B a2.1 hb)
  have g4 := sy_lt a2 (t := 4) sv_4
  have hN := a2.1.2.2.2
  have eq : eqA (jj_u (jj_u I (A (20 + b)) 1 (I (aB 0 b) 1 + nI p)) (A 4) o (I (aM 0 o) 0 - nI p * 3)) I := eqA_w (eqA_w (fun _ _ => rfl) ge.1) g4.1
  have eb := eq (aB 0 b) (by simp only [aB]; omega)
  have hC := tc_mend a4 (by omega) hb hp
  rw [mend_eq e0 (by omega) (by omega) hp9] at hC
  have hp1 : ∀ Z : jj_I, Z (aB 0 b) = I (aB 0 b) → Z (aM 0 o) = I (aM 0 o) → f_pts b Z = f_pts b I := fun Z z1 z2 => by
    unfold f_pts
    rw [z1, e0, nv_nI (by omega), z2]
  have hp2 := (hp1 _ eb (eq (aM 0 o) (by simp only [aM]; omega))).trans hp9
  rw [mend_eq (by rw [eb]; exact e0) (by omega) (by omega) hp2, eb, eq (aM 0 o) (by simp only [aM]; omega)]
  have m1 := ms_coin (v := I (aM 0 o) 0 - nI p * 3) a2 (ms_hull (v := I (aB 0 b) 1 + nI p) a2 a3 hb) ho
  rw [← jj_u_comm (a := aM 0 o) (b := aB 0 b) (Or.inl (by simp only [aM, aB]; omega))] at m1
  refine lv_mk hv m1 hC (dz_ne (dz_ne a5 (fun d hd => by simp only [aM, aD]; omega)) (fun d hd => by simp only [aB, aD]; omega)) (ow_s (ow_ne a8.2.2 (fun k hk => by simp only [aM, aMt]; omega) (fun k hk => by simp only [aM, aB]; omega)) (by decide) (by decide)) ht (eqA_u (eqA_u eq)) (fun a ha => ?_)
  rw [jj_u_ne (by simp only [aB]; omega), jj_u_ne (by simp only [aM]; omega)]
/-- a debt is paid -/
theorem repay_eq {d a q h g : Nat} (e0 : I (aD 0 d) 0 = nI a) (e1 : I (aD 0 d) 1 = nI q) (e3 : I (aD 0 d) 3 = nI g) (ha : a < 5) (hq : q < 5) (hg : g < 4) : f_repay d h I = jj_u (f_hd 0 q a (4 * h + g) (I (aD 0 d) 4) I) (aD 0 d) 6 1 := by
  unfold f_repay
  rw [e0, e1, e3, nv_nI (by omega), nv_nI (by omega), nv_nI (by omega), show h * 4 + g = 4 * h + g by omega]
theorem eqA_hd {q a c : Nat} {m : Int32} (h : eqA J I) (ha : a < 5) (hq : q < 5) : eqA (f_hd 0 q a c m J) (f_hd 0 q a c m I) := by
  unfold f_hd
  dsimp only
  rw [h (aMt 0 q) (by simp only [aMt]; omega)]
  have h2 : eqA (jj_u J (aMt 0 q) c (I (aMt 0 q) c - m)) (jj_u I (aMt 0 q) c (I (aMt 0 q) c - m)) := eqA_u h
  rw [h2 (aMt 0 a) (by simp only [aMt]; omega)]
  exact eqA_u h2
theorem la_repay {d a q h g : Nat} (hv : lv A H M B N n t K I P) (ht : t + 2 ≤ 512) (hd : d < N) (hh : h < H) (e0 : I (aD 0 d) 0 = nI a) (e1 : I (aD 0 d) 1 = nI q) (e3 : I (aD 0 d) 3 = nI g) (ha : a < 5) (hq : q < 5) (hg : g < 4) (he : I (aD 0 d) 4 ≤ I (aMt 0 q) (4 * h + g)) :
    lv A H M B N n (t + 2) K (f_repay d h (s_py A a q h g d I)) P ∧ f_repay d h (s_py A a q h g d I) (aD 0 d) 4 = I (aD 0 d) 4 := by
  obtain ⟨a1, a2, a3, a4, a5, a6, a7, a8⟩ := id hv
  have hN := a2.1.2.2.2
  have gq := sy_lt a2 (t := 110 + 8 * q + h) (sv_S a2.1 hq (by omega))
  have ga := sy_lt a2 (t := 110 + 8 * a + h) (sv_S a2.1 ha (by omega))
  have gd := sy_lt a2 (t := 60 + d) (sv_D a2.1 hd)
  have eq : eqA (s_py A a q h g d I) I := by
    unfold s_py
    exact eqA_w (eqA_w (eqA_w (fun _ _ => rfl) gq.1) ga.1) gd.1
  have ed := eq (aD 0 d) (by simp only [aD]; omega)
  have hC := tc_repay (hh := h) a4 (by omega) hd hh (by rw [e1, e3, nv_nI (by omega), nv_nI (by omega), show h * 4 + g = 4 * h + g by omega]; exact he)
  rw [repay_eq e0 e1 e3 ha hq hg] at hC
  have hr := repay_eq (I := s_py A a q h g d I) (h := h) (by rw [ed]; exact e0) (by rw [ed]; exact e1) (by rw [ed]; exact e3) ha hq hg
  rw [ed] at hr
  rw [hr]
  refine ⟨lv_mk hv (ms_py a2 a3 hd ha hq (by omega) hg).1 hC (fun k hk => ?_) (ow_ne (ow_hd a8.2.2 hq ha (by omega)) (fun k hk => by simp only [aD, aMt]; omega) (fun k hk => by simp only [aD, aB]; omega)) ht (eqA_u (eqA_hd eq ha hq)) (fun b hb => ?_), ?_⟩
  · by_cases e : k = d
    · subst e; rw [jj_u_eq]; exact Or.inr (Or.inl rfl)
    · rw [jj_u_ne (by simp only [aD]; omega)]
      unfold f_hd
      try dsimp only
      rw [jj_u_ne (by simp only [aD, aMt]; omega), jj_u_ne (by simp only [aD, aMt]; omega)]
      exact a5 k hk
  · rw [jj_u_ne (by simp only [aD]; omega)]
    unfold f_hd
    try dsimp only
    rw [jj_u_ne (by simp only [aMt]; omega), jj_u_ne (by simp only [aMt]; omega)]
  · rw [jj_u_nk (by decide)]
    unfold f_hd
    try dsimp only
    rw [jj_u_ne (by simp only [aD, aMt]; omega), jj_u_ne (by simp only [aD, aMt]; omega), ed]
end LV
