/-! sheltering, and days of frost alone -/
theorem sm01 {f : Nat → Int32} (h : ∀ k, f k = 0 ∨ f k = 1) : ∀ n, ∃ t, t ≤ n ∧ sm f n = nI t
  | 0 => ⟨0, Nat.le_refl _, rfl⟩
  | n + 1 => by
    obtain ⟨t, h1, h2⟩ := sm01 h n
    rcases h n with e | e
    · exact ⟨t, by omega, by show sm f n + f n = _; rw [e, h2, Int32.add_zero]⟩
    · exact ⟨t + 1, by omega, by show sm f n + f n = _; rw [e, h2, nI_1]⟩
theorem qbl01 {w : Nat} {x p : Int32} {C : jj_I} (k : Nat) : q_bl w x p C k = 0 ∨ q_bl w x p C k = 1 := by
  unfold q_bl
  split
  · exact Or.inr rfl
  · exact Or.inl rfl
theorem jm_fb {a t : Nat} (ha : a < 1000) (ht : t < 1000) : (0 < nI a - nI t) ↔ t < a := by
  constructor
  · intro h
    rw [Int32.lt_iff_toInt_lt, Int32.toInt_sub, nI_toInt (by omega), nI_toInt (by omega), Int.bmod_eq_of_le (by omega) (by omega)] at h
    have z0 : (0 : Int32).toInt = 0 := rfl
    omega
  · intro h
    rw [pk_sub (by omega), ← nI_0]
    exact nI_lt (by omega) (by omega)
/-- berths are numbers -/
def sfE (w H : Nat) (C : jj_I) : Prop := ∀ h, h < H → ∃ e, e ≤ 5 ∧ C (aBe w) h = nI e
theorem bg_eq {w b B h H : Nat} {C : jj_I} (h4 : C (aB w b) 4 = nI h) (hh : h < H) (hH : H ≤ 8) (hB : B ≤ 10) (he : sfE w H C) : f_bg w b B C = if C (aB w b) 3 = 0 ∧ C (aB w b) 4 = C (aB w b) 6 ∧ sm (q_bl w (nI h) 1 C) B < C (aBe w) h then jj_u C (aB w b) 3 1 else C := by
  obtain ⟨e, e5, ee⟩ := he h hh
  obtain ⟨t, t1, et⟩ := sm01 (qbl01 (w := w) (x := nI h) (p := 1) (C := C)) B
  unfold f_bg
  have i : (0 < C (aBe w) (nv (C (aB w b) 4)) - sm (q_bl w (C (aB w b) 4) 1 C) B) ↔ sm (q_bl w (nI h) 1 C) B < C (aBe w) h := by
    rw [h4, nv_nI (by omega), ee, et, jm_fb (by omega) (by omega)]
    exact ⟨fun q => nI_lt q (by omega), fun q => Nat.lt_of_not_le (fun z => absurd q (nI_nlt z (by omega)))⟩
  by_cases c : C (aB w b) 3 = 0 ∧ C (aB w b) 4 = C (aB w b) 6 ∧ sm (q_bl w (nI h) 1 C) B < C (aBe w) h
  · rw [if_pos c, if_pos ⟨c.1, c.2.1, i.mpr c.2.2⟩]
  · rw [if_neg c, if_neg (fun q => c ⟨q.1, q.2.1, i.mp q.2.2⟩)]
theorem bg_n {w b B : Nat} {C : jj_I} (h : ¬ (C (aB w b) 3 = 0 ∧ C (aB w b) 4 = C (aB w b) 6)) : f_bg w b B C = C := if_neg (fun q => h ⟨q.1, q.2.1⟩)
theorem jm_th0 {w b : Nat} {C I : jj_I} (q3 : I 158 (12 * b + 3) = C (aB w b) 3) (q4 : I 158 (12 * b + 4) = C (aB w b) 4) (q5 : I 158 (12 * b + 5) = C (aB w b) 6) (h : m_th I b = 0) : ¬ (C (aB w b) 3 < 2 ∧ C (aB w b) 4 = C (aB w b) 6) := by
  unfold m_th at h
  rw [q3, q4, q5] at h
  exact jl_00 h
theorem jm_th1 {w b : Nat} {C I : jj_I} (q3 : I 158 (12 * b + 3) = C (aB w b) 3) (q4 : I 158 (12 * b + 4) = C (aB w b) 4) (q5 : I 158 (12 * b + 5) = C (aB w b) 6) (h : ¬ m_th I b = 0) : C (aB w b) 3 < 2 ∧ C (aB w b) 4 = C (aB w b) 6 := by
  unfold m_th at h
  rw [q3, q4, q5] at h
  exact jl_01 h
set_option maxHeartbeats 4000000 in
set_option maxRecDepth 100000 in
theorem c_shelter {l : Launch} (hfl : l.stackTraces = false) {D : jj_D} {n : Nat} {K : jj_K} {I : jj_I} {P : jj_P} {G : jj_G} (hly : ly K P) {w H M B N : Nat} {C : jj_I} {b : Nat} (hs : sf w H M B N C) (hm : ml w H M B N C I) (hb : b < B) (he : sfE w H C) :
    jj_Met l D yX6_shelter (jj_ws yX6_shelter cX6_shelter 2 none) { frames := 3, cells := 0, slots := 0, locals := 67 } [.ref 150, .int (nI b)] n K I P G (jj_RS (fun r J => r = none ∧ ml w H M B N (f_bg w b B C) J ∧ ∀ a, a ≠ 158 → J a = I a) n K P G) jj_noX := by
  refine jj_of hfl (by decide +kernel) [some (.ref 150), some (.int (nI b))] rfl rfl ?_
  intro X hXl hX hSt
  have z := sf_Z hs
  have hH := hm.1.1
  have hM := hm.1.2.1
  have hB := hm.1.2.2.1
  have hN := hm.1.2.2.2
  have hH2 := hs.1.2
  have hM2 := z.1
  have hB2 := z.2.1
  have hN2 := z.2.2
  have hb10 : b < 10 := by omega
  obtain ⟨-, hp, h4, hl, -⟩ := hs.2.2.2.2.1 b hb
  obtain ⟨q0, q1, q2, q3, q4, q5, q6, q7, q8⟩ := ml_hB hm hb
  refine jr_aload_n hX dX6_shelter_0 rfl ?_
  refine jr_iload_n hX dX6_shelter_1 rfl ?_
  refine jr_iconst (v := 3) hX dX6_shelter_2 (by decide) ?_
  refine jr_ret (jr_runV hX hSt kM_X6_74 (c_bo (jj_fl hX) hly (b := b) (k := 3) hb10 (show _ = nI 3 from rfl) (by decide)) rfl rfl (ly_kMo hly) ⟨_, _, rfl, by decide⟩ dX6_shelter_3 rfl ⟨jj_b1 rfl, jj_b1 rfl⟩ rfl) ?_
  rw [q3]
  refine jr_if_ne (tgt := 49) hX dX6_shelter_6 (by decide) (fun c_6 => ?_) (fun c_6 => ?_)
  · exact jr_vret hX dX6_shelter_49 rfl rfl ⟨⟨rfl, by rw [bg_n (fun e => c_6 e.1)]; exact hm, fun _ _ => rfl⟩, rfl, rfl, rfl, rfl⟩
  · obtain ⟨h, hh, eh⟩ := h4 (by rw [c_6]; decide)
    have tq := t1_eq (x := nI h) hm
    have be := bg_eq (B := B) eh hh hH2 hB2 he
    refine jr_aload_n hX dX6_shelter_9 rfl ?_
    refine jr_iload_n hX dX6_shelter_10 rfl ?_
    refine jr_ret (jr_runV hX hSt kM_X6_167 (c_isThere (jj_fl hX) hly hb10) rfl rfl (ly_kMo hly) ⟨_, _, rfl, by decide⟩ dX6_shelter_11 rfl ⟨jj_b1 rfl, jj_b1 rfl⟩ rfl) ?_
    refine jr_if_eq (tgt := 49) hX dX6_shelter_14 (by decide) (fun c_14 => ?_) (fun c_14 => ?_)
    · exact jr_vret hX dX6_shelter_49 rfl rfl ⟨⟨rfl, by rw [bg_n (fun e => (jm_th0 q3 q4 q5 c_14) ⟨by rw [e.1]; decide, e.2⟩)]; exact hm, fun _ _ => rfl⟩, rfl, rfl, rfl, rfl⟩
    · refine jr_aload_n hX dX6_shelter_17 rfl ?_
      refine jr_aload_n hX dX6_shelter_18 rfl ?_
      refine jr_iload_n hX dX6_shelter_19 rfl ?_
      refine jr_iconst (v := 4) hX dX6_shelter_20 (by decide) ?_
      refine jr_ret (jr_runV hX hSt kM_X6_74 (c_bo (jj_fl hX) hly (b := b) (k := 4) hb10 (show _ = nI 4 from rfl) (by decide)) rfl rfl (ly_kMo hly) ⟨_, _, rfl, by decide⟩ dX6_shelter_21 rfl ⟨jj_b1 rfl, jj_b1 rfl⟩ rfl) ?_
      rw [q4, eh]
      refine jr_iconst (v := 1) hX dX6_shelter_24 (by decide) ?_
      refine jr_ret (jr_runV hX hSt kM_X6_80 (c_there1 (jj_fl hX) hly hB hB2) rfl rfl (ly_kMo hly) ⟨_, _, rfl, by decide⟩ dX6_shelter_25 rfl ⟨jj_b1 rfl, jj_b1 rfl⟩ rfl) ?_
      rw [tq]
      refine jr_aload_n hX dX6_shelter_28 rfl ?_
      refine jr_getr hX kF_X6_16 rfl (ly_kMo hly) (ly_p6_4 hly) dX6_shelter_29 ?_
      refine jr_aload_n hX dX6_shelter_32 rfl ?_
      refine jr_iload_n hX dX6_shelter_33 rfl ?_
      refine jr_iconst (v := 4) hX dX6_shelter_34 (by decide) ?_
      refine jr_ret (jr_runV hX hSt kM_X6_74 (c_bo (jj_fl hX) hly (b := b) (k := 4) hb10 (show _ = nI 4 from rfl) (by decide)) rfl rfl (ly_kMo hly) ⟨_, _, rfl, by decide⟩ dX6_shelter_35 rfl ⟨jj_b1 rfl, jj_b1 rfl⟩ rfl) ?_
      rw [q4, eh]
      refine jr_iald hX (by first | with_reducible assumption | with_reducible exact ly_kWm hly (by first | assumption | omega) | with_reducible exact ly_kLd hly (by first | assumption | omega) | with_reducible exact ly_kIc hly (by first | assumption | omega) | with_reducible exact ly_kBe hly (by first | assumption | omega) | with_reducible exact ly_kPr hly (by first | assumption | omega) | with_reducible exact ly_kMt hly (by first | assumption | omega) (by first | assumption | omega) | with_reducible exact ly_kBc hly (by first | assumption | omega) (by first | assumption | omega) | with_reducible exact ly_k151 hly | with_reducible exact ly_k152 hly | with_reducible exact ly_k153 hly | with_reducible exact ly_k154 hly | with_reducible exact ly_k155 hly | with_reducible exact ly_k156 hly | with_reducible exact ly_k157 hly | with_reducible exact ly_k158 hly | with_reducible exact ly_k159 hly | with_reducible exact ly_k160 hly | with_reducible exact ly_kAh hly (by first | assumption | omega)) (by first | with_reducible rfl | with_reducible assumption | rfl) (by omega) dX6_shelter_38 ?_
      rw [ml_hBer hm (show h < 8 by omega)]
      refine jr_icmp_ge (tgt := 49) hX dX6_shelter_39 (by decide) (fun c_39 => ?_) (fun c_39 => ?_)
      · exact jr_vret hX dX6_shelter_49 rfl rfl ⟨⟨rfl, by rw [be, if_neg (fun e => absurd e.2.2 (Int32.not_lt.mpr c_39))]; exact hm, fun _ _ => rfl⟩, rfl, rfl, rfl, rfl⟩
      · refine jr_aload_n hX dX6_shelter_42 rfl ?_
        refine jr_iload_n hX dX6_shelter_43 rfl ?_
        refine jr_iconst (v := 3) hX dX6_shelter_44 (by decide) ?_
        refine jr_iconst (v := 1) hX dX6_shelter_45 (by decide) ?_
        refine jr_void (jr_runV hX hSt kM_X6_124 (c_setBo (jj_fl hX) hly (b := b) (k := 3) hb10 (show _ = nI 3 from rfl) (by decide)) rfl rfl (ly_kMo hly) ⟨_, _, rfl, by decide⟩ dX6_shelter_46 rfl ⟨jj_b1 rfl, jj_b1 rfl⟩ rfl) ?_
        exact jr_vret hX dX6_shelter_49 rfl rfl ⟨⟨rfl, by rw [be, if_pos ⟨c_6, (jm_th1 q3 q4 q5 c_14).2, Int32.not_le.mp c_39⟩]; exact ml_uSt hm z hb (by decide), fun a ha => jj_u_ne ha⟩, rfl, rfl, rfl, rfl⟩
/-- days of frost alone -/
def f_zd (H d : Nat) (C : jj_I) (t : Nat) : jj_I := it (fun j S => jj_u (f_fr 0 H (d + j) S) (aR 0) 0 (nI (d + j + 1))) C t
theorem sf_dyu {w H M B N : Nat} {C : jj_I} {v : Int32} (hs : sf w H M B N C) : sf w H M B N (jj_u C (aR w) 0 v) := by
  obtain ⟨⟨h1, h1'⟩, ⟨h2, h2'⟩, ⟨h3, h3'⟩, ⟨h4, h4'⟩, h5, h6⟩ := hs
  have eW : jj_u C (aR w) 0 v (aW w) = C (aW w) := jj_u_ne (by simp only [aW, aR]; omega)
  exact ⟨⟨by rw [jj_u_nk (by decide)]; exact h1, h1'⟩, ⟨by rw [eW]; exact h2, h2'⟩, ⟨by rw [eW]; exact h3, h3'⟩, ⟨by rw [eW]; exact h4, h4'⟩, fun i hi => sfB_cg (jj_u_ne (by simp only [aB, aR]; omega)) (h5 i hi), fun i hi => sfD_cg (jj_u_ne (by simp only [aD, aR]; omega)) (h6 i hi)⟩
theorem zd_s {H d t : Nat} {C : jj_I} : f_zd H d C (t + 1) = jj_u (f_fr 0 H (d + t) (f_zd H d C t)) (aR 0) 0 (nI (d + t + 1)) := rfl
theorem frk_s {w d k : Nat} {C : jj_I} : f_frk w d C (k + 1) = jj_u (f_frk w d C k) (aIc w) k (f_ib (f_frk w d C k (aIc w) k) (C (aWm w) (d % 40))) := rfl
theorem zd_ok {H M B N d : Nat} {C : jj_I} (hs : sf 0 H M B N C) (hd : C (aR 0) 0 = nI d) : ∀ t, sf 0 H M B N (f_zd H d C t) ∧ f_zd H d C t (aR 0) 0 = nI (d + t) ∧ ∀ a, a ≠ aIc 0 → a ≠ aR 0 → f_zd H d C t a = C a
  | 0 => ⟨hs, hd, fun _ _ _ => rfl⟩
  | t + 1 => by
    obtain ⟨h1, h2, h3⟩ := zd_ok hs hd t
    rw [zd_s]
    exact ⟨sf_dyu (sf_fr h1), jj_u_eq, fun a a1 a2 => (jj_u_ne a2).trans ((fr_fr a1).trans (h3 a a1 a2))⟩
theorem fr_at {w H d l : Nat} {C : jj_I} (hl : l < H - 1) : f_fr w H d C (aIc w) l = f_ib (C (aIc w) l) (C (aWm w) (d % 40)) := by
  have key : ∀ n, (l < n → f_frk w d C n (aIc w) l = f_ib (C (aIc w) l) (C (aWm w) (d % 40))) ∧ (n ≤ l → f_frk w d C n (aIc w) l = C (aIc w) l) := by
    intro n
    induction n with
    | zero => exact ⟨fun h => absurd h (Nat.not_lt_zero l), fun _ => rfl⟩
    | succ n ih =>
      refine ⟨fun h => ?_, fun h => ?_⟩
      · by_cases e : l = n
        · subst e
          rw [frk_s, jj_u_eq, ih.2 (Nat.le_refl _)]
        · rw [frk_s, jj_u_nk e]
          exact ih.1 (by omega)
      · rw [frk_s, jj_u_nk (by omega)]
        exact ih.2 (by omega)
  exact (key (H - 1)).1 hl
theorem zd_ice {H M B N d l : Nat} {C : jj_I} (hs : sf 0 H M B N C) (hd : C (aR 0) 0 = nI d) (hl : l < H - 1) : ∀ t, f_zd H d C t (aIc 0) l = f_ice l d C t
  | 0 => rfl
  | t + 1 => by
    obtain ⟨h1, h2, h3⟩ := zd_ok hs hd t
    show f_zd H d C (t + 1) (aIc 0) l = f_ib (f_ice l d C t) (C (aWm 0) ((d + t) % 40))
    rw [zd_s, jj_u_ne (by decide), fr_at hl, zd_ice hs hd hl t, h3 (aWm 0) (by decide) (by decide)]
/-- a day of frost, both sides -/
theorem ml_zd {H M B N d t : Nat} {C J : jj_I} (z : mlZ M B N) (hd : f_zd H d C t (aR 0) 0 = nI (d + t)) (h : ml 0 H M B N (f_fr 0 H (d + t) (f_zd H d C t)) J) : ml 0 H M B N (f_zd H d C (t + 1)) (jj_u J 160 0 (J 160 0 + 1)) := by
  have e : J 160 0 = nI (d + t) := by
    rw [ml_hDay h, fr_fr (by decide)]
    exact hd
  rw [zd_s, e, nI_1]
  exact ml_uDay h z
section JCL
variable {X : jj_X} {D : jj_D} {cs sl nL : Nat} {Q : State → Prop} {n : Nat} {K : jj_K} {I : jj_I} {P : jj_P} {G : jj_G} {pc : Nat} {L : List (Option Value)}
/-- what no kind is known of may be any -/
theorem jr_clean {K1 : jj_K} {I1 : jj_I} {P1 : jj_P} {st : List Value} (hK : ∀ a kd, K1 a = some kd → K a = some kd) (hI : ∀ a kd, K1 a = some kd → I1 a = I a) (hP : ∀ a kd, K1 a = some kd → P1 a = P a) (k : jj_J X D nL cs sl Q n K1 I1 P1 G pc L st) : jj_J X D nL cs sl Q n K I P G pc L st := by
  obtain ⟨p, l, e, R, s, m, args, below, meth, c⟩ := X
  refine fun H locs ls hz hH hS hl => k H locs ls hz (fun a kd h => ?_) hS hl
  have h2 := hH a kd (hK a kd h)
  rw [jj_ent_cg (I := I) (P := P) (G := G) (hI a kd h) (hP a kd h) rfl]
  exact h2
end JCL
/-- the same rows, in their bounds -/
theorem ml_cgp {w H M B N : Nat} {C I I' : jj_I} (z : mlZ M B N) (h : ml w H M B N C I) (hN : mlN H M B N I') (hc : ∀ a, 151 ≤ a → a < 155 → I' a = I a) (h0 : I' 160 0 = I 160 0) (h1 : ∀ k, k < 8 → I' 155 k = I 155 k) (h2 : ∀ k, k < 5 → I' 156 k = I 156 k) (h3 : ∀ k, k < 160 → I' 157 k = I 157 k) (h4 : ∀ k, k < 120 → I' 158 k = I 158 k) (h5 : ∀ k, k < 210 → I' 159 k = I 159 k) : ml w H M B N C I' := by
  obtain ⟨z1, z2, z3⟩ := z
  refine ⟨hN, h0.trans (ml_hDay h), fun q hq => ?_, fun q hq => ?_, fun q hq => ?_, fun q hq => ?_, fun q hq => (h1 q (by omega)).trans (ml_hIce h hq), fun m hm => (h2 m (by omega)).trans (ml_hCoin h hm), fun m hm k hk => (h3 _ (by omega)).trans (ml_hStock h hm hk), fun b hb => mlB_cg rfl rfl (fun s _ _ => h4 s (by omega)) (ml_hB h hb), fun d hd k hk => (h5 _ (by omega)).trans (ml_hDebt h hd hk)⟩
  · rw [hc 151 (by decide) (by decide)]; exact ml_hWarm h hq
  · rw [hc 152 (by decide) (by decide)]; exact ml_hLeg h hq
  · rw [hc 153 (by decide) (by decide)]; exact ml_hBer h hq
  · rw [hc 154 (by decide) (by decide)]; exact ml_hPr h hq
