/-! what a day leaves as it was, and that all numbers stay numbers -/
theorem it_off {A : Nat} {v : Int32} {J : jj_I} {a : Nat} (h : a ≠ A) : ∀ n, it (fun g M => jj_u M A g v) J n a = J a
  | 0 => rfl
  | n + 1 => (jj_u_ne h).trans (it_off h n)
theorem it_in {α : Type} {f : Nat → α → α} {S : α → Prop} {x : α} (h0 : S x) {N : Nat} (hs : ∀ k y, k < N → S y → S (f k y)) : ∀ k, k ≤ N → S (it f x k)
  | 0, _ => h0
  | k + 1, hk => hs k _ hk (it_in h0 hs k (by omega))
theorem fr_lh {w k a : Nat} {I : jj_I} (h1 : a ≠ aB w k) (h2 : a ≠ aBc w k) : f_lh w k I a = I a := by
  unfold f_lh
  try dsimp only
  split
  · exact jj_u_ne h1
  · rw [it_off h2, jj_u_ne h1, jj_u_ne h1, jj_u_ne h1, jj_u_ne h1]
theorem fr_py {w k a : Nat} {I : jj_I} (h1 : a ≠ aB w k) (h2 : a ≠ aM w (nv (I (aB w k) 0))) : f_py w k I a = I a := by
  unfold f_py
  split
  · split
    · exact jj_u_ne h2
    · exact jj_u_ne h1
  · rfl
theorem fr_so {w k a : Nat} {I : jj_I} (h1 : a ≠ aB w k) : f_so w k I a = I a := by
  unfold f_so
  try dsimp only
  split <;> split <;> first | rfl | rw [jj_u_ne h1, jj_u_ne h1, jj_u_ne h1, jj_u_ne h1]
theorem fr_g1 {w k a : Nat} {I : jj_I} (h1 : a ≠ aB w k) : f_g1 w k I a = I a := by
  unfold f_g1
  split
  · exact fr_so h1
  · split
    · exact jj_u_ne h1
    · rfl
theorem fr_g2 {w k a : Nat} {I : jj_I} (h1 : a ≠ aB w k) : f_g2 w k I a = I a := by
  unfold f_g2
  split
  · exact jj_u_ne h1
  · rfl
theorem fr_go {w k a : Nat} {I : jj_I} (h1 : a ≠ aB w k) : f_go w k I a = I a := (fr_g2 h1).trans (fr_g1 h1)
theorem fr_bi {w k H a : Nat} {I : jj_I} (h1 : a ≠ aB w k) (h2 : a ≠ aBc w k) : f_bi w k H I a = I a := by
  unfold f_bi
  split
  · exact fr_lh h1 h2
  · split
    · exact fr_lh h1 h2
    · rfl
theorem fr_se {w k a : Nat} {I : jj_I} (h1 : a ≠ aD w k) (h2 : a ≠ aM w (nv (I (aD w k) 1))) (h3 : a ≠ aM w (nv (I (aD w k) 0))) (h4 : a ≠ aMt w (nv (I (aD w k) 1))) (h5 : a ≠ aMt w (nv (I (aD w k) 0))) : f_se w k I a = I a := by
  unfold f_se
  try dsimp only
  split
  · split
    · split
      · exact jj_u_ne h1
      · rw [jj_u_ne h1, jj_u_ne h3, jj_u_ne h2]
    · rw [jj_u_ne h1]
      unfold f_hd
      try dsimp only
      rw [jj_u_ne h5, jj_u_ne h4]
  · rfl
theorem fr_fr {w H d a : Nat} {I : jj_I} (h1 : a ≠ aIc w) : f_fr w H d I a = I a := by
  unfold f_fr
  generalize H - 1 = m
  induction m with
  | zero => rfl
  | succ m ih => exact (jj_u_ne h1).trans ih
/-- a whole world's numbers -/
def sf (w H M B N : Nat) (I : jj_I) : Prop := (I (aR w) 1 = nI H ∧ H ≤ 8) ∧ (I (aW w) 1 = nI M ∧ M ≤ 5) ∧ (I (aW w) 2 = nI B ∧ B ≤ 10) ∧ (I (aW w) 3 = nI N ∧ N ≤ 30) ∧ (∀ b, b < B → sfB w H I b) ∧ ∀ d, d < N → sfD w H I d
theorem sfB_cg {w H b : Nat} {I J : jj_I} (h : J (aB w b) = I (aB w b)) (hs : sfB w H I b) : sfB w H J b := by
  unfold sfB at hs ⊢
  rw [h]
  exact hs
theorem sfD_cg {w H d : Nat} {I J : jj_I} (h : J (aD w d) = I (aD w d)) (hs : sfD w H I d) : sfD w H J d := by
  unfold sfD at hs ⊢
  rw [h]
  exact hs
/-- only boat k, merchants and what is theirs changed -/
theorem sf_bo {w H M B N k : Nat} {I J : jj_I} (hs : sf w H M B N I) (hk : k < 10) (ho : ∀ a, a ≠ aB w k → (∀ o, o < 5 → a ≠ aM w o) → a ≠ aBc w k → J a = I a) (hb : k < B → sfB w H J k) : sf w H M B N J := by
  obtain ⟨⟨h1, h1'⟩, ⟨h2, h2'⟩, ⟨h3, h3'⟩, ⟨h4, h4'⟩, h5, h6⟩ := hs
  have eR : J (aR w) = I (aR w) := ho _ (by simp only [aR, aB]; omega) (fun o ho => by simp only [aR, aM]; omega) (by simp only [aR, aBc]; omega)
  have eW : J (aW w) = I (aW w) := ho _ (by simp only [aW, aB]; omega) (fun o ho => by simp only [aW, aM]; omega) (by simp only [aW, aBc]; omega)
  refine ⟨⟨by rw [eR]; exact h1, h1'⟩, ⟨by rw [eW]; exact h2, h2'⟩, ⟨by rw [eW]; exact h3, h3'⟩, ⟨by rw [eW]; exact h4, h4'⟩, fun b hb2 => ?_, fun d hd => ?_⟩
  · by_cases e : b = k
    · subst e; exact hb hb2
    · exact sfB_cg (ho _ (by simp only [aB]; omega) (fun o ho => by simp only [aB, aM]; omega) (by simp only [aB, aBc]; omega)) (h5 b hb2)
  · exact sfD_cg (ho _ (by simp only [aD, aB]; omega) (fun o ho => by simp only [aD, aM]; omega) (by simp only [aD, aBc]; omega)) (h6 d hd)
theorem sf_py {w H M B N k : Nat} {I : jj_I} (hs : sf w H M B N I) (hk : k < B) : sf w H M B N (f_py w k I) := by
  have hB := hs.2.2.1.2
  obtain ⟨⟨o, ho, eo⟩, hp, h4, hl, hg⟩ := hs.2.2.2.2.1 k hk
  have eo2 : nv (I (aB w k) 0) = o := by rw [eo, nv_nI (by omega)]
  refine sf_bo (k := k) hs (by omega) (fun a h1 h2 h3 => fr_py h1 (h2 _ (by omega))) (fun _ => ?_)
  have ne : aB w k ≠ aM w (nv (I (aB w k) 0)) := by rw [eo2]; simp only [aB, aM]; omega
  unfold f_py
  split
  · split
    · exact sfB_cg (jj_u_ne ne) ⟨⟨o, ho, eo⟩, hp, h4, hl, hg⟩
    · rename_i c1 _
      unfold sfB
      simp only [jj_u, true_and]
      refine ⟨⟨o, ho, by simpa using eo⟩, by simp, fun _ => by simpa using h4 (by rw [c1]; decide), by simp, by simpa using hg⟩
  · exact ⟨⟨o, ho, eo⟩, hp, h4, hl, hg⟩
theorem sfB_so {w H k : Nat} {I : jj_I} (hH : H ≤ 8) (hs : sfB w H I k) (hin : I (aB w k) 3 = 0 ∨ I (aB w k) 3 = 1) (hne : ¬ I (aB w k) 4 = I (aB w k) 6) : sfB w H (f_so w k I) k := by
  have hs0 := hs
  obtain ⟨⟨o, ho, eo⟩, hp, h4, hl, ⟨g, hg, eg⟩⟩ := hs
  obtain ⟨h, hh, eh⟩ := h4 (by rcases hin with e | e <;> rw [e] <;> decide)
  unfold f_so
  try dsimp only
  split
  · rename_i c1
    have c2 : h < g := by rw [eh, eg] at c1; exact (nI_ltI (by omega) (by omega)).mp c1
    split
    · exact hs0
    · unfold sfB
      simp only [jj_u, true_and]
      refine ⟨⟨o, ho, by simpa using eo⟩, by simp, fun _ => ⟨h + 1, by omega, by simp [eh, nI_1]⟩, fun _ => ⟨h, by omega, by simp [eh]⟩, ⟨g, hg, by simpa using eg⟩⟩
  · rename_i c1
    have c2 : g < h := by
      rw [eh, eg] at c1
      have c3 : g ≤ h := (nI_leI (by omega) (by omega)).mp (Int32.not_lt.mp c1)
      rcases Nat.lt_or_ge g h with c4 | c4
      · exact c4
      · exact absurd (by rw [eh, eg, show g = h by omega]) hne
    split
    · exact hs0
    · have e5 : I (aB w k) 4 - 1 = nI (h - 1) := by rw [eh, show h = h - 1 + 1 by omega, nI_pred]; rfl
      unfold sfB
      simp only [jj_u, true_and]
      refine ⟨⟨o, ho, by simpa using eo⟩, by simp, fun _ => ⟨h - 1, by omega, by simp [e5]⟩, fun _ => ⟨h - 1, by omega, by simp [e5]⟩, ⟨g, hg, by simpa using eg⟩⟩
theorem sfB_set {w H k s : Nat} {v : Int32} {I : jj_I} (hs : sfB w H I k) (h : s = 7 ∨ s = 1 ∨ s = 2) : sfB w H (jj_u I (aB w k) s v) k := by
  unfold sfB at hs ⊢
  rcases h with rfl | rfl | rfl <;> simpa [jj_u] using hs
theorem sfB_g1 {w H k : Nat} {I : jj_I} (hH : H ≤ 8) (hs : sfB w H I k) : sfB w H (f_g1 w k I) k := by
  unfold f_g1
  split
  · rename_i c
    exact sfB_so hH hs c.1 c.2
  · split
    · exact sfB_set hs (Or.inl rfl)
    · exact hs
theorem sfB_p0 {w H k : Nat} {I : jj_I} (hs : sfB w H I k) (hn : ¬ I (aB w k) 3 = 3) : sfB w H (jj_u I (aB w k) 3 0) k := by
  obtain ⟨⟨o, ho, eo⟩, hp, h4, hl, hg⟩ := hs
  unfold sfB
  simp only [jj_u, true_and]
  exact ⟨⟨o, ho, by simpa using eo⟩, by simp, fun _ => by simpa using h4 hn, by simp, by simpa using hg⟩
theorem sfB_g2 {w H k : Nat} {I : jj_I} (hs : sfB w H I k) : sfB w H (f_g2 w k I) k := by
  unfold f_g2
  split
  · rename_i c
    exact sfB_p0 hs (by rw [c.1]; decide)
  · exact hs
theorem sfB_lh {w H k : Nat} {I : jj_I} (hs : sfB w H I k) : sfB w H (f_lh w k I) k := by
  unfold f_lh
  try dsimp only
  split
  · exact sfB_set hs (Or.inr (Or.inl rfl))
  · refine sfB_cg (it_off (by simp only [aB, aBc]; omega) 4) ?_
    obtain ⟨⟨o, ho, eo⟩, hp, h4, hl, hg⟩ := hs
    unfold sfB
    simp only [jj_u, true_and]
    exact ⟨⟨o, ho, by simpa using eo⟩, by simp, by simp, by simp, by simpa using hg⟩
theorem sfB_bi {w H k : Nat} {I : jj_I} (hs : sfB w H I k) : sfB w H (f_bi w k H I) k := by
  unfold f_bi
  split
  · exact sfB_lh hs
  · split
    · exact sfB_lh hs
    · exact hs
theorem sf_gb {w H M B N k : Nat} {I : jj_I} (hs : sf w H M B N I) (hk : k < B) : sf w H M B N (f_bi w k H (f_go w k I)) := by
  have hB := hs.2.2.1.2
  exact sf_bo (k := k) hs (by omega) (fun a h1 h2 h3 => (fr_bi h1 h3).trans (fr_go h1)) (fun _ => sfB_bi (sfB_g2 (sfB_g1 hs.1.2 (hs.2.2.2.2.1 k hk))))
theorem sf_go {w H M B N k : Nat} {I : jj_I} (hs : sf w H M B N I) (hk : k < B) : sf w H M B N (f_go w k I) := by
  have hB := hs.2.2.1.2
  exact sf_bo (k := k) hs (by omega) (fun a h1 h2 h3 => fr_go h1) (fun _ => sfB_g2 (sfB_g1 hs.1.2 (hs.2.2.2.2.1 k hk)))
theorem sf_se {w H M B N k : Nat} {I : jj_I} (hs : sf w H M B N I) (hk : k < N) : sf w H M B N (f_se w k I) := by
  obtain ⟨⟨h1, h1'⟩, ⟨h2, h2'⟩, ⟨h3, h3'⟩, ⟨h4, h4'⟩, h5, h6⟩ := hs
  obtain ⟨⟨a, ha, ea⟩, ⟨b, hb, eb⟩, ⟨h, hh, eh⟩, ⟨g, hg, eg⟩⟩ := h6 k hk
  have ea2 : nv (I (aD w k) 0) = a := by rw [ea, nv_nI (by omega)]
  have eb2 : nv (I (aD w k) 1) = b := by rw [eb, nv_nI (by omega)]
  have key : ∀ x, x ≠ aD w k → (∀ o, o < 5 → x ≠ aM w o ∧ x ≠ aMt w o) → f_se w k I x = I x := fun x g1 g2 => fr_se g1 (by rw [eb2]; exact (g2 b hb).1) (by rw [ea2]; exact (g2 a ha).1) (by rw [eb2]; exact (g2 b hb).2) (by rw [ea2]; exact (g2 a ha).2)
  have eR : f_se w k I (aR w) = I (aR w) := key _ (by simp only [aR, aD]; omega) (fun o ho => by simp only [aR, aM, aMt]; omega)
  have eW : f_se w k I (aW w) = I (aW w) := key _ (by simp only [aW, aD]; omega) (fun o ho => by simp only [aW, aM, aMt]; omega)
  refine ⟨⟨by rw [eR]; exact h1, h1'⟩, ⟨by rw [eW]; exact h2, h2'⟩, ⟨by rw [eW]; exact h3, h3'⟩, ⟨by rw [eW]; exact h4, h4'⟩, fun i hi => ?_, fun d hd => ?_⟩
  · exact sfB_cg (key _ (by simp only [aB, aD]; omega) (fun o ho => by simp only [aB, aM, aMt]; omega)) (h5 i hi)
  · by_cases e : d = k
    · subst e
      have hM : ∀ o, o < 5 → aD w d ≠ aM w o ∧ aD w d ≠ aMt w o := fun o ho => by simp only [aD, aM, aMt]; omega
      have e6 : ∀ (J : jj_I) (v : Int32), J (aD w d) = I (aD w d) → sfD w H (jj_u J (aD w d) 6 v) d := by
        intro J v hJ
        unfold sfD
        simp only [jj_u, true_and, hJ]
        exact ⟨⟨a, ha, by simpa using ea⟩, ⟨b, hb, by simpa using eb⟩, ⟨h, hh, by simpa using eh⟩, ⟨g, hg, by simpa using eg⟩⟩
      unfold f_se
      try dsimp only
      rw [ea2, eb2]
      split
      · split
        · split
          · exact e6 _ _ rfl
          · exact e6 _ _ (by rw [jj_u_ne (hM a ha).1, jj_u_ne (hM b hb).1])
        · refine e6 _ _ ?_
          unfold f_hd
          try dsimp only
          rw [jj_u_ne (hM a ha).2, jj_u_ne (hM b hb).2]
      · exact h6 d hd
    · exact sfD_cg (key _ (by simp only [aD]; omega) (fun o ho => by simp only [aD, aM, aMt]; omega)) (h6 d hd)
theorem sf_fr {w H M B N d : Nat} {I : jj_I} (hs : sf w H M B N I) : sf w H M B N (f_fr w H d I) := by
  obtain ⟨⟨h1, h1'⟩, ⟨h2, h2'⟩, ⟨h3, h3'⟩, ⟨h4, h4'⟩, h5, h6⟩ := hs
  have eR : f_fr w H d I (aR w) = I (aR w) := fr_fr (by simp only [aR, aIc]; omega)
  have eW : f_fr w H d I (aW w) = I (aW w) := fr_fr (by simp only [aW, aIc]; omega)
  exact ⟨⟨by rw [eR]; exact h1, h1'⟩, ⟨by rw [eW]; exact h2, h2'⟩, ⟨by rw [eW]; exact h3, h3'⟩, ⟨by rw [eW]; exact h4, h4'⟩, fun i hi => sfB_cg (fr_fr (by simp only [aB, aIc]; omega)) (h5 i hi), fun i hi => sfD_cg (fr_fr (by simp only [aD, aIc]; omega)) (h6 i hi)⟩
theorem sf_dy {w H M B N : Nat} {v : Int32} {I : jj_I} (hs : sf w H M B N I) : sf w H M B N (jj_u I (aR w) 0 v) := by
  obtain ⟨⟨h1, h1'⟩, ⟨h2, h2'⟩, ⟨h3, h3'⟩, ⟨h4, h4'⟩, h5, h6⟩ := hs
  have eW : jj_u I (aR w) 0 v (aW w) = I (aW w) := jj_u_ne (by simp only [aR, aW]; omega)
  exact ⟨⟨by rw [jj_u_nk (by decide)]; exact h1, h1'⟩, ⟨by rw [eW]; exact h2, h2'⟩, ⟨by rw [eW]; exact h3, h3'⟩, ⟨by rw [eW]; exact h4, h4'⟩, fun i hi => sfB_cg (jj_u_ne (by simp only [aB, aR]; omega)) (h5 i hi), fun i hi => sfD_cg (jj_u_ne (by simp only [aD, aR]; omega)) (h6 i hi)⟩
theorem sf_pd {w H M B N d : Nat} {I : jj_I} (hs : sf w H M B N I) : sf w H M B N (f_pd w H B N d I) := by
  unfold f_pd
  try dsimp only
  exact sf_dy (it_in (it_in (it_in (sf_fr hs) (N := B) (fun k y hk hy => sf_py hy hk) B (Nat.le_refl _)) (N := B) (fun k y hk hy => sf_gb hy hk) B (Nat.le_refl _)) (N := N) (fun k y hk hy => sf_se hy hk) N (Nat.le_refl _))
set_option maxHeartbeats 4000000 in
set_option maxRecDepth 100000 in
theorem c_X4_goOn {l : Launch} (hfl : l.stackTraces = false) {D : jj_D} {n : Nat} {K : jj_K} {I : jj_I} {P : jj_P} {G : jj_G} (hly : ly K P) {w H b : Nat} (hw : w < 2) (hH2 : H ≤ 8) (hb : b < 10) (hs : sfB w H I b) :
    jj_Met l D yX4_goOn (jj_ws yX4_goOn cX4_goOn 2 none) { frames := 2, cells := 0, slots := 0, locals := 45 } [.ref (aW w), .ref (aB w b)] n K I P G (jj_R (none) (n) (K) (f_go w b I) (P) (G)) jj_noX := by
  refine jj_of hfl (by decide +kernel) [some (.ref (aW w)), some (.ref (aB w b))] rfl rfl ?_
  intro X hXl hX hSt
  have hs0 := hs
  obtain ⟨⟨o, ho, eo⟩, hp, h4, hl, ⟨g, hg, eg⟩⟩ := hs
  have h58 : ∀ J : jj_I, J = f_g1 w b I → jj_J X D 2 0 0 (jj_MQ X D { frames := 2, cells := 0, slots := 0, locals := 45 } (jj_R (none) (n) (K) (f_go w b I) (P) (G)) jj_noX) (n) (K) (J) (P) (G) 58 [some (.ref (aW w)), some (.ref (aB w b))] [] := by
    intro J hJ
    refine jr_aload_n hX dX4_goOn_58 rfl ?_
    refine jr_geti hX kF_X4_62 rfl (ly_kB hly (by first | assumption | omega) (by first | assumption | omega)) dX4_goOn_59 ?_
    refine jr_iconst (v := 2) hX dX4_goOn_62 (by decide) ?_
    refine jr_icmp_ne (tgt := 78) hX dX4_goOn_63 (by decide) (fun c_63 => ?_) (fun c_63 => ?_)
    · exact jr_vret hX dX4_goOn_78 rfl rfl ⟨rfl, rfl, rfl, by rw [f_go, ← hJ, f_g2, if_neg (fun e => c_63 e.1)], rfl, rfl⟩
    · refine jr_aload_n hX dX4_goOn_66 rfl ?_
      refine jr_geti hX kF_X4_137 rfl (ly_kB hly (by first | assumption | omega) (by first | assumption | omega)) dX4_goOn_67 ?_
      refine jr_if_gt (tgt := 78) hX dX4_goOn_70 (by decide) (fun c_70 => ?_) (fun c_70 => ?_)
      · exact jr_vret hX dX4_goOn_78 rfl rfl ⟨rfl, rfl, rfl, by rw [f_go, ← hJ, f_g2, if_neg (fun e => e.2 c_70)], rfl, rfl⟩
      · refine jr_aload_n hX dX4_goOn_73 rfl ?_
        refine jr_iconst (v := 0) hX dX4_goOn_74 (by decide) ?_
        refine jr_puti hX kF_X4_62 rfl (ly_kB hly (by first | assumption | omega) (by first | assumption | omega)) aB_0 dX4_goOn_75 ?_
        exact jr_vret hX dX4_goOn_78 rfl rfl ⟨rfl, rfl, rfl, by rw [f_go, ← hJ, f_g2, if_pos ⟨c_63, c_70⟩], rfl, rfl⟩
  refine jr_aload_n hX dX4_goOn_0 rfl ?_
  refine jr_ret (jr_runV hX hSt kM_X4_126 (c_X0_isInHarbour (jj_fl hX) hly hw hb) rfl rfl (ly_kB hly (by first | assumption | omega) (by first | assumption | omega)) ⟨_, _, rfl, by decide⟩ dX4_goOn_1 rfl ⟨jj_b1 rfl, jj_b1 rfl⟩ rfl) ?_
  refine jr_if_eq (tgt := 26) hX dX4_goOn_4 (by decide) (fun c_4 => ?_) (fun c_4 => ?_)
  · refine jr_aload_n hX dX4_goOn_26 rfl ?_
    refine jr_geti hX kF_X4_62 rfl (ly_kB hly (by first | assumption | omega) (by first | assumption | omega)) dX4_goOn_27 ?_
    refine jr_iconst (v := 2) hX dX4_goOn_30 (by decide) ?_
    refine jr_icmp_ne (tgt := 58) hX dX4_goOn_31 (by decide) (fun c_31 => ?_) (fun c_31 => ?_)
    · exact h58 _ (by unfold f_g1; rw [if_neg (fun e => jl_00 c_4 e.1), if_neg (fun e => c_31 e.1)])
    · refine jr_aload_n hX dX4_goOn_34 rfl ?_
      refine jr_getr hX kF_X4_12 rfl (ly_kW hly (by first | assumption | omega)) (ly_p4_0 hly (by first | assumption | omega)) dX4_goOn_35 ?_
      refine jr_aload_n hX dX4_goOn_38 rfl ?_
      refine jr_geti hX kF_X4_68 rfl (ly_kB hly (by first | assumption | omega) (by first | assumption | omega)) dX4_goOn_39 ?_
      obtain ⟨j, hj, ej⟩ := hl c_31
      refine jr_ret (jr_runV hX hSt kM_X4_133 (c_X3_isOpen (jj_fl hX) hly hw (j := nv (I (aB w b) 5)) (by rw [ej, nv_nI (by omega)]) (by rw [ej, nv_nI (by omega)]; omega)) rfl rfl (ly_kR hly (by first | assumption | omega)) ⟨_, _, rfl, by decide⟩ dX4_goOn_42 rfl ⟨jj_b1 rfl, jj_b1 rfl⟩ rfl) ?_
      refine jr_if_eq (tgt := 58) hX dX4_goOn_45 (by decide) (fun c_45 => ?_) (fun c_45 => ?_)
      · exact h58 _ (by unfold f_g1; rw [if_neg (fun e => jl_00 c_4 e.1), if_neg (fun e => e.2 c_45)])
      · refine jr_aload_n hX dX4_goOn_48 rfl ?_
        refine jr_dup hX dX4_goOn_49 rfl ?_
        refine jr_geti hX kF_X4_137 rfl (ly_kB hly (by first | assumption | omega) (by first | assumption | omega)) dX4_goOn_50 ?_
        refine jr_iconst (v := 1) hX dX4_goOn_53 (by decide) ?_
        refine jr_isub hX dX4_goOn_54 ?_
        refine jr_puti hX kF_X4_137 rfl (ly_kB hly (by first | assumption | omega) (by first | assumption | omega)) aB_0 dX4_goOn_55 ?_
        exact h58 _ (by unfold f_g1; rw [if_neg (fun e => jl_00 c_4 e.1), if_pos ⟨c_31, c_45⟩])
  · refine jr_aload_n hX dX4_goOn_7 rfl ?_
    refine jr_geti hX kF_X4_65 rfl (ly_kB hly (by first | assumption | omega) (by first | assumption | omega)) dX4_goOn_8 ?_
    refine jr_aload_n hX dX4_goOn_11 rfl ?_
    refine jr_geti hX kF_X4_98 rfl (ly_kB hly (by first | assumption | omega) (by first | assumption | omega)) dX4_goOn_12 ?_
    refine jr_icmp_eq (tgt := 26) hX dX4_goOn_15 (by decide) (fun c_15 => ?_) (fun c_15 => ?_)
    · refine jr_aload_n hX dX4_goOn_26 rfl ?_
      refine jr_geti hX kF_X4_62 rfl (ly_kB hly (by first | assumption | omega) (by first | assumption | omega)) dX4_goOn_27 ?_
      refine jr_iconst (v := 2) hX dX4_goOn_30 (by decide) ?_
      refine jr_icmp_ne (tgt := 58) hX dX4_goOn_31 (by decide) (fun c_31 => ?_) (fun c_31 => ?_)
      · exact h58 _ (by unfold f_g1; rw [if_neg (fun e => e.2 c_15), if_neg (fun e => c_31 e.1)])
      · refine jr_aload_n hX dX4_goOn_34 rfl ?_
        refine jr_getr hX kF_X4_12 rfl (ly_kW hly (by first | assumption | omega)) (ly_p4_0 hly (by first | assumption | omega)) dX4_goOn_35 ?_
        refine jr_aload_n hX dX4_goOn_38 rfl ?_
        refine jr_geti hX kF_X4_68 rfl (ly_kB hly (by first | assumption | omega) (by first | assumption | omega)) dX4_goOn_39 ?_
        obtain ⟨j, hj, ej⟩ := hl c_31
        refine jr_ret (jr_runV hX hSt kM_X4_133 (c_X3_isOpen (jj_fl hX) hly hw (j := nv (I (aB w b) 5)) (by rw [ej, nv_nI (by omega)]) (by rw [ej, nv_nI (by omega)]; omega)) rfl rfl (ly_kR hly (by first | assumption | omega)) ⟨_, _, rfl, by decide⟩ dX4_goOn_42 rfl ⟨jj_b1 rfl, jj_b1 rfl⟩ rfl) ?_
        refine jr_if_eq (tgt := 58) hX dX4_goOn_45 (by decide) (fun c_45 => ?_) (fun c_45 => ?_)
        · exact h58 _ (by unfold f_g1; rw [if_neg (fun e => e.2 c_15), if_neg (fun e => e.2 c_45)])
        · refine jr_aload_n hX dX4_goOn_48 rfl ?_
          refine jr_dup hX dX4_goOn_49 rfl ?_
          refine jr_geti hX kF_X4_137 rfl (ly_kB hly (by first | assumption | omega) (by first | assumption | omega)) dX4_goOn_50 ?_
          refine jr_iconst (v := 1) hX dX4_goOn_53 (by decide) ?_
          refine jr_isub hX dX4_goOn_54 ?_
          refine jr_puti hX kF_X4_137 rfl (ly_kB hly (by first | assumption | omega) (by first | assumption | omega)) aB_0 dX4_goOn_55 ?_
          exact h58 _ (by unfold f_g1; rw [if_neg (fun e => e.2 c_15), if_pos ⟨c_31, c_45⟩])
    · refine jr_aload_n hX dX4_goOn_18 rfl ?_
      refine jr_aload_n hX dX4_goOn_19 rfl ?_
      obtain ⟨h, hh, eh⟩ := h4 (by rcases jl_01 c_4 with e | e <;> rw [e] <;> decide)
      refine jr_void (jr_runV hX hSt kM_X4_130 (c_X4_setOut (jj_fl hX) hly hw hH2 hb eh hh eg hg c_15) rfl rfl (ly_kW hly (by first | assumption | omega)) ⟨_, _, rfl, by decide⟩ dX4_goOn_20 rfl ⟨jj_b1 rfl, jj_b1 rfl⟩ rfl) ?_
      refine jr_goto (tgt := 58) hX dX4_goOn_23 (by decide) ?_
      exact h58 _ (by unfold f_g1; rw [if_pos ⟨jl_01 c_4, c_15⟩])
set_option maxHeartbeats 4000000 in
set_option maxRecDepth 100000 in
theorem c_X4_bearIce {l : Launch} (hfl : l.stackTraces = false) {D : jj_D} {n : Nat} {K : jj_K} {I : jj_I} {P : jj_P} {G : jj_G} (hly : ly K P) {w H b : Nat} (hw : w < 2) (hH : I (aR w) 1 = nI H) (hH2 : H ≤ 8) (hb : b < 10) (hs : sfB w H I b) :
    jj_Met l D yX4_bearIce (jj_ws yX4_bearIce cX4_bearIce 2 none) { frames := 3, cells := 0, slots := 0, locals := 63 } [.ref (aW w), .ref (aB w b)] n K I P G (jj_R (none) (n) (K) (f_bi w b H I) (P) (G)) jj_noX := by
  refine jj_of hfl (by decide +kernel) [some (.ref (aW w)), some (.ref (aB w b))] rfl rfl ?_
  intro X hXl hX hSt
  obtain ⟨⟨o, ho, eo⟩, hp, h4, hl, ⟨g, hg, eg⟩⟩ := hs
  refine jr_aload_n hX dX4_bearIce_0 rfl ?_
  refine jr_geti hX kF_X4_62 rfl (ly_kB hly (by first | assumption | omega) (by first | assumption | omega)) dX4_bearIce_1 ?_
  refine jr_iconst (v := 2) hX dX4_bearIce_4 (by decide) ?_
  refine jr_icmp_ne (tgt := 32) hX dX4_bearIce_5 (by decide) (fun c_5 => ?_) (fun c_5 => ?_)
  · refine jr_aload_n hX dX4_bearIce_32 rfl ?_
    refine jr_geti hX kF_X4_62 rfl (ly_kB hly (by first | assumption | omega) (by first | assumption | omega)) dX4_bearIce_33 ?_
    refine jr_if_ne (tgt := 59) hX dX4_bearIce_36 (by decide) (fun c_36 => ?_) (fun c_36 => ?_)
    · exact jr_vret hX dX4_bearIce_59 rfl rfl ⟨rfl, rfl, rfl, by rw [f_bi, if_neg (fun e => c_5 e.1), if_neg (fun e => c_36 e.1)], rfl, rfl⟩
    · refine jr_aload_n hX dX4_bearIce_39 rfl ?_
      refine jr_getr hX kF_X4_12 rfl (ly_kW hly (by first | assumption | omega)) (ly_p4_0 hly (by first | assumption | omega)) dX4_bearIce_40 ?_
      refine jr_aload_n hX dX4_bearIce_43 rfl ?_
      refine jr_geti hX kF_X4_65 rfl (ly_kB hly (by first | assumption | omega) (by first | assumption | omega)) dX4_bearIce_44 ?_
      obtain ⟨h, hh, eh⟩ := h4 (by rw [c_36]; decide)
      refine jr_ret (jr_runV hX hSt kM_X4_150 (c_X3_iceAtHarbour (jj_fl hX) hly hw hH hH2 (h := nv (I (aB w b) 4)) (by rw [eh, nv_nI (by omega)]) (by rw [eh, nv_nI (by omega)]; exact hh)) rfl rfl (ly_kR hly (by first | assumption | omega)) ⟨_, _, rfl, by decide⟩ dX4_bearIce_47 rfl ⟨jj_b1 rfl, jj_b1 rfl⟩ rfl) ?_
      refine jr_bipush (v := 20) hX dX4_bearIce_50 (by decide) ?_
      refine jr_icmp_le (tgt := 59) hX dX4_bearIce_52 (by decide) (fun c_52 => ?_) (fun c_52 => ?_)
      · exact jr_vret hX dX4_bearIce_59 rfl rfl ⟨rfl, rfl, rfl, by rw [f_bi, if_neg (fun e => c_5 e.1), if_neg (fun e => e.2 c_52)], rfl, rfl⟩
      · refine jr_aload_n hX dX4_bearIce_55 rfl ?_
        refine jr_void (jr_runV hX hSt kM_X4_147 (c_X0_loseHull (jj_fl hX) hly hw hb) rfl rfl (ly_kB hly (by first | assumption | omega) (by first | assumption | omega)) ⟨_, _, rfl, by decide⟩ dX4_bearIce_56 rfl ⟨jj_b1 rfl, jj_b1 rfl⟩ rfl) ?_
        exact jr_vret hX dX4_bearIce_59 rfl rfl ⟨rfl, rfl, rfl, by rw [f_bi, if_neg (fun e => c_5 e.1), if_pos ⟨c_36, c_52⟩], rfl, rfl⟩
  · refine jr_aload_n hX dX4_bearIce_8 rfl ?_
    refine jr_getr hX kF_X4_12 rfl (ly_kW hly (by first | assumption | omega)) (ly_p4_0 hly (by first | assumption | omega)) dX4_bearIce_9 ?_
    refine jr_getr hX kF_X4_144 rfl (ly_kR hly (by first | assumption | omega)) (ly_p3_4 hly (by first | assumption | omega)) dX4_bearIce_12 ?_
    refine jr_aload_n hX dX4_bearIce_15 rfl ?_
    refine jr_geti hX kF_X4_68 rfl (ly_kB hly (by first | assumption | omega) (by first | assumption | omega)) dX4_bearIce_16 ?_
    obtain ⟨j, hj, ej⟩ := hl c_5
    have ej2 : I (aB w b) 5 = nI (nv (I (aB w b) 5)) := by rw [ej, nv_nI (by omega)]
    have ej3 : nv (I (aB w b) 5) < 7 := by rw [ej, nv_nI (by omega)]; omega
    refine jr_iald hX (by first | with_reducible assumption | with_reducible exact ly_kWm hly (by first | assumption | omega) | with_reducible exact ly_kLd hly (by first | assumption | omega) | with_reducible exact ly_kIc hly (by first | assumption | omega) | with_reducible exact ly_kBe hly (by first | assumption | omega) | with_reducible exact ly_kPr hly (by first | assumption | omega) | with_reducible exact ly_kMt hly (by first | assumption | omega) (by first | assumption | omega) | with_reducible exact ly_kBc hly (by first | assumption | omega) (by first | assumption | omega) | with_reducible exact ly_kAh hly (by first | assumption | omega)) (by first | with_reducible rfl | with_reducible assumption | rfl) (by omega) dX4_bearIce_19 ?_
    refine jr_bipush (v := 20) hX dX4_bearIce_20 (by decide) ?_
    refine jr_icmp_le (tgt := 32) hX dX4_bearIce_22 (by decide) (fun c_22 => ?_) (fun c_22 => ?_)
    · refine jr_aload_n hX dX4_bearIce_32 rfl ?_
      refine jr_geti hX kF_X4_62 rfl (ly_kB hly (by first | assumption | omega) (by first | assumption | omega)) dX4_bearIce_33 ?_
      refine jr_if_ne (tgt := 59) hX dX4_bearIce_36 (by decide) (fun c_36 => ?_) (fun c_36 => ?_)
      · exact jr_vret hX dX4_bearIce_59 rfl rfl ⟨rfl, rfl, rfl, by rw [f_bi, if_neg (fun e => e.2 c_22), if_neg (fun e => c_36 e.1)], rfl, rfl⟩
      · refine jr_aload_n hX dX4_bearIce_39 rfl ?_
        refine jr_getr hX kF_X4_12 rfl (ly_kW hly (by first | assumption | omega)) (ly_p4_0 hly (by first | assumption | omega)) dX4_bearIce_40 ?_
        refine jr_aload_n hX dX4_bearIce_43 rfl ?_
        refine jr_geti hX kF_X4_65 rfl (ly_kB hly (by first | assumption | omega) (by first | assumption | omega)) dX4_bearIce_44 ?_
        obtain ⟨h, hh, eh⟩ := h4 (by rw [c_36]; decide)
        refine jr_ret (jr_runV hX hSt kM_X4_150 (c_X3_iceAtHarbour (jj_fl hX) hly hw hH hH2 (h := nv (I (aB w b) 4)) (by rw [eh, nv_nI (by omega)]) (by rw [eh, nv_nI (by omega)]; exact hh)) rfl rfl (ly_kR hly (by first | assumption | omega)) ⟨_, _, rfl, by decide⟩ dX4_bearIce_47 rfl ⟨jj_b1 rfl, jj_b1 rfl⟩ rfl) ?_
        refine jr_bipush (v := 20) hX dX4_bearIce_50 (by decide) ?_
        refine jr_icmp_le (tgt := 59) hX dX4_bearIce_52 (by decide) (fun c_52 => ?_) (fun c_52 => ?_)
        · exact jr_vret hX dX4_bearIce_59 rfl rfl ⟨rfl, rfl, rfl, by rw [f_bi, if_neg (fun e => e.2 c_22), if_neg (fun e => e.2 c_52)], rfl, rfl⟩
        · refine jr_aload_n hX dX4_bearIce_55 rfl ?_
          refine jr_void (jr_runV hX hSt kM_X4_147 (c_X0_loseHull (jj_fl hX) hly hw hb) rfl rfl (ly_kB hly (by first | assumption | omega) (by first | assumption | omega)) ⟨_, _, rfl, by decide⟩ dX4_bearIce_56 rfl ⟨jj_b1 rfl, jj_b1 rfl⟩ rfl) ?_
          exact jr_vret hX dX4_bearIce_59 rfl rfl ⟨rfl, rfl, rfl, by rw [f_bi, if_neg (fun e => e.2 c_22), if_pos ⟨c_36, c_52⟩], rfl, rfl⟩
    · refine jr_aload_n hX dX4_bearIce_25 rfl ?_
      refine jr_void (jr_runV hX hSt kM_X4_147 (c_X0_loseHull (jj_fl hX) hly hw hb) rfl rfl (ly_kB hly (by first | assumption | omega) (by first | assumption | omega)) ⟨_, _, rfl, by decide⟩ dX4_bearIce_26 rfl ⟨jj_b1 rfl, jj_b1 rfl⟩ rfl) ?_
      refine jr_goto (tgt := 59) hX dX4_bearIce_29 (by decide) ?_
      exact jr_vret hX dX4_bearIce_59 rfl rfl ⟨rfl, rfl, rfl, by rw [f_bi, if_pos ⟨c_5, c_22⟩], rfl, rfl⟩
set_option maxHeartbeats 4000000 in
set_option maxRecDepth 100000 in
theorem c_X4_settle {l : Launch} (hfl : l.stackTraces = false) {D : jj_D} {n : Nat} {K : jj_K} {I : jj_I} {P : jj_P} {G : jj_G} (hly : ly K P) {w H k : Nat} (hw : w < 2) (hH2 : H ≤ 8) (hk : k < 30) (hs : sfD w H I k) :
    jj_Met l D yX4_settle (jj_ws yX4_settle cX4_settle 5 none) { frames := 1, cells := 0, slots := 0, locals := 24 } [.ref (aW w), .ref (aD w k)] n K I P G (jj_R (none) (n) (K) (f_se w k I) (P) (G)) jj_noX := by
  refine jj_of hfl (by decide +kernel) [some (.ref (aW w)), some (.ref (aD w k)), none, none, none] rfl rfl ?_
  intro X hXl hX hSt
  obtain ⟨⟨a, ha, ea⟩, ⟨b, hb, eb⟩, ⟨h, hh, eh⟩, ⟨g, hg, eg⟩⟩ := hs
  have xa : I (aD w k) 0 = nI (nv (I (aD w k) 0)) := by rw [ea, nv_nI (by omega)]
  have xa2 : nv (I (aD w k) 0) < 5 := by rw [ea, nv_nI (by omega)]; exact ha
  have xb : I (aD w k) 1 = nI (nv (I (aD w k) 1)) := by rw [eb, nv_nI (by omega)]
  have xb2 : nv (I (aD w k) 1) < 5 := by rw [eb, nv_nI (by omega)]; exact hb
  have xc : f_ce w k I < 32 := by unfold f_ce; rw [eh, eg, nv_nI (by omega), nv_nI (by omega)]; omega
  have xh : I (aD w k) 2 = nI (nv (I (aD w k) 2)) := by rw [eh, nv_nI (by omega)]
  have xg : I (aD w k) 3 = nI (nv (I (aD w k) 3)) := by rw [eg, nv_nI (by omega)]
  have xm : ∀ (v : Int32) (s : Nat), jj_u I (aM w (nv (I (aD w k) 1))) 0 v (aD w k) s = I (aD w k) s := fun v s => by rw [jj_u_ne (by have h9 := xb2; revert h9; generalize nv (I (aD w k) 1) = o; intro h9; simp only [aD, aM]; omega)]
  refine jr_aload_n hX dX4_settle_0 rfl ?_
  refine jr_geti hX kF_X4_85 rfl (ly_kD hly (by first | assumption | omega) (by first | assumption | omega)) dX4_settle_1 ?_
  refine jr_if_ne (tgt := 21) hX dX4_settle_4 (by decide) (fun c_4 => ?_) (fun c_4 => ?_)
  · exact jr_vret hX dX4_settle_21 rfl rfl ⟨rfl, rfl, rfl, by rw [f_se, if_neg (fun e => c_4 e.1)], rfl, rfl⟩
  · refine jr_aload_n hX dX4_settle_7 rfl ?_
    refine jr_geti hX kF_X4_153 rfl (ly_kD hly (by first | assumption | omega) (by first | assumption | omega)) dX4_settle_8 ?_
    refine jr_aload_n hX dX4_settle_11 rfl ?_
    refine jr_getr hX kF_X4_12 rfl (ly_kW hly (by first | assumption | omega)) (ly_p4_0 hly (by first | assumption | omega)) dX4_settle_12 ?_
    refine jr_geti hX kF_X4_123 rfl (ly_kR hly (by first | assumption | omega)) dX4_settle_15 ?_
    refine jr_icmp_le (tgt := 22) hX dX4_settle_18 (by decide) (fun c_18 => ?_) (fun c_18 => ?_)
    · refine jr_aload_n hX dX4_settle_22 rfl ?_
      refine jr_getr hX kF_X4_20 rfl (ly_kW hly (by first | assumption | omega)) (ly_p4_4 hly (by first | assumption | omega)) dX4_settle_23 ?_
      refine jr_aload_n hX dX4_settle_26 rfl ?_
      refine jr_geti hX kF_X4_82 rfl (ly_kD hly (by first | assumption | omega) (by first | assumption | omega)) dX4_settle_27 ?_
      refine jr_aMs hX hly (by first | assumption | omega) (by first | with_reducible rfl | with_reducible assumption | rfl) (by first | assumption | omega) dX4_settle_30 ?_
      refine jr_astore_n hX dX4_settle_31 rfl ?_
      refine jr_aload_n hX dX4_settle_32 rfl ?_
      refine jr_geti hX kF_X4_156 rfl (ly_kD hly (by first | assumption | omega) (by first | assumption | omega)) dX4_settle_33 ?_
      refine jr_aload_n hX dX4_settle_36 rfl ?_
      refine jr_geti hX kF_X4_157 rfl (ly_kD hly (by first | assumption | omega) (by first | assumption | omega)) dX4_settle_37 ?_
      rw [xh, xg]
      refine jr_ret (jr_runSN hX hSt kM_X4_160 (c_X5_cellOf (jj_fl hX) (h := nv (I (aD w k) 2)) (g := nv (I (aD w k) 3))) rfl rfl dX4_settle_40 rfl ⟨jj_b1 rfl, jj_b1 rfl⟩ rfl) ?_
      rw [show nv (I (aD w k) 2) * 4 + nv (I (aD w k) 3) = f_ce w k I from rfl]
      refine jr_istore_n hX dX4_settle_43 rfl ?_
      refine jr_aload_n hX dX4_settle_44 rfl ?_
      refine jr_geti hX kF_X4_163 rfl (ly_kD hly (by first | assumption | omega) (by first | assumption | omega)) dX4_settle_45 ?_
      refine jr_aload_n hX dX4_settle_48 rfl ?_
      refine jr_getr hX kF_X4_12 rfl (ly_kW hly (by first | assumption | omega)) (ly_p4_0 hly (by first | assumption | omega)) dX4_settle_49 ?_
      refine jr_getr hX kF_X4_166 rfl (ly_kR hly (by first | assumption | omega)) (ly_p3_6 hly (by first | assumption | omega)) dX4_settle_52 ?_
      refine jr_iload_n hX dX4_settle_55 rfl ?_
      refine jr_iald hX (by first | with_reducible assumption | with_reducible exact ly_kWm hly (by first | assumption | omega) | with_reducible exact ly_kLd hly (by first | assumption | omega) | with_reducible exact ly_kIc hly (by first | assumption | omega) | with_reducible exact ly_kBe hly (by first | assumption | omega) | with_reducible exact ly_kPr hly (by first | assumption | omega) | with_reducible exact ly_kMt hly (by first | assumption | omega) (by first | assumption | omega) | with_reducible exact ly_kBc hly (by first | assumption | omega) (by first | assumption | omega) | with_reducible exact ly_kAh hly (by first | assumption | omega)) (by first | with_reducible rfl | with_reducible assumption | rfl) (by omega) dX4_settle_56 ?_
      refine jr_imul hX dX4_settle_57 ?_
      refine jr_istore hX dX4_settle_58 rfl ?_
      refine jr_aload_n hX dX4_settle_60 rfl ?_
      refine jr_getr hX kF_X4_105 rfl (ly_kM hly (by first | assumption | omega) (by first | assumption | omega)) (ly_p2_1 hly (by first | assumption | omega) (by first | assumption | omega)) dX4_settle_61 ?_
      refine jr_iload_n hX dX4_settle_64 rfl ?_
      refine jr_iald hX (by first | with_reducible assumption | with_reducible exact ly_kWm hly (by first | assumption | omega) | with_reducible exact ly_kLd hly (by first | assumption | omega) | with_reducible exact ly_kIc hly (by first | assumption | omega) | with_reducible exact ly_kBe hly (by first | assumption | omega) | with_reducible exact ly_kPr hly (by first | assumption | omega) | with_reducible exact ly_kMt hly (by first | assumption | omega) (by first | assumption | omega) | with_reducible exact ly_kBc hly (by first | assumption | omega) (by first | assumption | omega) | with_reducible exact ly_kAh hly (by first | assumption | omega)) (by first | with_reducible rfl | with_reducible assumption | rfl) (by omega) dX4_settle_65 ?_
      refine jr_aload_n hX dX4_settle_66 rfl ?_
      refine jr_geti hX kF_X4_163 rfl (ly_kD hly (by first | assumption | omega) (by first | assumption | omega)) dX4_settle_67 ?_
      refine jr_icmp_lt (tgt := 98) hX dX4_settle_70 (by decide) (fun c_70 => ?_) (fun c_70 => ?_)
      · refine jr_aload_n hX dX4_settle_98 rfl ?_
        refine jr_geti hX kF_X4_88 rfl (ly_kM hly (by first | assumption | omega) (by first | assumption | omega)) dX4_settle_99 ?_
        refine jr_iload hX dX4_settle_102 rfl ?_
        refine jr_icmp_lt (tgt := 145) hX dX4_settle_104 (by decide) (fun c_104 => ?_) (fun c_104 => ?_)
        · refine jr_aload_n hX dX4_settle_145 rfl ?_
          refine jr_iconst (v := 2) hX dX4_settle_146 (by decide) ?_
          refine jr_puti hX kF_X4_85 rfl (ly_kD hly (by first | assumption | omega) (by first | assumption | omega)) aD_0 dX4_settle_147 ?_
          exact jr_vret hX dX4_settle_150 rfl rfl ⟨rfl, rfl, rfl, by simp only [f_se, if_pos (And.intro c_4 c_18), if_pos c_70, if_pos c_104], rfl, rfl⟩
        · refine jr_aload_n hX dX4_settle_107 rfl ?_
          refine jr_dup hX dX4_settle_108 rfl ?_
          refine jr_geti hX kF_X4_88 rfl (ly_kM hly (by first | assumption | omega) (by first | assumption | omega)) dX4_settle_109 ?_
          refine jr_iload hX dX4_settle_112 rfl ?_
          refine jr_isub hX dX4_settle_114 ?_
          refine jr_puti hX kF_X4_88 rfl (ly_kM hly (by first | assumption | omega) (by first | assumption | omega)) aM_0 dX4_settle_115 ?_
          refine jr_aload_n hX dX4_settle_118 rfl ?_
          refine jr_getr hX kF_X4_20 rfl (ly_kW hly (by first | assumption | omega)) (ly_p4_4 hly (by first | assumption | omega)) dX4_settle_119 ?_
          refine jr_aload_n hX dX4_settle_122 rfl ?_
          refine jr_geti hX kF_X4_169 rfl (ly_kD hly (by first | assumption | omega) (by first | assumption | omega)) dX4_settle_123 ?_
          rw [xm]
          refine jr_aMs hX hly (by first | assumption | omega) (by first | with_reducible rfl | with_reducible assumption | rfl) (by first | assumption | omega) dX4_settle_126 ?_
          refine jr_dup hX dX4_settle_127 rfl ?_
          refine jr_geti hX kF_X4_88 rfl (ly_kM hly (by first | assumption | omega) (by first | assumption | omega)) dX4_settle_128 ?_
          refine jr_iload hX dX4_settle_131 rfl ?_
          refine jr_iadd hX dX4_settle_133 ?_
          refine jr_puti hX kF_X4_88 rfl (ly_kM hly (by first | assumption | omega) (by first | assumption | omega)) aM_0 dX4_settle_134 ?_
          refine jr_aload_n hX dX4_settle_137 rfl ?_
          refine jr_iconst (v := 1) hX dX4_settle_138 (by decide) ?_
          refine jr_puti hX kF_X4_85 rfl (ly_kD hly (by first | assumption | omega) (by first | assumption | omega)) aD_0 dX4_settle_139 ?_
          refine jr_goto (tgt := 150) hX dX4_settle_142 (by decide) ?_
          exact jr_vret hX dX4_settle_150 rfl rfl ⟨rfl, rfl, rfl, by simp only [f_se, if_pos (And.intro c_4 c_18), if_pos c_70, if_neg c_104], rfl, rfl⟩
      · refine jr_aload_n hX dX4_settle_73 rfl ?_
        refine jr_aload_n hX dX4_settle_74 rfl ?_
        refine jr_geti hX kF_X4_82 rfl (ly_kD hly (by first | assumption | omega) (by first | assumption | omega)) dX4_settle_75 ?_
        refine jr_aload_n hX dX4_settle_78 rfl ?_
        refine jr_geti hX kF_X4_169 rfl (ly_kD hly (by first | assumption | omega) (by first | assumption | omega)) dX4_settle_79 ?_
        refine jr_iload_n hX dX4_settle_82 rfl ?_
        refine jr_aload_n hX dX4_settle_83 rfl ?_
        refine jr_geti hX kF_X4_163 rfl (ly_kD hly (by first | assumption | omega) (by first | assumption | omega)) dX4_settle_84 ?_
        refine jr_void (jr_runV hX hSt kM_X4_172 (c_X4_hand (jj_fl hX) hly hw xb xa rfl xb2 xa2 xc) rfl rfl (ly_kW hly (by first | assumption | omega)) ⟨_, _, rfl, by decide⟩ dX4_settle_87 rfl ⟨jj_b1 rfl, jj_b1 rfl⟩ rfl) ?_
        refine jr_aload_n hX dX4_settle_90 rfl ?_
        refine jr_iconst (v := 1) hX dX4_settle_91 (by decide) ?_
        refine jr_puti hX kF_X4_85 rfl (ly_kD hly (by first | assumption | omega) (by first | assumption | omega)) aD_0 dX4_settle_92 ?_
        refine jr_goto (tgt := 150) hX dX4_settle_95 (by decide) ?_
        exact jr_vret hX dX4_settle_150 rfl rfl ⟨rfl, rfl, rfl, by simp only [f_se, if_pos (And.intro c_4 c_18), if_neg c_70], rfl, rfl⟩
    · exact jr_vret hX dX4_settle_21 rfl rfl ⟨rfl, rfl, rfl, by rw [f_se, if_neg (fun e => c_18 e.2)], rfl, rfl⟩
set_option maxHeartbeats 4000000 in
set_option maxRecDepth 100000 in
theorem c_X4_passDay {l : Launch} (hfl : l.stackTraces = false) {D : jj_D} {n : Nat} {K : jj_K} {I : jj_I} {P : jj_P} {G : jj_G} (hly : ly K P) {w H M B N d : Nat} (hw : w < 2) (hs : sf w H M B N I) (hd : I (aR w) 0 = nI d) (hd2 : d < 2147483647) :
    jj_Met l D yX4_passDay (jj_ws yX4_passDay cX4_passDay 2 none) { frames := 4, cells := 0, slots := 0, locals := 84 } [.ref (aW w)] n K I P G (jj_R (none) (n) (K) (f_pd w H B N d I) (P) (G)) jj_noX := by
  refine jj_of hfl (by decide +kernel) [some (.ref (aW w)), none] rfl rfl ?_
  intro X hXl hX hSt
  have hB2 := hs.2.2.1.2
  have hN2 := hs.2.2.2.1.2
  have s1 : sf w H M B N (f_fr w H d I) := sf_fr hs
  have s2 : ∀ k, k ≤ B → sf w H M B N (it (f_py w) (f_fr w H d I) k) := it_in s1 (fun k y hk hy => sf_py hy hk)
  have s3 : ∀ k, k ≤ B → sf w H M B N (it (fun k M => f_bi w k H (f_go w k M)) (it (f_py w) (f_fr w H d I) B) k) := it_in (s2 B (Nat.le_refl _)) (fun k y hk hy => sf_gb hy hk)
  have s4 : ∀ k, k ≤ N → sf w H M B N (it (f_se w) (it (fun k M => f_bi w k H (f_go w k M)) (it (f_py w) (f_fr w H d I) B) B) k) := it_in (s3 B (Nat.le_refl _)) (fun k y hk hy => sf_se hy hk)
  have b2 : ∀ k, k ≤ B → it (f_py w) (f_fr w H d I) k (aW w) 2 = nI B := fun k hk => (s2 k hk).2.2.1.1
  have b3 : ∀ k, k ≤ B → it (fun k M => f_bi w k H (f_go w k M)) (it (f_py w) (f_fr w H d I) B) k (aW w) 2 = nI B := fun k hk => (s3 k hk).2.2.1.1
  have b4 : ∀ k, k ≤ N → it (f_se w) (it (fun k M => f_bi w k H (f_go w k M)) (it (f_py w) (f_fr w H d I) B) B) k (aW w) 3 = nI N := fun k hk => (s4 k hk).2.2.2.1.1
  refine jr_aload_n hX dX4_passDay_0 rfl ?_
  refine jr_getr hX kF_X4_12 rfl (ly_kW hly (by first | assumption | omega)) (ly_p4_0 hly (by first | assumption | omega)) dX4_passDay_1 ?_
  refine jr_void (jr_runV hX hSt kM_X4_108 (c_X3_freezeOrThaw (jj_fl hX) hly hw hs.1.1 hs.1.2 hd (by omega)) rfl rfl (ly_kR hly (by first | assumption | omega)) ⟨_, _, rfl, by decide⟩ dX4_passDay_4 rfl ⟨jj_b1 rfl, jj_b1 rfl⟩ rfl) ?_
  refine jr_iconst (v := 0) hX dX4_passDay_7 (by decide) ?_
  refine jr_istore_n hX dX4_passDay_8 rfl ?_
  have hloop : ∀ k, k ≤ B → jj_J X D 2 0 0 (jj_MQ X D { frames := 4, cells := 0, slots := 0, locals := 84 } (jj_R (none) (n) (K) (f_pd w H B N d I) (P) (G)) jj_noX) (n) (K) (it (f_py w) (f_fr w H d I) k) (P) (G) 9 [some (.ref (aW w)), some (.int (nI k))] [] := by
    refine jj_for (B) _ ?_ (fun k hk ih => ?_)
    · refine jr_iload_n hX dX4_passDay_9 rfl ?_
      refine jr_aload_n hX dX4_passDay_10 rfl ?_
      refine jr_geti hX kF_X4_47 rfl (ly_kW hly (by first | assumption | omega)) dX4_passDay_11 ?_
      refine jr_icmp_ge (tgt := 33) hX dX4_passDay_14 (by decide) (fun c_14 => ?_) (fun c_14 => absurd (by rw [(b2 B (Nat.le_refl _))]; exact nI_le (Nat.le_refl _) (by omega)) c_14)
      refine jr_iconst (v := 0) hX dX4_passDay_33 (by decide) ?_
      refine jr_istore_n hX dX4_passDay_34 rfl ?_
      have hloop2 : ∀ k, k ≤ B → jj_J X D 2 0 0 (jj_MQ X D { frames := 4, cells := 0, slots := 0, locals := 84 } (jj_R (none) (n) (K) (f_pd w H B N d I) (P) (G)) jj_noX) (n) (K) (it (fun k M => f_bi w k H (f_go w k M)) (it (f_py w) (f_fr w H d I) B) k) (P) (G) 35 [some (.ref (aW w)), some (.int (nI k))] [] := by
        refine jj_for (B) _ ?_ (fun k hk ih => ?_)
        · refine jr_iload_n hX dX4_passDay_35 rfl ?_
          refine jr_aload_n hX dX4_passDay_36 rfl ?_
          refine jr_geti hX kF_X4_47 rfl (ly_kW hly (by first | assumption | omega)) dX4_passDay_37 ?_
          refine jr_icmp_ge (tgt := 69) hX dX4_passDay_40 (by decide) (fun c_40 => ?_) (fun c_40 => absurd (by rw [(b3 B (Nat.le_refl _))]; exact nI_le (Nat.le_refl _) (by omega)) c_40)
          refine jr_iconst (v := 0) hX dX4_passDay_69 (by decide) ?_
          refine jr_istore_n hX dX4_passDay_70 rfl ?_
          have hloop3 : ∀ k, k ≤ N → jj_J X D 2 0 0 (jj_MQ X D { frames := 4, cells := 0, slots := 0, locals := 84 } (jj_R (none) (n) (K) (f_pd w H B N d I) (P) (G)) jj_noX) (n) (K) (it (f_se w) (it (fun k M => f_bi w k H (f_go w k M)) (it (f_py w) (f_fr w H d I) B) B) k) (P) (G) 71 [some (.ref (aW w)), some (.int (nI k))] [] := by
            refine jj_for (N) _ ?_ (fun k hk ih => ?_)
            · refine jr_iload_n hX dX4_passDay_71 rfl ?_
              refine jr_aload_n hX dX4_passDay_72 rfl ?_
              refine jr_geti hX kF_X4_50 rfl (ly_kW hly (by first | assumption | omega)) dX4_passDay_73 ?_
              refine jr_icmp_ge (tgt := 95) hX dX4_passDay_76 (by decide) (fun c_76 => ?_) (fun c_76 => absurd (by rw [(b4 N (Nat.le_refl _))]; exact nI_le (Nat.le_refl _) (by omega)) c_76)
              refine jr_aload_n hX dX4_passDay_95 rfl ?_
              refine jr_getr hX kF_X4_12 rfl (ly_kW hly (by first | assumption | omega)) (ly_p4_0 hly (by first | assumption | omega)) dX4_passDay_96 ?_
              refine jr_dup hX dX4_passDay_99 rfl ?_
              refine jr_geti hX kF_X4_123 rfl (ly_kR hly (by first | assumption | omega)) dX4_passDay_100 ?_
              refine jr_iconst (v := 1) hX dX4_passDay_103 (by decide) ?_
              refine jr_iadd hX dX4_passDay_104 ?_
              refine jr_puti hX kF_X4_123 rfl (ly_kR hly (by first | assumption | omega)) aR_0 dX4_passDay_105 ?_
              exact jr_vret hX dX4_passDay_108 rfl rfl ⟨rfl, rfl, rfl, rfl, rfl, rfl⟩
            · refine jr_iload_n hX dX4_passDay_71 rfl ?_
              refine jr_aload_n hX dX4_passDay_72 rfl ?_
              refine jr_geti hX kF_X4_50 rfl (ly_kW hly (by first | assumption | omega)) dX4_passDay_73 ?_
              refine jr_icmp_ge (tgt := 95) hX dX4_passDay_76 (by decide) (fun c_76 => absurd c_76 (by rw [(b4 k (by omega))]; exact nI_ge (by assumption) (by omega))) (fun c_76 => ?_)
              refine jr_aload_n hX dX4_passDay_79 rfl ?_
              refine jr_aload_n hX dX4_passDay_80 rfl ?_
              refine jr_getr hX kF_X4_32 rfl (ly_kW hly (by first | assumption | omega)) (ly_p4_6 hly (by first | assumption | omega)) dX4_passDay_81 ?_
              refine jr_iload_n hX dX4_passDay_84 rfl ?_
              refine jr_aDs hX hly (by first | assumption | omega) (by first | with_reducible rfl | with_reducible assumption | rfl) (by first | assumption | omega) dX4_passDay_85 ?_
              refine jr_void (jr_runV hX hSt kM_X4_120 (c_X4_settle (jj_fl hX) hly hw hs.1.2 (by omega) ((s4 k (by omega)).2.2.2.2.2 k hk)) rfl rfl (ly_kW hly (by first | assumption | omega)) ⟨_, _, rfl, by decide⟩ dX4_passDay_86 rfl ⟨jj_b1 rfl, jj_b1 rfl⟩ rfl) ?_
              refine jr_iinc hX dX4_passDay_89 rfl (by first | with_reducible exact jj_inc _ | with_reducible exact jj_inc1 _) rfl ?_
              refine jr_goto (tgt := 71) hX dX4_passDay_92 (by decide) ?_
              exact ih
          exact hloop3 0 (Nat.zero_le _)
        · refine jr_iload_n hX dX4_passDay_35 rfl ?_
          refine jr_aload_n hX dX4_passDay_36 rfl ?_
          refine jr_geti hX kF_X4_47 rfl (ly_kW hly (by first | assumption | omega)) dX4_passDay_37 ?_
          refine jr_icmp_ge (tgt := 69) hX dX4_passDay_40 (by decide) (fun c_40 => absurd c_40 (by rw [(b3 k (by omega))]; exact nI_ge (by assumption) (by omega))) (fun c_40 => ?_)
          refine jr_aload_n hX dX4_passDay_43 rfl ?_
          refine jr_aload_n hX dX4_passDay_44 rfl ?_
          refine jr_getr hX kF_X4_26 rfl (ly_kW hly (by first | assumption | omega)) (ly_p4_5 hly (by first | assumption | omega)) dX4_passDay_45 ?_
          refine jr_iload_n hX dX4_passDay_48 rfl ?_
          refine jr_aBs hX hly (by first | assumption | omega) (by first | with_reducible rfl | with_reducible assumption | rfl) (by first | assumption | omega) dX4_passDay_49 ?_
          have s5 := s3 k (by omega)
          have s6 := sf_go s5 hk
          refine jr_void (jr_runV hX hSt kM_X4_114 (c_X4_goOn (jj_fl hX) hly hw hs.1.2 (by omega) (s5.2.2.2.2.1 k hk)) rfl rfl (ly_kW hly (by first | assumption | omega)) ⟨_, _, rfl, by decide⟩ dX4_passDay_50 rfl ⟨jj_b1 rfl, jj_b1 rfl⟩ rfl) ?_
          refine jr_aload_n hX dX4_passDay_53 rfl ?_
          refine jr_aload_n hX dX4_passDay_54 rfl ?_
          refine jr_getr hX kF_X4_26 rfl (ly_kW hly (by first | assumption | omega)) (ly_p4_5 hly (by first | assumption | omega)) dX4_passDay_55 ?_
          refine jr_iload_n hX dX4_passDay_58 rfl ?_
          refine jr_aBs hX hly (by first | assumption | omega) (by first | with_reducible rfl | with_reducible assumption | rfl) (by first | assumption | omega) dX4_passDay_59 ?_
          refine jr_void (jr_runV hX hSt kM_X4_117 (c_X4_bearIce (jj_fl hX) hly hw s6.1.1 hs.1.2 (by omega) (s6.2.2.2.2.1 k hk)) rfl rfl (ly_kW hly (by first | assumption | omega)) ⟨_, _, rfl, by decide⟩ dX4_passDay_60 rfl ⟨jj_b1 rfl, jj_b1 rfl⟩ rfl) ?_
          refine jr_iinc hX dX4_passDay_63 rfl (by first | with_reducible exact jj_inc _ | with_reducible exact jj_inc1 _) rfl ?_
          refine jr_goto (tgt := 35) hX dX4_passDay_66 (by decide) ?_
          exact ih
      exact hloop2 0 (Nat.zero_le _)
    · refine jr_iload_n hX dX4_passDay_9 rfl ?_
      refine jr_aload_n hX dX4_passDay_10 rfl ?_
      refine jr_geti hX kF_X4_47 rfl (ly_kW hly (by first | assumption | omega)) dX4_passDay_11 ?_
      refine jr_icmp_ge (tgt := 33) hX dX4_passDay_14 (by decide) (fun c_14 => absurd c_14 (by rw [(b2 k (by omega))]; exact nI_ge (by assumption) (by omega))) (fun c_14 => ?_)
      refine jr_aload_n hX dX4_passDay_17 rfl ?_
      refine jr_aload_n hX dX4_passDay_18 rfl ?_
      refine jr_getr hX kF_X4_26 rfl (ly_kW hly (by first | assumption | omega)) (ly_p4_5 hly (by first | assumption | omega)) dX4_passDay_19 ?_
      refine jr_iload_n hX dX4_passDay_22 rfl ?_
      refine jr_aBs hX hly (by first | assumption | omega) (by first | with_reducible rfl | with_reducible assumption | rfl) (by first | assumption | omega) dX4_passDay_23 ?_
      obtain ⟨⟨o, ho, eo⟩, -⟩ := (s2 k (by omega)).2.2.2.2.1 k hk
      refine jr_void (jr_runV hX hSt kM_X4_111 (c_X4_payForBerth (jj_fl hX) hly hw (by omega) (by rw [eo, nv_nI (by omega)]) (by rw [eo, nv_nI (by omega)]; exact ho)) rfl rfl (ly_kW hly (by first | assumption | omega)) ⟨_, _, rfl, by decide⟩ dX4_passDay_24 rfl ⟨jj_b1 rfl, jj_b1 rfl⟩ rfl) ?_
      refine jr_iinc hX dX4_passDay_27 rfl (by first | with_reducible exact jj_inc _ | with_reducible exact jj_inc1 _) rfl ?_
      refine jr_goto (tgt := 9) hX dX4_passDay_30 (by decide) ?_
      exact ih
  exact hloop 0 (Nat.zero_le _)
theorem fr_cr {a b len x : Nat} {I : jj_I} (h : x ≠ b) : f_cr a b len I x = I x := jj_uR_ne h
theorem fr_cf {a b k x : Nat} {I : jj_I} (h : x ≠ b) : f_cf a b k I x = I x := jj_u_ne h
theorem fr_cpM {k x : Nat} {I : jj_I} (h : x ≠ aM 1 k) (h2 : x ≠ aMt 1 k) : f_cpM k I x = I x := (fr_cr h2).trans (fr_cf h)
theorem fr_cpB {k x : Nat} {I : jj_I} (h : x ≠ aB 1 k) (h2 : x ≠ aBc 1 k) : f_cpB k I x = I x := by
  unfold f_cpB
  rw [fr_cr h2, fr_cf h, fr_cf h, fr_cf h, fr_cf h, fr_cf h, fr_cf h, fr_cf h, fr_cf h]
theorem fr_op {w k x : Nat} {a b h g m d : Int32} {I : jj_I} (hx : x ≠ aD w k) : f_op w k a b h g m d I x = I x := by
  unfold f_op
  rw [jj_u_ne hx, jj_u_ne hx, jj_u_ne hx, jj_u_ne hx, jj_u_ne hx, jj_u_ne hx, jj_u_ne hx]
theorem fr_cpD {k x : Nat} {I : jj_I} (h : x ≠ aD 1 k) : f_cpD k I x = I x := (fr_cf h).trans (fr_op h)
theorem fr_it {f : Nat → jj_I → jj_I} {x : Nat} {I : jj_I} : ∀ {N : Nat}, (∀ k J, k < N → f k J x = J x) → it f I N x = I x
  | 0, _ => rfl
  | N + 1, h => (h N _ (Nat.lt_succ_self _)).trans (fr_it (fun k J hk => h k J (by omega)))
set_option maxHeartbeats 4000000 in
set_option maxRecDepth 100000 in
theorem c_X4_copyFrom {l : Launch} (hfl : l.stackTraces = false) {D : jj_D} {n : Nat} {K : jj_K} {I : jj_I} {P : jj_P} {G : jj_G} (hly : ly K P) {M B N : Nat} (hM : I (aW 0) 1 = nI M) (hM2 : M ≤ 5) (hB : I (aW 0) 2 = nI B) (hB2 : B ≤ 10) (hN : I (aW 0) 3 = nI N) (hN2 : N ≤ 30) :
    jj_Met l D yX4_copyFrom (jj_ws yX4_copyFrom cX4_copyFrom 3 none) { frames := 3, cells := 0, slots := 0, locals := 68 } [.ref (aW 1), .ref (aW 0)] n K I P G (jj_R (none) (n) (K) (f_cpW M B N I) (P) (G)) jj_noX := by
  refine jj_of hfl (by decide +kernel) [some (.ref (aW 1)), some (.ref (aW 0)), none] rfl rfl ?_
  intro X hXl hX hSt
  have r0 : ∀ s, f_cpR I (aW 0) s = I (aW 0) s := fun s => by
    unfold f_cpR
    rw [fr_cr (by decide), fr_cr (by decide), fr_cr (by decide), fr_cr (by decide), fr_cr (by decide), fr_cf (by decide), fr_cf (by decide)]
  have q1 : (f_cf (aW 0) (aW 1) 3 (f_cf (aW 0) (aW 1) 2 (f_cf (aW 0) (aW 1) 1 (f_cpR I)))) (aW 1) 1 = nI M := by simp [f_cf, jj_u, aW, r0, hM] <;> simpa [aW] using (r0 1).trans hM
  have q2 : (f_cf (aW 0) (aW 1) 3 (f_cf (aW 0) (aW 1) 2 (f_cf (aW 0) (aW 1) 1 (f_cpR I)))) (aW 1) 2 = nI B := by simp [f_cf, jj_u, aW, r0, hB] <;> simpa [aW] using (r0 2).trans hB
  have q3 : (f_cf (aW 0) (aW 1) 3 (f_cf (aW 0) (aW 1) 2 (f_cf (aW 0) (aW 1) 1 (f_cpR I)))) (aW 1) 3 = nI N := by simp [f_cf, jj_u, aW, r0, hN] <;> simpa [aW] using (r0 3).trans hN
  have b1 : ∀ k, k ≤ M → it f_cpM (f_cf (aW 0) (aW 1) 3 (f_cf (aW 0) (aW 1) 2 (f_cf (aW 0) (aW 1) 1 (f_cpR I)))) k (aW 1) 1 = nI M := fun k hk => by rw [fr_it (fun j J hj => fr_cpM (by simp only [aW, aM]; omega) (by simp only [aW, aMt]; omega))]; exact q1
  have b2 : ∀ k, k ≤ B → it f_cpB (it f_cpM (f_cf (aW 0) (aW 1) 3 (f_cf (aW 0) (aW 1) 2 (f_cf (aW 0) (aW 1) 1 (f_cpR I)))) M) k (aW 1) 2 = nI B := fun k hk => by rw [fr_it (fun j J hj => fr_cpB (by simp only [aW, aB]; omega) (by simp only [aW, aBc]; omega)), fr_it (fun j J hj => fr_cpM (by simp only [aW, aM]; omega) (by simp only [aW, aMt]; omega))]; exact q2
  have b3 : ∀ k, k ≤ N → it f_cpD (it f_cpB (it f_cpM (f_cf (aW 0) (aW 1) 3 (f_cf (aW 0) (aW 1) 2 (f_cf (aW 0) (aW 1) 1 (f_cpR I)))) M) B) k (aW 1) 3 = nI N := fun k hk => by rw [fr_it (fun j J hj => fr_cpD (by simp only [aW, aD]; omega)), fr_it (fun j J hj => fr_cpB (by simp only [aW, aB]; omega) (by simp only [aW, aBc]; omega)), fr_it (fun j J hj => fr_cpM (by simp only [aW, aM]; omega) (by simp only [aW, aMt]; omega))]; exact q3
  refine jr_aload_n hX dX4_copyFrom_0 rfl ?_
  refine jr_getr hX kF_X4_12 rfl (ly_kW hly (by first | assumption | omega)) (ly_p4_0 hly (by first | assumption | omega)) dX4_copyFrom_1 ?_
  refine jr_aload_n hX dX4_copyFrom_4 rfl ?_
  refine jr_getr hX kF_X4_12 rfl (ly_kW hly (by first | assumption | omega)) (ly_p4_0 hly (by first | assumption | omega)) dX4_copyFrom_5 ?_
  refine jr_void (jr_runV hX hSt kM_X4_39 (c_X3_copyFrom (jj_fl hX) hly) rfl rfl (ly_kR hly (by first | assumption | omega)) ⟨_, _, rfl, by decide⟩ dX4_copyFrom_8 rfl ⟨jj_b1 rfl, jj_b1 rfl⟩ rfl) ?_
  refine jr_aload_n hX dX4_copyFrom_11 rfl ?_
  refine jr_aload_n hX dX4_copyFrom_12 rfl ?_
  refine jr_geti hX kF_X4_43 rfl (ly_kW hly (by first | assumption | omega)) dX4_copyFrom_13 ?_
  refine jr_puti hX kF_X4_43 rfl (ly_kW hly (by first | assumption | omega)) aW_0 dX4_copyFrom_16 ?_
  refine jr_aload_n hX dX4_copyFrom_19 rfl ?_
  refine jr_aload_n hX dX4_copyFrom_20 rfl ?_
  refine jr_geti hX kF_X4_47 rfl (ly_kW hly (by first | assumption | omega)) dX4_copyFrom_21 ?_
  refine jr_puti hX kF_X4_47 rfl (ly_kW hly (by first | assumption | omega)) aW_0 dX4_copyFrom_24 ?_
  refine jr_aload_n hX dX4_copyFrom_27 rfl ?_
  refine jr_aload_n hX dX4_copyFrom_28 rfl ?_
  refine jr_geti hX kF_X4_50 rfl (ly_kW hly (by first | assumption | omega)) dX4_copyFrom_29 ?_
  refine jr_puti hX kF_X4_50 rfl (ly_kW hly (by first | assumption | omega)) aW_0 dX4_copyFrom_32 ?_
  refine jr_iconst (v := 0) hX dX4_copyFrom_35 (by decide) ?_
  refine jr_istore_n hX dX4_copyFrom_36 rfl ?_
  have hloop : ∀ k, k ≤ M → jj_J X D 3 0 0 (jj_MQ X D { frames := 3, cells := 0, slots := 0, locals := 68 } (jj_R (none) (n) (K) (f_cpW M B N I) (P) (G)) jj_noX) (n) (K) (it f_cpM (f_cf (aW 0) (aW 1) 3 (f_cf (aW 0) (aW 1) 2 (f_cf (aW 0) (aW 1) 1 (f_cpR I)))) k) (P) (G) 37 [some (.ref (aW 1)), some (.ref (aW 0)), some (.int (nI k))] [] := by
    refine jj_for (M) _ ?_ (fun k hk ih => ?_)
    · refine jr_iload_n hX dX4_copyFrom_37 rfl ?_
      refine jr_aload_n hX dX4_copyFrom_38 rfl ?_
      refine jr_geti hX kF_X4_43 rfl (ly_kW hly (by first | assumption | omega)) dX4_copyFrom_39 ?_
      refine jr_icmp_ge (tgt := 66) hX dX4_copyFrom_42 (by decide) (fun c_42 => ?_) (fun c_42 => absurd (by rw [(b1 M (Nat.le_refl _))]; exact nI_le (Nat.le_refl _) (by omega)) c_42)
      refine jr_iconst (v := 0) hX dX4_copyFrom_66 (by decide) ?_
      refine jr_istore_n hX dX4_copyFrom_67 rfl ?_
      have hloop2 : ∀ k, k ≤ B → jj_J X D 3 0 0 (jj_MQ X D { frames := 3, cells := 0, slots := 0, locals := 68 } (jj_R (none) (n) (K) (f_cpW M B N I) (P) (G)) jj_noX) (n) (K) (it f_cpB (it f_cpM (f_cf (aW 0) (aW 1) 3 (f_cf (aW 0) (aW 1) 2 (f_cf (aW 0) (aW 1) 1 (f_cpR I)))) M) k) (P) (G) 68 [some (.ref (aW 1)), some (.ref (aW 0)), some (.int (nI k))] [] := by
        refine jj_for (B) _ ?_ (fun k hk ih => ?_)
        · refine jr_iload_n hX dX4_copyFrom_68 rfl ?_
          refine jr_aload_n hX dX4_copyFrom_69 rfl ?_
          refine jr_geti hX kF_X4_47 rfl (ly_kW hly (by first | assumption | omega)) dX4_copyFrom_70 ?_
          refine jr_icmp_ge (tgt := 97) hX dX4_copyFrom_73 (by decide) (fun c_73 => ?_) (fun c_73 => absurd (by rw [(b2 B (Nat.le_refl _))]; exact nI_le (Nat.le_refl _) (by omega)) c_73)
          refine jr_iconst (v := 0) hX dX4_copyFrom_97 (by decide) ?_
          refine jr_istore_n hX dX4_copyFrom_98 rfl ?_
          have hloop3 : ∀ k, k ≤ N → jj_J X D 3 0 0 (jj_MQ X D { frames := 3, cells := 0, slots := 0, locals := 68 } (jj_R (none) (n) (K) (f_cpW M B N I) (P) (G)) jj_noX) (n) (K) (it f_cpD (it f_cpB (it f_cpM (f_cf (aW 0) (aW 1) 3 (f_cf (aW 0) (aW 1) 2 (f_cf (aW 0) (aW 1) 1 (f_cpR I)))) M) B) k) (P) (G) 99 [some (.ref (aW 1)), some (.ref (aW 0)), some (.int (nI k))] [] := by
            refine jj_for (N) _ ?_ (fun k hk ih => ?_)
            · refine jr_iload_n hX dX4_copyFrom_99 rfl ?_
              refine jr_aload_n hX dX4_copyFrom_100 rfl ?_
              refine jr_geti hX kF_X4_50 rfl (ly_kW hly (by first | assumption | omega)) dX4_copyFrom_101 ?_
              refine jr_icmp_ge (tgt := 128) hX dX4_copyFrom_104 (by decide) (fun c_104 => ?_) (fun c_104 => absurd (by rw [(b3 N (Nat.le_refl _))]; exact nI_le (Nat.le_refl _) (by omega)) c_104)
              exact jr_vret hX dX4_copyFrom_128 rfl rfl ⟨rfl, rfl, rfl, rfl, rfl, rfl⟩
            · refine jr_iload_n hX dX4_copyFrom_99 rfl ?_
              refine jr_aload_n hX dX4_copyFrom_100 rfl ?_
              refine jr_geti hX kF_X4_50 rfl (ly_kW hly (by first | assumption | omega)) dX4_copyFrom_101 ?_
              refine jr_icmp_ge (tgt := 128) hX dX4_copyFrom_104 (by decide) (fun c_104 => absurd c_104 (by rw [(b3 k (by omega))]; exact nI_ge (by assumption) (by omega))) (fun c_104 => ?_)
              refine jr_aload_n hX dX4_copyFrom_107 rfl ?_
              refine jr_getr hX kF_X4_32 rfl (ly_kW hly (by first | assumption | omega)) (ly_p4_6 hly (by first | assumption | omega)) dX4_copyFrom_108 ?_
              refine jr_iload_n hX dX4_copyFrom_111 rfl ?_
              refine jr_aDs hX hly (by first | assumption | omega) (by first | with_reducible rfl | with_reducible assumption | rfl) (by first | assumption | omega) dX4_copyFrom_112 ?_
              refine jr_aload_n hX dX4_copyFrom_113 rfl ?_
              refine jr_getr hX kF_X4_32 rfl (ly_kW hly (by first | assumption | omega)) (ly_p4_6 hly (by first | assumption | omega)) dX4_copyFrom_114 ?_
              refine jr_iload_n hX dX4_copyFrom_117 rfl ?_
              refine jr_aDs hX hly (by first | assumption | omega) (by first | with_reducible rfl | with_reducible assumption | rfl) (by first | assumption | omega) dX4_copyFrom_118 ?_
              refine jr_void (jr_runV hX hSt kM_X4_59 (c_X1_copyFrom (jj_fl hX) hly (by omega)) rfl rfl (ly_kD hly (by first | assumption | omega) (by first | assumption | omega)) ⟨_, _, rfl, by decide⟩ dX4_copyFrom_119 rfl ⟨jj_b1 rfl, jj_b1 rfl⟩ rfl) ?_
              refine jr_iinc hX dX4_copyFrom_122 rfl (by first | with_reducible exact jj_inc _ | with_reducible exact jj_inc1 _) rfl ?_
              refine jr_goto (tgt := 99) hX dX4_copyFrom_125 (by decide) ?_
              exact ih
          exact hloop3 0 (Nat.zero_le _)
        · refine jr_iload_n hX dX4_copyFrom_68 rfl ?_
          refine jr_aload_n hX dX4_copyFrom_69 rfl ?_
          refine jr_geti hX kF_X4_47 rfl (ly_kW hly (by first | assumption | omega)) dX4_copyFrom_70 ?_
          refine jr_icmp_ge (tgt := 97) hX dX4_copyFrom_73 (by decide) (fun c_73 => absurd c_73 (by rw [(b2 k (by omega))]; exact nI_ge (by assumption) (by omega))) (fun c_73 => ?_)
          refine jr_aload_n hX dX4_copyFrom_76 rfl ?_
          refine jr_getr hX kF_X4_26 rfl (ly_kW hly (by first | assumption | omega)) (ly_p4_5 hly (by first | assumption | omega)) dX4_copyFrom_77 ?_
          refine jr_iload_n hX dX4_copyFrom_80 rfl ?_
          refine jr_aBs hX hly (by first | assumption | omega) (by first | with_reducible rfl | with_reducible assumption | rfl) (by first | assumption | omega) dX4_copyFrom_81 ?_
          refine jr_aload_n hX dX4_copyFrom_82 rfl ?_
          refine jr_getr hX kF_X4_26 rfl (ly_kW hly (by first | assumption | omega)) (ly_p4_5 hly (by first | assumption | omega)) dX4_copyFrom_83 ?_
          refine jr_iload_n hX dX4_copyFrom_86 rfl ?_
          refine jr_aBs hX hly (by first | assumption | omega) (by first | with_reducible rfl | with_reducible assumption | rfl) (by first | assumption | omega) dX4_copyFrom_87 ?_
          refine jr_void (jr_runV hX hSt kM_X4_56 (c_X0_copyFrom (jj_fl hX) hly (by omega)) rfl rfl (ly_kB hly (by first | assumption | omega) (by first | assumption | omega)) ⟨_, _, rfl, by decide⟩ dX4_copyFrom_88 rfl ⟨jj_b1 rfl, jj_b1 rfl⟩ rfl) ?_
          refine jr_iinc hX dX4_copyFrom_91 rfl (by first | with_reducible exact jj_inc _ | with_reducible exact jj_inc1 _) rfl ?_
          refine jr_goto (tgt := 68) hX dX4_copyFrom_94 (by decide) ?_
          exact ih
      exact hloop2 0 (Nat.zero_le _)
    · refine jr_iload_n hX dX4_copyFrom_37 rfl ?_
      refine jr_aload_n hX dX4_copyFrom_38 rfl ?_
      refine jr_geti hX kF_X4_43 rfl (ly_kW hly (by first | assumption | omega)) dX4_copyFrom_39 ?_
      refine jr_icmp_ge (tgt := 66) hX dX4_copyFrom_42 (by decide) (fun c_42 => absurd c_42 (by rw [(b1 k (by omega))]; exact nI_ge (by assumption) (by omega))) (fun c_42 => ?_)
      refine jr_aload_n hX dX4_copyFrom_45 rfl ?_
      refine jr_getr hX kF_X4_20 rfl (ly_kW hly (by first | assumption | omega)) (ly_p4_4 hly (by first | assumption | omega)) dX4_copyFrom_46 ?_
      refine jr_iload_n hX dX4_copyFrom_49 rfl ?_
      refine jr_aMs hX hly (by first | assumption | omega) (by first | with_reducible rfl | with_reducible assumption | rfl) (by first | assumption | omega) dX4_copyFrom_50 ?_
      refine jr_aload_n hX dX4_copyFrom_51 rfl ?_
      refine jr_getr hX kF_X4_20 rfl (ly_kW hly (by first | assumption | omega)) (ly_p4_4 hly (by first | assumption | omega)) dX4_copyFrom_52 ?_
      refine jr_iload_n hX dX4_copyFrom_55 rfl ?_
      refine jr_aMs hX hly (by first | assumption | omega) (by first | with_reducible rfl | with_reducible assumption | rfl) (by first | assumption | omega) dX4_copyFrom_56 ?_
      refine jr_void (jr_runV hX hSt kM_X4_53 (c_X2_copyFrom (jj_fl hX) hly (by omega)) rfl rfl (ly_kM hly (by first | assumption | omega) (by first | assumption | omega)) ⟨_, _, rfl, by decide⟩ dX4_copyFrom_57 rfl ⟨jj_b1 rfl, jj_b1 rfl⟩ rfl) ?_
      refine jr_iinc hX dX4_copyFrom_60 rfl (by first | with_reducible exact jj_inc _ | with_reducible exact jj_inc1 _) rfl ?_
      refine jr_goto (tgt := 37) hX dX4_copyFrom_63 (by decide) ?_
      exact ih
  exact hloop 0 (Nat.zero_le _)
