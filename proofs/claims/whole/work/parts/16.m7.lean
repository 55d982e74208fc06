theorem bg_off {w b B a : Nat} {I : jj_I} (h : a ≠ aB w b) : f_bg w b B I a = I a := by
  unfold f_bg
  split
  · exact jj_u_ne h
  · rfl
theorem sf_bg {w H M B N b C : Nat} {I : jj_I} (hs : sf w H M B N I) (hb : b < B) : sf w H M B N (f_bg w b C I) := by
  have hB2 := hs.2.2.1.2
  refine sf_bo (k := b) hs (by omega) (fun a h1 h2 h3 => bg_off h1) (fun _ => ?_)
  have h := hs.2.2.2.2.1 b hb
  unfold f_bg
  split
  · rename_i c
    obtain ⟨⟨o, ho, eo⟩, hp, h4, hl, hg⟩ := h
    unfold sfB
    simp only [jj_u, true_and]
    exact ⟨⟨o, ho, by simpa using eo⟩, by simp, fun _ => by simpa using h4 (by rw [c.1]; decide), by simp, by simpa using hg⟩
  · exact h
theorem sf_gl {w H M B N b g : Nat} {I : jj_I} (hs : sf w H M B N I) (hb : b < B) (hg : g < H) : sf w H M B N (jj_u I (aB w b) 6 (nI g)) := by
  have hB2 := hs.2.2.1.2
  refine sf_bo (k := b) hs (by omega) (fun a h1 h2 h3 => jj_u_ne h1) (fun _ => ?_)
  obtain ⟨⟨o, ho, eo⟩, hp, h4, hl, hg0⟩ := hs.2.2.2.2.1 b hb
  unfold sfB
  simp only [jj_u, true_and]
  exact ⟨⟨o, ho, by simpa using eo⟩, by simpa using hp, by simpa using h4, by simpa using hl, ⟨g, hg, by simp⟩⟩
theorem sf_off {H M B N : Nat} {I J : jj_I} (hs : sf 0 H M B N I) (ho : ∀ a, offT a → J a = I a) : sf 0 H M B N J := by
  obtain ⟨⟨h1, h1'⟩, ⟨h2, h2'⟩, ⟨h3, h3'⟩, ⟨h4, h4'⟩, h5, h6⟩ := hs
  have eR : J (aR 0) = I (aR 0) := ho _ (Or.inl (by decide))
  have eW : J (aW 0) = I (aW 0) := ho _ (Or.inl (by decide))
  exact ⟨⟨by rw [eR]; exact h1, h1'⟩, ⟨by rw [eW]; exact h2, h2'⟩, ⟨by rw [eW]; exact h3, h3'⟩, ⟨by rw [eW]; exact h4, h4'⟩, fun i hi => sfB_cg (ho _ (Or.inl (by simp only [aB]; omega))) (h5 i hi), fun i hi => sfD_cg (ho _ (Or.inl (by simp only [aD]; omega))) (h6 i hi)⟩
theorem sf_hh {w H M B N b : Nat} {I : jj_I} (hs : sf w H M B N I) (hb : b < B) : I (aB w b) 3 = 0 → I (aB w b) 4 = nI (nv (I (aB w b) 4)) ∧ nv (I (aB w b) 4) < 8 := fun h0 => by
  obtain ⟨-, -, h4, -⟩ := hs.2.2.2.2.1 b hb
  obtain ⟨h, hh, eh⟩ := h4 (by rw [h0]; decide)
  have := hs.1.2
  rw [eh, nv_nI (by omega)]
  exact ⟨rfl, by omega⟩
def f_hst (H B N b d j : Nat) (S : jj_I) : jj_I := f_bg 1 b B (f_pd 1 H B N (d + j) S)
def f_hb0 (M B N b g : Nat) (I : jj_I) : jj_I := f_bg 1 b B (jj_u (f_cpW M B N I) (aB 1 b) 6 (nI g))
def f_hbs (H B N b d : Nat) : Nat → Nat → jj_I → jj_I
  | 0, _, S => S
  | m + 1, k, S => if S (aB 1 b) 3 = 3 then S else f_hbs H B N b d m (k + 1) (f_hst H B N b d k S)
def f_hl (H M B N b d y g : Nat) (I : jj_I) : Int32 := f_hbs H B N b d y 0 (f_hb0 M B N b g I) (aB 1 b) 1
def f_av (hl : Nat → Int32) : Nat → Int32 × Int32
  | 0 => (-1, 0)
  | k + 1 => if (f_av hl k).2 < hl k then (nI k, hl k) else f_av hl k
theorem f_av_cg {h g : Nat → Int32} : ∀ {n : Nat}, (∀ k, k < n → h k = g k) → f_av h n = f_av g n
  | 0, _ => rfl
  | n + 1, e => by
    have e1 := f_av_cg (h := h) (g := g) (n := n) (fun k hk => e k (by omega))
    simp only [f_av]
    rw [e1, e n (by omega)]
def f_ao (op : Nat → Bool) (d0 : Nat) : Nat → Bool
  | 0 => true
  | n + 1 => f_ao op d0 n && op (d0 + n + 1)
theorem f_ao_f {op : Nat → Bool} {d0 j : Nat} (h : op (d0 + j + 1) = false) : ∀ {n : Nat}, j < n → f_ao op d0 n = false
  | n + 1, hn => by
    simp only [f_ao]
    by_cases e : j = n
    · subst e; rw [h, Bool.and_false]
    · rw [f_ao_f h (show j < n by omega), Bool.false_and]
def f_fw (op : Nat → Nat → Bool) (lg dur : Nat → Nat) : Nat → Nat → Nat → Bool
  | 0, _, _ => true
  | m + 1, k, day => f_ao (op (lg k)) day (dur k) && f_fw op lg dur m (k + 1) (day + dur k)
def f_lg (a b k : Nat) : Nat := if a < b then a + k else a - 1 - k
def f_du (a b : Nat) (I : jj_I) (k : Nat) : Nat := nv (f_do 0 (f_lg a b k) (if a < b then 1 else 0) I)
def f_lw (a b : Nat) : Nat := if a < b then b - a else a - b
def f_opn (I : jj_I) (l dd : Nat) : Bool := decide (I (aAh l) dd ≤ 10)
def f_fwb (a b wt : Nat) (I : jj_I) : Bool := f_fw (f_opn I) (f_lg a b) (f_du a b I) (f_lw a b) 0 wt
def f_lt (g : Nat → Bool) : Nat → Int32
  | 0 => -1
  | m + 1 => if g m then nI m else f_lt g m
/-- the legs' days are 1 to 9 -/
def sfL (w H : Nat) (I : jj_I) : Prop := ∀ l, l + 1 < H → ∃ t, 1 ≤ t ∧ t ≤ 9 ∧ I (aLd w) l = nI t
def offA (a : Nat) : Prop := a < 143 ∨ 150 ≤ a
theorem jl_abs {a b : Nat} (ha : a < 1000) (hb : b < 1000) : (if 0 ≤ nI b - nI a then nI b - nI a else 0 - (nI b - nI a)) = nI (f_lw a b) := by
  unfold f_lw
  by_cases h : a < b
  · rw [if_pos h, pk_sub (by omega), if_pos (nI_pos' (by omega))]
  · rw [if_neg h]
    by_cases e : a = b
    · subst e
      rw [Int32.sub_self, if_pos (by decide), Nat.sub_self]; rfl
    · rw [if_neg (Int32.not_le.mpr (pk_sneg (by omega) (by omega)))]
      rw [show (0 : Int32) - (nI b - nI a) = nI a - nI b by first | (rw [Int32.zero_sub, Int32.neg_sub]) | (rw [Int32.sub_eq_add_neg 0, Int32.zero_add, Int32.neg_sub]) | grind, pk_sub (by omega)]
set_option maxHeartbeats 4000000 in
set_option maxRecDepth 100000 in
theorem c_arrives_x1 {l : Launch} (hfl : l.stackTraces = false) {D : jj_D} {n : Nat} {K : jj_K} {I : jj_I} {P : jj_P} {G : jj_G} (hly : ly K P) {H M B N d : Nat} {b : Int32} (hs : sf 0 H M B N I) (hd : I (aR 0) 0 = nI d) (hd2 : d < 2000000000) (h_b : b < 0 ∨ nI B ≤ b) :
    jj_Met l D yX5_arrives (jj_ws yX5_arrives cX5_arrives 4 (some .int)) { frames := 8, cells := 1, slots := 6, locals := 132 } [.ref 1, .int b] n K I P G jj_noR (jj_E "java/lang/IndexOutOfBoundsException" n K I P G) := by
  refine jj_of hfl (by decide +kernel) [some (.ref 1), some (.int b), none, none] rfl rfl ?_
  intro X hXl hX hSt
  have hH := hs.1.1
  have hH2 := hs.1.2
  have hM := hs.2.1.1
  have hM2 := hs.2.1.2
  have hB := hs.2.2.1.1
  have hB2 := hs.2.2.1.2
  have hN := hs.2.2.2.1.1
  have hN2 := hs.2.2.2.1.2
  refine jr_aload_n hX dX5_arrives_0 rfl ?_
  refine jr_iload_n hX dX5_arrives_1 rfl ?_
  exact jr_thr hX (jr_runV hX hSt kM_X5_112 (c_needBoat_x (jj_fl hX) hly h_b hB) rfl rfl (ly_kI hly) ⟨_, _, rfl, by decide⟩ dX5_arrives_2 rfl ⟨jj_b1 rfl, jj_b1 rfl⟩ rfl) rfl rfl (fun n1 hn => ⟨rfl, hn, rfl, rfl, rfl, rfl⟩)
set_option maxHeartbeats 4000000 in
set_option maxRecDepth 100000 in
theorem c_arrives_ok {l : Launch} (hfl : l.stackTraces = false) {D : jj_D} {n : Nat} {K : jj_K} {I : jj_I} {P : jj_P} {G : jj_G} (hly : ly K P) {H M B N d : Nat} {b : Nat} (hs : sf 0 H M B N I) (hd : I (aR 0) 0 = nI d) (hd2 : d < 2000000000) (h_b : b < B) :
    jj_Met l D yX5_arrives (jj_ws yX5_arrives cX5_arrives 4 (some .int)) { frames := 8, cells := 0, slots := 0, locals := 132 } [.ref 1, .int (nI b)] n K I P G (jj_RS (fun r J => r = some (.int (f_fs (g_ar H M B N b d I) 201 0)) ∧ ∀ a, offT a → J a = I a) n K P G) jj_noX := by
  refine jj_of hfl (by decide +kernel) [some (.ref 1), some (.int (nI b)), none, none] rfl rfl ?_
  intro X hXl hX hSt
  have hH := hs.1.1
  have hH2 := hs.1.2
  have hM := hs.2.1.1
  have hM2 := hs.2.1.2
  have hB := hs.2.2.1.1
  have hB2 := hs.2.2.1.2
  have hN := hs.2.2.2.1.1
  have hN2 := hs.2.2.2.1.2
  have dk := ds_ok (sf_cp hs) (by omega) (show (f_cpW M B N I) (aR 1) 0 = nI d by rw [cp_1 hM2 hN2 hB2 (by decide), cpR_R.1]; exact hd)
  have ho : ∀ k a, offT a → f_ds 1 H B N d (f_cpW M B N I) k a = I a := fun k a ha => ((dk k).2.2 a ha).trans (cp_off hM2 hB2 hN2 ha)
  refine jr_aload_n hX dX5_arrives_0 rfl ?_
  refine jr_iload_n hX dX5_arrives_1 rfl ?_
  refine jr_void (jr_runV hX hSt kM_X5_112 (c_needBoat_ok (jj_fl hX) hly h_b hB (by omega)) rfl rfl (ly_kI hly) ⟨_, _, rfl, by decide⟩ dX5_arrives_2 rfl ⟨jj_b1 rfl, jj_b1 rfl⟩ rfl) ?_
  refine jr_aload_n hX dX5_arrives_5 rfl ?_
  refine jr_getr hX kF_X5_21 rfl (ly_kI hly) (ly_p5_2 hly) dX5_arrives_6 ?_
  refine jr_aload_n hX dX5_arrives_9 rfl ?_
  refine jr_getr hX kF_X5_12 rfl (ly_kI hly) (ly_p5_0 hly) dX5_arrives_10 ?_
  refine jr_void (jr_runV hX hSt kM_X5_239 (c_X4_copyFrom (jj_fl hX) hly hM hM2 hB hB2 hN hN2) rfl rfl (ly_kW hly (by first | assumption | omega)) ⟨_, _, rfl, by decide⟩ dX5_arrives_13 rfl ⟨jj_b1 rfl, jj_b1 rfl⟩ rfl) ?_
  refine jr_aload_n hX dX5_arrives_16 rfl ?_
  refine jr_getr hX kF_X5_21 rfl (ly_kI hly) (ly_p5_2 hly) dX5_arrives_17 ?_
  refine jr_getr hX kF_X5_103 rfl (ly_kW hly (by first | assumption | omega)) (ly_p4_5 hly (by first | assumption | omega)) dX5_arrives_20 ?_
  refine jr_iload_n hX dX5_arrives_23 rfl ?_
  refine jr_aBs hX hly (by first | assumption | omega) (by first | with_reducible rfl | with_reducible assumption | rfl) (by first | assumption | omega) dX5_arrives_24 ?_
  refine jr_astore_n hX dX5_arrives_25 rfl ?_
  refine jr_iconst (v := 0) hX dX5_arrives_26 (by decide) ?_
  refine jr_istore_n hX dX5_arrives_27 rfl ?_
  have hloop : ∀ k, k ≤ 201 → f_fs (g_ar H M B N b d I) 201 0 = f_fs (g_ar H M B N b d I) (201 - k) k → jj_J X D 4 0 0 (jj_MQ X D { frames := 8, cells := 0, slots := 0, locals := 132 } (jj_RS (fun r J => r = some (.int (f_fs (g_ar H M B N b d I) 201 0)) ∧ ∀ a, offT a → J a = I a) n K P G) jj_noX) (n) (K) ((f_ds 1 H B N d (f_cpW M B N I) k)) (P) (G) 28 [some (.ref 1), some (.int (nI b)), some (.ref (aB 1 b)), some (.int (nI k))] [] := by
    refine jj_for (201) _ ?_ (fun k hk ih => ?_)
    · intro hv
      refine jr_iload_n hX dX5_arrives_28 rfl ?_
      refine jr_sipush (v := 200) hX dX5_arrives_29 (by decide) ?_
      refine jr_icmp_gt (tgt := 67) hX dX5_arrives_32 (by decide) (fun c_32 => ?_) (fun c_32 => absurd (by decide) c_32)
      refine jr_iconst (v := -1) hX dX5_arrives_67 (by decide) ?_
      exact jr_iret hX dX5_arrives_68 rfl rfl ⟨⟨by rw [hv]; rfl, ho _⟩, rfl, rfl, rfl, rfl⟩
    · intro hv
      refine jr_iload_n hX dX5_arrives_28 rfl ?_
      refine jr_sipush (v := 200) hX dX5_arrives_29 (by decide) ?_
      refine jr_icmp_gt (tgt := 67) hX dX5_arrives_32 (by decide) (fun c_32 => absurd c_32 (nI_nlt (by omega) (by omega) : ¬ nI 200 < nI k)) (fun c_32 => ?_)
      refine jr_aload_n hX dX5_arrives_35 rfl ?_
      refine jr_geti hX kF_X5_148 rfl (ly_kB hly (by first | assumption | omega) (by first | assumption | omega)) dX5_arrives_36 ?_
      refine jr_iconst (v := 3) hX dX5_arrives_39 (by decide) ?_
      refine jr_icmp_ne (tgt := 45) hX dX5_arrives_40 (by decide) (fun c_40 => ?_) (fun c_40 => ?_)
      · refine jr_aload_n hX dX5_arrives_45 rfl ?_
        refine jr_ret (jr_runV hX hSt kM_X5_243 (c_X0_isAtGoal (jj_fl hX) hly (by omega) (by omega)) rfl rfl (ly_kB hly (by first | assumption | omega) (by first | assumption | omega)) ⟨_, _, rfl, by decide⟩ dX5_arrives_46 rfl ⟨jj_b1 rfl, jj_b1 rfl⟩ rfl) ?_
        refine jr_if_eq (tgt := 54) hX dX5_arrives_49 (by decide) (fun c_49 => ?_) (fun c_49 => ?_)
        · refine jr_aload_n hX dX5_arrives_54 rfl ?_
          refine jr_getr hX kF_X5_21 rfl (ly_kI hly) (ly_p5_2 hly) dX5_arrives_55 ?_
          refine jr_void (jr_runV hX hSt kM_X5_224 (c_X4_passDay (jj_fl hX) hly (by omega) (dk k).1 (dk k).2.1 (by omega)) rfl rfl (ly_kW hly (by first | assumption | omega)) ⟨_, _, rfl, by decide⟩ dX5_arrives_58 rfl ⟨jj_b1 rfl, jj_b1 rfl⟩ rfl) ?_
          refine jr_iinc hX dX5_arrives_61 rfl (by first | with_reducible exact jj_inc _ | with_reducible exact jj_inc1 _) rfl ?_
          refine jr_goto (tgt := 28) hX dX5_arrives_64 (by decide) ?_
          exact ih (by rw [hv, show 201 - k = (201 - (k + 1)) + 1 by omega, f_fs_n (by unfold g_ar; dsimp only; rw [if_neg c_40, if_neg (jl_00 c_49)])])
        · refine jr_iload_n hX dX5_arrives_52 rfl ?_
          exact jr_iret hX dX5_arrives_53 rfl rfl ⟨⟨by rw [hv, show 201 - k = (201 - (k + 1)) + 1 by omega, f_fs_s (show g_ar H M B N b d I k = some (nI k) by unfold g_ar; dsimp only; rw [if_neg c_40, if_pos (jl_01 c_49)])], ho _⟩, rfl, rfl, rfl, rfl⟩
      · refine jr_iconst (v := -1) hX dX5_arrives_43 (by decide) ?_
        exact jr_iret hX dX5_arrives_44 rfl rfl ⟨⟨by rw [hv, show 201 - k = (201 - (k + 1)) + 1 by omega, f_fs_s (show g_ar H M B N b d I k = some (-1) by unfold g_ar; dsimp only; rw [if_pos c_40])], ho _⟩, rfl, rfl, rfl, rfl⟩
  exact hloop 0 (Nat.zero_le _) rfl
set_option maxHeartbeats 4000000 in
set_option maxRecDepth 100000 in
theorem c_hullBehind {l : Launch} (hfl : l.stackTraces = false) {D : jj_D} {n : Nat} {K : jj_K} {I : jj_I} {P : jj_P} {G : jj_G} (hly : ly K P) {H M B N d : Nat} {b g y : Nat} (hs : sf 0 H M B N I) (hd : I (aR 0) 0 = nI d) (hd2 : d < 2000000000) (hb : b < B) (hg : g < H) (hy : y ≤ 120) :
    jj_Met l D yX5_hullBehind (jj_ws yX5_hullBehind cX5_hullBehind 6 (some .int)) { frames := 5, cells := 0, slots := 0, locals := 105 } [.ref 1, .int (nI b), .int (nI g), .int (nI y)] n K I P G (jj_RS (fun r J => r = some (.int (f_hl H M B N b d y g I)) ∧ ∀ a, offT a → J a = I a) n K P G) jj_noX := by
  refine jj_of hfl (by decide +kernel) [some (.ref 1), some (.int (nI b)), some (.int (nI g)), some (.int (nI y)), none, none] rfl rfl ?_
  intro X hXl hX hSt
  have hH := hs.1.1
  have hH2 := hs.1.2
  have hM := hs.2.1.1
  have hM2 := hs.2.1.2
  have hB := hs.2.2.1.1
  have hB2 := hs.2.2.1.2
  have hN := hs.2.2.2.1.1
  have hN2 := hs.2.2.2.1.2
  have q0 := sf_cp hs
  have q1 := sf_gl q0 hb hg
  have q2 : sf 1 H M B N (f_hb0 M B N b g I) := sf_bg q1 hb
  have q3 : f_hb0 M B N b g I (aR 1) 0 = nI d := by unfold f_hb0; rw [bg_off (by simp only [aR, aB]; omega), jj_u_ne (by simp only [aR, aB]; omega), cp_1 hM2 hN2 hB2 (by decide), cpR_R.1]; exact hd
  have q4 : ∀ a, offT a → f_hb0 M B N b g I a = I a := fun a ha => by unfold f_hb0; unfold offT at ha; rw [bg_off (by simp only [aB]; omega), jj_u_ne (by simp only [aB]; omega)]; exact cp_off hM2 hB2 hN2 ha
  refine jr_aload_n hX dX5_hullBehind_0 rfl ?_
  refine jr_getr hX kF_X5_21 rfl (ly_kI hly) (ly_p5_2 hly) dX5_hullBehind_1 ?_
  refine jr_aload_n hX dX5_hullBehind_4 rfl ?_
  refine jr_getr hX kF_X5_12 rfl (ly_kI hly) (ly_p5_0 hly) dX5_hullBehind_5 ?_
  refine jr_void (jr_runV hX hSt kM_X5_239 (c_X4_copyFrom (jj_fl hX) hly hM hM2 hB hB2 hN hN2) rfl rfl (ly_kW hly (by first | assumption | omega)) ⟨_, _, rfl, by decide⟩ dX5_hullBehind_8 rfl ⟨jj_b1 rfl, jj_b1 rfl⟩ rfl) ?_
  refine jr_aload_n hX dX5_hullBehind_11 rfl ?_
  refine jr_getr hX kF_X5_21 rfl (ly_kI hly) (ly_p5_2 hly) dX5_hullBehind_12 ?_
  refine jr_getr hX kF_X5_103 rfl (ly_kW hly (by first | assumption | omega)) (ly_p4_5 hly (by first | assumption | omega)) dX5_hullBehind_15 ?_
  refine jr_iload_n hX dX5_hullBehind_18 rfl ?_
  refine jr_aBs hX hly (by first | assumption | omega) (by first | with_reducible rfl | with_reducible assumption | rfl) (by first | assumption | omega) dX5_hullBehind_19 ?_
  refine jr_astore hX dX5_hullBehind_20 rfl ?_
  refine jr_aload hX dX5_hullBehind_22 rfl ?_
  refine jr_iload_n hX dX5_hullBehind_24 rfl ?_
  refine jr_puti hX kF_X5_156 rfl (ly_kB hly (by first | assumption | omega) (by first | assumption | omega)) aB_0 dX5_hullBehind_25 ?_
  refine jr_aload_n hX dX5_hullBehind_28 rfl ?_
  refine jr_getr hX kF_X5_21 rfl (ly_kI hly) (ly_p5_2 hly) dX5_hullBehind_29 ?_
  refine jr_aload hX dX5_hullBehind_32 rfl ?_
  refine jr_void (jr_runV hX hSt kM_X5_352 (c_X4_berthAtGoal (jj_fl hX) hly (by omega) q1.2.2.1.1 hB2 (by omega) (sf_hh q1 hb)) rfl rfl (ly_kW hly (by first | assumption | omega)) ⟨_, _, rfl, by decide⟩ dX5_hullBehind_34 rfl ⟨jj_b1 rfl, jj_b1 rfl⟩ rfl) ?_
  refine jr_iconst (v := 0) hX dX5_hullBehind_37 (by decide) ?_
  refine jr_istore hX dX5_hullBehind_38 rfl ?_
  have hloop : ∀ k, k ≤ y → ∀ S : jj_I, sf 1 H M B N S → S (aR 1) 0 = nI (d + k) → (∀ a, offT a → S a = I a) → f_hbs H B N b d y 0 (f_hb0 M B N b g I) = f_hbs H B N b d (y - k) k S → jj_J X D 6 0 0 (jj_MQ X D { frames := 5, cells := 0, slots := 0, locals := 105 } (jj_RS (fun r J => r = some (.int (f_hl H M B N b d y g I)) ∧ ∀ a, offT a → J a = I a) n K P G) jj_noX) (n) (K) (S) (P) (G) 40 [some (.ref 1), some (.int (nI b)), some (.int (nI g)), some (.int (nI y)), some (.ref (aB 1 b)), some (.int (nI k))] [] := by
    refine jj_for (y) _ ?_ (fun k hk ih => ?_)
    · intro S s1 s2 s3 s4
      refine jr_iload hX dX5_hullBehind_40 rfl ?_
      refine jr_iload_n hX dX5_hullBehind_42 rfl ?_
      refine jr_icmp_ge (tgt := 77) hX dX5_hullBehind_43 (by decide) (fun c_43 => ?_) (fun c_43 => absurd (nI_le (Nat.le_refl _) (by omega)) c_43)
      refine jr_aload hX dX5_hullBehind_77 rfl ?_
      refine jr_geti hX kF_X5_168 rfl (ly_kB hly (by first | assumption | omega) (by first | assumption | omega)) dX5_hullBehind_79 ?_
      exact jr_iret hX dX5_hullBehind_82 rfl rfl ⟨⟨by unfold f_hl; rw [s4, Nat.sub_self]; rfl, s3⟩, rfl, rfl, rfl, rfl⟩
    · intro S s1 s2 s3 s4
      refine jr_iload hX dX5_hullBehind_40 rfl ?_
      refine jr_iload_n hX dX5_hullBehind_42 rfl ?_
      refine jr_icmp_ge (tgt := 77) hX dX5_hullBehind_43 (by decide) (fun c_43 => absurd c_43 (nI_ge (by assumption) (by omega))) (fun c_43 => ?_)
      refine jr_aload hX dX5_hullBehind_46 rfl ?_
      refine jr_geti hX kF_X5_148 rfl (ly_kB hly (by first | assumption | omega) (by first | assumption | omega)) dX5_hullBehind_48 ?_
      refine jr_iconst (v := 3) hX dX5_hullBehind_51 (by decide) ?_
      refine jr_icmp_eq (tgt := 77) hX dX5_hullBehind_52 (by decide) (fun c_52 => ?_) (fun c_52 => ?_)
      · refine jr_aload hX dX5_hullBehind_77 rfl ?_
        refine jr_geti hX kF_X5_168 rfl (ly_kB hly (by first | assumption | omega) (by first | assumption | omega)) dX5_hullBehind_79 ?_
        exact jr_iret hX dX5_hullBehind_82 rfl rfl ⟨⟨by unfold f_hl; rw [s4, show y - k = (y - (k + 1)) + 1 by omega]; simp only [f_hbs, if_pos c_52], s3⟩, rfl, rfl, rfl, rfl⟩
      · refine jr_aload_n hX dX5_hullBehind_55 rfl ?_
        refine jr_getr hX kF_X5_21 rfl (ly_kI hly) (ly_p5_2 hly) dX5_hullBehind_56 ?_
        have t1 := sf_pd (d := d + k) s1
        have t2 := pd_dy s1 (by omega) s2
        have t3 : sf 1 H M B N (f_hst H B N b d k S) := sf_bg t1 hb
        have t4 : f_hst H B N b d k S (aR 1) 0 = nI (d + (k + 1)) := by unfold f_hst; rw [bg_off (by simp only [aR, aB]; omega)]; exact t2
        have t5 : ∀ a, offT a → f_hst H B N b d k S a = I a := fun a ha => by unfold f_hst; have ha2 := ha; unfold offT at ha; rw [bg_off (by simp only [aB]; omega), pd_off s1 (by omega) ha]; exact s3 a ha2
        refine jr_void (jr_runV hX hSt kM_X5_224 (c_X4_passDay (jj_fl hX) hly (by omega) s1 s2 (by omega)) rfl rfl (ly_kW hly (by first | assumption | omega)) ⟨_, _, rfl, by decide⟩ dX5_hullBehind_59 rfl ⟨jj_b1 rfl, jj_b1 rfl⟩ rfl) ?_
        refine jr_aload_n hX dX5_hullBehind_62 rfl ?_
        refine jr_getr hX kF_X5_21 rfl (ly_kI hly) (ly_p5_2 hly) dX5_hullBehind_63 ?_
        refine jr_aload hX dX5_hullBehind_66 rfl ?_
        refine jr_void (jr_runV hX hSt kM_X5_352 (c_X4_berthAtGoal (jj_fl hX) hly (by omega) t1.2.2.1.1 hB2 (by omega) (sf_hh t1 hb)) rfl rfl (ly_kW hly (by first | assumption | omega)) ⟨_, _, rfl, by decide⟩ dX5_hullBehind_68 rfl ⟨jj_b1 rfl, jj_b1 rfl⟩ rfl) ?_
        refine jr_iinc hX dX5_hullBehind_71 rfl (by first | with_reducible exact jj_inc _ | with_reducible exact jj_inc1 _) rfl ?_
        refine jr_goto (tgt := 40) hX dX5_hullBehind_74 (by decide) ?_
        exact ih _ t3 t4 t5 (by rw [s4, show y - k = (y - (k + 1)) + 1 by omega]; simp only [f_hbs, if_neg c_52]; rfl)
  exact hloop 0 (Nat.zero_le _) _ q2 q3 q4 rfl
set_option maxHeartbeats 4000000 in
set_option maxRecDepth 100000 in
theorem c_advise_x1 {l : Launch} (hfl : l.stackTraces = false) {D : jj_D} {n : Nat} {K : jj_K} {I : jj_I} {P : jj_P} {G : jj_G} (hly : ly K P) {H M B N d : Nat} {b : Int32} {y : Int32} (hs : sf 0 H M B N I) (hd : I (aR 0) 0 = nI d) (hd2 : d < 2000000000) (h_b : b < 0 ∨ nI B ≤ b) :
    jj_Met l D yX5_advise (jj_ws yX5_advise cX5_advise 7 (some .int)) { frames := 8, cells := 1, slots := 6, locals := 132 } [.ref 1, .int b, .int y] n K I P G jj_noR (jj_E "java/lang/IndexOutOfBoundsException" n K I P G) := by
  refine jj_of hfl (by decide +kernel) [some (.ref 1), some (.int b), some (.int y), none, none, none, none] rfl rfl ?_
  intro X hXl hX hSt
  have hH := hs.1.1
  have hH2 := hs.1.2
  have hM := hs.2.1.1
  have hM2 := hs.2.1.2
  have hB := hs.2.2.1.1
  have hB2 := hs.2.2.1.2
  have hN := hs.2.2.2.1.1
  have hN2 := hs.2.2.2.1.2
  refine jr_aload_n hX dX5_advise_0 rfl ?_
  refine jr_iload_n hX dX5_advise_1 rfl ?_
  exact jr_thr hX (jr_runV hX hSt kM_X5_112 (c_needBoat_x (jj_fl hX) hly h_b hB) rfl rfl (ly_kI hly) ⟨_, _, rfl, by decide⟩ dX5_advise_2 rfl ⟨jj_b1 rfl, jj_b1 rfl⟩ rfl) rfl rfl (fun n1 hn => ⟨rfl, hn, rfl, rfl, rfl, rfl⟩)
set_option maxHeartbeats 4000000 in
set_option maxRecDepth 100000 in
theorem c_advise_x2 {l : Launch} (hfl : l.stackTraces = false) {D : jj_D} {n : Nat} {K : jj_K} {I : jj_I} {P : jj_P} {G : jj_G} (hly : ly K P) {H M B N d : Nat} {b : Nat} {y : Int32} (hs : sf 0 H M B N I) (hd : I (aR 0) 0 = nI d) (hd2 : d < 2000000000) (h_b : b < B) (h_y : y < 1 ∨ 120 < y) :
    jj_Met l D yX5_advise (jj_ws yX5_advise cX5_advise 7 (some .int)) { frames := 8, cells := 1, slots := 6, locals := 132 } [.ref 1, .int (nI b), .int y] n K I P G jj_noR (jj_E "java/lang/IllegalArgumentException" n K I P G) := by
  refine jj_of hfl (by decide +kernel) [some (.ref 1), some (.int (nI b)), some (.int y), none, none, none, none] rfl rfl ?_
  intro X hXl hX hSt
  have hH := hs.1.1
  have hH2 := hs.1.2
  have hM := hs.2.1.1
  have hM2 := hs.2.1.2
  have hB := hs.2.2.1.1
  have hB2 := hs.2.2.1.2
  have hN := hs.2.2.2.1.1
  have hN2 := hs.2.2.2.1.2
  refine jr_aload_n hX dX5_advise_0 rfl ?_
  refine jr_iload_n hX dX5_advise_1 rfl ?_
  refine jr_void (jr_runV hX hSt kM_X5_112 (c_needBoat_ok (jj_fl hX) hly h_b hB (by omega)) rfl rfl (ly_kI hly) ⟨_, _, rfl, by decide⟩ dX5_advise_2 rfl ⟨jj_b1 rfl, jj_b1 rfl⟩ rfl) ?_
  refine jr_iload_n hX dX5_advise_5 rfl ?_
  refine jr_iconst (v := 1) hX dX5_advise_6 (by decide) ?_
  refine jr_bipush (v := 120) hX dX5_advise_7 (by decide) ?_
  exact jr_thr hX (jr_runS hX hSt kM_X5_33 (c_needNumber_x (jj_fl hX) h_y) rfl rfl dX5_advise_9 rfl ⟨jj_b1 rfl, jj_b1 rfl⟩ rfl) rfl rfl (fun n1 hn => ⟨rfl, hn, rfl, rfl, rfl, rfl⟩)
set_option maxHeartbeats 4000000 in
set_option maxRecDepth 100000 in
theorem c_advise_ok {l : Launch} (hfl : l.stackTraces = false) {D : jj_D} {n : Nat} {K : jj_K} {I : jj_I} {P : jj_P} {G : jj_G} (hly : ly K P) {H M B N d : Nat} {b y : Nat} (hs : sf 0 H M B N I) (hd : I (aR 0) 0 = nI d) (hd2 : d < 2000000000) (h_b : b < B) (h_y : 1 ≤ y ∧ y ≤ 120) :
    jj_Met l D yX5_advise (jj_ws yX5_advise cX5_advise 7 (some .int)) { frames := 8, cells := 0, slots := 0, locals := 132 } [.ref 1, .int (nI b), .int (nI y)] n K I P G (jj_RS (fun r J => (∃ Js : Nat → jj_I, (∀ k a, offT a → Js k a = I a) ∧ r = some (.int (f_av (fun j => f_hl H M B N b d y j (Js j)) H).1)) ∧ ∀ a, offT a → J a = I a) n K P G) jj_noX := by
  refine jj_of hfl (by decide +kernel) [some (.ref 1), some (.int (nI b)), some (.int (nI y)), none, none, none, none] rfl rfl ?_
  intro X hXl hX hSt
  have hH := hs.1.1
  have hH2 := hs.1.2
  have hM := hs.2.1.1
  have hM2 := hs.2.1.2
  have hB := hs.2.2.1.1
  have hB2 := hs.2.2.1.2
  have hN := hs.2.2.2.1.1
  have hN2 := hs.2.2.2.1.2
  refine jr_aload_n hX dX5_advise_0 rfl ?_
  refine jr_iload_n hX dX5_advise_1 rfl ?_
  refine jr_void (jr_runV hX hSt kM_X5_112 (c_needBoat_ok (jj_fl hX) hly h_b hB (by omega)) rfl rfl (ly_kI hly) ⟨_, _, rfl, by decide⟩ dX5_advise_2 rfl ⟨jj_b1 rfl, jj_b1 rfl⟩ rfl) ?_
  refine jr_iload_n hX dX5_advise_5 rfl ?_
  refine jr_iconst (v := 1) hX dX5_advise_6 (by decide) ?_
  refine jr_bipush (v := 120) hX dX5_advise_7 (by decide) ?_
  refine jr_void (jr_runS hX hSt kM_X5_33 (c_needNumber_ok (jj_fl hX) (show nI 1 ≤ nI y ∧ nI y ≤ nI 120 from ⟨nI_le h_y.1 (by omega), nI_le h_y.2 (by omega)⟩)) rfl rfl dX5_advise_9 rfl ⟨jj_b1 rfl, jj_b1 rfl⟩ rfl) ?_
  refine jr_iconst (v := -1) hX dX5_advise_12 (by decide) ?_
  refine jr_istore_n hX dX5_advise_13 rfl ?_
  refine jr_iconst (v := 0) hX dX5_advise_14 (by decide) ?_
  refine jr_istore hX dX5_advise_15 rfl ?_
  refine jr_iconst (v := 0) hX dX5_advise_17 (by decide) ?_
  refine jr_istore hX dX5_advise_18 rfl ?_
  have hloop : ∀ k, k ≤ H → ∀ (J : jj_I) (Js : Nat → jj_I), (∀ a, offT a → J a = I a) → (∀ k a, offT a → Js k a = I a) → jj_J X D 7 0 0 (jj_MQ X D { frames := 8, cells := 0, slots := 0, locals := 132 } (jj_RS (fun r J => (∃ Js : Nat → jj_I, (∀ k a, offT a → Js k a = I a) ∧ r = some (.int (f_av (fun j => f_hl H M B N b d y j (Js j)) H).1)) ∧ ∀ a, offT a → J a = I a) n K P G) jj_noX) (n) (K) (J) (P) (G) 20 [some (.ref 1), some (.int (nI b)), some (.int (nI y)), some (.int (f_av (fun j => f_hl H M B N b d y j (Js j)) k).1), some (.int (f_av (fun j => f_hl H M B N b d y j (Js j)) k).2), some (.int (nI k)), none] [] := by
    refine jj_for (H) _ ?_ (fun k hk ih => ?_)
    · intro J Js o1 o2
      have s1 := sf_off hs o1
      refine jr_iload hX dX5_advise_20 rfl ?_
      refine jr_aload_n hX dX5_advise_22 rfl ?_
      refine jr_getr hX kF_X5_20 rfl (ly_kI hly) (ly_p5_1 hly) dX5_advise_23 ?_
      refine jr_geti hX kF_X5_43 rfl (ly_kR hly (by first | assumption | omega)) dX5_advise_26 ?_
      refine jr_icmp_ge (tgt := 62) hX dX5_advise_29 (by decide) (fun c_29 => ?_) (fun c_29 => absurd (by rw [s1.1.1]; exact nI_le (Nat.le_refl _) (by omega)) c_29)
      refine jr_iload_n hX dX5_advise_62 rfl ?_
      exact jr_iret hX dX5_advise_63 rfl rfl ⟨⟨⟨Js, o2, rfl⟩, o1⟩, rfl, rfl, rfl, rfl⟩
    · intro J Js o1 o2
      have s1 := sf_off hs o1
      refine jr_iload hX dX5_advise_20 rfl ?_
      refine jr_aload_n hX dX5_advise_22 rfl ?_
      refine jr_getr hX kF_X5_20 rfl (ly_kI hly) (ly_p5_1 hly) dX5_advise_23 ?_
      refine jr_geti hX kF_X5_43 rfl (ly_kR hly (by first | assumption | omega)) dX5_advise_26 ?_
      refine jr_icmp_ge (tgt := 62) hX dX5_advise_29 (by decide) (fun c_29 => absurd c_29 (by rw [s1.1.1]; exact nI_ge (by assumption) (by omega))) (fun c_29 => ?_)
      refine jr_aload_n hX dX5_advise_32 rfl ?_
      refine jr_iload_n hX dX5_advise_33 rfl ?_
      refine jr_iload hX dX5_advise_34 rfl ?_
      refine jr_iload_n hX dX5_advise_36 rfl ?_
      refine jr_rel (jr_runV hX hSt kM_X5_254 (c_hullBehind (jj_fl hX) hly s1 (by rw [o1 _ (Or.inl (by decide))]; exact hd) hd2 h_b hk h_y.2) rfl rfl (ly_kI hly) ⟨_, _, rfl, by decide⟩ dX5_advise_37 rfl ⟨jj_b1 rfl, jj_b1 rfl⟩ rfl) ?_
      rintro r I1 ⟨rfl, o9⟩
      have o3 : ∀ a, offT a → I1 a = I a := fun a ha => (o9 a ha).trans (o1 a ha)
      have o4 : ∀ j a, offT a → (fun j => if j = k then J else Js j) j a = I a := fun j a ha => by dsimp only; split; exact o1 a ha; exact o2 j a ha
      have e6 : f_av (fun j => f_hl H M B N b d y j (if j = k then J else Js j)) k = f_av (fun j => f_hl H M B N b d y j (Js j)) k := f_av_cg (fun j hj => by rw [if_neg (show ¬ j = k by omega)])
      have e7 : f_hl H M B N b d y k (if k = k then J else Js k) = f_hl H M B N b d y k J := by rw [if_pos rfl]
      have e8 : f_av (fun j => f_hl H M B N b d y j (if j = k then J else Js j)) (k + 1) = if (f_av (fun j => f_hl H M B N b d y j (Js j)) k).2 < f_hl H M B N b d y k J then (nI k, f_hl H M B N b d y k J) else f_av (fun j => f_hl H M B N b d y j (Js j)) k := by
        show (if (f_av (fun j => f_hl H M B N b d y j (if j = k then J else Js j)) k).2 < f_hl H M B N b d y k (if k = k then J else Js k) then (nI k, f_hl H M B N b d y k (if k = k then J else Js k)) else f_av (fun j => f_hl H M B N b d y j (if j = k then J else Js j)) k) = _
        rw [e6, e7]
      simp only [Option.toList, List.cons_append, List.nil_append]
      refine jr_istore hX dX5_advise_40 rfl ?_
      refine jr_iload hX dX5_advise_42 rfl ?_
      refine jr_iload hX dX5_advise_44 rfl ?_
      refine jr_icmp_le (tgt := 56) hX dX5_advise_46 (by decide) (fun c_46 => ?_) (fun c_46 => ?_)
      · refine jr_iinc hX dX5_advise_56 rfl (by first | with_reducible exact jj_inc _ | with_reducible exact jj_inc1 _) rfl ?_
        refine jr_goto (tgt := 20) hX dX5_advise_59 (by decide) ?_
        have e9 := ih I1 (fun j => if j = k then J else Js j) o3 o4
        rw [e8, if_neg (Int32.not_lt.mpr c_46)] at e9
        exact jr_forget (fun _ _ h => h) (fun i v h => by rcases i with _ | _ | _ | _ | _ | _ | _ | i <;> first | exact h | exact absurd h (by simp)) (e9)
      · refine jr_iload hX dX5_advise_49 rfl ?_
        refine jr_istore_n hX dX5_advise_51 rfl ?_
        refine jr_iload hX dX5_advise_52 rfl ?_
        refine jr_istore hX dX5_advise_54 rfl ?_
        refine jr_iinc hX dX5_advise_56 rfl (by first | with_reducible exact jj_inc _ | with_reducible exact jj_inc1 _) rfl ?_
        refine jr_goto (tgt := 20) hX dX5_advise_59 (by decide) ?_
        have e9 := ih I1 (fun j => if j = k then J else Js j) o3 o4
        rw [e8, if_pos (Int32.not_le.mp c_46)] at e9
        exact jr_forget (fun _ _ h => h) (fun i v h => by rcases i with _ | _ | _ | _ | _ | _ | _ | i <;> first | exact h | exact absurd h (by simp)) (e9)
  exact hloop 0 (Nat.zero_le _) I (fun _ => I) (fun _ _ => rfl) (fun _ _ _ => rfl)
