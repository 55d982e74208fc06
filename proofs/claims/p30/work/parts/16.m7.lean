theorem bg_off {w b B a : Nat} {I : jj_I} (h : a ≠ aB w b) : f_bg w b B I a = I a := by
  unfold f_bg
  split
  · exact jj_u_ne h
  · rfl
theorem sf_bg {w H M B N b C : Nat} {I : jj_I} (hs : sf w H M B N I) (hb : b < B) : sf w H M B N (f_bg w b C I) := by
  have hB2 := hs.2.2.1.2
  refine sf_bo (k := b) hs (by omega) (fun a h1 h2 h3 => bg_off h1) (fun _ => ?_)
  have h := hs.2.2.2.2.1 b hb
  unfold f_bg
  split
  · rename_i c
    obtain ⟨⟨o, ho, eo⟩, hp, h4, hl, hg⟩ := h
    unfold sfB
    simp only [jj_u, true_and]
    exact ⟨⟨o, ho, by simpa using eo⟩, by simp, fun _ => by simpa using h4 (by rw [c.1]; decide), by simp, by simpa using hg⟩
  · exact h
theorem sf_gl {w H M B N b g : Nat} {I : jj_I} (hs : sf w H M B N I) (hb : b < B) (hg : g < H) : sf w H M B N (jj_u I (aB w b) 6 (nI g)) := by
  have hB2 := hs.2.2.1.2
  refine sf_bo (k := b) hs (by omega) (fun a h1 h2 h3 => jj_u_ne h1) (fun _ => ?_)
  obtain ⟨⟨o, ho, eo⟩, hp, h4, hl, hg0⟩ := hs.2.2.2.2.1 b hb
  unfold sfB
  simp only [jj_u, true_and]
  exact ⟨⟨o, ho, by simpa using eo⟩, by simpa using hp, by simpa using h4, by simpa using hl, ⟨g, hg, by simp⟩⟩
theorem sf_off {H M B N : Nat} {I J : jj_I} (hs : sf 0 H M B N I) (ho : ∀ a, offT a → J a = I a) : sf 0 H M B N J := by
  obtain ⟨⟨h1, h1'⟩, ⟨h2, h2'⟩, ⟨h3, h3'⟩, ⟨h4, h4'⟩, h5, h6⟩ := hs
  have eR : J (aR 0) = I (aR 0) := ho _ (Or.inl (by decide))
  have eW : J (aW 0) = I (aW 0) := ho _ (Or.inl (by decide))
  exact ⟨⟨by rw [eR]; exact h1, h1'⟩, ⟨by rw [eW]; exact h2, h2'⟩, ⟨by rw [eW]; exact h3, h3'⟩, ⟨by rw [eW]; exact h4, h4'⟩, fun i hi => sfB_cg (ho _ (Or.inl (by simp only [aB]; omega))) (h5 i hi), fun i hi => sfD_cg (ho _ (Or.inl (by simp only [aD]; omega))) (h6 i hi)⟩
theorem sf_hh {w H M B N b : Nat} {I : jj_I} (hs : sf w H M B N I) (hb : b < B) : I (aB w b) 3 = 0 → I (aB w b) 4 = nI (nv (I (aB w b) 4)) ∧ nv (I (aB w b) 4) < 8 := fun h0 => by
  obtain ⟨-, -, h4, -⟩ := hs.2.2.2.2.1 b hb
  obtain ⟨h, hh, eh⟩ := h4 (by rw [h0]; decide)
  have := hs.1.2
  rw [eh, nv_nI (by omega)]
  exact ⟨rfl, by omega⟩
def f_hst (H B N b d j : Nat) (S : jj_I) : jj_I := f_bg 1 b B (f_pd 1 H B N (d + j) S)
def f_hb0 (M B N b g : Nat) (I : jj_I) : jj_I := f_bg 1 b B (jj_u (f_cpW M B N I) (aB 1 b) 6 (nI g))
def f_hbs (H B N b d : Nat) : Nat → Nat → jj_I → jj_I
  | 0, _, S => S
  | m + 1, k, S => if S (aB 1 b) 3 = 3 then S else f_hbs H B N b d m (k + 1) (f_hst H B N b d k S)
def f_hl (H M B N b d y g : Nat) (I : jj_I) : Int32 := f_hbs H B N b d y 0 (f_hb0 M B N b g I) (aB 1 b) 1
def f_av (hl : Nat → Int32) : Nat → Int32 × Int32
  | 0 => (-1, 0)
  | k + 1 => if (f_av hl k).2 < hl k then (nI k, hl k) else f_av hl k
theorem f_av_cg {h g : Nat → Int32} : ∀ {n : Nat}, (∀ k, k < n → h k = g k) → f_av h n = f_av g n
  | 0, _ => rfl
  | n + 1, e => by
    have e1 := f_av_cg (h := h) (g := g) (n := n) (fun k hk => e k (by omega))
    simp only [f_av]
    rw [e1, e n (by omega)]
def f_ao (op : Nat → Bool) (d0 : Nat) : Nat → Bool
  | 0 => true
  | n + 1 => f_ao op d0 n && op (d0 + n + 1)
theorem f_ao_f {op : Nat → Bool} {d0 j : Nat} (h : op (d0 + j + 1) = false) : ∀ {n : Nat}, j < n → f_ao op d0 n = false
  | n + 1, hn => by
    simp only [f_ao]
    by_cases e : j = n
    · subst e; rw [h, Bool.and_false]
    · rw [f_ao_f h (show j < n by omega), Bool.false_and]
def f_fw (op : Nat → Nat → Bool) (lg dur : Nat → Nat) : Nat → Nat → Nat → Bool
  | 0, _, _ => true
  | m + 1, k, day => f_ao (op (lg k)) day (dur k) && f_fw op lg dur m (k + 1) (day + dur k)
def f_lg (a b k : Nat) : Nat := if a < b then a + k else a - 1 - k
def f_du (a b : Nat) (I : jj_I) (k : Nat) : Nat := nv (f_do 0 (f_lg a b k) (if a < b then 1 else 0) I)
def f_lw (a b : Nat) : Nat := if a < b then b - a else a - b
def f_opn (I : jj_I) (l dd : Nat) : Bool := decide (I (aAh l) dd ≤ 10)
def f_fwb (a b wt : Nat) (I : jj_I) : Bool := f_fw (f_opn I) (f_lg a b) (f_du a b I) (f_lw a b) 0 wt
def f_lt (g : Nat → Bool) : Nat → Int32
  | 0 => -1
  | m + 1 => if g m then nI m else f_lt g m
/-- the legs' days are 1 to 9 -/
def sfL (w H : Nat) (I : jj_I) : Prop := ∀ l, l + 1 < H → ∃ t, 1 ≤ t ∧ t ≤ 9 ∧ I (aLd w) l = nI t
def offA (a : Nat) : Prop := a < 143 ∨ 150 ≤ a
theorem jl_abs {a b : Nat} (ha : a < 1000) (hb : b < 1000) : (if 0 ≤ nI b - nI a then nI b - nI a else 0 - (nI b - nI a)) = nI (f_lw a b) := by
  unfold f_lw
  by_cases h : a < b
  · rw [if_pos h, pk_sub (by omega), if_pos (nI_pos' (by omega))]
  · rw [if_neg h]
    by_cases e : a = b
    · subst e
      rw [Int32.sub_self, if_pos (by decide), Nat.sub_self]; rfl
    · rw [if_neg (Int32.not_le.mpr (pk_sneg (by omega) (by omega)))]
      rw [show (0 : Int32) - (nI b - nI a) = nI a - nI b by first | (rw [Int32.zero_sub, Int32.neg_sub]) | (rw [Int32.sub_eq_add_neg 0, Int32.zero_add, Int32.neg_sub]) | grind, pk_sub (by omega)]
set_option maxHeartbeats 4000000 in
set_option maxRecDepth 100000 in
theorem c_arrives_ok {l : Launch} (hfl : l.stackTraces = false) {D : jj_D} {n : Nat} {K : jj_K} {I : jj_I} {P : jj_P} {G : jj_G} (hly : ly K P) {H M B N d : Nat} {b : Nat} (hs : sf 0 H M B N I) (hd : I (aR 0) 0 = nI d) (hd2 : d < 2000000000) (h_b : b < B) :
    jj_Met l D yX5_arrives (jj_ws yX5_arrives cX5_arrives 4 (some .int)) { frames := 8, cells := 0, slots := 0, locals := 132 } [.ref 1, .int (nI b)] n K I P G (jj_RS (fun r J => r = some (.int (f_fs (g_ar H M B N b d I) 201 0)) ∧ ∀ a, offT a → J a = I a) n K P G) jj_noX := by
  refine jj_of hfl (by decide +kernel) [some (.ref 1), some (.int (nI b)), none, none] rfl rfl ?_
  intro X hXl hX hSt
  have hH := hs.1.1
  have hH2 := hs.1.2
  have hM := hs.2.1.1
  have hM2 := hs.2.1.2
  have hB := hs.2.2.1.1
  have hB2 := hs.2.2.1.2
  have hN := hs.2.2.2.1.1
  have hN2 := hs.2.2.2.1.2
  have dk := ds_ok (sf_cp hs) (by omega) (show (f_cpW M B N I) (aR 1) 0 = nI d by rw [cp_1 hM2 hN2 hB2 (by decide), cpR_R.1]; exact hd)
  have ho : ∀ k a, offT a → f_ds 1 H B N d (f_cpW M B N I) k a = I a := fun k a ha => ((dk k).2.2 a ha).trans (cp_off hM2 hB2 hN2 ha)
  refine jr_aload_n hX dX5_arrives_0 rfl ?_
  refine jr_iload_n hX dX5_arrives_1 rfl ?_
  refine jr_void (jr_runV hX hSt kM_X5_112 (c_needBoat_ok (jj_fl hX) hly h_b hB (by omega)) rfl rfl (ly_kI hly) ⟨_, _, rfl, by decide⟩ dX5_arrives_2 rfl ⟨jj_b1 rfl, jj_b1 rfl⟩ rfl) ?_
  refine jr_aload_n hX dX5_arrives_5 rfl ?_
  refine jr_getr hX kF_X5_21 rfl (ly_kI hly) (ly_p5_2 hly) dX5_arrives_6 ?_
  refine jr_aload_n hX dX5_arrives_9 rfl ?_
  refine jr_getr hX kF_X5_12 rfl (ly_kI hly) (ly_p5_0 hly) dX5_arrives_10 ?_
  refine jr_void (jr_runV hX hSt kM_X5_239 (c_X4_copyFrom (jj_fl hX) hly hM hM2 hB hB2 hN hN2) rfl rfl (ly_kW hly (by first | assumption | omega)) ⟨_, _, rfl, by decide⟩ dX5_arrives_13 rfl ⟨jj_b1 rfl, jj_b1 rfl⟩ rfl) ?_
  refine jr_aload_n hX dX5_arrives_16 rfl ?_
  refine jr_getr hX kF_X5_21 rfl (ly_kI hly) (ly_p5_2 hly) dX5_arrives_17 ?_
  refine jr_getr hX kF_X5_103 rfl (ly_kW hly (by first | assumption | omega)) (ly_p4_5 hly (by first | assumption | omega)) dX5_arrives_20 ?_
  refine jr_iload_n hX dX5_arrives_23 rfl ?_
  refine jr_aBs hX hly (by first | assumption | omega) (by first | with_reducible rfl | with_reducible assumption | rfl) (by first | assumption | omega) dX5_arrives_24 ?_
  refine jr_astore_n hX dX5_arrives_25 rfl ?_
  refine jr_iconst (v := 0) hX dX5_arrives_26 (by decide) ?_
  refine jr_istore_n hX dX5_arrives_27 rfl ?_
  have hloop : ∀ k, k ≤ 201 → f_fs (g_ar H M B N b d I) 201 0 = f_fs (g_ar H M B N b d I) (201 - k) k → jj_J X D 4 0 0 (jj_MQ X D { frames := 8, cells := 0, slots := 0, locals := 132 } (jj_RS (fun r J => r = some (.int (f_fs (g_ar H M B N b d I) 201 0)) ∧ ∀ a, offT a → J a = I a) n K P G) jj_noX) (n) (K) ((f_ds 1 H B N d (f_cpW M B N I) k)) (P) (G) 28 [some (.ref 1), some (.int (nI b)), some (.ref (aB 1 b)), some (.int (nI k))] [] := by
    refine jj_for (201) _ ?_ (fun k hk ih => ?_)
    · intro hv
      refine jr_iload_n hX dX5_arrives_28 rfl ?_
      refine jr_sipush (v := 200) hX dX5_arrives_29 (by decide) ?_
      refine jr_icmp_gt (tgt := 67) hX dX5_arrives_32 (by decide) (fun c_32 => ?_) (fun c_32 => absurd (by decide) c_32)
      refine jr_iconst (v := -1) hX dX5_arrives_67 (by decide) ?_
      exact jr_iret hX dX5_arrives_68 rfl rfl ⟨⟨by rw [hv]; rfl, ho _⟩, rfl, rfl, rfl, rfl⟩
    · intro hv
      refine jr_iload_n hX dX5_arrives_28 rfl ?_
      refine jr_sipush (v := 200) hX dX5_arrives_29 (by decide) ?_
      refine jr_icmp_gt (tgt := 67) hX dX5_arrives_32 (by decide) (fun c_32 => absurd c_32 (nI_nlt (by omega) (by omega) : ¬ nI 200 < nI k)) (fun c_32 => ?_)
      refine jr_aload_n hX dX5_arrives_35 rfl ?_
      refine jr_geti hX kF_X5_148 rfl (ly_kB hly (by first | assumption | omega) (by first | assumption | omega)) dX5_arrives_36 ?_
      refine jr_iconst (v := 3) hX dX5_arrives_39 (by decide) ?_
      refine jr_icmp_ne (tgt := 45) hX dX5_arrives_40 (by decide) (fun c_40 => ?_) (fun c_40 => ?_)
      · refine jr_aload_n hX dX5_arrives_45 rfl ?_
        refine jr_ret (jr_runV hX hSt kM_X5_243 (c_X0_isAtGoal (jj_fl hX) hly (by omega) (by omega)) rfl rfl (ly_kB hly (by first | assumption | omega) (by first | assumption | omega)) ⟨_, _, rfl, by decide⟩ dX5_arrives_46 rfl ⟨jj_b1 rfl, jj_b1 rfl⟩ rfl) ?_
        refine jr_if_eq (tgt := 54) hX dX5_arrives_49 (by decide) (fun c_49 => ?_) (fun c_49 => ?_)
        · refine jr_aload_n hX dX5_arrives_54 rfl ?_
          refine jr_getr hX kF_X5_21 rfl (ly_kI hly) (ly_p5_2 hly) dX5_arrives_55 ?_
          refine jr_void (jr_runV hX hSt kM_X5_224 (c_X4_passDay (jj_fl hX) hly (by omega) (dk k).1 (dk k).2.1 (by omega)) rfl rfl (ly_kW hly (by first | assumption | omega)) ⟨_, _, rfl, by decide⟩ dX5_arrives_58 rfl ⟨jj_b1 rfl, jj_b1 rfl⟩ rfl) ?_
          refine jr_iinc hX dX5_arrives_61 rfl (by first | with_reducible exact jj_inc _ | with_reducible exact jj_inc1 _) rfl ?_
          refine jr_goto (tgt := 28) hX dX5_arrives_64 (by decide) ?_
          exact ih (by rw [hv, show 201 - k = (201 - (k + 1)) + 1 by omega, f_fs_n (by unfold g_ar; dsimp only; rw [if_neg c_40, if_neg (jl_00 c_49)])])
        · refine jr_iload_n hX dX5_arrives_52 rfl ?_
          exact jr_iret hX dX5_arrives_53 rfl rfl ⟨⟨by rw [hv, show 201 - k = (201 - (k + 1)) + 1 by omega, f_fs_s (show g_ar H M B N b d I k = some (nI k) by unfold g_ar; dsimp only; rw [if_neg c_40, if_pos (jl_01 c_49)])], ho _⟩, rfl, rfl, rfl, rfl⟩
      · refine jr_iconst (v := -1) hX dX5_arrives_43 (by decide) ?_
        exact jr_iret hX dX5_arrives_44 rfl rfl ⟨⟨by rw [hv, show 201 - k = (201 - (k + 1)) + 1 by omega, f_fs_s (show g_ar H M B N b d I k = some (-1) by unfold g_ar; dsimp only; rw [if_pos c_40])], ho _⟩, rfl, rfl, rfl, rfl⟩
  exact hloop 0 (Nat.zero_le _) rfl
