/-! whether it arrives, the model -/
def m_tr (b : Nat) (S : jj_I) : Bool := decide (S (aB 1 b) 3 < 2 ∧ S (aB 1 b) 4 = S (aB 1 b) 6)
def m_ar (H M B N b d : Nat) (C : jj_I) (k : Nat) : Option Int32 := if m_tr b (f_ds 1 H B N d (f_cpW M B N C) k) = true then some (nI k) else none
theorem th_eq {H M B N b : Nat} {C J : jj_I} (h : ml 1 H M B N C J) (hb : b < B) : m_th J b = if m_tr b C = true then 1 else 0 := by
  obtain ⟨h0, h1, h2, h3, h4, h5, -⟩ := ml_hB h hb
  unfold m_th m_tr
  rw [h3, h4, h5]
  by_cases c : C (aB 1 b) 3 < 2 ∧ C (aB 1 b) 4 = C (aB 1 b) 6
  · rw [if_pos c, if_pos (decide_eq_true c)]
  · rw [if_neg c, if_neg (by rw [decide_eq_false c]; decide)]
section JC7
variable {X : jj_X} {D : jj_D} {cs sl nL : Nat} {Q : State → Prop} {n n1 : Nat} {K : jj_K} {I J : jj_I} {P : jj_P} {G : jj_G} {pc : Nat} {L : List (Option Value)}
/-- what was kept is forgotten -/
theorem jr_cl7 {st : List Value} (hK : ∀ a, n ≤ a → K a = none) (k : jj_J X D nL cs sl Q n1 K (fun a => if a < n then J a else I a) P G pc L st) : jj_J X D nL cs sl Q n1 (kK n K) J (kP n P) G pc L st := by
  have ne : ∀ a kd, K a = some kd → a < n := fun a kd h => Nat.lt_of_not_le (fun e => by rw [hK a e] at h; exact absurd h (by simp))
  exact jr_clean (fun a kd h => by rw [kK_o (Or.inl (ne a kd h))]; exact h) (fun a kd h => if_pos (ne a kd h)) (fun a kd h => (kP_o (Nat.ne_of_lt (ne a kd h))).symm) k
end JC7
theorem bb_fin {H M B N n : Nat} {C I J : jj_I} (z : mlZ M B N) (hn : 161 ≤ n) (hm : ml 0 H M B N C (jj_u I 150 0 0)) (hz : mz M C (jj_u I 150 0 0)) (hk : kR n (jj_u I 150 0 0) J) (o : ∀ a, a < n → (a < 155 ∨ 161 ≤ a) → J a = jj_u I 150 0 0 a) : (fun a => if a < n then f_bb n J a else I a) 150 0 = 0 ∧ ml 0 H M B N C (fun a => if a < n then f_bb n J a else I a) ∧ mz M C (fun a => if a < n then f_bb n J a else I a) ∧ ∀ a, offN a → (fun a => if a < n then f_bb n J a else I a) a = I a := by
  obtain ⟨m1, r⟩ := bb_ok hn z hm hk (fun a ha => o a (by omega) (Or.inl ha))
  have lt : ∀ a, a < 161 → (fun a => if a < n then f_bb n J a else I a) a = f_bb n J a := fun a ha => if_pos (show a < n by omega)
  obtain ⟨k1, k2, k3, k4, k5, k6⟩ := hk
  have c : ∀ (f g : Nat → Int32) (len k : Nat), k < len → va_cpy f g 0 0 len k = f k := fun f g len k hk => by
    rw [pk_cpy_in (Nat.zero_le _) (by omega)]
    simp
  have c2 : ∀ k, k < 5 → f_bb n J 156 k = jj_u I 150 0 0 156 k := fun k hk => by
    unfold f_bb
    rw [jj_uR_ne (by decide), jj_uR_ne (by decide), jj_uR_ne (by decide), jj_uR_ne (by decide), jj_uR_eq, c _ _ _ _ hk, k2]
  have c3 : ∀ k, k < 160 → f_bb n J 157 k = jj_u I 150 0 0 157 k := fun k hk => by
    unfold f_bb
    rw [jj_uR_ne (by decide), jj_uR_ne (by decide), jj_uR_ne (by decide), jj_uR_eq, c _ _ _ _ hk, k3]
  refine ⟨by rw [lt 150 (by decide), r 150 (by omega), o 150 (by omega) (by omega), jj_u_eq], ?_, mz_cg hz (fun m h1 h2 => by rw [if_pos (show 156 < n by omega)]; exact c2 m h2) (fun m k h1 h2 h3 => by rw [if_pos (show 157 < n by omega)]; exact c3 _ (by omega)) (fun _ _ _ => ?_), fun a ha => ?_⟩
  · exact ml_cg (fun _ _ _ => rfl) (fun a h1 h2 => ⟨fun e => by rw [if_pos (show a < n by omega)]; exact ⟨rfl, rfl, rfl, rfl⟩, fun _ => lt a h2⟩) z m1
  · rfl
  · unfold offN at ha
    by_cases e : a < n
    · show (if a < n then f_bb n J a else I a) = I a
      rw [if_pos e, r a (by omega), o a e (by omega), jj_u_ne (by omega)]
    · exact if_neg e
theorem kr_o {n M : Nat} {S J0 J : jj_I} (h : kR n S J0) (o : fM M J0 J) (hn : 161 ≤ n) : kR n S J := by
  obtain ⟨k1, k2, k3, k4, k5, k6⟩ := h
  have e : ∀ a, 161 ≤ a → J a = J0 a := fun a ha => o.1 a (Or.inr ha)
  exact ⟨(e _ (by omega)).trans k1, (e _ (by omega)).trans k2, (e _ (by omega)).trans k3, (e _ (by omega)).trans k4, (e _ (by omega)).trans k5, (e _ (by omega)).trans k6⟩
set_option maxHeartbeats 4000000 in
set_option maxRecDepth 100000 in
theorem m_arrives_x1 {l : Launch} (hfl : l.stackTraces = false) {D : jj_D} {n : Nat} {K : jj_K} {I : jj_I} {P : jj_P} {G : jj_G} (hly : ly K P) {H M B N : Nat} {C : jj_I} {b : Int32} (hs : sf 0 H M B N C) (hk : sk 0 H M B N C) (hm : ml 0 H M B N C I) (hz : mz M C I) (h_b : b < 0 ∨ nI B ≤ b) :
    jj_Met l D yX6_arrives (jj_ws yX6_arrives cX6_arrives 4 (some .int)) { frames := 4, cells := 0, slots := 0, locals := 91 } [.ref 150, .int b] n K I P G (jj_R (some (.int 0)) (n) (K) (jj_u (jj_u I 150 0 0) 150 0 1) (P) (G)) jj_noX := by
  refine jj_of hfl (by decide +kernel) [some (.ref 150), some (.int b), none, none] rfl rfl ?_
  intro X hXl hX hSt
  have z := sf_Z hs
  have hm0 : ml 0 H M B N C (jj_u I 150 0 0) := ml_th hm z
  have hz0 : mz M C (jj_u I 150 0 0) := mz_th hz
  have hH0 := hm0.1.1
  have hM0 := hm0.1.2.1
  have hB0 := hm0.1.2.2.1
  have hN0 := hm0.1.2.2.2
  have hH2 := hs.1.2
  have hM2 := z.1
  have hB2 := z.2.1
  have hN2 := z.2.2
  refine jr_aload_n hX dX6_arrives_0 rfl ?_
  refine jr_iconst (v := 0) hX dX6_arrives_1 (by decide) ?_
  refine jr_puti hX kF_X6_40 rfl (ly_kMo hly) (by decide) dX6_arrives_2 ?_
  refine jr_aload_n hX dX6_arrives_5 rfl ?_
  refine jr_iload_n hX dX6_arrives_6 rfl ?_
  refine jr_ret (jr_runV hX hSt kM_X6_121 (c_isBoat_x (jj_fl hX) hly h_b hB0 (by omega)) rfl rfl (ly_kMo hly) ⟨_, _, rfl, by decide⟩ dX6_arrives_7 rfl ⟨jj_b1 rfl, jj_b1 rfl⟩ rfl) ?_
  refine jr_if_ne (tgt := 19) hX dX6_arrives_10 (by decide) (fun c_10 => absurd rfl c_10) (fun c_10 => ?_)
  refine jr_aload_n hX dX6_arrives_13 rfl ?_
  refine jr_iconst (v := 1) hX dX6_arrives_14 (by decide) ?_
  refine jr_ret (jr_runV hX hSt kM_X6_57 (c_fail (jj_fl hX) hly) rfl rfl (ly_kMo hly) ⟨_, _, rfl, by decide⟩ dX6_arrives_15 rfl ⟨jj_b1 rfl, jj_b1 rfl⟩ rfl) ?_
  exact jr_iret hX dX6_arrives_18 rfl rfl ⟨rfl, rfl, rfl, rfl, rfl, rfl⟩
set_option maxHeartbeats 4000000 in
set_option maxRecDepth 100000 in
theorem m_arrives_ok {l : Launch} (hfl : l.stackTraces = false) {D : jj_D} {n : Nat} {K : jj_K} {I : jj_I} {P : jj_P} {G : jj_G} (hly : ly K P) {H M B N d b : Nat} {C : jj_I} (hs : sf 0 H M B N C) (hk : sk 0 H M B N C) (hm : ml 0 H M B N C I) (hz : mz M C I) (hd : C (aR 0) 0 = nI d) (hd2 : d < 2000000000) (hn : 161 ≤ n) (hKn : ∀ a, n ≤ a → K a = none) (h_b : b < B) :
    jj_Met l D yX6_arrives (jj_ws yX6_arrives cX6_arrives 4 (some .int)) { frames := 4, cells := 8, slots := 516, locals := 91 } [.ref 150, .int (nI b)] n K I P G (jj_RS (fun r J => r = some (.int (f_fs (m_ar H M B N b d C) 201 0)) ∧ J 150 0 = 0 ∧ ml 0 H M B N C J ∧ mz M C J ∧ ∀ a, offN a → J a = I a) (n + 8) K P G) jj_noX := by
  refine jj_of hfl (by decide +kernel) [some (.ref 150), some (.int (nI b)), none, none] rfl rfl ?_
  intro X hXl hX hSt
  have z := sf_Z hs
  have hm0 : ml 0 H M B N C (jj_u I 150 0 0) := ml_th hm z
  have hz0 : mz M C (jj_u I 150 0 0) := mz_th hz
  have hH0 := hm0.1.1
  have hM0 := hm0.1.2.1
  have hB0 := hm0.1.2.2.1
  have hN0 := hm0.1.2.2.2
  have hH2 := hs.1.2
  have hM2 := z.1
  have hB2 := z.2.1
  have hN2 := z.2.2
  have hs1 := sf_cp hs
  have hk1 := sk_cp hs hk
  have hd1 := cp_day hs hd
  have dk := ds_ok hs1 (by omega) hd1
  have dk2 : ∀ k, sk 1 H M B N (f_ds 1 H B N d (f_cpW M B N C) k) := fun k => by
    induction k with
    | zero => exact hk1
    | succ k ih => exact sk_pd (dk k).1 ih
  have kk := kK_k (n := n) (K := K)
  have pp := kP_k (n := n) (P := P)
  refine jr_aload_n hX dX6_arrives_0 rfl ?_
  refine jr_iconst (v := 0) hX dX6_arrives_1 (by decide) ?_
  refine jr_puti hX kF_X6_40 rfl (ly_kMo hly) (by decide) dX6_arrives_2 ?_
  refine jr_aload_n hX dX6_arrives_5 rfl ?_
  refine jr_iload_n hX dX6_arrives_6 rfl ?_
  refine jr_ret (jr_runV hX hSt kM_X6_121 (c_isBoat_ok (jj_fl hX) hly h_b hB0 (by omega)) rfl rfl (ly_kMo hly) ⟨_, _, rfl, by decide⟩ dX6_arrives_7 rfl ⟨jj_b1 rfl, jj_b1 rfl⟩ rfl) ?_
  refine jr_if_ne (tgt := 19) hX dX6_arrives_10 (by decide) (fun c_10 => ?_) (fun c_10 => absurd c_10 (by decide))
  refine jr_aload_n hX dX6_arrives_19 rfl ?_
  refine jr_rel (jr_runV hX hSt kM_X6_163 (c_kept (jj_fl hX) hly hn hKn) rfl rfl (ly_kMo hly) ⟨_, _, rfl, by decide⟩ dX6_arrives_20 rfl ⟨jj_b1 rfl, jj_b1 rfl⟩ rfl) ?_
  rintro r J0 ⟨rfl, kr, k0⟩
  simp only [Option.toList, List.cons_append, List.nil_append]
  have hly := ly_k7 hly hn
  have mJ : ml 1 H M B N (f_cpW M B N C) J0 := ml_cg (fun _ _ _ => rfl) (fun a h1 h2 => ⟨fun e => by rw [k0 a (by omega)]; exact ⟨rfl, rfl, rfl, rfl⟩, fun _ => k0 a (by omega)⟩) z (ml_cp hs hm0)
  refine jr_astore_n hX dX6_arrives_23 rfl ?_
  refine jr_iconst (v := 0) hX dX6_arrives_24 (by decide) ?_
  refine jr_istore_n hX dX6_arrives_25 rfl ?_
  have hloop : ∀ k, k ≤ 200 → ∀ J : jj_I, ml 1 H M B N (f_ds 1 H B N d (f_cpW M B N C) k) J → fM M J0 J → f_fs (m_ar H M B N b d C) 201 0 = f_fs (m_ar H M B N b d C) (201 - k) k → jj_J X D 4 7 510 (jj_MQ X D { frames := 4, cells := 8, slots := 516, locals := 91 } (jj_RS (fun r J => r = some (.int (f_fs (m_ar H M B N b d C) 201 0)) ∧ J 150 0 = 0 ∧ ml 0 H M B N C J ∧ mz M C J ∧ ∀ a, offN a → J a = I a) (n + 8) K P G) jj_noX) (n + 7) ((kK n K)) (J) ((kP n P)) (G) 26 [some (.ref 150), some (.int (nI b)), some (.ref n), some (.int (nI k))] [] := by
    refine jj_for (200) _ ?_ (fun k hk ih => ?_)
    · intro J o1 o2 hv
      refine jr_iload_n hX dX6_arrives_26 rfl ?_
      refine jr_sipush (v := 200) hX dX6_arrives_27 (by decide) ?_
      refine jr_icmp_ge (tgt := 52) hX dX6_arrives_30 (by decide) (fun c_30 => ?_) (fun c_30 => absurd (by decide) c_30)
      refine jr_aload_n hX dX6_arrives_52 rfl ?_
      refine jr_iload_n hX dX6_arrives_53 rfl ?_
      refine jr_ret (jr_runV hX hSt kM_X6_167 (c_isThere (jj_fl hX) hly (by omega)) rfl rfl (ly_kMo hly) ⟨_, _, rfl, by decide⟩ dX6_arrives_54 rfl ⟨jj_b1 rfl, jj_b1 rfl⟩ rfl) ?_
      rw [th_eq o1 h_b]
      refine jr_if_ne (tgt := 62) hX dX6_arrives_57 (by decide) (fun c_57 => ?_) (fun c_57 => ?_)
      · refine jr_aload_n hX dX6_arrives_62 rfl ?_
        refine jr_aload_n hX dX6_arrives_63 rfl ?_
        refine jr_void (jr_runV hX hSt kM_X6_170 (c_bringBack (jj_fl hX) hly (q := n) ⟨hn, Nat.le_refl _⟩ kk.1 kk.2.1 kk.2.2.1 kk.2.2.2.1 kk.2.2.2.2.1 kk.2.2.2.2.2.1 kk.2.2.2.2.2.2 pp.1 pp.2.1 pp.2.2.1 pp.2.2.2.1 pp.2.2.2.2.1 pp.2.2.2.2.2 (fun a ha => by rw [kK_o (Or.inr ha)]; exact hKn a (by omega))) rfl rfl (ly_kMo hly) ⟨_, _, rfl, by decide⟩ dX6_arrives_64 rfl ⟨jj_b1 rfl, jj_b1 rfl⟩ rfl) ?_
        refine jr_cl7 (I := I) hKn ?_
        refine jr_iload_n hX dX6_arrives_67 rfl ?_
        exact jr_iret hX dX6_arrives_68 rfl rfl ⟨⟨by rw [hv, f_fs_s (m := 0) (k := 200) (show (m_ar H M B N b d C) 200 = some (nI 200) from if_pos (jl_01 c_57))], bb_fin z hn hm0 hz0 (kr_o kr o2 hn) (fun a h1 h2 => (o2.1 a (by unfold offM; omega)).trans (k0 a (by omega)))⟩, rfl, rfl, rfl, rfl⟩
      · refine jr_iconst (v := -1) hX dX6_arrives_60 (by decide) ?_
        refine jr_istore_n hX dX6_arrives_61 rfl ?_
        refine jr_aload_n hX dX6_arrives_62 rfl ?_
        refine jr_aload_n hX dX6_arrives_63 rfl ?_
        refine jr_void (jr_runV hX hSt kM_X6_170 (c_bringBack (jj_fl hX) hly (q := n) ⟨hn, Nat.le_refl _⟩ kk.1 kk.2.1 kk.2.2.1 kk.2.2.2.1 kk.2.2.2.2.1 kk.2.2.2.2.2.1 kk.2.2.2.2.2.2 pp.1 pp.2.1 pp.2.2.1 pp.2.2.2.1 pp.2.2.2.2.1 pp.2.2.2.2.2 (fun a ha => by rw [kK_o (Or.inr ha)]; exact hKn a (by omega))) rfl rfl (ly_kMo hly) ⟨_, _, rfl, by decide⟩ dX6_arrives_64 rfl ⟨jj_b1 rfl, jj_b1 rfl⟩ rfl) ?_
        refine jr_cl7 (I := I) hKn ?_
        refine jr_iload_n hX dX6_arrives_67 rfl ?_
        exact jr_iret hX dX6_arrives_68 rfl rfl ⟨⟨by rw [hv, f_fs_n (m := 0) (k := 200) (show (m_ar H M B N b d C) 200 = none from if_neg (jl_00 c_57))]; rfl, bb_fin z hn hm0 hz0 (kr_o kr o2 hn) (fun a h1 h2 => (o2.1 a (by unfold offM; omega)).trans (k0 a (by omega)))⟩, rfl, rfl, rfl, rfl⟩
    · intro J o1 o2 hv
      refine jr_iload_n hX dX6_arrives_26 rfl ?_
      refine jr_sipush (v := 200) hX dX6_arrives_27 (by decide) ?_
      refine jr_icmp_ge (tgt := 52) hX dX6_arrives_30 (by decide) (fun c_30 => absurd c_30 (show ¬ nI 200 ≤ nI k from nI_ge (by assumption) (by omega))) (fun c_30 => ?_)
      refine jr_aload_n hX dX6_arrives_33 rfl ?_
      refine jr_iload_n hX dX6_arrives_34 rfl ?_
      refine jr_ret (jr_runV hX hSt kM_X6_167 (c_isThere (jj_fl hX) hly (by omega)) rfl rfl (ly_kMo hly) ⟨_, _, rfl, by decide⟩ dX6_arrives_35 rfl ⟨jj_b1 rfl, jj_b1 rfl⟩ rfl) ?_
      rw [th_eq o1 h_b]
      refine jr_if_ne (tgt := 52) hX dX6_arrives_38 (by decide) (fun c_38 => ?_) (fun c_38 => ?_)
      · refine jr_aload_n hX dX6_arrives_52 rfl ?_
        refine jr_iload_n hX dX6_arrives_53 rfl ?_
        refine jr_ret (jr_runV hX hSt kM_X6_167 (c_isThere (jj_fl hX) hly (by omega)) rfl rfl (ly_kMo hly) ⟨_, _, rfl, by decide⟩ dX6_arrives_54 rfl ⟨jj_b1 rfl, jj_b1 rfl⟩ rfl) ?_
        rw [th_eq o1 h_b]
        refine jr_if_ne (tgt := 62) hX dX6_arrives_57 (by decide) (fun c_57 => ?_) (fun c_57 => absurd c_57 (fun e => c_38 e))
        refine jr_aload_n hX dX6_arrives_62 rfl ?_
        refine jr_aload_n hX dX6_arrives_63 rfl ?_
        refine jr_void (jr_runV hX hSt kM_X6_170 (c_bringBack (jj_fl hX) hly (q := n) ⟨hn, Nat.le_refl _⟩ kk.1 kk.2.1 kk.2.2.1 kk.2.2.2.1 kk.2.2.2.2.1 kk.2.2.2.2.2.1 kk.2.2.2.2.2.2 pp.1 pp.2.1 pp.2.2.1 pp.2.2.2.1 pp.2.2.2.2.1 pp.2.2.2.2.2 (fun a ha => by rw [kK_o (Or.inr ha)]; exact hKn a (by omega))) rfl rfl (ly_kMo hly) ⟨_, _, rfl, by decide⟩ dX6_arrives_64 rfl ⟨jj_b1 rfl, jj_b1 rfl⟩ rfl) ?_
        refine jr_cl7 (I := I) hKn ?_
        refine jr_iload_n hX dX6_arrives_67 rfl ?_
        exact jr_iret hX dX6_arrives_68 rfl rfl ⟨⟨by rw [hv, show 201 - k = (201 - (k + 1)) + 1 by omega, f_fs_s (show (m_ar H M B N b d C) k = some (nI k) from if_pos (jl_01 c_38))], bb_fin z hn hm0 hz0 (kr_o kr o2 hn) (fun a h1 h2 => (o2.1 a (by unfold offM; omega)).trans (k0 a (by omega)))⟩, rfl, rfl, rfl, rfl⟩
      · refine jr_aload_n hX dX6_arrives_41 rfl ?_
        refine jr_rel (jr_runV hX hSt kM_X6_152 (c_dayOn (jj_fl hX) hly (dk k).1 o1 (dk2 k) (dk k).2.1 (by omega)) rfl rfl (ly_kMo hly) ⟨_, _, rfl, by decide⟩ dX6_arrives_42 rfl ⟨jj_b1 rfl, jj_b1 rfl⟩ rfl) ?_
        rintro r J1 ⟨rfl, p1, p2⟩
        simp only [Option.toList, List.cons_append, List.nil_append]
        refine jr_pop hX dX6_arrives_45 rfl ?_
        refine jr_iinc hX dX6_arrives_46 rfl (by first | with_reducible exact jj_inc _ | with_reducible exact jj_inc1 _) rfl ?_
        refine jr_goto (tgt := 26) hX dX6_arrives_49 (by decide) ?_
        exact ih _ p1 (fM_tr o2 p2) (by rw [hv, show 201 - k = (201 - (k + 1)) + 1 by omega, f_fs_n (show (m_ar H M B N b d C) k = none from if_neg (jl_00 c_38))])
  exact hloop 0 (Nat.zero_le _) J0 mJ fM_refl rfl
