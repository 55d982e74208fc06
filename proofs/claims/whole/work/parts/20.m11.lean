/-! the model: what it tells -/
theorem jm_pr {h t : Nat} (ht : 4 ≤ t) : (4 : Int32) * nI h + nI t - 4 = nI (4 * h + (t - 4)) := by
  rw [show (4 : Int32) = nI 4 from rfl, pk_mul, nI_add, pk_sub (by omega)]
  congr 1
  omega
theorem jm_e {H : Nat} (h : H < 1000) : nI H - 1 ≤ nI (H - 1) := by
  cases H with
  | zero => decide
  | succ m => rw [nI_pred]; exact nI_le (by omega) (by omega)
theorem jm_s {H k : Nat} (hk : k < H - 1) (h : H < 1000) : ¬ nI H - 1 ≤ nI k := by
  cases H with
  | zero => omega
  | succ m => rw [nI_pred]; exact nI_ge (by omega) (by omega)
def m_hf (h H B : Nat) (I : jj_I) (t : Nat) : Int32 := if t = 0 then I 153 h else if t = 1 then sm (m_t1 (nI h) I) B else if t = 2 then sm (m_t0 (nI h) I) B else if t = 3 then m_ia h H I else I 154 (4 * h + (t - 4))
def m_lf (j B : Nat) (I : jj_I) (t : Nat) : Int32 := if t = 0 then I 152 j else if t = 1 then I 155 j else if t = 2 then m_ol I j else sm (m_on (nI j) I) B
def m_mf (m B N : Nat) (I : jj_I) (t : Nat) : Int32 := if t = 0 then I 156 m else if t = 1 then sm (m_af (nI m) I) B else if t = 2 then sm (m_do (nI m) 0 I) N else if t = 3 then sm (m_do (nI m) 2 I) N else if t = 4 then sm (fun k => I 157 (32 * m + k)) 32 else sm (m_co (nI m) I) B
def m_bf (b : Nat) (I : jj_I) (t : Nat) : Int32 := if t < 7 then I 158 (12 * b + t) else if t = 7 then m_ld b I else I 158 (12 * b + t)
def m_cf (H M B N : Nat) (I : jj_I) (t : Nat) : Int32 := if t = 0 then I 160 0 else if t = 1 then I 150 2 else if t = 2 then I 150 6 else if t = 3 then I 150 7 else if t = 4 then sm (m_st 3 I) B else if t = 5 then sm (m_st 2 I) B else if t = 6 then I 150 8 else if t = 7 then sm (m_op I) N else if t = 8 then sm (I 156) 5 else sm (m_ol I) (H - 1)
set_option maxHeartbeats 4000000 in
set_option maxRecDepth 100000 in
theorem c_mH {l : Launch} (hfl : l.stackTraces = false) {D : jj_D} {n : Nat} {K : jj_K} {I : jj_I} {P : jj_P} {G : jj_G} (hly : ly K P) {h t H B : Nat} (hH : I 150 2 = nI H) (hH2 : H ≤ 8) (hB : I 150 7 = nI B) (hB2 : B ≤ 10) (hh : h < H) (ht : t < 8) :
    jj_Met l D yX6_harbourTold (jj_ws yX6_harbourTold cX6_harbourTold 3 (some .int)) { frames := 3, cells := 0, slots := 0, locals := 67 } [.ref 150, .int (nI h), .int (nI t)] n K I P G (jj_R (some (.int (m_hf h H B I t))) (n) (K) (I) (P) (G)) jj_noX := by
  refine jj_of hfl (by decide +kernel) [some (.ref 150), some (.int (nI h)), some (.int (nI t))] rfl rfl ?_
  intro X hXl hX hSt
  have hlits : t = 0 ∨ t = 1 ∨ t = 2 ∨ t = 3 ∨ t = 4 ∨ t = 5 ∨ t = 6 ∨ t = 7 := by omega
  rcases hlits with rfl | rfl | rfl | rfl | rfl | rfl | rfl | rfl
  · refine jr_iload_n hX dX6_harbourTold_0 rfl ?_
    refine jr_tabIn (tgt := 32) hX dX6_harbourTold_1 (by decide) (by decide) rfl (by decide) ?_
    refine jr_aload_n hX dX6_harbourTold_32 rfl ?_
    refine jr_getr hX kF_X6_16 rfl (ly_kMo hly) (ly_p6_4 hly) dX6_harbourTold_33 ?_
    refine jr_iload_n hX dX6_harbourTold_36 rfl ?_
    refine jr_iald hX (by first | with_reducible assumption | with_reducible exact ly_kWm hly (by first | assumption | omega) | with_reducible exact ly_kLd hly (by first | assumption | omega) | with_reducible exact ly_kIc hly (by first | assumption | omega) | with_reducible exact ly_kBe hly (by first | assumption | omega) | with_reducible exact ly_kPr hly (by first | assumption | omega) | with_reducible exact ly_kMt hly (by first | assumption | omega) (by first | assumption | omega) | with_reducible exact ly_kBc hly (by first | assumption | omega) (by first | assumption | omega) | with_reducible exact ly_k151 hly | with_reducible exact ly_k152 hly | with_reducible exact ly_k153 hly | with_reducible exact ly_k154 hly | with_reducible exact ly_k155 hly | with_reducible exact ly_k156 hly | with_reducible exact ly_k157 hly | with_reducible exact ly_k158 hly | with_reducible exact ly_k159 hly | with_reducible exact ly_k160 hly | with_reducible exact ly_kAh hly (by first | assumption | omega)) (by first | with_reducible rfl | with_reducible assumption | rfl) (by omega) dX6_harbourTold_37 ?_
    exact jr_iret hX dX6_harbourTold_38 rfl rfl ⟨rfl, rfl, rfl, rfl, rfl, rfl⟩
  · refine jr_iload_n hX dX6_harbourTold_0 rfl ?_
    refine jr_tabIn (tgt := 39) hX dX6_harbourTold_1 (by decide) (by decide) rfl (by decide) ?_
    refine jr_aload_n hX dX6_harbourTold_39 rfl ?_
    refine jr_iload_n hX dX6_harbourTold_40 rfl ?_
    refine jr_iconst (v := 1) hX dX6_harbourTold_41 (by decide) ?_
    refine jr_ret (jr_runV hX hSt kM_X6_80 (c_there1 (jj_fl hX) hly hB hB2) rfl rfl (ly_kMo hly) ⟨_, _, rfl, by decide⟩ dX6_harbourTold_42 rfl ⟨jj_b1 rfl, jj_b1 rfl⟩ rfl) ?_
    exact jr_iret hX dX6_harbourTold_45 rfl rfl ⟨rfl, rfl, rfl, rfl, rfl, rfl⟩
  · refine jr_iload_n hX dX6_harbourTold_0 rfl ?_
    refine jr_tabIn (tgt := 46) hX dX6_harbourTold_1 (by decide) (by decide) rfl (by decide) ?_
    refine jr_aload_n hX dX6_harbourTold_46 rfl ?_
    refine jr_iload_n hX dX6_harbourTold_47 rfl ?_
    refine jr_iconst (v := 0) hX dX6_harbourTold_48 (by decide) ?_
    refine jr_ret (jr_runV hX hSt kM_X6_80 (c_there0 (jj_fl hX) hly hB hB2) rfl rfl (ly_kMo hly) ⟨_, _, rfl, by decide⟩ dX6_harbourTold_49 rfl ⟨jj_b1 rfl, jj_b1 rfl⟩ rfl) ?_
    exact jr_iret hX dX6_harbourTold_52 rfl rfl ⟨rfl, rfl, rfl, rfl, rfl, rfl⟩
  · refine jr_iload_n hX dX6_harbourTold_0 rfl ?_
    refine jr_tabIn (tgt := 53) hX dX6_harbourTold_1 (by decide) (by decide) rfl (by decide) ?_
    refine jr_aload_n hX dX6_harbourTold_53 rfl ?_
    refine jr_iload_n hX dX6_harbourTold_54 rfl ?_
    refine jr_ret (jr_runV hX hSt kM_X6_84 (c_iceAt (jj_fl hX) hly hH hh hH2) rfl rfl (ly_kMo hly) ⟨_, _, rfl, by decide⟩ dX6_harbourTold_55 rfl ⟨jj_b1 rfl, jj_b1 rfl⟩ rfl) ?_
    exact jr_iret hX dX6_harbourTold_58 rfl rfl ⟨rfl, rfl, rfl, rfl, rfl, rfl⟩
  · refine jr_iload_n hX dX6_harbourTold_0 rfl ?_
    refine jr_tabOut (tgt := 59) hX dX6_harbourTold_1 (by decide) (by decide) ?_
    refine jr_aload_n hX dX6_harbourTold_59 rfl ?_
    refine jr_getr hX kF_X6_19 rfl (ly_kMo hly) (ly_p6_5 hly) dX6_harbourTold_60 ?_
    refine jr_iconst (v := 4) hX dX6_harbourTold_63 (by decide) ?_
    refine jr_iload_n hX dX6_harbourTold_64 rfl ?_
    refine jr_imul hX dX6_harbourTold_65 ?_
    refine jr_iload_n hX dX6_harbourTold_66 rfl ?_
    refine jr_iadd hX dX6_harbourTold_67 ?_
    refine jr_iconst (v := 4) hX dX6_harbourTold_68 (by decide) ?_
    refine jr_isub hX dX6_harbourTold_69 ?_
    refine jr_iald hX (by first | with_reducible assumption | with_reducible exact ly_kWm hly (by first | assumption | omega) | with_reducible exact ly_kLd hly (by first | assumption | omega) | with_reducible exact ly_kIc hly (by first | assumption | omega) | with_reducible exact ly_kBe hly (by first | assumption | omega) | with_reducible exact ly_kPr hly (by first | assumption | omega) | with_reducible exact ly_kMt hly (by first | assumption | omega) (by first | assumption | omega) | with_reducible exact ly_kBc hly (by first | assumption | omega) (by first | assumption | omega) | with_reducible exact ly_k151 hly | with_reducible exact ly_k152 hly | with_reducible exact ly_k153 hly | with_reducible exact ly_k154 hly | with_reducible exact ly_k155 hly | with_reducible exact ly_k156 hly | with_reducible exact ly_k157 hly | with_reducible exact ly_k158 hly | with_reducible exact ly_k159 hly | with_reducible exact ly_k160 hly | with_reducible exact ly_kAh hly (by first | assumption | omega)) (jm_pr (by decide)) (by omega) dX6_harbourTold_70 ?_
    exact jr_iret hX dX6_harbourTold_71 rfl rfl ⟨rfl, rfl, rfl, rfl, rfl, rfl⟩
  · refine jr_iload_n hX dX6_harbourTold_0 rfl ?_
    refine jr_tabOut (tgt := 59) hX dX6_harbourTold_1 (by decide) (by decide) ?_
    refine jr_aload_n hX dX6_harbourTold_59 rfl ?_
    refine jr_getr hX kF_X6_19 rfl (ly_kMo hly) (ly_p6_5 hly) dX6_harbourTold_60 ?_
    refine jr_iconst (v := 4) hX dX6_harbourTold_63 (by decide) ?_
    refine jr_iload_n hX dX6_harbourTold_64 rfl ?_
    refine jr_imul hX dX6_harbourTold_65 ?_
    refine jr_iload_n hX dX6_harbourTold_66 rfl ?_
    refine jr_iadd hX dX6_harbourTold_67 ?_
    refine jr_iconst (v := 4) hX dX6_harbourTold_68 (by decide) ?_
    refine jr_isub hX dX6_harbourTold_69 ?_
    refine jr_iald hX (by first | with_reducible assumption | with_reducible exact ly_kWm hly (by first | assumption | omega) | with_reducible exact ly_kLd hly (by first | assumption | omega) | with_reducible exact ly_kIc hly (by first | assumption | omega) | with_reducible exact ly_kBe hly (by first | assumption | omega) | with_reducible exact ly_kPr hly (by first | assumption | omega) | with_reducible exact ly_kMt hly (by first | assumption | omega) (by first | assumption | omega) | with_reducible exact ly_kBc hly (by first | assumption | omega) (by first | assumption | omega) | with_reducible exact ly_k151 hly | with_reducible exact ly_k152 hly | with_reducible exact ly_k153 hly | with_reducible exact ly_k154 hly | with_reducible exact ly_k155 hly | with_reducible exact ly_k156 hly | with_reducible exact ly_k157 hly | with_reducible exact ly_k158 hly | with_reducible exact ly_k159 hly | with_reducible exact ly_k160 hly | with_reducible exact ly_kAh hly (by first | assumption | omega)) (jm_pr (by decide)) (by omega) dX6_harbourTold_70 ?_
    exact jr_iret hX dX6_harbourTold_71 rfl rfl ⟨rfl, rfl, rfl, rfl, rfl, rfl⟩
  · refine jr_iload_n hX dX6_harbourTold_0 rfl ?_
    refine jr_tabOut (tgt := 59) hX dX6_harbourTold_1 (by decide) (by decide) ?_
    refine jr_aload_n hX dX6_harbourTold_59 rfl ?_
    refine jr_getr hX kF_X6_19 rfl (ly_kMo hly) (ly_p6_5 hly) dX6_harbourTold_60 ?_
    refine jr_iconst (v := 4) hX dX6_harbourTold_63 (by decide) ?_
    refine jr_iload_n hX dX6_harbourTold_64 rfl ?_
    refine jr_imul hX dX6_harbourTold_65 ?_
    refine jr_iload_n hX dX6_harbourTold_66 rfl ?_
    refine jr_iadd hX dX6_harbourTold_67 ?_
    refine jr_iconst (v := 4) hX dX6_harbourTold_68 (by decide) ?_
    refine jr_isub hX dX6_harbourTold_69 ?_
    refine jr_iald hX (by first | with_reducible assumption | with_reducible exact ly_kWm hly (by first | assumption | omega) | with_reducible exact ly_kLd hly (by first | assumption | omega) | with_reducible exact ly_kIc hly (by first | assumption | omega) | with_reducible exact ly_kBe hly (by first | assumption | omega) | with_reducible exact ly_kPr hly (by first | assumption | omega) | with_reducible exact ly_kMt hly (by first | assumption | omega) (by first | assumption | omega) | with_reducible exact ly_kBc hly (by first | assumption | omega) (by first | assumption | omega) | with_reducible exact ly_k151 hly | with_reducible exact ly_k152 hly | with_reducible exact ly_k153 hly | with_reducible exact ly_k154 hly | with_reducible exact ly_k155 hly | with_reducible exact ly_k156 hly | with_reducible exact ly_k157 hly | with_reducible exact ly_k158 hly | with_reducible exact ly_k159 hly | with_reducible exact ly_k160 hly | with_reducible exact ly_kAh hly (by first | assumption | omega)) (jm_pr (by decide)) (by omega) dX6_harbourTold_70 ?_
    exact jr_iret hX dX6_harbourTold_71 rfl rfl ⟨rfl, rfl, rfl, rfl, rfl, rfl⟩
  · refine jr_iload_n hX dX6_harbourTold_0 rfl ?_
    refine jr_tabOut (tgt := 59) hX dX6_harbourTold_1 (by decide) (by decide) ?_
    refine jr_aload_n hX dX6_harbourTold_59 rfl ?_
    refine jr_getr hX kF_X6_19 rfl (ly_kMo hly) (ly_p6_5 hly) dX6_harbourTold_60 ?_
    refine jr_iconst (v := 4) hX dX6_harbourTold_63 (by decide) ?_
    refine jr_iload_n hX dX6_harbourTold_64 rfl ?_
    refine jr_imul hX dX6_harbourTold_65 ?_
    refine jr_iload_n hX dX6_harbourTold_66 rfl ?_
    refine jr_iadd hX dX6_harbourTold_67 ?_
    refine jr_iconst (v := 4) hX dX6_harbourTold_68 (by decide) ?_
    refine jr_isub hX dX6_harbourTold_69 ?_
    refine jr_iald hX (by first | with_reducible assumption | with_reducible exact ly_kWm hly (by first | assumption | omega) | with_reducible exact ly_kLd hly (by first | assumption | omega) | with_reducible exact ly_kIc hly (by first | assumption | omega) | with_reducible exact ly_kBe hly (by first | assumption | omega) | with_reducible exact ly_kPr hly (by first | assumption | omega) | with_reducible exact ly_kMt hly (by first | assumption | omega) (by first | assumption | omega) | with_reducible exact ly_kBc hly (by first | assumption | omega) (by first | assumption | omega) | with_reducible exact ly_k151 hly | with_reducible exact ly_k152 hly | with_reducible exact ly_k153 hly | with_reducible exact ly_k154 hly | with_reducible exact ly_k155 hly | with_reducible exact ly_k156 hly | with_reducible exact ly_k157 hly | with_reducible exact ly_k158 hly | with_reducible exact ly_k159 hly | with_reducible exact ly_k160 hly | with_reducible exact ly_kAh hly (by first | assumption | omega)) (jm_pr (by decide)) (by omega) dX6_harbourTold_70 ?_
    exact jr_iret hX dX6_harbourTold_71 rfl rfl ⟨rfl, rfl, rfl, rfl, rfl, rfl⟩
theorem jm_n {t s : Nat} (h : nI t = nI s) (ht : t < 1000) (hs : s < 1000) : t = s := by
  have h1 := nI_toInt (n := t) (by omega)
  have h2 := nI_toInt (n := s) (by omega)
  rw [h] at h1
  omega
theorem jm_b0 {c : Prop} {hd : Decidable c} (h : (if c then (1 : Int32) else 0) = 0) : (if c then (1 : Int32) else 0) = 0 := h
theorem jm_b1 {c : Prop} {hd : Decidable c} (h : ¬ (if c then (1 : Int32) else 0) = 0) : (if c then (1 : Int32) else 0) = 1 := if_pos (jl_01 h)
set_option maxHeartbeats 4000000 in
set_option maxRecDepth 100000 in
theorem c_mL {l : Launch} (hfl : l.stackTraces = false) {D : jj_D} {n : Nat} {K : jj_K} {I : jj_I} {P : jj_P} {G : jj_G} (hly : ly K P) {j t B : Nat} (hB : I 150 7 = nI B) (hB2 : B ≤ 10) (hj : j < 7) (ht : t < 4) :
    jj_Met l D yX6_legTold (jj_ws yX6_legTold cX6_legTold 5 (some .int)) { frames := 1, cells := 0, slots := 0, locals := 22 } [.ref 150, .int (nI j), .int (nI t)] n K I P G (jj_R (some (.int (m_lf j B I t))) (n) (K) (I) (P) (G)) jj_noX := by
  refine jj_of hfl (by decide +kernel) [some (.ref 150), some (.int (nI j)), some (.int (nI t)), none, none] rfl rfl ?_
  intro X hXl hX hSt
  refine jr_iconst (v := 0) hX dX6_legTold_0 (by decide) ?_
  refine jr_istore_n hX dX6_legTold_1 rfl ?_
  refine jr_iconst (v := 0) hX dX6_legTold_2 (by decide) ?_
  refine jr_istore hX dX6_legTold_3 rfl ?_
  have hloop : ∀ k, k ≤ B → jj_J X D 5 0 0 (jj_MQ X D { frames := 1, cells := 0, slots := 0, locals := 22 } (jj_R (some (.int (m_lf j B I t))) (n) (K) (I) (P) (G)) jj_noX) (n) (K) (I) (P) (G) 5 [some (.ref 150), some (.int (nI j)), some (.int (nI t)), some (.int (sm (m_on (nI j) I) k)), some (.int (nI k))] [] := by
    refine jj_for (B) _ ?_ (fun k hk ih => ?_)
    · refine jr_iload hX dX6_legTold_5 rfl ?_
      refine jr_aload_n hX dX6_legTold_7 rfl ?_
      refine jr_geti hX kF_X6_54 rfl (ly_kMo hly) dX6_legTold_8 ?_
      refine jr_icmp_ge (tgt := 51) hX dX6_legTold_11 (by decide) (fun c_11 => ?_) (fun c_11 => absurd (by rw [hB]; exact nI_le (Nat.le_refl _) (by omega)) c_11)
      refine jr_iload_n hX dX6_legTold_51 rfl ?_
      have t0 : nI t = 0 → t = 0 := fun e => jm_n (s := 0) e (by omega) (by omega)
      have t1 : nI t = 1 → t = 1 := fun e => jm_n (s := 1) e (by omega) (by omega)
      have t2 : nI t = 2 → t = 2 := fun e => jm_n (s := 2) e (by omega) (by omega)
      refine jr_if_ne (tgt := 64) hX dX6_legTold_52 (by decide) (fun c_52 => ?_) (fun c_52 => ?_)
      · refine jr_iload_n hX dX6_legTold_64 rfl ?_
        refine jr_iconst (v := 1) hX dX6_legTold_65 (by decide) ?_
        refine jr_icmp_ne (tgt := 78) hX dX6_legTold_66 (by decide) (fun c_66 => ?_) (fun c_66 => ?_)
        · refine jr_iload_n hX dX6_legTold_78 rfl ?_
          refine jr_iconst (v := 2) hX dX6_legTold_79 (by decide) ?_
          refine jr_icmp_ne (tgt := 99) hX dX6_legTold_80 (by decide) (fun c_80 => ?_) (fun c_80 => ?_)
          · refine jr_iload_n hX dX6_legTold_99 rfl ?_
            refine jr_iret hX dX6_legTold_100 rfl rfl ?_
            exact ⟨jj_ri (by rw [show t = 3 by { have : t ≠ 0 := fun e => c_52 (by rw [e]; rfl); have : t ≠ 1 := fun e => c_66 (by rw [e]; rfl); have : t ≠ 2 := fun e => c_80 (by rw [e]; rfl); omega }]; rfl), rfl, rfl, rfl, rfl, rfl⟩
          · refine jr_aload_n hX dX6_legTold_83 rfl ?_
            refine jr_iload_n hX dX6_legTold_84 rfl ?_
            refine jr_ret (jr_runV hX hSt kM_X6_90 (c_isOpen (jj_fl hX) hly rfl (by omega)) rfl rfl (ly_kMo hly) ⟨_, _, rfl, by decide⟩ dX6_legTold_85 rfl ⟨jj_b1 rfl, jj_b1 rfl⟩ rfl) ?_
            refine jr_if_eq (tgt := 95) hX dX6_legTold_88 (by decide) (fun c_88 => ?_) (fun c_88 => ?_)
            · refine jr_iconst (v := 0) hX dX6_legTold_95 (by decide) ?_
              refine jr_goto (tgt := 100) hX dX6_legTold_96 (by decide) ?_
              refine jr_iret hX dX6_legTold_100 rfl rfl ?_
              exact ⟨jj_ri (by rw [t2 c_80]; exact (jm_b0 c_88).symm), rfl, rfl, rfl, rfl, rfl⟩
            · refine jr_iconst (v := 1) hX dX6_legTold_91 (by decide) ?_
              refine jr_goto (tgt := 100) hX dX6_legTold_92 (by decide) ?_
              refine jr_iret hX dX6_legTold_100 rfl rfl ?_
              exact ⟨jj_ri (by rw [t2 c_80]; exact (jm_b1 c_88).symm), rfl, rfl, rfl, rfl, rfl⟩
        · refine jr_aload_n hX dX6_legTold_69 rfl ?_
          refine jr_getr hX kF_X6_22 rfl (ly_kMo hly) (ly_p6_9 hly) dX6_legTold_70 ?_
          refine jr_iload_n hX dX6_legTold_73 rfl ?_
          refine jr_iald hX (by first | with_reducible assumption | with_reducible exact ly_kWm hly (by first | assumption | omega) | with_reducible exact ly_kLd hly (by first | assumption | omega) | with_reducible exact ly_kIc hly (by first | assumption | omega) | with_reducible exact ly_kBe hly (by first | assumption | omega) | with_reducible exact ly_kPr hly (by first | assumption | omega) | with_reducible exact ly_kMt hly (by first | assumption | omega) (by first | assumption | omega) | with_reducible exact ly_kBc hly (by first | assumption | omega) (by first | assumption | omega) | with_reducible exact ly_k151 hly | with_reducible exact ly_k152 hly | with_reducible exact ly_k153 hly | with_reducible exact ly_k154 hly | with_reducible exact ly_k155 hly | with_reducible exact ly_k156 hly | with_reducible exact ly_k157 hly | with_reducible exact ly_k158 hly | with_reducible exact ly_k159 hly | with_reducible exact ly_k160 hly | with_reducible exact ly_kAh hly (by first | assumption | omega)) (by first | with_reducible rfl | with_reducible assumption | rfl) (by omega) dX6_legTold_74 ?_
          refine jr_goto (tgt := 100) hX dX6_legTold_75 (by decide) ?_
          refine jr_iret hX dX6_legTold_100 rfl rfl ?_
          exact ⟨jj_ri (by rw [t1 c_66]; rfl), rfl, rfl, rfl, rfl, rfl⟩
      · refine jr_aload_n hX dX6_legTold_55 rfl ?_
        refine jr_getr hX kF_X6_13 rfl (ly_kMo hly) (ly_p6_3 hly) dX6_legTold_56 ?_
        refine jr_iload_n hX dX6_legTold_59 rfl ?_
        refine jr_iald hX (by first | with_reducible assumption | with_reducible exact ly_kWm hly (by first | assumption | omega) | with_reducible exact ly_kLd hly (by first | assumption | omega) | with_reducible exact ly_kIc hly (by first | assumption | omega) | with_reducible exact ly_kBe hly (by first | assumption | omega) | with_reducible exact ly_kPr hly (by first | assumption | omega) | with_reducible exact ly_kMt hly (by first | assumption | omega) (by first | assumption | omega) | with_reducible exact ly_kBc hly (by first | assumption | omega) (by first | assumption | omega) | with_reducible exact ly_k151 hly | with_reducible exact ly_k152 hly | with_reducible exact ly_k153 hly | with_reducible exact ly_k154 hly | with_reducible exact ly_k155 hly | with_reducible exact ly_k156 hly | with_reducible exact ly_k157 hly | with_reducible exact ly_k158 hly | with_reducible exact ly_k159 hly | with_reducible exact ly_k160 hly | with_reducible exact ly_kAh hly (by first | assumption | omega)) (by first | with_reducible rfl | with_reducible assumption | rfl) (by omega) dX6_legTold_60 ?_
        refine jr_goto (tgt := 100) hX dX6_legTold_61 (by decide) ?_
        refine jr_iret hX dX6_legTold_100 rfl rfl ?_
        exact ⟨jj_ri (by rw [t0 c_52]; rfl), rfl, rfl, rfl, rfl, rfl⟩
    · refine jr_iload hX dX6_legTold_5 rfl ?_
      refine jr_aload_n hX dX6_legTold_7 rfl ?_
      refine jr_geti hX kF_X6_54 rfl (ly_kMo hly) dX6_legTold_8 ?_
      refine jr_icmp_ge (tgt := 51) hX dX6_legTold_11 (by decide) (fun c_11 => absurd c_11 (by rw [hB]; exact nI_ge (by assumption) (by omega))) (fun c_11 => ?_)
      refine jr_iload_n hX dX6_legTold_14 rfl ?_
      refine jr_aload_n hX dX6_legTold_15 rfl ?_
      refine jr_iload hX dX6_legTold_16 rfl ?_
      refine jr_iconst (v := 3) hX dX6_legTold_18 (by decide) ?_
      refine jr_ret (jr_runV hX hSt kM_X6_74 (c_bo (jj_fl hX) hly (b := k) (k := 3) (by omega) (show _ = nI 3 from rfl) (by decide)) rfl rfl (ly_kMo hly) ⟨_, _, rfl, by decide⟩ dX6_legTold_19 rfl ⟨jj_b1 rfl, jj_b1 rfl⟩ rfl) ?_
      refine jr_iconst (v := 2) hX dX6_legTold_22 (by decide) ?_
      refine jr_icmp_ne (tgt := 42) hX dX6_legTold_23 (by decide) (fun c_23 => ?_) (fun c_23 => ?_)
      · refine jr_iconst (v := 0) hX dX6_legTold_42 (by decide) ?_
        refine jr_iadd hX dX6_legTold_43 ?_
        refine jr_istore_n hX dX6_legTold_44 rfl ?_
        refine jr_iinc hX dX6_legTold_45 rfl (by first | with_reducible exact jj_inc _ | with_reducible exact jj_inc1 _) rfl ?_
        refine jr_goto (tgt := 5) hX dX6_legTold_48 (by decide) ?_
        rw [sm_1 (show m_on (nI j) I k = 0 from if_neg (fun e => c_23 e.1))] at ih
        exact ih
      · refine jr_aload_n hX dX6_legTold_26 rfl ?_
        refine jr_iload hX dX6_legTold_27 rfl ?_
        refine jr_bipush (v := 7) hX dX6_legTold_29 (by decide) ?_
        refine jr_ret (jr_runV hX hSt kM_X6_74 (c_bo (jj_fl hX) hly (b := k) (k := 7) (by omega) (show _ = nI 7 from rfl) (by decide)) rfl rfl (ly_kMo hly) ⟨_, _, rfl, by decide⟩ dX6_legTold_31 rfl ⟨jj_b1 rfl, jj_b1 rfl⟩ rfl) ?_
        refine jr_iload_n hX dX6_legTold_34 rfl ?_
        refine jr_icmp_ne (tgt := 42) hX dX6_legTold_35 (by decide) (fun c_35 => ?_) (fun c_35 => ?_)
        · refine jr_iconst (v := 0) hX dX6_legTold_42 (by decide) ?_
          refine jr_iadd hX dX6_legTold_43 ?_
          refine jr_istore_n hX dX6_legTold_44 rfl ?_
          refine jr_iinc hX dX6_legTold_45 rfl (by first | with_reducible exact jj_inc _ | with_reducible exact jj_inc1 _) rfl ?_
          refine jr_goto (tgt := 5) hX dX6_legTold_48 (by decide) ?_
          rw [sm_1 (show m_on (nI j) I k = 0 from if_neg (fun e => c_35 e.2))] at ih
          exact ih
        · refine jr_iconst (v := 1) hX dX6_legTold_38 (by decide) ?_
          refine jr_goto (tgt := 43) hX dX6_legTold_39 (by decide) ?_
          refine jr_iadd hX dX6_legTold_43 ?_
          refine jr_istore_n hX dX6_legTold_44 rfl ?_
          refine jr_iinc hX dX6_legTold_45 rfl (by first | with_reducible exact jj_inc _ | with_reducible exact jj_inc1 _) rfl ?_
          refine jr_goto (tgt := 5) hX dX6_legTold_48 (by decide) ?_
          rw [sm_1 (show m_on (nI j) I k = 1 from if_pos ⟨c_23, c_35⟩)] at ih
          exact ih
  exact hloop 0 (Nat.zero_le _)
set_option maxHeartbeats 4000000 in
set_option maxRecDepth 100000 in
theorem c_mM0 {l : Launch} (hfl : l.stackTraces = false) {D : jj_D} {n : Nat} {K : jj_K} {I : jj_I} {P : jj_P} {G : jj_G} (hly : ly K P) {m B N : Nat} (hB : I 150 7 = nI B) (hB2 : B ≤ 10) (hN : I 150 8 = nI N) (hN2 : N ≤ 30) (hm : m < 5) :
    jj_Met l D yX6_merchantTold (jj_ws yX6_merchantTold cX6_merchantTold 5 (some .int)) { frames := 2, cells := 0, slots := 0, locals := 45 } [.ref 150, .int (nI m), .int (nI 0)] n K I P G (jj_R (some (.int (m_mf m B N I 0))) (n) (K) (I) (P) (G)) jj_noX := by
  refine jj_of hfl (by decide +kernel) [some (.ref 150), some (.int (nI m)), some (.int (nI 0)), none, none] rfl rfl ?_
  intro X hXl hX hSt
  have hl : 0 = 0 := rfl
  refine jr_iconst (v := 0) hX dX6_merchantTold_0 (by decide) ?_
  refine jr_istore_n hX dX6_merchantTold_1 rfl ?_
  refine jr_iload_n hX dX6_merchantTold_2 rfl ?_
  refine jr_tabIn (tgt := 40) hX dX6_merchantTold_3 (by decide) (by decide) rfl (by decide) ?_
  refine jr_aload_n hX dX6_merchantTold_40 rfl ?_
  refine jr_getr hX kF_X6_25 rfl (ly_kMo hly) (ly_p6_10 hly) dX6_merchantTold_41 ?_
  refine jr_iload_n hX dX6_merchantTold_44 rfl ?_
  refine jr_iald hX (by first | with_reducible assumption | with_reducible exact ly_kWm hly (by first | assumption | omega) | with_reducible exact ly_kLd hly (by first | assumption | omega) | with_reducible exact ly_kIc hly (by first | assumption | omega) | with_reducible exact ly_kBe hly (by first | assumption | omega) | with_reducible exact ly_kPr hly (by first | assumption | omega) | with_reducible exact ly_kMt hly (by first | assumption | omega) (by first | assumption | omega) | with_reducible exact ly_kBc hly (by first | assumption | omega) (by first | assumption | omega) | with_reducible exact ly_k151 hly | with_reducible exact ly_k152 hly | with_reducible exact ly_k153 hly | with_reducible exact ly_k154 hly | with_reducible exact ly_k155 hly | with_reducible exact ly_k156 hly | with_reducible exact ly_k157 hly | with_reducible exact ly_k158 hly | with_reducible exact ly_k159 hly | with_reducible exact ly_k160 hly | with_reducible exact ly_kAh hly (by first | assumption | omega)) (by first | with_reducible rfl | with_reducible assumption | rfl) (by omega) dX6_merchantTold_45 ?_
  exact jr_iret hX dX6_merchantTold_46 rfl rfl ⟨rfl, rfl, rfl, rfl, rfl, rfl⟩
set_option maxHeartbeats 4000000 in
set_option maxRecDepth 100000 in
theorem c_mM1 {l : Launch} (hfl : l.stackTraces = false) {D : jj_D} {n : Nat} {K : jj_K} {I : jj_I} {P : jj_P} {G : jj_G} (hly : ly K P) {m B N : Nat} (hB : I 150 7 = nI B) (hB2 : B ≤ 10) (hN : I 150 8 = nI N) (hN2 : N ≤ 30) (hm : m < 5) :
    jj_Met l D yX6_merchantTold (jj_ws yX6_merchantTold cX6_merchantTold 5 (some .int)) { frames := 2, cells := 0, slots := 0, locals := 45 } [.ref 150, .int (nI m), .int (nI 1)] n K I P G (jj_R (some (.int (m_mf m B N I 1))) (n) (K) (I) (P) (G)) jj_noX := by
  refine jj_of hfl (by decide +kernel) [some (.ref 150), some (.int (nI m)), some (.int (nI 1)), none, none] rfl rfl ?_
  intro X hXl hX hSt
  have hl : 1 = 1 := rfl
  refine jr_iconst (v := 0) hX dX6_merchantTold_0 (by decide) ?_
  refine jr_istore_n hX dX6_merchantTold_1 rfl ?_
  refine jr_iload_n hX dX6_merchantTold_2 rfl ?_
  refine jr_tabIn (tgt := 47) hX dX6_merchantTold_3 (by decide) (by decide) rfl (by decide) ?_
  refine jr_iconst (v := 0) hX dX6_merchantTold_47 (by decide) ?_
  refine jr_istore hX dX6_merchantTold_48 rfl ?_
  have hloop : ∀ k, k ≤ B → jj_J X D 5 0 0 (jj_MQ X D { frames := 2, cells := 0, slots := 0, locals := 45 } (jj_R (some (.int (m_mf m B N I 1))) (n) (K) (I) (P) (G)) jj_noX) (n) (K) (I) (P) (G) 50 [some (.ref 150), some (.int (nI m)), some (.int (nI 1)), some (.int (sm (m_af (nI m) I) k)), some (.int (nI k))] [] := by
    refine jj_for (B) _ ?_ (fun k hk ih => ?_)
    · refine jr_iload hX dX6_merchantTold_50 rfl ?_
      refine jr_aload_n hX dX6_merchantTold_52 rfl ?_
      refine jr_geti hX kF_X6_54 rfl (ly_kMo hly) dX6_merchantTold_53 ?_
      refine jr_icmp_ge (tgt := 109) hX dX6_merchantTold_56 (by decide) (fun c_56 => ?_) (fun c_56 => absurd (by rw [hB]; exact nI_le (Nat.le_refl _) (by omega)) c_56)
      refine jr_iload_n hX dX6_merchantTold_109 rfl ?_
      exact jr_iret hX dX6_merchantTold_110 rfl rfl ⟨rfl, rfl, rfl, rfl, rfl, rfl⟩
    · refine jr_iload hX dX6_merchantTold_50 rfl ?_
      refine jr_aload_n hX dX6_merchantTold_52 rfl ?_
      refine jr_geti hX kF_X6_54 rfl (ly_kMo hly) dX6_merchantTold_53 ?_
      refine jr_icmp_ge (tgt := 109) hX dX6_merchantTold_56 (by decide) (fun c_56 => absurd c_56 (by rw [hB]; exact nI_ge (by assumption) (by omega))) (fun c_56 => ?_)
      refine jr_aload_n hX dX6_merchantTold_59 rfl ?_
      refine jr_iload hX dX6_merchantTold_60 rfl ?_
      refine jr_iconst (v := 0) hX dX6_merchantTold_62 (by decide) ?_
      refine jr_ret (jr_runV hX hSt kM_X6_74 (c_bo (jj_fl hX) hly (b := k) (k := 0) (by omega) (show _ = nI 0 from rfl) (by decide)) rfl rfl (ly_kMo hly) ⟨_, _, rfl, by decide⟩ dX6_merchantTold_63 rfl ⟨jj_b1 rfl, jj_b1 rfl⟩ rfl) ?_
      refine jr_iload_n hX dX6_merchantTold_66 rfl ?_
      refine jr_icmp_ne (tgt := 103) hX dX6_merchantTold_67 (by decide) (fun c_67 => ?_) (fun c_67 => ?_)
      · refine jr_iinc hX dX6_merchantTold_103 rfl (by first | with_reducible exact jj_inc _ | with_reducible exact jj_inc1 _) rfl ?_
        refine jr_goto (tgt := 50) hX dX6_merchantTold_106 (by decide) ?_
        rw [sm_0 (show m_af (nI m) I k = 0 from if_neg c_67)] at ih
        exact ih
      · refine jr_iload_n hX dX6_merchantTold_70 rfl ?_
        refine jr_iload_n hX dX6_merchantTold_71 rfl ?_
        refine jr_iconst (v := 5) hX dX6_merchantTold_72 (by decide) ?_
        refine jr_icmp_ne (tgt := 85) hX dX6_merchantTold_73 (by decide) (fun c_73 => ?_) (fun c_73 => absurd c_73 (by decide))
        refine jr_aload_n hX dX6_merchantTold_85 rfl ?_
        refine jr_iload hX dX6_merchantTold_86 rfl ?_
        refine jr_iconst (v := 3) hX dX6_merchantTold_88 (by decide) ?_
        refine jr_ret (jr_runV hX hSt kM_X6_74 (c_bo (jj_fl hX) hly (b := k) (k := 3) (by omega) (show _ = nI 3 from rfl) (by decide)) rfl rfl (ly_kMo hly) ⟨_, _, rfl, by decide⟩ dX6_merchantTold_89 rfl ⟨jj_b1 rfl, jj_b1 rfl⟩ rfl) ?_
        refine jr_iconst (v := 3) hX dX6_merchantTold_92 (by decide) ?_
        refine jr_icmp_ne (tgt := 100) hX dX6_merchantTold_93 (by decide) (fun c_93 => ?_) (fun c_93 => ?_)
        · refine jr_iconst (v := 1) hX dX6_merchantTold_100 (by decide) ?_
          refine jr_iadd hX dX6_merchantTold_101 ?_
          refine jr_istore_n hX dX6_merchantTold_102 rfl ?_
          refine jr_iinc hX dX6_merchantTold_103 rfl (by first | with_reducible exact jj_inc _ | with_reducible exact jj_inc1 _) rfl ?_
          refine jr_goto (tgt := 50) hX dX6_merchantTold_106 (by decide) ?_
          rw [sm_1 (show m_af (nI m) I k = 1 from by unfold m_af; rw [if_pos c_67, if_neg c_93])] at ih
          exact ih
        · refine jr_iconst (v := 0) hX dX6_merchantTold_96 (by decide) ?_
          refine jr_goto (tgt := 101) hX dX6_merchantTold_97 (by decide) ?_
          refine jr_iadd hX dX6_merchantTold_101 ?_
          refine jr_istore_n hX dX6_merchantTold_102 rfl ?_
          refine jr_iinc hX dX6_merchantTold_103 rfl (by first | with_reducible exact jj_inc _ | with_reducible exact jj_inc1 _) rfl ?_
          refine jr_goto (tgt := 50) hX dX6_merchantTold_106 (by decide) ?_
          rw [sm_1 (show m_af (nI m) I k = 0 from by unfold m_af; rw [if_pos c_67, if_pos c_93])] at ih
          exact ih
  exact hloop 0 (Nat.zero_le _)
set_option maxHeartbeats 4000000 in
set_option maxRecDepth 100000 in
theorem c_mM5 {l : Launch} (hfl : l.stackTraces = false) {D : jj_D} {n : Nat} {K : jj_K} {I : jj_I} {P : jj_P} {G : jj_G} (hly : ly K P) {m B N : Nat} (hB : I 150 7 = nI B) (hB2 : B ≤ 10) (hN : I 150 8 = nI N) (hN2 : N ≤ 30) (hm : m < 5) :
    jj_Met l D yX6_merchantTold (jj_ws yX6_merchantTold cX6_merchantTold 5 (some .int)) { frames := 2, cells := 0, slots := 0, locals := 45 } [.ref 150, .int (nI m), .int (nI 5)] n K I P G (jj_R (some (.int (m_mf m B N I 5))) (n) (K) (I) (P) (G)) jj_noX := by
  refine jj_of hfl (by decide +kernel) [some (.ref 150), some (.int (nI m)), some (.int (nI 5)), none, none] rfl rfl ?_
  intro X hXl hX hSt
  have hl : 5 = 5 := rfl
  refine jr_iconst (v := 0) hX dX6_merchantTold_0 (by decide) ?_
  refine jr_istore_n hX dX6_merchantTold_1 rfl ?_
  refine jr_iload_n hX dX6_merchantTold_2 rfl ?_
  refine jr_tabIn (tgt := 47) hX dX6_merchantTold_3 (by decide) (by decide) rfl (by decide) ?_
  refine jr_iconst (v := 0) hX dX6_merchantTold_47 (by decide) ?_
  refine jr_istore hX dX6_merchantTold_48 rfl ?_
  have hloop : ∀ k, k ≤ B → jj_J X D 5 0 0 (jj_MQ X D { frames := 2, cells := 0, slots := 0, locals := 45 } (jj_R (some (.int (m_mf m B N I 5))) (n) (K) (I) (P) (G)) jj_noX) (n) (K) (I) (P) (G) 50 [some (.ref 150), some (.int (nI m)), some (.int (nI 5)), some (.int (sm (m_co (nI m) I) k)), some (.int (nI k))] [] := by
    refine jj_for (B) _ ?_ (fun k hk ih => ?_)
    · refine jr_iload hX dX6_merchantTold_50 rfl ?_
      refine jr_aload_n hX dX6_merchantTold_52 rfl ?_
      refine jr_geti hX kF_X6_54 rfl (ly_kMo hly) dX6_merchantTold_53 ?_
      refine jr_icmp_ge (tgt := 109) hX dX6_merchantTold_56 (by decide) (fun c_56 => ?_) (fun c_56 => absurd (by rw [hB]; exact nI_le (Nat.le_refl _) (by omega)) c_56)
      refine jr_iload_n hX dX6_merchantTold_109 rfl ?_
      exact jr_iret hX dX6_merchantTold_110 rfl rfl ⟨rfl, rfl, rfl, rfl, rfl, rfl⟩
    · refine jr_iload hX dX6_merchantTold_50 rfl ?_
      refine jr_aload_n hX dX6_merchantTold_52 rfl ?_
      refine jr_geti hX kF_X6_54 rfl (ly_kMo hly) dX6_merchantTold_53 ?_
      refine jr_icmp_ge (tgt := 109) hX dX6_merchantTold_56 (by decide) (fun c_56 => absurd c_56 (by rw [hB]; exact nI_ge (by assumption) (by omega))) (fun c_56 => ?_)
      refine jr_aload_n hX dX6_merchantTold_59 rfl ?_
      refine jr_iload hX dX6_merchantTold_60 rfl ?_
      refine jr_iconst (v := 0) hX dX6_merchantTold_62 (by decide) ?_
      refine jr_ret (jr_runV hX hSt kM_X6_74 (c_bo (jj_fl hX) hly (b := k) (k := 0) (by omega) (show _ = nI 0 from rfl) (by decide)) rfl rfl (ly_kMo hly) ⟨_, _, rfl, by decide⟩ dX6_merchantTold_63 rfl ⟨jj_b1 rfl, jj_b1 rfl⟩ rfl) ?_
      refine jr_iload_n hX dX6_merchantTold_66 rfl ?_
      refine jr_icmp_ne (tgt := 103) hX dX6_merchantTold_67 (by decide) (fun c_67 => ?_) (fun c_67 => ?_)
      · refine jr_iinc hX dX6_merchantTold_103 rfl (by first | with_reducible exact jj_inc _ | with_reducible exact jj_inc1 _) rfl ?_
        refine jr_goto (tgt := 50) hX dX6_merchantTold_106 (by decide) ?_
        rw [sm_0 (show m_co (nI m) I k = 0 from if_neg c_67)] at ih
        exact ih
      · refine jr_iload_n hX dX6_merchantTold_70 rfl ?_
        refine jr_iload_n hX dX6_merchantTold_71 rfl ?_
        refine jr_iconst (v := 5) hX dX6_merchantTold_72 (by decide) ?_
        refine jr_icmp_ne (tgt := 85) hX dX6_merchantTold_73 (by decide) (fun c_73 => absurd rfl c_73) (fun c_73 => ?_)
        refine jr_aload_n hX dX6_merchantTold_76 rfl ?_
        refine jr_iload hX dX6_merchantTold_77 rfl ?_
        refine jr_ret (jr_runV hX hSt kM_X6_103 (c_loaded (jj_fl hX) hly (by omega)) rfl rfl (ly_kMo hly) ⟨_, _, rfl, by decide⟩ dX6_merchantTold_79 rfl ⟨jj_b1 rfl, jj_b1 rfl⟩ rfl) ?_
        refine jr_goto (tgt := 101) hX dX6_merchantTold_82 (by decide) ?_
        refine jr_iadd hX dX6_merchantTold_101 ?_
        refine jr_istore_n hX dX6_merchantTold_102 rfl ?_
        refine jr_iinc hX dX6_merchantTold_103 rfl (by first | with_reducible exact jj_inc _ | with_reducible exact jj_inc1 _) rfl ?_
        refine jr_goto (tgt := 50) hX dX6_merchantTold_106 (by decide) ?_
        rw [sm_1 (show m_co (nI m) I k = m_ld k I from if_pos c_67)] at ih
        exact ih
  exact hloop 0 (Nat.zero_le _)
set_option maxHeartbeats 4000000 in
set_option maxRecDepth 100000 in
theorem c_mM2 {l : Launch} (hfl : l.stackTraces = false) {D : jj_D} {n : Nat} {K : jj_K} {I : jj_I} {P : jj_P} {G : jj_G} (hly : ly K P) {m B N : Nat} (hB : I 150 7 = nI B) (hB2 : B ≤ 10) (hN : I 150 8 = nI N) (hN2 : N ≤ 30) (hm : m < 5) :
    jj_Met l D yX6_merchantTold (jj_ws yX6_merchantTold cX6_merchantTold 5 (some .int)) { frames := 2, cells := 0, slots := 0, locals := 45 } [.ref 150, .int (nI m), .int (nI 2)] n K I P G (jj_R (some (.int (m_mf m B N I 2))) (n) (K) (I) (P) (G)) jj_noX := by
  refine jj_of hfl (by decide +kernel) [some (.ref 150), some (.int (nI m)), some (.int (nI 2)), none, none] rfl rfl ?_
  intro X hXl hX hSt
  have hl : 2 = 2 := rfl
  refine jr_iconst (v := 0) hX dX6_merchantTold_0 (by decide) ?_
  refine jr_istore_n hX dX6_merchantTold_1 rfl ?_
  refine jr_iload_n hX dX6_merchantTold_2 rfl ?_
  refine jr_tabIn (tgt := 111) hX dX6_merchantTold_3 (by decide) (by decide) rfl (by decide) ?_
  refine jr_iconst (v := 0) hX dX6_merchantTold_111 (by decide) ?_
  refine jr_istore hX dX6_merchantTold_112 rfl ?_
  have hloop : ∀ k, k ≤ N → jj_J X D 5 0 0 (jj_MQ X D { frames := 2, cells := 0, slots := 0, locals := 45 } (jj_R (some (.int (m_mf m B N I 2))) (n) (K) (I) (P) (G)) jj_noX) (n) (K) (I) (P) (G) 114 [some (.ref 150), some (.int (nI m)), some (.int (nI 2)), some (.int (sm (m_do (nI m) 0 I) k)), some (.int (nI k))] [] := by
    refine jj_for (N) _ ?_ (fun k hk ih => ?_)
    · refine jr_iload hX dX6_merchantTold_114 rfl ?_
      refine jr_aload_n hX dX6_merchantTold_116 rfl ?_
      refine jr_geti hX kF_X6_106 rfl (ly_kMo hly) dX6_merchantTold_117 ?_
      refine jr_icmp_ge (tgt := 169) hX dX6_merchantTold_120 (by decide) (fun c_120 => ?_) (fun c_120 => absurd (by rw [hN]; exact nI_le (Nat.le_refl _) (by omega)) c_120)
      refine jr_iload_n hX dX6_merchantTold_169 rfl ?_
      exact jr_iret hX dX6_merchantTold_170 rfl rfl ⟨rfl, rfl, rfl, rfl, rfl, rfl⟩
    · refine jr_iload hX dX6_merchantTold_114 rfl ?_
      refine jr_aload_n hX dX6_merchantTold_116 rfl ?_
      refine jr_geti hX kF_X6_106 rfl (ly_kMo hly) dX6_merchantTold_117 ?_
      refine jr_icmp_ge (tgt := 169) hX dX6_merchantTold_120 (by decide) (fun c_120 => absurd c_120 (by rw [hN]; exact nI_ge (by assumption) (by omega))) (fun c_120 => ?_)
      refine jr_iload_n hX dX6_merchantTold_123 rfl ?_
      refine jr_aload_n hX dX6_merchantTold_124 rfl ?_
      refine jr_iload hX dX6_merchantTold_125 rfl ?_
      refine jr_iconst (v := 1) hX dX6_merchantTold_127 (by decide) ?_
      refine jr_ret (jr_runV hX hSt kM_X6_109 (c_de (jj_fl hX) hly (d := k) (k := 1) (by omega) (show _ = nI 1 from rfl) (by decide)) rfl rfl (ly_kMo hly) ⟨_, _, rfl, by decide⟩ dX6_merchantTold_128 rfl ⟨jj_b1 rfl, jj_b1 rfl⟩ rfl) ?_
      refine jr_iload_n hX dX6_merchantTold_131 rfl ?_
      refine jr_icmp_ne (tgt := 160) hX dX6_merchantTold_132 (by decide) (fun c_132 => ?_) (fun c_132 => ?_)
      · refine jr_iconst (v := 0) hX dX6_merchantTold_160 (by decide) ?_
        refine jr_iadd hX dX6_merchantTold_161 ?_
        refine jr_istore_n hX dX6_merchantTold_162 rfl ?_
        refine jr_iinc hX dX6_merchantTold_163 rfl (by first | with_reducible exact jj_inc _ | with_reducible exact jj_inc1 _) rfl ?_
        refine jr_goto (tgt := 114) hX dX6_merchantTold_166 (by decide) ?_
        rw [sm_1 (show m_do (nI m) 0 I k = 0 from if_neg (fun e => c_132 e.1))] at ih
        exact ih
      · refine jr_aload_n hX dX6_merchantTold_135 rfl ?_
        refine jr_iload hX dX6_merchantTold_136 rfl ?_
        refine jr_bipush (v := 6) hX dX6_merchantTold_138 (by decide) ?_
        refine jr_ret (jr_runV hX hSt kM_X6_109 (c_de (jj_fl hX) hly (d := k) (k := 6) (by omega) (show _ = nI 6 from rfl) (by decide)) rfl rfl (ly_kMo hly) ⟨_, _, rfl, by decide⟩ dX6_merchantTold_140 rfl ⟨jj_b1 rfl, jj_b1 rfl⟩ rfl) ?_
        refine jr_iload_n hX dX6_merchantTold_143 rfl ?_
        refine jr_iconst (v := 2) hX dX6_merchantTold_144 (by decide) ?_
        refine jr_icmp_ne (tgt := 152) hX dX6_merchantTold_145 (by decide) (fun c_145 => absurd rfl c_145) (fun c_145 => ?_)
        refine jr_iconst (v := 0) hX dX6_merchantTold_148 (by decide) ?_
        refine jr_goto (tgt := 153) hX dX6_merchantTold_149 (by decide) ?_
        refine jr_icmp_ne (tgt := 160) hX dX6_merchantTold_153 (by decide) (fun c_153 => ?_) (fun c_153 => ?_)
        · refine jr_iconst (v := 0) hX dX6_merchantTold_160 (by decide) ?_
          refine jr_iadd hX dX6_merchantTold_161 ?_
          refine jr_istore_n hX dX6_merchantTold_162 rfl ?_
          refine jr_iinc hX dX6_merchantTold_163 rfl (by first | with_reducible exact jj_inc _ | with_reducible exact jj_inc1 _) rfl ?_
          refine jr_goto (tgt := 114) hX dX6_merchantTold_166 (by decide) ?_
          rw [sm_1 (show m_do (nI m) 0 I k = 0 from if_neg (fun e => c_153 e.2))] at ih
          exact ih
        · refine jr_iconst (v := 1) hX dX6_merchantTold_156 (by decide) ?_
          refine jr_goto (tgt := 161) hX dX6_merchantTold_157 (by decide) ?_
          refine jr_iadd hX dX6_merchantTold_161 ?_
          refine jr_istore_n hX dX6_merchantTold_162 rfl ?_
          refine jr_iinc hX dX6_merchantTold_163 rfl (by first | with_reducible exact jj_inc _ | with_reducible exact jj_inc1 _) rfl ?_
          refine jr_goto (tgt := 114) hX dX6_merchantTold_166 (by decide) ?_
          rw [sm_1 (show m_do (nI m) 0 I k = 1 from if_pos ⟨c_132, c_153⟩)] at ih
          exact ih
  exact hloop 0 (Nat.zero_le _)
set_option maxHeartbeats 4000000 in
set_option maxRecDepth 100000 in
theorem c_mM3 {l : Launch} (hfl : l.stackTraces = false) {D : jj_D} {n : Nat} {K : jj_K} {I : jj_I} {P : jj_P} {G : jj_G} (hly : ly K P) {m B N : Nat} (hB : I 150 7 = nI B) (hB2 : B ≤ 10) (hN : I 150 8 = nI N) (hN2 : N ≤ 30) (hm : m < 5) :
    jj_Met l D yX6_merchantTold (jj_ws yX6_merchantTold cX6_merchantTold 5 (some .int)) { frames := 2, cells := 0, slots := 0, locals := 45 } [.ref 150, .int (nI m), .int (nI 3)] n K I P G (jj_R (some (.int (m_mf m B N I 3))) (n) (K) (I) (P) (G)) jj_noX := by
  refine jj_of hfl (by decide +kernel) [some (.ref 150), some (.int (nI m)), some (.int (nI 3)), none, none] rfl rfl ?_
  intro X hXl hX hSt
  have hl : 3 = 3 := rfl
  refine jr_iconst (v := 0) hX dX6_merchantTold_0 (by decide) ?_
  refine jr_istore_n hX dX6_merchantTold_1 rfl ?_
  refine jr_iload_n hX dX6_merchantTold_2 rfl ?_
  refine jr_tabIn (tgt := 111) hX dX6_merchantTold_3 (by decide) (by decide) rfl (by decide) ?_
  refine jr_iconst (v := 0) hX dX6_merchantTold_111 (by decide) ?_
  refine jr_istore hX dX6_merchantTold_112 rfl ?_
  have hloop : ∀ k, k ≤ N → jj_J X D 5 0 0 (jj_MQ X D { frames := 2, cells := 0, slots := 0, locals := 45 } (jj_R (some (.int (m_mf m B N I 3))) (n) (K) (I) (P) (G)) jj_noX) (n) (K) (I) (P) (G) 114 [some (.ref 150), some (.int (nI m)), some (.int (nI 3)), some (.int (sm (m_do (nI m) 2 I) k)), some (.int (nI k))] [] := by
    refine jj_for (N) _ ?_ (fun k hk ih => ?_)
    · refine jr_iload hX dX6_merchantTold_114 rfl ?_
      refine jr_aload_n hX dX6_merchantTold_116 rfl ?_
      refine jr_geti hX kF_X6_106 rfl (ly_kMo hly) dX6_merchantTold_117 ?_
      refine jr_icmp_ge (tgt := 169) hX dX6_merchantTold_120 (by decide) (fun c_120 => ?_) (fun c_120 => absurd (by rw [hN]; exact nI_le (Nat.le_refl _) (by omega)) c_120)
      refine jr_iload_n hX dX6_merchantTold_169 rfl ?_
      exact jr_iret hX dX6_merchantTold_170 rfl rfl ⟨rfl, rfl, rfl, rfl, rfl, rfl⟩
    · refine jr_iload hX dX6_merchantTold_114 rfl ?_
      refine jr_aload_n hX dX6_merchantTold_116 rfl ?_
      refine jr_geti hX kF_X6_106 rfl (ly_kMo hly) dX6_merchantTold_117 ?_
      refine jr_icmp_ge (tgt := 169) hX dX6_merchantTold_120 (by decide) (fun c_120 => absurd c_120 (by rw [hN]; exact nI_ge (by assumption) (by omega))) (fun c_120 => ?_)
      refine jr_iload_n hX dX6_merchantTold_123 rfl ?_
      refine jr_aload_n hX dX6_merchantTold_124 rfl ?_
      refine jr_iload hX dX6_merchantTold_125 rfl ?_
      refine jr_iconst (v := 1) hX dX6_merchantTold_127 (by decide) ?_
      refine jr_ret (jr_runV hX hSt kM_X6_109 (c_de (jj_fl hX) hly (d := k) (k := 1) (by omega) (show _ = nI 1 from rfl) (by decide)) rfl rfl (ly_kMo hly) ⟨_, _, rfl, by decide⟩ dX6_merchantTold_128 rfl ⟨jj_b1 rfl, jj_b1 rfl⟩ rfl) ?_
      refine jr_iload_n hX dX6_merchantTold_131 rfl ?_
      refine jr_icmp_ne (tgt := 160) hX dX6_merchantTold_132 (by decide) (fun c_132 => ?_) (fun c_132 => ?_)
      · refine jr_iconst (v := 0) hX dX6_merchantTold_160 (by decide) ?_
        refine jr_iadd hX dX6_merchantTold_161 ?_
        refine jr_istore_n hX dX6_merchantTold_162 rfl ?_
        refine jr_iinc hX dX6_merchantTold_163 rfl (by first | with_reducible exact jj_inc _ | with_reducible exact jj_inc1 _) rfl ?_
        refine jr_goto (tgt := 114) hX dX6_merchantTold_166 (by decide) ?_
        rw [sm_1 (show m_do (nI m) 2 I k = 0 from if_neg (fun e => c_132 e.1))] at ih
        exact ih
      · refine jr_aload_n hX dX6_merchantTold_135 rfl ?_
        refine jr_iload hX dX6_merchantTold_136 rfl ?_
        refine jr_bipush (v := 6) hX dX6_merchantTold_138 (by decide) ?_
        refine jr_ret (jr_runV hX hSt kM_X6_109 (c_de (jj_fl hX) hly (d := k) (k := 6) (by omega) (show _ = nI 6 from rfl) (by decide)) rfl rfl (ly_kMo hly) ⟨_, _, rfl, by decide⟩ dX6_merchantTold_140 rfl ⟨jj_b1 rfl, jj_b1 rfl⟩ rfl) ?_
        refine jr_iload_n hX dX6_merchantTold_143 rfl ?_
        refine jr_iconst (v := 2) hX dX6_merchantTold_144 (by decide) ?_
        refine jr_icmp_ne (tgt := 152) hX dX6_merchantTold_145 (by decide) (fun c_145 => ?_) (fun c_145 => absurd c_145 (by decide))
        refine jr_iconst (v := 2) hX dX6_merchantTold_152 (by decide) ?_
        refine jr_icmp_ne (tgt := 160) hX dX6_merchantTold_153 (by decide) (fun c_153 => ?_) (fun c_153 => ?_)
        · refine jr_iconst (v := 0) hX dX6_merchantTold_160 (by decide) ?_
          refine jr_iadd hX dX6_merchantTold_161 ?_
          refine jr_istore_n hX dX6_merchantTold_162 rfl ?_
          refine jr_iinc hX dX6_merchantTold_163 rfl (by first | with_reducible exact jj_inc _ | with_reducible exact jj_inc1 _) rfl ?_
          refine jr_goto (tgt := 114) hX dX6_merchantTold_166 (by decide) ?_
          rw [sm_1 (show m_do (nI m) 2 I k = 0 from if_neg (fun e => c_153 e.2))] at ih
          exact ih
        · refine jr_iconst (v := 1) hX dX6_merchantTold_156 (by decide) ?_
          refine jr_goto (tgt := 161) hX dX6_merchantTold_157 (by decide) ?_
          refine jr_iadd hX dX6_merchantTold_161 ?_
          refine jr_istore_n hX dX6_merchantTold_162 rfl ?_
          refine jr_iinc hX dX6_merchantTold_163 rfl (by first | with_reducible exact jj_inc _ | with_reducible exact jj_inc1 _) rfl ?_
          refine jr_goto (tgt := 114) hX dX6_merchantTold_166 (by decide) ?_
          rw [sm_1 (show m_do (nI m) 2 I k = 1 from if_pos ⟨c_132, c_153⟩)] at ih
          exact ih
  exact hloop 0 (Nat.zero_le _)
set_option maxHeartbeats 4000000 in
set_option maxRecDepth 100000 in
theorem c_mM4 {l : Launch} (hfl : l.stackTraces = false) {D : jj_D} {n : Nat} {K : jj_K} {I : jj_I} {P : jj_P} {G : jj_G} (hly : ly K P) {m B N : Nat} (hB : I 150 7 = nI B) (hB2 : B ≤ 10) (hN : I 150 8 = nI N) (hN2 : N ≤ 30) (hm : m < 5) :
    jj_Met l D yX6_merchantTold (jj_ws yX6_merchantTold cX6_merchantTold 5 (some .int)) { frames := 2, cells := 0, slots := 0, locals := 45 } [.ref 150, .int (nI m), .int (nI 4)] n K I P G (jj_R (some (.int (m_mf m B N I 4))) (n) (K) (I) (P) (G)) jj_noX := by
  refine jj_of hfl (by decide +kernel) [some (.ref 150), some (.int (nI m)), some (.int (nI 4)), none, none] rfl rfl ?_
  intro X hXl hX hSt
  have hl : 4 = 4 := rfl
  refine jr_iconst (v := 0) hX dX6_merchantTold_0 (by decide) ?_
  refine jr_istore_n hX dX6_merchantTold_1 rfl ?_
  refine jr_iload_n hX dX6_merchantTold_2 rfl ?_
  refine jr_tabIn (tgt := 171) hX dX6_merchantTold_3 (by decide) (by decide) rfl (by decide) ?_
  refine jr_iload_n hX dX6_merchantTold_171 rfl ?_
  refine jr_iconst (v := 0) hX dX6_merchantTold_172 (by decide) ?_
  refine jr_iconst (v := 0) hX dX6_merchantTold_173 (by decide) ?_
  refine jr_ret (jr_runS hX hSt kM_X6_99 (c_at (jj_fl hX) (show _ = nI m from rfl) (show _ = nI 0 from rfl) (show _ = nI 0 from rfl)) rfl rfl dX6_merchantTold_174 rfl ⟨jj_b1 rfl, jj_b1 rfl⟩ rfl) ?_
  refine jr_istore hX dX6_merchantTold_177 rfl ?_
  have hloop : ∀ k, k ≤ 32 → jj_J X D 5 0 0 (jj_MQ X D { frames := 2, cells := 0, slots := 0, locals := 45 } (jj_R (some (.int (m_mf m B N I 4))) (n) (K) (I) (P) (G)) jj_noX) (n) (K) (I) (P) (G) 179 [some (.ref 150), some (.int (nI m)), some (.int (nI 4)), some (.int (sm (fun k => I 157 (32 * m + k)) k)), some (.int (nI (32 * m + k)))] [] := by
    refine jj_for (32) _ ?_ (fun k hk ih => ?_)
    · refine jr_iload hX dX6_merchantTold_179 rfl ?_
      refine jr_iload_n hX dX6_merchantTold_181 rfl ?_
      refine jr_iconst (v := 1) hX dX6_merchantTold_182 (by decide) ?_
      refine jr_iadd hX dX6_merchantTold_183 ?_
      rw [nI_1]
      refine jr_iconst (v := 0) hX dX6_merchantTold_184 (by decide) ?_
      refine jr_iconst (v := 0) hX dX6_merchantTold_185 (by decide) ?_
      refine jr_ret (jr_runS hX hSt kM_X6_99 (c_at (jj_fl hX) (show _ = nI (m + 1) from rfl) (show _ = nI 0 from rfl) (show _ = nI 0 from rfl)) rfl rfl dX6_merchantTold_186 rfl ⟨jj_b1 rfl, jj_b1 rfl⟩ rfl) ?_
      refine jr_icmp_ge (tgt := 208) hX dX6_merchantTold_189 (by decide) (fun c_189 => ?_) (fun c_189 => absurd (nI_le (by omega) (by omega)) c_189)
      refine jr_iload_n hX dX6_merchantTold_208 rfl ?_
      exact jr_iret hX dX6_merchantTold_209 rfl rfl ⟨rfl, rfl, rfl, rfl, rfl, rfl⟩
    · refine jr_iload hX dX6_merchantTold_179 rfl ?_
      refine jr_iload_n hX dX6_merchantTold_181 rfl ?_
      refine jr_iconst (v := 1) hX dX6_merchantTold_182 (by decide) ?_
      refine jr_iadd hX dX6_merchantTold_183 ?_
      rw [nI_1]
      refine jr_iconst (v := 0) hX dX6_merchantTold_184 (by decide) ?_
      refine jr_iconst (v := 0) hX dX6_merchantTold_185 (by decide) ?_
      refine jr_ret (jr_runS hX hSt kM_X6_99 (c_at (jj_fl hX) (show _ = nI (m + 1) from rfl) (show _ = nI 0 from rfl) (show _ = nI 0 from rfl)) rfl rfl dX6_merchantTold_186 rfl ⟨jj_b1 rfl, jj_b1 rfl⟩ rfl) ?_
      refine jr_icmp_ge (tgt := 208) hX dX6_merchantTold_189 (by decide) (fun c_189 => absurd c_189 (nI_ge (by omega) (by omega))) (fun c_189 => ?_)
      refine jr_iload_n hX dX6_merchantTold_192 rfl ?_
      refine jr_aload_n hX dX6_merchantTold_193 rfl ?_
      refine jr_getr hX kF_X6_28 rfl (ly_kMo hly) (ly_p6_11 hly) dX6_merchantTold_194 ?_
      refine jr_iload hX dX6_merchantTold_197 rfl ?_
      refine jr_iald hX (by first | with_reducible assumption | with_reducible exact ly_kWm hly (by first | assumption | omega) | with_reducible exact ly_kLd hly (by first | assumption | omega) | with_reducible exact ly_kIc hly (by first | assumption | omega) | with_reducible exact ly_kBe hly (by first | assumption | omega) | with_reducible exact ly_kPr hly (by first | assumption | omega) | with_reducible exact ly_kMt hly (by first | assumption | omega) (by first | assumption | omega) | with_reducible exact ly_kBc hly (by first | assumption | omega) (by first | assumption | omega) | with_reducible exact ly_k151 hly | with_reducible exact ly_k152 hly | with_reducible exact ly_k153 hly | with_reducible exact ly_k154 hly | with_reducible exact ly_k155 hly | with_reducible exact ly_k156 hly | with_reducible exact ly_k157 hly | with_reducible exact ly_k158 hly | with_reducible exact ly_k159 hly | with_reducible exact ly_k160 hly | with_reducible exact ly_kAh hly (by first | assumption | omega)) (by first | with_reducible rfl | with_reducible assumption | rfl) (by omega) dX6_merchantTold_199 ?_
      refine jr_iadd hX dX6_merchantTold_200 ?_
      refine jr_istore_n hX dX6_merchantTold_201 rfl ?_
      refine jr_iinc hX dX6_merchantTold_202 rfl (by first | with_reducible exact jj_inc _ | with_reducible exact jj_inc1 _) rfl ?_
      refine jr_goto (tgt := 179) hX dX6_merchantTold_205 (by decide) ?_
      exact ih
  exact hloop 0 (Nat.zero_le _)
theorem c_mM {l : Launch} (hfl : l.stackTraces = false) {D : jj_D} {n : Nat} {K : jj_K} {I : jj_I} {P : jj_P} {G : jj_G} (hly : ly K P) {m t B N : Nat} (hB : I 150 7 = nI B) (hB2 : B ≤ 10) (hN : I 150 8 = nI N) (hN2 : N ≤ 30) (hm : m < 5) (ht : t < 6) :
    jj_Met l D yX6_merchantTold (jj_ws yX6_merchantTold cX6_merchantTold 5 (some .int)) { frames := 2, cells := 0, slots := 0, locals := 45 } [.ref 150, .int (nI m), .int (nI t)] n K I P G (jj_R (some (.int (m_mf m B N I t))) n K I P G) jj_noX := by
  have h : t = 0 ∨ t = 1 ∨ t = 2 ∨ t = 3 ∨ t = 4 ∨ t = 5 := by omega
  rcases h with rfl | rfl | rfl | rfl | rfl | rfl
  · exact c_mM0 hfl hly hB hB2 hN hN2 hm
  · exact c_mM1 hfl hly hB hB2 hN hN2 hm
  · exact c_mM2 hfl hly hB hB2 hN hN2 hm
  · exact c_mM3 hfl hly hB hB2 hN hN2 hm
  · exact c_mM4 hfl hly hB hB2 hN hN2 hm
  · exact c_mM5 hfl hly hB hB2 hN hN2 hm
set_option maxHeartbeats 4000000 in
set_option maxRecDepth 100000 in
theorem c_mB {l : Launch} (hfl : l.stackTraces = false) {D : jj_D} {n : Nat} {K : jj_K} {I : jj_I} {P : jj_P} {G : jj_G} (hly : ly K P) {b t : Nat} (hb : b < 10) (ht : t < 12) :
    jj_Met l D yX6_boatTold (jj_ws yX6_boatTold cX6_boatTold 3 (some .int)) { frames := 2, cells := 0, slots := 0, locals := 45 } [.ref 150, .int (nI b), .int (nI t)] n K I P G (jj_R (some (.int (m_bf b I t))) (n) (K) (I) (P) (G)) jj_noX := by
  refine jj_of hfl (by decide +kernel) [some (.ref 150), some (.int (nI b)), some (.int (nI t))] rfl rfl ?_
  intro X hXl hX hSt
  have hlits : t = 0 ∨ t = 1 ∨ t = 2 ∨ t = 3 ∨ t = 4 ∨ t = 5 ∨ t = 6 ∨ t = 7 ∨ t = 8 ∨ t = 9 ∨ t = 10 ∨ t = 11 := by omega
  rcases hlits with rfl | rfl | rfl | rfl | rfl | rfl | rfl | rfl | rfl | rfl | rfl | rfl
  · refine jr_iload_n hX dX6_boatTold_0 rfl ?_
    refine jr_bipush (v := 7) hX dX6_boatTold_1 (by decide) ?_
    refine jr_icmp_ge (tgt := 15) hX dX6_boatTold_3 (by decide) (fun c_3 => absurd c_3 (by decide)) (fun c_3 => ?_)
    refine jr_aload_n hX dX6_boatTold_6 rfl ?_
    refine jr_iload_n hX dX6_boatTold_7 rfl ?_
    refine jr_iload_n hX dX6_boatTold_8 rfl ?_
    refine jr_ret (jr_runV hX hSt kM_X6_74 (c_bo (jj_fl hX) hly (b := b) (k := 0) hb rfl (by decide)) rfl rfl (ly_kMo hly) ⟨_, _, rfl, by decide⟩ dX6_boatTold_9 rfl ⟨jj_b1 rfl, jj_b1 rfl⟩ rfl) ?_
    refine jr_goto (tgt := 41) hX dX6_boatTold_12 (by decide) ?_
    exact jr_iret hX dX6_boatTold_41 rfl rfl ⟨rfl, rfl, rfl, rfl, rfl, rfl⟩
  · refine jr_iload_n hX dX6_boatTold_0 rfl ?_
    refine jr_bipush (v := 7) hX dX6_boatTold_1 (by decide) ?_
    refine jr_icmp_ge (tgt := 15) hX dX6_boatTold_3 (by decide) (fun c_3 => absurd c_3 (by decide)) (fun c_3 => ?_)
    refine jr_aload_n hX dX6_boatTold_6 rfl ?_
    refine jr_iload_n hX dX6_boatTold_7 rfl ?_
    refine jr_iload_n hX dX6_boatTold_8 rfl ?_
    refine jr_ret (jr_runV hX hSt kM_X6_74 (c_bo (jj_fl hX) hly (b := b) (k := 1) hb rfl (by decide)) rfl rfl (ly_kMo hly) ⟨_, _, rfl, by decide⟩ dX6_boatTold_9 rfl ⟨jj_b1 rfl, jj_b1 rfl⟩ rfl) ?_
    refine jr_goto (tgt := 41) hX dX6_boatTold_12 (by decide) ?_
    exact jr_iret hX dX6_boatTold_41 rfl rfl ⟨rfl, rfl, rfl, rfl, rfl, rfl⟩
  · refine jr_iload_n hX dX6_boatTold_0 rfl ?_
    refine jr_bipush (v := 7) hX dX6_boatTold_1 (by decide) ?_
    refine jr_icmp_ge (tgt := 15) hX dX6_boatTold_3 (by decide) (fun c_3 => absurd c_3 (by decide)) (fun c_3 => ?_)
    refine jr_aload_n hX dX6_boatTold_6 rfl ?_
    refine jr_iload_n hX dX6_boatTold_7 rfl ?_
    refine jr_iload_n hX dX6_boatTold_8 rfl ?_
    refine jr_ret (jr_runV hX hSt kM_X6_74 (c_bo (jj_fl hX) hly (b := b) (k := 2) hb rfl (by decide)) rfl rfl (ly_kMo hly) ⟨_, _, rfl, by decide⟩ dX6_boatTold_9 rfl ⟨jj_b1 rfl, jj_b1 rfl⟩ rfl) ?_
    refine jr_goto (tgt := 41) hX dX6_boatTold_12 (by decide) ?_
    exact jr_iret hX dX6_boatTold_41 rfl rfl ⟨rfl, rfl, rfl, rfl, rfl, rfl⟩
  · refine jr_iload_n hX dX6_boatTold_0 rfl ?_
    refine jr_bipush (v := 7) hX dX6_boatTold_1 (by decide) ?_
    refine jr_icmp_ge (tgt := 15) hX dX6_boatTold_3 (by decide) (fun c_3 => absurd c_3 (by decide)) (fun c_3 => ?_)
    refine jr_aload_n hX dX6_boatTold_6 rfl ?_
    refine jr_iload_n hX dX6_boatTold_7 rfl ?_
    refine jr_iload_n hX dX6_boatTold_8 rfl ?_
    refine jr_ret (jr_runV hX hSt kM_X6_74 (c_bo (jj_fl hX) hly (b := b) (k := 3) hb rfl (by decide)) rfl rfl (ly_kMo hly) ⟨_, _, rfl, by decide⟩ dX6_boatTold_9 rfl ⟨jj_b1 rfl, jj_b1 rfl⟩ rfl) ?_
    refine jr_goto (tgt := 41) hX dX6_boatTold_12 (by decide) ?_
    exact jr_iret hX dX6_boatTold_41 rfl rfl ⟨rfl, rfl, rfl, rfl, rfl, rfl⟩
  · refine jr_iload_n hX dX6_boatTold_0 rfl ?_
    refine jr_bipush (v := 7) hX dX6_boatTold_1 (by decide) ?_
    refine jr_icmp_ge (tgt := 15) hX dX6_boatTold_3 (by decide) (fun c_3 => absurd c_3 (by decide)) (fun c_3 => ?_)
    refine jr_aload_n hX dX6_boatTold_6 rfl ?_
    refine jr_iload_n hX dX6_boatTold_7 rfl ?_
    refine jr_iload_n hX dX6_boatTold_8 rfl ?_
    refine jr_ret (jr_runV hX hSt kM_X6_74 (c_bo (jj_fl hX) hly (b := b) (k := 4) hb rfl (by decide)) rfl rfl (ly_kMo hly) ⟨_, _, rfl, by decide⟩ dX6_boatTold_9 rfl ⟨jj_b1 rfl, jj_b1 rfl⟩ rfl) ?_
    refine jr_goto (tgt := 41) hX dX6_boatTold_12 (by decide) ?_
    exact jr_iret hX dX6_boatTold_41 rfl rfl ⟨rfl, rfl, rfl, rfl, rfl, rfl⟩
  · refine jr_iload_n hX dX6_boatTold_0 rfl ?_
    refine jr_bipush (v := 7) hX dX6_boatTold_1 (by decide) ?_
    refine jr_icmp_ge (tgt := 15) hX dX6_boatTold_3 (by decide) (fun c_3 => absurd c_3 (by decide)) (fun c_3 => ?_)
    refine jr_aload_n hX dX6_boatTold_6 rfl ?_
    refine jr_iload_n hX dX6_boatTold_7 rfl ?_
    refine jr_iload_n hX dX6_boatTold_8 rfl ?_
    refine jr_ret (jr_runV hX hSt kM_X6_74 (c_bo (jj_fl hX) hly (b := b) (k := 5) hb rfl (by decide)) rfl rfl (ly_kMo hly) ⟨_, _, rfl, by decide⟩ dX6_boatTold_9 rfl ⟨jj_b1 rfl, jj_b1 rfl⟩ rfl) ?_
    refine jr_goto (tgt := 41) hX dX6_boatTold_12 (by decide) ?_
    exact jr_iret hX dX6_boatTold_41 rfl rfl ⟨rfl, rfl, rfl, rfl, rfl, rfl⟩
  · refine jr_iload_n hX dX6_boatTold_0 rfl ?_
    refine jr_bipush (v := 7) hX dX6_boatTold_1 (by decide) ?_
    refine jr_icmp_ge (tgt := 15) hX dX6_boatTold_3 (by decide) (fun c_3 => absurd c_3 (by decide)) (fun c_3 => ?_)
    refine jr_aload_n hX dX6_boatTold_6 rfl ?_
    refine jr_iload_n hX dX6_boatTold_7 rfl ?_
    refine jr_iload_n hX dX6_boatTold_8 rfl ?_
    refine jr_ret (jr_runV hX hSt kM_X6_74 (c_bo (jj_fl hX) hly (b := b) (k := 6) hb rfl (by decide)) rfl rfl (ly_kMo hly) ⟨_, _, rfl, by decide⟩ dX6_boatTold_9 rfl ⟨jj_b1 rfl, jj_b1 rfl⟩ rfl) ?_
    refine jr_goto (tgt := 41) hX dX6_boatTold_12 (by decide) ?_
    exact jr_iret hX dX6_boatTold_41 rfl rfl ⟨rfl, rfl, rfl, rfl, rfl, rfl⟩
  · refine jr_iload_n hX dX6_boatTold_0 rfl ?_
    refine jr_bipush (v := 7) hX dX6_boatTold_1 (by decide) ?_
    refine jr_icmp_ge (tgt := 15) hX dX6_boatTold_3 (by decide) (fun c_3 => ?_) (fun c_3 => absurd (by decide) c_3)
    refine jr_iload_n hX dX6_boatTold_15 rfl ?_
    refine jr_bipush (v := 7) hX dX6_boatTold_16 (by decide) ?_
    refine jr_icmp_ne (tgt := 29) hX dX6_boatTold_18 (by decide) (fun c_18 => absurd rfl c_18) (fun c_18 => ?_)
    refine jr_aload_n hX dX6_boatTold_21 rfl ?_
    refine jr_iload_n hX dX6_boatTold_22 rfl ?_
    refine jr_ret (jr_runV hX hSt kM_X6_103 (c_loaded (jj_fl hX) hly hb) rfl rfl (ly_kMo hly) ⟨_, _, rfl, by decide⟩ dX6_boatTold_23 rfl ⟨jj_b1 rfl, jj_b1 rfl⟩ rfl) ?_
    refine jr_goto (tgt := 41) hX dX6_boatTold_26 (by decide) ?_
    exact jr_iret hX dX6_boatTold_41 rfl rfl ⟨rfl, rfl, rfl, rfl, rfl, rfl⟩
  · refine jr_iload_n hX dX6_boatTold_0 rfl ?_
    refine jr_bipush (v := 7) hX dX6_boatTold_1 (by decide) ?_
    refine jr_icmp_ge (tgt := 15) hX dX6_boatTold_3 (by decide) (fun c_3 => ?_) (fun c_3 => absurd (by decide) c_3)
    refine jr_iload_n hX dX6_boatTold_15 rfl ?_
    refine jr_bipush (v := 7) hX dX6_boatTold_16 (by decide) ?_
    refine jr_icmp_ne (tgt := 29) hX dX6_boatTold_18 (by decide) (fun c_18 => ?_) (fun c_18 => absurd c_18 (by decide))
    refine jr_aload_n hX dX6_boatTold_29 rfl ?_
    refine jr_iload_n hX dX6_boatTold_30 rfl ?_
    refine jr_iload_n hX dX6_boatTold_31 rfl ?_
    refine jr_bipush (v := 8) hX dX6_boatTold_32 (by decide) ?_
    refine jr_isub hX dX6_boatTold_34 ?_
    refine jr_bipush (v := 8) hX dX6_boatTold_35 (by decide) ?_
    refine jr_iadd hX dX6_boatTold_37 ?_
    refine jr_ret (jr_runV hX hSt kM_X6_74 (c_bo (jj_fl hX) hly (b := b) (k := 8) hb (show _ = nI 8 from by decide) (by decide)) rfl rfl (ly_kMo hly) ⟨_, _, rfl, by decide⟩ dX6_boatTold_38 rfl ⟨jj_b1 rfl, jj_b1 rfl⟩ rfl) ?_
    exact jr_iret hX dX6_boatTold_41 rfl rfl ⟨rfl, rfl, rfl, rfl, rfl, rfl⟩
  · refine jr_iload_n hX dX6_boatTold_0 rfl ?_
    refine jr_bipush (v := 7) hX dX6_boatTold_1 (by decide) ?_
    refine jr_icmp_ge (tgt := 15) hX dX6_boatTold_3 (by decide) (fun c_3 => ?_) (fun c_3 => absurd (by decide) c_3)
    refine jr_iload_n hX dX6_boatTold_15 rfl ?_
    refine jr_bipush (v := 7) hX dX6_boatTold_16 (by decide) ?_
    refine jr_icmp_ne (tgt := 29) hX dX6_boatTold_18 (by decide) (fun c_18 => ?_) (fun c_18 => absurd c_18 (by decide))
    refine jr_aload_n hX dX6_boatTold_29 rfl ?_
    refine jr_iload_n hX dX6_boatTold_30 rfl ?_
    refine jr_iload_n hX dX6_boatTold_31 rfl ?_
    refine jr_bipush (v := 8) hX dX6_boatTold_32 (by decide) ?_
    refine jr_isub hX dX6_boatTold_34 ?_
    refine jr_bipush (v := 8) hX dX6_boatTold_35 (by decide) ?_
    refine jr_iadd hX dX6_boatTold_37 ?_
    refine jr_ret (jr_runV hX hSt kM_X6_74 (c_bo (jj_fl hX) hly (b := b) (k := 9) hb (show _ = nI 9 from by decide) (by decide)) rfl rfl (ly_kMo hly) ⟨_, _, rfl, by decide⟩ dX6_boatTold_38 rfl ⟨jj_b1 rfl, jj_b1 rfl⟩ rfl) ?_
    exact jr_iret hX dX6_boatTold_41 rfl rfl ⟨rfl, rfl, rfl, rfl, rfl, rfl⟩
  · refine jr_iload_n hX dX6_boatTold_0 rfl ?_
    refine jr_bipush (v := 7) hX dX6_boatTold_1 (by decide) ?_
    refine jr_icmp_ge (tgt := 15) hX dX6_boatTold_3 (by decide) (fun c_3 => ?_) (fun c_3 => absurd (by decide) c_3)
    refine jr_iload_n hX dX6_boatTold_15 rfl ?_
    refine jr_bipush (v := 7) hX dX6_boatTold_16 (by decide) ?_
    refine jr_icmp_ne (tgt := 29) hX dX6_boatTold_18 (by decide) (fun c_18 => ?_) (fun c_18 => absurd c_18 (by decide))
    refine jr_aload_n hX dX6_boatTold_29 rfl ?_
    refine jr_iload_n hX dX6_boatTold_30 rfl ?_
    refine jr_iload_n hX dX6_boatTold_31 rfl ?_
    refine jr_bipush (v := 8) hX dX6_boatTold_32 (by decide) ?_
    refine jr_isub hX dX6_boatTold_34 ?_
    refine jr_bipush (v := 8) hX dX6_boatTold_35 (by decide) ?_
    refine jr_iadd hX dX6_boatTold_37 ?_
    refine jr_ret (jr_runV hX hSt kM_X6_74 (c_bo (jj_fl hX) hly (b := b) (k := 10) hb (show _ = nI 10 from by decide) (by decide)) rfl rfl (ly_kMo hly) ⟨_, _, rfl, by decide⟩ dX6_boatTold_38 rfl ⟨jj_b1 rfl, jj_b1 rfl⟩ rfl) ?_
    exact jr_iret hX dX6_boatTold_41 rfl rfl ⟨rfl, rfl, rfl, rfl, rfl, rfl⟩
  · refine jr_iload_n hX dX6_boatTold_0 rfl ?_
    refine jr_bipush (v := 7) hX dX6_boatTold_1 (by decide) ?_
    refine jr_icmp_ge (tgt := 15) hX dX6_boatTold_3 (by decide) (fun c_3 => ?_) (fun c_3 => absurd (by decide) c_3)
    refine jr_iload_n hX dX6_boatTold_15 rfl ?_
    refine jr_bipush (v := 7) hX dX6_boatTold_16 (by decide) ?_
    refine jr_icmp_ne (tgt := 29) hX dX6_boatTold_18 (by decide) (fun c_18 => ?_) (fun c_18 => absurd c_18 (by decide))
    refine jr_aload_n hX dX6_boatTold_29 rfl ?_
    refine jr_iload_n hX dX6_boatTold_30 rfl ?_
    refine jr_iload_n hX dX6_boatTold_31 rfl ?_
    refine jr_bipush (v := 8) hX dX6_boatTold_32 (by decide) ?_
    refine jr_isub hX dX6_boatTold_34 ?_
    refine jr_bipush (v := 8) hX dX6_boatTold_35 (by decide) ?_
    refine jr_iadd hX dX6_boatTold_37 ?_
    refine jr_ret (jr_runV hX hSt kM_X6_74 (c_bo (jj_fl hX) hly (b := b) (k := 11) hb (show _ = nI 11 from by decide) (by decide)) rfl rfl (ly_kMo hly) ⟨_, _, rfl, by decide⟩ dX6_boatTold_38 rfl ⟨jj_b1 rfl, jj_b1 rfl⟩ rfl) ?_
    exact jr_iret hX dX6_boatTold_41 rfl rfl ⟨rfl, rfl, rfl, rfl, rfl, rfl⟩
set_option maxHeartbeats 4000000 in
set_option maxRecDepth 100000 in
theorem c_mC0 {l : Launch} (hfl : l.stackTraces = false) {D : jj_D} {n : Nat} {K : jj_K} {I : jj_I} {P : jj_P} {G : jj_G} (hly : ly K P) {H M B N : Nat} (hH : I 150 2 = nI H) (hH2 : H ≤ 8) (hM : I 150 6 = nI M) (hM2 : M ≤ 5) (hB : I 150 7 = nI B) (hB2 : B ≤ 10) (hN : I 150 8 = nI N) (hN2 : N ≤ 30) :
    jj_Met l D yX6_counted (jj_ws yX6_counted cX6_counted 7 (some .int)) { frames := 2, cells := 0, slots := 0, locals := 44 } [.ref 150, .int (nI 0)] n K I P G (jj_R (some (.int (m_cf H M B N I 0))) (n) (K) (I) (P) (G)) jj_noX := by
  refine jj_of hfl (by decide +kernel) [some (.ref 150), some (.int (nI 0)), none, none, none, none, none] rfl rfl ?_
  intro X hXl hX hSt
  refine jr_iconst (v := 0) hX dX6_counted_0 (by decide) ?_
  refine jr_istore_n hX dX6_counted_1 rfl ?_
  refine jr_iload_n hX dX6_counted_2 rfl ?_
  refine jr_tabIn (tgt := 52) hX dX6_counted_3 (by decide) (by decide) rfl (by decide) ?_
  refine jr_aload_n hX dX6_counted_52 rfl ?_
  refine jr_getr hX kF_X6_37 rfl (ly_kMo hly) (ly_p6_14 hly) dX6_counted_53 ?_
  refine jr_iconst (v := 0) hX dX6_counted_56 (by decide) ?_
  refine jr_iald hX (by first | with_reducible assumption | with_reducible exact ly_kWm hly (by first | assumption | omega) | with_reducible exact ly_kLd hly (by first | assumption | omega) | with_reducible exact ly_kIc hly (by first | assumption | omega) | with_reducible exact ly_kBe hly (by first | assumption | omega) | with_reducible exact ly_kPr hly (by first | assumption | omega) | with_reducible exact ly_kMt hly (by first | assumption | omega) (by first | assumption | omega) | with_reducible exact ly_kBc hly (by first | assumption | omega) (by first | assumption | omega) | with_reducible exact ly_k151 hly | with_reducible exact ly_k152 hly | with_reducible exact ly_k153 hly | with_reducible exact ly_k154 hly | with_reducible exact ly_k155 hly | with_reducible exact ly_k156 hly | with_reducible exact ly_k157 hly | with_reducible exact ly_k158 hly | with_reducible exact ly_k159 hly | with_reducible exact ly_k160 hly | with_reducible exact ly_kAh hly (by first | assumption | omega)) (show _ = nI 0 from rfl) (by omega) dX6_counted_57 ?_
  exact jr_iret hX dX6_counted_58 rfl rfl ⟨rfl, rfl, rfl, rfl, rfl, rfl⟩
set_option maxHeartbeats 4000000 in
set_option maxRecDepth 100000 in
theorem c_mC1 {l : Launch} (hfl : l.stackTraces = false) {D : jj_D} {n : Nat} {K : jj_K} {I : jj_I} {P : jj_P} {G : jj_G} (hly : ly K P) {H M B N : Nat} (hH : I 150 2 = nI H) (hH2 : H ≤ 8) (hM : I 150 6 = nI M) (hM2 : M ≤ 5) (hB : I 150 7 = nI B) (hB2 : B ≤ 10) (hN : I 150 8 = nI N) (hN2 : N ≤ 30) :
    jj_Met l D yX6_counted (jj_ws yX6_counted cX6_counted 7 (some .int)) { frames := 2, cells := 0, slots := 0, locals := 44 } [.ref 150, .int (nI 1)] n K I P G (jj_R (some (.int (m_cf H M B N I 1))) (n) (K) (I) (P) (G)) jj_noX := by
  refine jj_of hfl (by decide +kernel) [some (.ref 150), some (.int (nI 1)), none, none, none, none, none] rfl rfl ?_
  intro X hXl hX hSt
  refine jr_iconst (v := 0) hX dX6_counted_0 (by decide) ?_
  refine jr_istore_n hX dX6_counted_1 rfl ?_
  refine jr_iload_n hX dX6_counted_2 rfl ?_
  refine jr_tabIn (tgt := 59) hX dX6_counted_3 (by decide) (by decide) rfl (by decide) ?_
  refine jr_aload_n hX dX6_counted_59 rfl ?_
  refine jr_geti hX kF_X6_44 rfl (ly_kMo hly) dX6_counted_60 ?_
  exact jr_iret hX dX6_counted_63 rfl rfl ⟨rfl, rfl, rfl, rfl, rfl, rfl⟩
set_option maxHeartbeats 4000000 in
set_option maxRecDepth 100000 in
theorem c_mC2 {l : Launch} (hfl : l.stackTraces = false) {D : jj_D} {n : Nat} {K : jj_K} {I : jj_I} {P : jj_P} {G : jj_G} (hly : ly K P) {H M B N : Nat} (hH : I 150 2 = nI H) (hH2 : H ≤ 8) (hM : I 150 6 = nI M) (hM2 : M ≤ 5) (hB : I 150 7 = nI B) (hB2 : B ≤ 10) (hN : I 150 8 = nI N) (hN2 : N ≤ 30) :
    jj_Met l D yX6_counted (jj_ws yX6_counted cX6_counted 7 (some .int)) { frames := 2, cells := 0, slots := 0, locals := 44 } [.ref 150, .int (nI 2)] n K I P G (jj_R (some (.int (m_cf H M B N I 2))) (n) (K) (I) (P) (G)) jj_noX := by
  refine jj_of hfl (by decide +kernel) [some (.ref 150), some (.int (nI 2)), none, none, none, none, none] rfl rfl ?_
  intro X hXl hX hSt
  refine jr_iconst (v := 0) hX dX6_counted_0 (by decide) ?_
  refine jr_istore_n hX dX6_counted_1 rfl ?_
  refine jr_iload_n hX dX6_counted_2 rfl ?_
  refine jr_tabIn (tgt := 64) hX dX6_counted_3 (by decide) (by decide) rfl (by decide) ?_
  refine jr_aload_n hX dX6_counted_64 rfl ?_
  refine jr_geti hX kF_X6_51 rfl (ly_kMo hly) dX6_counted_65 ?_
  exact jr_iret hX dX6_counted_68 rfl rfl ⟨rfl, rfl, rfl, rfl, rfl, rfl⟩
set_option maxHeartbeats 4000000 in
set_option maxRecDepth 100000 in
theorem c_mC3 {l : Launch} (hfl : l.stackTraces = false) {D : jj_D} {n : Nat} {K : jj_K} {I : jj_I} {P : jj_P} {G : jj_G} (hly : ly K P) {H M B N : Nat} (hH : I 150 2 = nI H) (hH2 : H ≤ 8) (hM : I 150 6 = nI M) (hM2 : M ≤ 5) (hB : I 150 7 = nI B) (hB2 : B ≤ 10) (hN : I 150 8 = nI N) (hN2 : N ≤ 30) :
    jj_Met l D yX6_counted (jj_ws yX6_counted cX6_counted 7 (some .int)) { frames := 2, cells := 0, slots := 0, locals := 44 } [.ref 150, .int (nI 3)] n K I P G (jj_R (some (.int (m_cf H M B N I 3))) (n) (K) (I) (P) (G)) jj_noX := by
  refine jj_of hfl (by decide +kernel) [some (.ref 150), some (.int (nI 3)), none, none, none, none, none] rfl rfl ?_
  intro X hXl hX hSt
  refine jr_iconst (v := 0) hX dX6_counted_0 (by decide) ?_
  refine jr_istore_n hX dX6_counted_1 rfl ?_
  refine jr_iload_n hX dX6_counted_2 rfl ?_
  refine jr_tabIn (tgt := 69) hX dX6_counted_3 (by decide) (by decide) rfl (by decide) ?_
  refine jr_aload_n hX dX6_counted_69 rfl ?_
  refine jr_geti hX kF_X6_54 rfl (ly_kMo hly) dX6_counted_70 ?_
  exact jr_iret hX dX6_counted_73 rfl rfl ⟨rfl, rfl, rfl, rfl, rfl, rfl⟩
set_option maxHeartbeats 4000000 in
set_option maxRecDepth 100000 in
theorem c_mC6 {l : Launch} (hfl : l.stackTraces = false) {D : jj_D} {n : Nat} {K : jj_K} {I : jj_I} {P : jj_P} {G : jj_G} (hly : ly K P) {H M B N : Nat} (hH : I 150 2 = nI H) (hH2 : H ≤ 8) (hM : I 150 6 = nI M) (hM2 : M ≤ 5) (hB : I 150 7 = nI B) (hB2 : B ≤ 10) (hN : I 150 8 = nI N) (hN2 : N ≤ 30) :
    jj_Met l D yX6_counted (jj_ws yX6_counted cX6_counted 7 (some .int)) { frames := 2, cells := 0, slots := 0, locals := 44 } [.ref 150, .int (nI 6)] n K I P G (jj_R (some (.int (m_cf H M B N I 6))) (n) (K) (I) (P) (G)) jj_noX := by
  refine jj_of hfl (by decide +kernel) [some (.ref 150), some (.int (nI 6)), none, none, none, none, none] rfl rfl ?_
  intro X hXl hX hSt
  refine jr_iconst (v := 0) hX dX6_counted_0 (by decide) ?_
  refine jr_istore_n hX dX6_counted_1 rfl ?_
  refine jr_iload_n hX dX6_counted_2 rfl ?_
  refine jr_tabIn (tgt := 115) hX dX6_counted_3 (by decide) (by decide) rfl (by decide) ?_
  refine jr_aload_n hX dX6_counted_115 rfl ?_
  refine jr_geti hX kF_X6_106 rfl (ly_kMo hly) dX6_counted_116 ?_
  exact jr_iret hX dX6_counted_119 rfl rfl ⟨rfl, rfl, rfl, rfl, rfl, rfl⟩
set_option maxHeartbeats 4000000 in
set_option maxRecDepth 100000 in
theorem c_mC4 {l : Launch} (hfl : l.stackTraces = false) {D : jj_D} {n : Nat} {K : jj_K} {I : jj_I} {P : jj_P} {G : jj_G} (hly : ly K P) {H M B N : Nat} (hH : I 150 2 = nI H) (hH2 : H ≤ 8) (hM : I 150 6 = nI M) (hM2 : M ≤ 5) (hB : I 150 7 = nI B) (hB2 : B ≤ 10) (hN : I 150 8 = nI N) (hN2 : N ≤ 30) :
    jj_Met l D yX6_counted (jj_ws yX6_counted cX6_counted 7 (some .int)) { frames := 2, cells := 0, slots := 0, locals := 44 } [.ref 150, .int (nI 4)] n K I P G (jj_R (some (.int (m_cf H M B N I 4))) (n) (K) (I) (P) (G)) jj_noX := by
  refine jj_of hfl (by decide +kernel) [some (.ref 150), some (.int (nI 4)), none, none, none, none, none] rfl rfl ?_
  intro X hXl hX hSt
  refine jr_iconst (v := 0) hX dX6_counted_0 (by decide) ?_
  refine jr_istore_n hX dX6_counted_1 rfl ?_
  refine jr_iload_n hX dX6_counted_2 rfl ?_
  refine jr_tabIn (tgt := 74) hX dX6_counted_3 (by decide) (by decide) rfl (by decide) ?_
  refine jr_aload_n hX dX6_counted_74 rfl ?_
  refine jr_ret (jr_runV hX hSt kM_X6_141 (c_sunk (jj_fl hX) hly hB hB2) rfl rfl (ly_kMo hly) ⟨_, _, rfl, by decide⟩ dX6_counted_75 rfl ⟨jj_b1 rfl, jj_b1 rfl⟩ rfl) ?_
  exact jr_iret hX dX6_counted_78 rfl rfl ⟨rfl, rfl, rfl, rfl, rfl, rfl⟩
set_option maxHeartbeats 4000000 in
set_option maxRecDepth 100000 in
theorem c_mC5 {l : Launch} (hfl : l.stackTraces = false) {D : jj_D} {n : Nat} {K : jj_K} {I : jj_I} {P : jj_P} {G : jj_G} (hly : ly K P) {H M B N : Nat} (hH : I 150 2 = nI H) (hH2 : H ≤ 8) (hM : I 150 6 = nI M) (hM2 : M ≤ 5) (hB : I 150 7 = nI B) (hB2 : B ≤ 10) (hN : I 150 8 = nI N) (hN2 : N ≤ 30) :
    jj_Met l D yX6_counted (jj_ws yX6_counted cX6_counted 7 (some .int)) { frames := 2, cells := 0, slots := 0, locals := 44 } [.ref 150, .int (nI 5)] n K I P G (jj_R (some (.int (m_cf H M B N I 5))) (n) (K) (I) (P) (G)) jj_noX := by
  refine jj_of hfl (by decide +kernel) [some (.ref 150), some (.int (nI 5)), none, none, none, none, none] rfl rfl ?_
  intro X hXl hX hSt
  refine jr_iconst (v := 0) hX dX6_counted_0 (by decide) ?_
  refine jr_istore_n hX dX6_counted_1 rfl ?_
  refine jr_iload_n hX dX6_counted_2 rfl ?_
  refine jr_tabIn (tgt := 79) hX dX6_counted_3 (by decide) (by decide) rfl (by decide) ?_
  refine jr_iconst (v := 0) hX dX6_counted_79 (by decide) ?_
  refine jr_istore_n hX dX6_counted_80 rfl ?_
  have hloop : ∀ k, k ≤ B → jj_J X D 7 0 0 (jj_MQ X D { frames := 2, cells := 0, slots := 0, locals := 44 } (jj_R (some (.int (m_cf H M B N I 5))) (n) (K) (I) (P) (G)) jj_noX) (n) (K) (I) (P) (G) 81 [some (.ref 150), some (.int (nI 5)), some (.int (sm (m_st 2 I) k)), some (.int (nI k)), none, none, none] [] := by
    refine jj_for (B) _ ?_ (fun k hk ih => ?_)
    · refine jr_iload_n hX dX6_counted_81 rfl ?_
      refine jr_aload_n hX dX6_counted_82 rfl ?_
      refine jr_geti hX kF_X6_54 rfl (ly_kMo hly) dX6_counted_83 ?_
      refine jr_icmp_ge (tgt := 113) hX dX6_counted_86 (by decide) (fun c_86 => ?_) (fun c_86 => absurd (by rw [hB]; exact nI_le (Nat.le_refl _) (by omega)) c_86)
      refine jr_iload_n hX dX6_counted_113 rfl ?_
      exact jr_iret hX dX6_counted_114 rfl rfl ⟨rfl, rfl, rfl, rfl, rfl, rfl⟩
    · refine jr_iload_n hX dX6_counted_81 rfl ?_
      refine jr_aload_n hX dX6_counted_82 rfl ?_
      refine jr_geti hX kF_X6_54 rfl (ly_kMo hly) dX6_counted_83 ?_
      refine jr_icmp_ge (tgt := 113) hX dX6_counted_86 (by decide) (fun c_86 => absurd c_86 (by rw [hB]; exact nI_ge (by assumption) (by omega))) (fun c_86 => ?_)
      refine jr_iload_n hX dX6_counted_89 rfl ?_
      refine jr_aload_n hX dX6_counted_90 rfl ?_
      refine jr_iload_n hX dX6_counted_91 rfl ?_
      refine jr_iconst (v := 3) hX dX6_counted_92 (by decide) ?_
      refine jr_ret (jr_runV hX hSt kM_X6_74 (c_bo (jj_fl hX) hly (b := k) (k := 3) (by omega) (show _ = nI 3 from rfl) (by decide)) rfl rfl (ly_kMo hly) ⟨_, _, rfl, by decide⟩ dX6_counted_93 rfl ⟨jj_b1 rfl, jj_b1 rfl⟩ rfl) ?_
      refine jr_iconst (v := 2) hX dX6_counted_96 (by decide) ?_
      refine jr_icmp_ne (tgt := 104) hX dX6_counted_97 (by decide) (fun c_97 => ?_) (fun c_97 => ?_)
      · refine jr_iconst (v := 0) hX dX6_counted_104 (by decide) ?_
        refine jr_iadd hX dX6_counted_105 ?_
        refine jr_istore_n hX dX6_counted_106 rfl ?_
        refine jr_iinc hX dX6_counted_107 rfl (by first | with_reducible exact jj_inc _ | with_reducible exact jj_inc1 _) rfl ?_
        refine jr_goto (tgt := 81) hX dX6_counted_110 (by decide) ?_
        rw [sm_1 (show m_st 2 I k = 0 from if_neg c_97)] at ih
        exact ih
      · refine jr_iconst (v := 1) hX dX6_counted_100 (by decide) ?_
        refine jr_goto (tgt := 105) hX dX6_counted_101 (by decide) ?_
        refine jr_iadd hX dX6_counted_105 ?_
        refine jr_istore_n hX dX6_counted_106 rfl ?_
        refine jr_iinc hX dX6_counted_107 rfl (by first | with_reducible exact jj_inc _ | with_reducible exact jj_inc1 _) rfl ?_
        refine jr_goto (tgt := 81) hX dX6_counted_110 (by decide) ?_
        rw [sm_1 (show m_st 2 I k = 1 from if_pos c_97)] at ih
        exact ih
  exact hloop 0 (Nat.zero_le _)
set_option maxHeartbeats 4000000 in
set_option maxRecDepth 100000 in
theorem c_mC7 {l : Launch} (hfl : l.stackTraces = false) {D : jj_D} {n : Nat} {K : jj_K} {I : jj_I} {P : jj_P} {G : jj_G} (hly : ly K P) {H M B N : Nat} (hH : I 150 2 = nI H) (hH2 : H ≤ 8) (hM : I 150 6 = nI M) (hM2 : M ≤ 5) (hB : I 150 7 = nI B) (hB2 : B ≤ 10) (hN : I 150 8 = nI N) (hN2 : N ≤ 30) :
    jj_Met l D yX6_counted (jj_ws yX6_counted cX6_counted 7 (some .int)) { frames := 2, cells := 0, slots := 0, locals := 44 } [.ref 150, .int (nI 7)] n K I P G (jj_R (some (.int (m_cf H M B N I 7))) (n) (K) (I) (P) (G)) jj_noX := by
  refine jj_of hfl (by decide +kernel) [some (.ref 150), some (.int (nI 7)), none, none, none, none, none] rfl rfl ?_
  intro X hXl hX hSt
  refine jr_iconst (v := 0) hX dX6_counted_0 (by decide) ?_
  refine jr_istore_n hX dX6_counted_1 rfl ?_
  refine jr_iload_n hX dX6_counted_2 rfl ?_
  refine jr_tabIn (tgt := 120) hX dX6_counted_3 (by decide) (by decide) rfl (by decide) ?_
  refine jr_iconst (v := 0) hX dX6_counted_120 (by decide) ?_
  refine jr_istore_n hX dX6_counted_121 rfl ?_
  have hloop : ∀ k, k ≤ N → jj_J X D 7 0 0 (jj_MQ X D { frames := 2, cells := 0, slots := 0, locals := 44 } (jj_R (some (.int (m_cf H M B N I 7))) (n) (K) (I) (P) (G)) jj_noX) (n) (K) (I) (P) (G) 122 [some (.ref 150), some (.int (nI 7)), some (.int (sm (m_op I) k)), some (.int (nI k)), none, none, none] [] := by
    refine jj_for (N) _ ?_ (fun k hk ih => ?_)
    · refine jr_iload_n hX dX6_counted_122 rfl ?_
      refine jr_aload_n hX dX6_counted_123 rfl ?_
      refine jr_geti hX kF_X6_106 rfl (ly_kMo hly) dX6_counted_124 ?_
      refine jr_icmp_ge (tgt := 154) hX dX6_counted_127 (by decide) (fun c_127 => ?_) (fun c_127 => absurd (by rw [hN]; exact nI_le (Nat.le_refl _) (by omega)) c_127)
      refine jr_iload_n hX dX6_counted_154 rfl ?_
      exact jr_iret hX dX6_counted_155 rfl rfl ⟨rfl, rfl, rfl, rfl, rfl, rfl⟩
    · refine jr_iload_n hX dX6_counted_122 rfl ?_
      refine jr_aload_n hX dX6_counted_123 rfl ?_
      refine jr_geti hX kF_X6_106 rfl (ly_kMo hly) dX6_counted_124 ?_
      refine jr_icmp_ge (tgt := 154) hX dX6_counted_127 (by decide) (fun c_127 => absurd c_127 (by rw [hN]; exact nI_ge (by assumption) (by omega))) (fun c_127 => ?_)
      refine jr_iload_n hX dX6_counted_130 rfl ?_
      refine jr_aload_n hX dX6_counted_131 rfl ?_
      refine jr_iload_n hX dX6_counted_132 rfl ?_
      refine jr_bipush (v := 6) hX dX6_counted_133 (by decide) ?_
      refine jr_ret (jr_runV hX hSt kM_X6_109 (c_de (jj_fl hX) hly (d := k) (k := 6) (by omega) (show _ = nI 6 from rfl) (by decide)) rfl rfl (ly_kMo hly) ⟨_, _, rfl, by decide⟩ dX6_counted_135 rfl ⟨jj_b1 rfl, jj_b1 rfl⟩ rfl) ?_
      refine jr_if_ne (tgt := 145) hX dX6_counted_138 (by decide) (fun c_138 => ?_) (fun c_138 => ?_)
      · refine jr_iconst (v := 0) hX dX6_counted_145 (by decide) ?_
        refine jr_iadd hX dX6_counted_146 ?_
        refine jr_istore_n hX dX6_counted_147 rfl ?_
        refine jr_iinc hX dX6_counted_148 rfl (by first | with_reducible exact jj_inc _ | with_reducible exact jj_inc1 _) rfl ?_
        refine jr_goto (tgt := 122) hX dX6_counted_151 (by decide) ?_
        rw [sm_1 (show m_op I k = 0 from if_neg c_138)] at ih
        exact ih
      · refine jr_iconst (v := 1) hX dX6_counted_141 (by decide) ?_
        refine jr_goto (tgt := 146) hX dX6_counted_142 (by decide) ?_
        refine jr_iadd hX dX6_counted_146 ?_
        refine jr_istore_n hX dX6_counted_147 rfl ?_
        refine jr_iinc hX dX6_counted_148 rfl (by first | with_reducible exact jj_inc _ | with_reducible exact jj_inc1 _) rfl ?_
        refine jr_goto (tgt := 122) hX dX6_counted_151 (by decide) ?_
        rw [sm_1 (show m_op I k = 1 from if_pos c_138)] at ih
        exact ih
  exact hloop 0 (Nat.zero_le _)
set_option maxHeartbeats 4000000 in
set_option maxRecDepth 100000 in
theorem c_mC8 {l : Launch} (hfl : l.stackTraces = false) {D : jj_D} {n : Nat} {K : jj_K} {I : jj_I} {P : jj_P} {G : jj_G} (hly : ly K P) {H M B N : Nat} (hH : I 150 2 = nI H) (hH2 : H ≤ 8) (hM : I 150 6 = nI M) (hM2 : M ≤ 5) (hB : I 150 7 = nI B) (hB2 : B ≤ 10) (hN : I 150 8 = nI N) (hN2 : N ≤ 30) :
    jj_Met l D yX6_counted (jj_ws yX6_counted cX6_counted 7 (some .int)) { frames := 2, cells := 0, slots := 0, locals := 44 } [.ref 150, .int (nI 8)] n K I P G (jj_R (some (.int (m_cf H M B N I 8))) (n) (K) (I) (P) (G)) jj_noX := by
  refine jj_of hfl (by decide +kernel) [some (.ref 150), some (.int (nI 8)), none, none, none, none, none] rfl rfl ?_
  intro X hXl hX hSt
  refine jr_iconst (v := 0) hX dX6_counted_0 (by decide) ?_
  refine jr_istore_n hX dX6_counted_1 rfl ?_
  refine jr_iload_n hX dX6_counted_2 rfl ?_
  refine jr_tabIn (tgt := 156) hX dX6_counted_3 (by decide) (by decide) rfl (by decide) ?_
  refine jr_aload_n hX dX6_counted_156 rfl ?_
  refine jr_getr hX kF_X6_25 rfl (ly_kMo hly) (ly_p6_10 hly) dX6_counted_157 ?_
  refine jr_astore_n hX dX6_counted_160 rfl ?_
  refine jr_aload_n hX dX6_counted_161 rfl ?_
  refine jr_alen (t := 10) hX (by decide) (by first | with_reducible assumption | with_reducible exact ly_kWm hly (by first | assumption | omega) | with_reducible exact ly_kLd hly (by first | assumption | omega) | with_reducible exact ly_kIc hly (by first | assumption | omega) | with_reducible exact ly_kBe hly (by first | assumption | omega) | with_reducible exact ly_kPr hly (by first | assumption | omega) | with_reducible exact ly_kMt hly (by first | assumption | omega) (by first | assumption | omega) | with_reducible exact ly_kBc hly (by first | assumption | omega) (by first | assumption | omega) | with_reducible exact ly_k151 hly | with_reducible exact ly_k152 hly | with_reducible exact ly_k153 hly | with_reducible exact ly_k154 hly | with_reducible exact ly_k155 hly | with_reducible exact ly_k156 hly | with_reducible exact ly_k157 hly | with_reducible exact ly_k158 hly | with_reducible exact ly_k159 hly | with_reducible exact ly_k160 hly | with_reducible exact ly_kAh hly (by first | assumption | omega)) dX6_counted_162 ?_
  refine jr_istore hX dX6_counted_163 rfl ?_
  refine jr_iconst (v := 0) hX dX6_counted_165 (by decide) ?_
  refine jr_istore hX dX6_counted_166 rfl ?_
  have hloop : ∀ k, k ≤ 5 → jj_J X D 7 0 0 (jj_MQ X D { frames := 2, cells := 0, slots := 0, locals := 44 } (jj_R (some (.int (m_cf H M B N I 8))) (n) (K) (I) (P) (G)) jj_noX) (n) (K) (I) (P) (G) 168 [some (.ref 150), some (.int (nI 8)), some (.int (sm (I 156) k)), some (.ref 156), some (.int (nI 5)), some (.int (nI k)), none] [] := by
    refine jj_for (5) _ ?_ (fun k hk ih => ?_)
    · refine jr_iload hX dX6_counted_168 rfl ?_
      refine jr_iload hX dX6_counted_170 rfl ?_
      refine jr_icmp_ge (tgt := 192) hX dX6_counted_172 (by decide) (fun c_172 => ?_) (fun c_172 => absurd (nI_le (Nat.le_refl _) (by omega)) c_172)
      refine jr_iload_n hX dX6_counted_192 rfl ?_
      exact jr_iret hX dX6_counted_193 rfl rfl ⟨rfl, rfl, rfl, rfl, rfl, rfl⟩
    · refine jr_iload hX dX6_counted_168 rfl ?_
      refine jr_iload hX dX6_counted_170 rfl ?_
      refine jr_icmp_ge (tgt := 192) hX dX6_counted_172 (by decide) (fun c_172 => absurd c_172 (nI_ge (by assumption) (by omega))) (fun c_172 => ?_)
      refine jr_aload_n hX dX6_counted_175 rfl ?_
      refine jr_iload hX dX6_counted_176 rfl ?_
      refine jr_iald hX (by first | with_reducible assumption | with_reducible exact ly_kWm hly (by first | assumption | omega) | with_reducible exact ly_kLd hly (by first | assumption | omega) | with_reducible exact ly_kIc hly (by first | assumption | omega) | with_reducible exact ly_kBe hly (by first | assumption | omega) | with_reducible exact ly_kPr hly (by first | assumption | omega) | with_reducible exact ly_kMt hly (by first | assumption | omega) (by first | assumption | omega) | with_reducible exact ly_kBc hly (by first | assumption | omega) (by first | assumption | omega) | with_reducible exact ly_k151 hly | with_reducible exact ly_k152 hly | with_reducible exact ly_k153 hly | with_reducible exact ly_k154 hly | with_reducible exact ly_k155 hly | with_reducible exact ly_k156 hly | with_reducible exact ly_k157 hly | with_reducible exact ly_k158 hly | with_reducible exact ly_k159 hly | with_reducible exact ly_k160 hly | with_reducible exact ly_kAh hly (by first | assumption | omega)) (by first | with_reducible rfl | with_reducible assumption | rfl) (by omega) dX6_counted_178 ?_
      refine jr_istore hX dX6_counted_179 rfl ?_
      refine jr_iload_n hX dX6_counted_181 rfl ?_
      refine jr_iload hX dX6_counted_182 rfl ?_
      refine jr_iadd hX dX6_counted_184 ?_
      refine jr_istore_n hX dX6_counted_185 rfl ?_
      refine jr_iinc hX dX6_counted_186 rfl (by first | with_reducible exact jj_inc _ | with_reducible exact jj_inc1 _) rfl ?_
      refine jr_goto (tgt := 168) hX dX6_counted_189 (by decide) ?_
      exact jr_forget (fun _ _ h => h) (fun i v h => by rcases i with _ | _ | _ | _ | _ | _ | _ | i <;> first | exact h | exact absurd h (by simp)) (ih)
  exact hloop 0 (Nat.zero_le _)
set_option maxHeartbeats 4000000 in
set_option maxRecDepth 100000 in
theorem c_mC9 {l : Launch} (hfl : l.stackTraces = false) {D : jj_D} {n : Nat} {K : jj_K} {I : jj_I} {P : jj_P} {G : jj_G} (hly : ly K P) {H M B N : Nat} (hH : I 150 2 = nI H) (hH2 : H ≤ 8) (hM : I 150 6 = nI M) (hM2 : M ≤ 5) (hB : I 150 7 = nI B) (hB2 : B ≤ 10) (hN : I 150 8 = nI N) (hN2 : N ≤ 30) :
    jj_Met l D yX6_counted (jj_ws yX6_counted cX6_counted 7 (some .int)) { frames := 2, cells := 0, slots := 0, locals := 44 } [.ref 150, .int (nI 9)] n K I P G (jj_R (some (.int (m_cf H M B N I 9))) (n) (K) (I) (P) (G)) jj_noX := by
  refine jj_of hfl (by decide +kernel) [some (.ref 150), some (.int (nI 9)), none, none, none, none, none] rfl rfl ?_
  intro X hXl hX hSt
  refine jr_iconst (v := 0) hX dX6_counted_0 (by decide) ?_
  refine jr_istore_n hX dX6_counted_1 rfl ?_
  refine jr_iload_n hX dX6_counted_2 rfl ?_
  refine jr_tabOut (tgt := 194) hX dX6_counted_3 (by decide) (by decide) ?_
  refine jr_iconst (v := 0) hX dX6_counted_194 (by decide) ?_
  refine jr_istore_n hX dX6_counted_195 rfl ?_
  have hloop : ∀ k, k ≤ H - 1 → jj_J X D 7 0 0 (jj_MQ X D { frames := 2, cells := 0, slots := 0, locals := 44 } (jj_R (some (.int (m_cf H M B N I 9))) (n) (K) (I) (P) (G)) jj_noX) (n) (K) (I) (P) (G) 196 [some (.ref 150), some (.int (nI 9)), some (.int (sm (m_ol I) k)), some (.int (nI k)), none, none, none] [] := by
    refine jj_for (H - 1) _ ?_ (fun k hk ih => ?_)
    · refine jr_iload_n hX dX6_counted_196 rfl ?_
      refine jr_aload_n hX dX6_counted_197 rfl ?_
      refine jr_geti hX kF_X6_44 rfl (ly_kMo hly) dX6_counted_198 ?_
      refine jr_iconst (v := 1) hX dX6_counted_201 (by decide) ?_
      refine jr_isub hX dX6_counted_202 ?_
      refine jr_icmp_ge (tgt := 228) hX dX6_counted_203 (by decide) (fun c_203 => ?_) (fun c_203 => absurd (by rw [hH]; exact jm_e (by omega)) c_203)
      refine jr_iload_n hX dX6_counted_228 rfl ?_
      exact jr_iret hX dX6_counted_229 rfl rfl ⟨rfl, rfl, rfl, rfl, rfl, rfl⟩
    · refine jr_iload_n hX dX6_counted_196 rfl ?_
      refine jr_aload_n hX dX6_counted_197 rfl ?_
      refine jr_geti hX kF_X6_44 rfl (ly_kMo hly) dX6_counted_198 ?_
      refine jr_iconst (v := 1) hX dX6_counted_201 (by decide) ?_
      refine jr_isub hX dX6_counted_202 ?_
      refine jr_icmp_ge (tgt := 228) hX dX6_counted_203 (by decide) (fun c_203 => absurd c_203 (by rw [hH]; exact jm_s (by assumption) (by omega))) (fun c_203 => ?_)
      refine jr_iload_n hX dX6_counted_206 rfl ?_
      refine jr_aload_n hX dX6_counted_207 rfl ?_
      refine jr_iload_n hX dX6_counted_208 rfl ?_
      refine jr_ret (jr_runV hX hSt kM_X6_90 (c_isOpen (jj_fl hX) hly rfl (by omega)) rfl rfl (ly_kMo hly) ⟨_, _, rfl, by decide⟩ dX6_counted_209 rfl ⟨jj_b1 rfl, jj_b1 rfl⟩ rfl) ?_
      refine jr_if_eq (tgt := 219) hX dX6_counted_212 (by decide) (fun c_212 => ?_) (fun c_212 => ?_)
      · refine jr_iconst (v := 0) hX dX6_counted_219 (by decide) ?_
        refine jr_iadd hX dX6_counted_220 ?_
        refine jr_istore_n hX dX6_counted_221 rfl ?_
        refine jr_iinc hX dX6_counted_222 rfl (by first | with_reducible exact jj_inc _ | with_reducible exact jj_inc1 _) rfl ?_
        refine jr_goto (tgt := 196) hX dX6_counted_225 (by decide) ?_
        rw [sm_1 (show m_ol I k = 0 from c_212)] at ih
        exact ih
      · refine jr_iconst (v := 1) hX dX6_counted_215 (by decide) ?_
        refine jr_goto (tgt := 220) hX dX6_counted_216 (by decide) ?_
        refine jr_iadd hX dX6_counted_220 ?_
        refine jr_istore_n hX dX6_counted_221 rfl ?_
        refine jr_iinc hX dX6_counted_222 rfl (by first | with_reducible exact jj_inc _ | with_reducible exact jj_inc1 _) rfl ?_
        refine jr_goto (tgt := 196) hX dX6_counted_225 (by decide) ?_
        rw [sm_1 (show m_ol I k = 1 from jm_b1 c_212)] at ih
        exact ih
  exact hloop 0 (Nat.zero_le _)
theorem c_mC {l : Launch} (hfl : l.stackTraces = false) {D : jj_D} {n : Nat} {K : jj_K} {I : jj_I} {P : jj_P} {G : jj_G} (hly : ly K P) {t H M B N : Nat} (hH : I 150 2 = nI H) (hH2 : H ≤ 8) (hM : I 150 6 = nI M) (hM2 : M ≤ 5) (hB : I 150 7 = nI B) (hB2 : B ≤ 10) (hN : I 150 8 = nI N) (hN2 : N ≤ 30) (ht : t < 10) :
    jj_Met l D yX6_counted (jj_ws yX6_counted cX6_counted 7 (some .int)) { frames := 2, cells := 0, slots := 0, locals := 44 } [.ref 150, .int (nI t)] n K I P G (jj_R (some (.int (m_cf H M B N I t))) n K I P G) jj_noX := by
  have h : t = 0 ∨ t = 1 ∨ t = 2 ∨ t = 3 ∨ t = 4 ∨ t = 5 ∨ t = 6 ∨ t = 7 ∨ t = 8 ∨ t = 9 := by omega
  rcases h with rfl | rfl | rfl | rfl | rfl | rfl | rfl | rfl | rfl | rfl
  · exact c_mC0 hfl hly hH hH2 hM hM2 hB hB2 hN hN2
  · exact c_mC1 hfl hly hH hH2 hM hM2 hB hB2 hN hN2
  · exact c_mC2 hfl hly hH hH2 hM hM2 hB hB2 hN hN2
  · exact c_mC3 hfl hly hH hH2 hM hM2 hB hB2 hN hN2
  · exact c_mC4 hfl hly hH hH2 hM hM2 hB hB2 hN hN2
  · exact c_mC5 hfl hly hH hH2 hM hM2 hB hB2 hN hN2
  · exact c_mC6 hfl hly hH hH2 hM hM2 hB hB2 hN hN2
  · exact c_mC7 hfl hly hH hH2 hM hM2 hB hB2 hN hN2
  · exact c_mC8 hfl hly hH hH2 hM hM2 hB hB2 hN hN2
  · exact c_mC9 hfl hly hH hH2 hM hM2 hB hB2 hN hN2
