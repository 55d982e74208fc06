theorem it_offs {A : Nat} {f : Nat → Nat} {v : Int32} {J : jj_I} {a : Nat} (h : a ≠ A) : ∀ n, it (fun g M => jj_u M A (f g) v) J n a = J a
  | 0 => rfl
  | n + 1 => (jj_u_ne h).trans (it_offs h n)
theorem jm_up {g h : Nat} (h1 : nI g ≤ nI h) (h2 : ¬ nI h = nI g) (hg : g < 1000) (hh : h < 1000) : g < h := by
  have e1 := nI_toInt (n := g) (by omega)
  have e2 := nI_toInt (n := h) (by omega)
  rw [Int32.le_iff_toInt_le, e1, e2] at h1
  have : g ≠ h := fun e => h2 (by rw [e])
  omega
theorem jm_dn {g h : Nat} (h1 : ¬ nI g ≤ nI h) (hg : g < 1000) (hh : h < 1000) : h < g := Nat.lt_of_not_le (fun e => h1 (nI_le e (by omega)))
theorem jm_sub1 {t : Nat} (h : 1 ≤ t) : nI t - 1 = nI (t - 1) := by
  obtain ⟨s, rfl⟩ : ∃ s, t = s + 1 := ⟨t - 1, by omega⟩
  rw [nI_pred]
  rfl
set_option maxHeartbeats 4000000 in
set_option maxRecDepth 100000 in
theorem c_sail {l : Launch} (hfl : l.stackTraces = false) {D : jj_D} {n : Nat} {K : jj_K} {I : jj_I} {P : jj_P} {G : jj_G} (hly : ly K P) {w H M B N : Nat} {C : jj_I} {b : Nat} (hs : sf w H M B N C) (hm : ml w H M B N C I) (hb : b < B) (hL : sfL w H C) (hg : sfG w C b) :
    jj_Met l D yX6_sail (jj_ws yX6_sail cX6_sail 5 none) { frames := 2, cells := 0, slots := 0, locals := 43 } [.ref 150, .int (nI b)] n K I P G (jj_RS (fun r J => r = none ∧ ml w H M B N (f_bi w b H (f_go w b C)) J ∧ ∀ a, a ≠ 158 → J a = I a) n K P G) jj_noX := by
  refine jj_of hfl (by decide +kernel) [some (.ref 150), some (.int (nI b)), none, none, none] rfl rfl ?_
  intro X hXl hX hSt
  have z := sf_Z hs
  have hH := hm.1.1
  have hM := hm.1.2.1
  have hB := hm.1.2.2.1
  have hN := hm.1.2.2.2
  have hH2 := hs.1.2
  have hM2 := z.1
  have hB2 := z.2.1
  have hN2 := z.2.2
  have hb10 : b < 10 := by omega
  obtain ⟨⟨o, ho, eo⟩, hp, h4, hl, ⟨g, hg6, eg⟩⟩ := hs.2.2.2.2.1 b hb
  obtain ⟨q0, q1, q2, q3, q4, q5, q6, q7, q8⟩ := ml_hB hm hb
  have sS := sf_go hs hb
  obtain ⟨-, p', p4, pl, -⟩ := sS.2.2.2.2.1 b hb
  have c272 : ∀ (J : jj_I) (x : Int32), ml w H M B N (f_go w b C) J → (∀ a, a ≠ 158 → J a = I a) → (x ≤ 20 → f_bi w b H (f_go w b C) = (f_go w b C)) → (¬ x ≤ 20 → f_bi w b H (f_go w b C) = f_lh w b (f_go w b C)) → jj_J X D 5 0 0 (jj_MQ X D { frames := 2, cells := 0, slots := 0, locals := 43 } (jj_RS (fun r J => r = none ∧ ml w H M B N (f_bi w b H (f_go w b C)) J ∧ ∀ a, a ≠ 158 → J a = I a) n K P G) jj_noX) (n) (K) (J) (P) (G) 272 [some (.ref 150), some (.int (nI b)), none, none, none] [.int x] := by
    intro J x o1 o2 o3 o4
    obtain ⟨r0, r1, r2, r3, r4, r5, r6, r7, r8⟩ := ml_hB o1 hb
    refine jr_istore_n hX dX6_sail_272 rfl ?_
    refine jr_iload_n hX dX6_sail_273 rfl ?_
    refine jr_bipush (v := 20) hX dX6_sail_274 (by decide) ?_
    refine jr_icmp_gt (tgt := 280) hX dX6_sail_276 (by decide) (fun c_276 => ?_) (fun c_276 => ?_)
    · refine jr_aload_n hX dX6_sail_280 rfl ?_
      refine jr_iload_n hX dX6_sail_281 rfl ?_
      refine jr_iconst (v := 1) hX dX6_sail_282 (by decide) ?_
      refine jr_aload_n hX dX6_sail_283 rfl ?_
      refine jr_iload_n hX dX6_sail_284 rfl ?_
      refine jr_iconst (v := 1) hX dX6_sail_285 (by decide) ?_
      refine jr_ret (jr_runV hX hSt kM_X6_74 (c_bo (jj_fl hX) hly (b := b) (k := 1) hb10 (show _ = nI 1 from rfl) (by decide)) rfl rfl (ly_kMo hly) ⟨_, _, rfl, by decide⟩ dX6_sail_286 rfl ⟨jj_b1 rfl, jj_b1 rfl⟩ rfl) ?_
      rw [r1]
      refine jr_iconst (v := 1) hX dX6_sail_289 (by decide) ?_
      refine jr_isub hX dX6_sail_290 ?_
      refine jr_void (jr_runV hX hSt kM_X6_124 (c_setBo (jj_fl hX) hly (b := b) (k := 1) hb10 (show _ = nI 1 from rfl) (by decide)) rfl rfl (ly_kMo hly) ⟨_, _, rfl, by decide⟩ dX6_sail_291 rfl ⟨jj_b1 rfl, jj_b1 rfl⟩ rfl) ?_
      refine jr_aload_n hX dX6_sail_294 rfl ?_
      refine jr_iload_n hX dX6_sail_295 rfl ?_
      refine jr_iconst (v := 1) hX dX6_sail_296 (by decide) ?_
      refine jr_ret (jr_runV hX hSt kM_X6_74 (c_bo (jj_fl hX) hly (b := b) (k := 1) hb10 (show _ = nI 1 from rfl) (by decide)) rfl rfl (ly_kMo hly) ⟨_, _, rfl, by decide⟩ dX6_sail_297 rfl ⟨jj_b1 rfl, jj_b1 rfl⟩ rfl) ?_
      rw [jj_u_eq]
      refine jr_if_le (tgt := 304) hX dX6_sail_300 (by decide) (fun c_300 => ?_) (fun c_300 => ?_)
      · refine jr_aload_n hX dX6_sail_304 rfl ?_
        refine jr_iload_n hX dX6_sail_305 rfl ?_
        refine jr_iconst (v := 3) hX dX6_sail_306 (by decide) ?_
        refine jr_iconst (v := 3) hX dX6_sail_307 (by decide) ?_
        refine jr_void (jr_runV hX hSt kM_X6_124 (c_setBo (jj_fl hX) hly (b := b) (k := 3) hb10 (show _ = nI 3 from rfl) (by decide)) rfl rfl (ly_kMo hly) ⟨_, _, rfl, by decide⟩ dX6_sail_308 rfl ⟨jj_b1 rfl, jj_b1 rfl⟩ rfl) ?_
        refine jr_aload_n hX dX6_sail_311 rfl ?_
        refine jr_iload_n hX dX6_sail_312 rfl ?_
        refine jr_iconst (v := 4) hX dX6_sail_313 (by decide) ?_
        refine jr_iconst (v := -1) hX dX6_sail_314 (by decide) ?_
        refine jr_void (jr_runV hX hSt kM_X6_124 (c_setBo (jj_fl hX) hly (b := b) (k := 4) hb10 (show _ = nI 4 from rfl) (by decide)) rfl rfl (ly_kMo hly) ⟨_, _, rfl, by decide⟩ dX6_sail_315 rfl ⟨jj_b1 rfl, jj_b1 rfl⟩ rfl) ?_
        refine jr_aload_n hX dX6_sail_318 rfl ?_
        refine jr_iload_n hX dX6_sail_319 rfl ?_
        refine jr_bipush (v := 6) hX dX6_sail_320 (by decide) ?_
        refine jr_iconst (v := 0) hX dX6_sail_322 (by decide) ?_
        refine jr_void (jr_runV hX hSt kM_X6_124 (c_setBo (jj_fl hX) hly (b := b) (k := 6) hb10 (show _ = nI 6 from rfl) (by decide)) rfl rfl (ly_kMo hly) ⟨_, _, rfl, by decide⟩ dX6_sail_323 rfl ⟨jj_b1 rfl, jj_b1 rfl⟩ rfl) ?_
        refine jr_iconst (v := 0) hX dX6_sail_326 (by decide) ?_
        refine jr_istore hX dX6_sail_327 rfl ?_
        have hz : ∀ k, k ≤ 4 → jj_J X D 5 0 0 (jj_MQ X D { frames := 2, cells := 0, slots := 0, locals := 43 } (jj_RS (fun r J => r = none ∧ ml w H M B N (f_bi w b H (f_go w b C)) J ∧ ∀ a, a ≠ 158 → J a = I a) n K P G) jj_noX) (n) (K) (it (fun g Z => jj_u Z 158 (12 * b + (8 + g)) 0) (jj_u (jj_u (jj_u (jj_u J 158 (12 * b + 1) ((f_go w b C) (aB w b) 1 - 1)) 158 (12 * b + 3) 3) 158 (12 * b + 4) (-1)) 158 (12 * b + 6) 0) k) (P) (G) 329 [some (.ref 150), some (.int (nI b)), none, some (.int x), some (.int (nI k))] [] := by
          refine jj_for (4) _ ?_ (fun k hk ih => ?_)
          · refine jr_iload hX dX6_sail_329 rfl ?_
            refine jr_iconst (v := 4) hX dX6_sail_331 (by decide) ?_
            refine jr_icmp_ge (tgt := 352) hX dX6_sail_332 (by decide) (fun c_332 => ?_) (fun c_332 => absurd (by decide) c_332)
            exact jr_vret hX dX6_sail_352 rfl rfl ⟨⟨rfl, by
                rw [o4 (Int32.not_le.mpr c_276)]
                unfold f_lh
                dsimp only
                rw [if_neg (by rw [jj_u_eq]; exact Int32.not_lt.mpr c_300)]
                exact ml_load0 (ml_uLeft (ml_uAt (ml_uSt (ml_uHull o1 z hb) z hb (by decide)) z hb) z hb) z hb 4 (Nat.le_refl _), fun a ha => (it_offs ha 4).trans ((jj_u_ne ha).trans ((jj_u_ne ha).trans ((jj_u_ne ha).trans ((jj_u_ne ha).trans (o2 a ha)))))⟩, rfl, rfl, rfl, rfl⟩
          · refine jr_iload hX dX6_sail_329 rfl ?_
            refine jr_iconst (v := 4) hX dX6_sail_331 (by decide) ?_
            refine jr_icmp_ge (tgt := 352) hX dX6_sail_332 (by decide) (fun c_332 => absurd c_332 (show ¬ nI 4 ≤ nI k from nI_ge (by assumption) (by omega))) (fun c_332 => ?_)
            refine jr_aload_n hX dX6_sail_335 rfl ?_
            refine jr_iload_n hX dX6_sail_336 rfl ?_
            refine jr_bipush (v := 8) hX dX6_sail_337 (by decide) ?_
            refine jr_iload hX dX6_sail_339 rfl ?_
            refine jr_iadd hX dX6_sail_341 ?_
            refine jr_iconst (v := 0) hX dX6_sail_342 (by decide) ?_
            refine jr_void (jr_runV hX hSt kM_X6_124 (c_setBo (jj_fl hX) hly (b := b) (k := 8 + k) hb10 (show _ = nI (8 + k) from by rw [show (8 : Int32) = nI 8 from rfl, nI_add]) (by omega)) rfl rfl (ly_kMo hly) ⟨_, _, rfl, by decide⟩ dX6_sail_343 rfl ⟨jj_b1 rfl, jj_b1 rfl⟩ rfl) ?_
            refine jr_iinc hX dX6_sail_346 rfl (by first | with_reducible exact jj_inc _ | with_reducible exact jj_inc1 _) rfl ?_
            refine jr_goto (tgt := 329) hX dX6_sail_349 (by decide) ?_
            exact ih
        exact hz 0 (Nat.zero_le _)
      · exact jr_vret hX dX6_sail_303 rfl rfl ⟨⟨rfl, by
            rw [o4 (Int32.not_le.mpr c_276)]
            unfold f_lh
            dsimp only
            rw [if_pos (by rw [jj_u_eq]; exact Int32.not_le.mp c_300)]
            exact ml_uHull o1 z hb, fun a ha => (jj_u_ne ha).trans (o2 a ha)⟩, rfl, rfl, rfl, rfl⟩
    · exact jr_vret hX dX6_sail_279 rfl rfl ⟨⟨rfl, by rw [o3 (Int32.not_lt.mp c_276)]; exact o1, o2⟩, rfl, rfl, rfl, rfl⟩
  have c224 : ∀ (J : jj_I), ml w H M B N (f_go w b C) J → (∀ a, a ≠ 158 → J a = I a) → jj_J X D 5 0 0 (jj_MQ X D { frames := 2, cells := 0, slots := 0, locals := 43 } (jj_RS (fun r J => r = none ∧ ml w H M B N (f_bi w b H (f_go w b C)) J ∧ ∀ a, a ≠ 158 → J a = I a) n K P G) jj_noX) (n) (K) (J) (P) (G) 224 [some (.ref 150), some (.int (nI b)), none, none, none] [] := by
    intro J o1 o2
    obtain ⟨r0, r1, r2, r3, r4, r5, r6, r7, r8⟩ := ml_hB o1 hb
    have hHJ : J 150 2 = nI H := o1.1.1
    refine jr_aload_n hX dX6_sail_224 rfl ?_
    refine jr_iload_n hX dX6_sail_225 rfl ?_
    refine jr_iconst (v := 3) hX dX6_sail_226 (by decide) ?_
    refine jr_ret (jr_runV hX hSt kM_X6_74 (c_bo (jj_fl hX) hly (b := b) (k := 3) hb10 (show _ = nI 3 from rfl) (by decide)) rfl rfl (ly_kMo hly) ⟨_, _, rfl, by decide⟩ dX6_sail_227 rfl ⟨jj_b1 rfl, jj_b1 rfl⟩ rfl) ?_
    rw [r3]
    refine jr_iconst (v := 2) hX dX6_sail_230 (by decide) ?_
    refine jr_icmp_ne (tgt := 249) hX dX6_sail_231 (by decide) (fun c_231 => ?_) (fun c_231 => ?_)
    · refine jr_aload_n hX dX6_sail_249 rfl ?_
      refine jr_iload_n hX dX6_sail_250 rfl ?_
      refine jr_iconst (v := 3) hX dX6_sail_251 (by decide) ?_
      refine jr_ret (jr_runV hX hSt kM_X6_74 (c_bo (jj_fl hX) hly (b := b) (k := 3) hb10 (show _ = nI 3 from rfl) (by decide)) rfl rfl (ly_kMo hly) ⟨_, _, rfl, by decide⟩ dX6_sail_252 rfl ⟨jj_b1 rfl, jj_b1 rfl⟩ rfl) ?_
      rw [r3]
      refine jr_if_ne (tgt := 271) hX dX6_sail_255 (by decide) (fun c_255 => ?_) (fun c_255 => ?_)
      · refine jr_iconst (v := 0) hX dX6_sail_271 (by decide) ?_
        exact c272 J 0 o1 o2 (fun _ => by unfold f_bi; rw [if_neg (fun e => c_231 e.1), if_neg (fun e => c_255 e.1)]) (fun h => absurd (by decide) h)
      · obtain ⟨h2, hh2, eh2⟩ := p4 (by rw [c_255]; decide)
        refine jr_aload_n hX dX6_sail_258 rfl ?_
        refine jr_aload_n hX dX6_sail_259 rfl ?_
        refine jr_iload_n hX dX6_sail_260 rfl ?_
        refine jr_iconst (v := 4) hX dX6_sail_261 (by decide) ?_
        refine jr_ret (jr_runV hX hSt kM_X6_74 (c_bo (jj_fl hX) hly (b := b) (k := 4) hb10 (show _ = nI 4 from rfl) (by decide)) rfl rfl (ly_kMo hly) ⟨_, _, rfl, by decide⟩ dX6_sail_262 rfl ⟨jj_b1 rfl, jj_b1 rfl⟩ rfl) ?_
        rw [r4, eh2]
        refine jr_ret (jr_runV hX hSt kM_X6_84 (c_iceAt (jj_fl hX) hly hHJ hh2 hH2) rfl rfl (ly_kMo hly) ⟨_, _, rfl, by decide⟩ dX6_sail_265 rfl ⟨jj_b1 rfl, jj_b1 rfl⟩ rfl) ?_
        rw [jm_ia o1 hH2 hh2]
        refine jr_goto (tgt := 272) hX dX6_sail_268 (by decide) ?_
        exact c272 J _ o1 o2 (fun h => by unfold f_bi; rw [if_neg (fun e => c_231 e.1), if_neg (fun e => e.2 (by rw [eh2, nv_nI (by omega)]; exact h))]) (fun h => by unfold f_bi; rw [if_neg (fun e => c_231 e.1), if_pos ⟨c_255, by rw [eh2, nv_nI (by omega)]; exact h⟩])
    · obtain ⟨l2, hl2, el2⟩ := pl c_231
      refine jr_aload_n hX dX6_sail_234 rfl ?_
      refine jr_getr hX kF_X6_22 rfl (ly_kMo hly) (ly_p6_9 hly) dX6_sail_235 ?_
      refine jr_aload_n hX dX6_sail_238 rfl ?_
      refine jr_iload_n hX dX6_sail_239 rfl ?_
      refine jr_bipush (v := 7) hX dX6_sail_240 (by decide) ?_
      refine jr_ret (jr_runV hX hSt kM_X6_74 (c_bo (jj_fl hX) hly (b := b) (k := 7) hb10 (show _ = nI 7 from rfl) (by decide)) rfl rfl (ly_kMo hly) ⟨_, _, rfl, by decide⟩ dX6_sail_242 rfl ⟨jj_b1 rfl, jj_b1 rfl⟩ rfl) ?_
      rw [r7 c_231, el2]
      refine jr_iald hX (by first | with_reducible assumption | with_reducible exact ly_kWm hly (by first | assumption | omega) | with_reducible exact ly_kLd hly (by first | assumption | omega) | with_reducible exact ly_kIc hly (by first | assumption | omega) | with_reducible exact ly_kBe hly (by first | assumption | omega) | with_reducible exact ly_kPr hly (by first | assumption | omega) | with_reducible exact ly_kMt hly (by first | assumption | omega) (by first | assumption | omega) | with_reducible exact ly_kBc hly (by first | assumption | omega) (by first | assumption | omega) | with_reducible exact ly_k151 hly | with_reducible exact ly_k152 hly | with_reducible exact ly_k153 hly | with_reducible exact ly_k154 hly | with_reducible exact ly_k155 hly | with_reducible exact ly_k156 hly | with_reducible exact ly_k157 hly | with_reducible exact ly_k158 hly | with_reducible exact ly_k159 hly | with_reducible exact ly_k160 hly | with_reducible exact ly_kAh hly (by first | assumption | omega)) (by first | with_reducible rfl | with_reducible assumption | rfl) (by omega) dX6_sail_245 ?_
      rw [ml_hIce o1 (show l2 < 7 by omega)]
      refine jr_goto (tgt := 272) hX dX6_sail_246 (by decide) ?_
      exact c272 J _ o1 o2 (fun h => by unfold f_bi; rw [if_neg (fun e => e.2 (by rw [el2, nv_nI (by omega)]; exact h)), if_neg (fun e => absurd (e.1.symm.trans c_231) (by decide))]) (fun h => by unfold f_bi; rw [if_pos ⟨c_231, by rw [el2, nv_nI (by omega)]; exact h⟩])
  have c203 : ∀ (J : jj_I) (t : Nat), ml w H M B N (f_g1 w b C) J → (∀ a, a ≠ 158 → J a = I a) → t < 100 → f_g1 w b C (aB w b) 3 = 2 → f_g1 w b C (aB w b) 7 = nI t → jj_J X D 5 0 0 (jj_MQ X D { frames := 2, cells := 0, slots := 0, locals := 43 } (jj_RS (fun r J => r = none ∧ ml w H M B N (f_bi w b H (f_go w b C)) J ∧ ∀ a, a ≠ 158 → J a = I a) n K P G) jj_noX) (n) (K) (J) (P) (G) 203 [some (.ref 150), some (.int (nI b)), some (.int 1), none, none] [] := by
    intro J t o1 o2 ht e3 e7
    obtain ⟨r0, r1, r2, r3, r4, r5, r6, r7, r8⟩ := ml_hB o1 hb
    refine jr_iload_n hX dX6_sail_203 rfl ?_
    refine jr_if_eq (tgt := 224) hX dX6_sail_204 (by decide) (fun c_204 => absurd c_204 (by decide)) (fun c_204 => ?_)
    refine jr_aload_n hX dX6_sail_207 rfl ?_
    refine jr_iload_n hX dX6_sail_208 rfl ?_
    refine jr_bipush (v := 6) hX dX6_sail_209 (by decide) ?_
    refine jr_ret (jr_runV hX hSt kM_X6_74 (c_bo (jj_fl hX) hly (b := b) (k := 6) hb10 (show _ = nI 6 from rfl) (by decide)) rfl rfl (ly_kMo hly) ⟨_, _, rfl, by decide⟩ dX6_sail_211 rfl ⟨jj_b1 rfl, jj_b1 rfl⟩ rfl) ?_
    rw [r6, e7]
    refine jr_if_ne (tgt := 224) hX dX6_sail_214 (by decide) (fun c_214 => ?_) (fun c_214 => ?_)
    · exact jr_forget (K1 := K) (fun _ _ h => h) (L1 := [some (.ref 150), some (.int (nI b)), none, none, none]) (fun i v h => by rcases i with _ | _ | _ | _ | _ | i <;> first | exact h | exact absurd h (by simp)) (c224 J (by unfold f_go; rw [g2_1 (by rw [e7, ← nI_0]; exact nI_lt (Nat.pos_of_ne_zero (fun e => c_214 (by rw [e]; rfl))) (by omega))]; exact o1) o2)
    · refine jr_aload_n hX dX6_sail_217 rfl ?_
      refine jr_iload_n hX dX6_sail_218 rfl ?_
      refine jr_iconst (v := 3) hX dX6_sail_219 (by decide) ?_
      refine jr_iconst (v := 0) hX dX6_sail_220 (by decide) ?_
      refine jr_void (jr_runV hX hSt kM_X6_124 (c_setBo (jj_fl hX) hly (b := b) (k := 3) hb10 (show _ = nI 3 from rfl) (by decide)) rfl rfl (ly_kMo hly) ⟨_, _, rfl, by decide⟩ dX6_sail_221 rfl ⟨jj_b1 rfl, jj_b1 rfl⟩ rfl) ?_
      exact jr_forget (K1 := K) (fun _ _ h => h) (L1 := [some (.ref 150), some (.int (nI b)), none, none, none]) (fun i v h => by rcases i with _ | _ | _ | _ | _ | i <;> first | exact h | exact absurd h (by simp)) (c224 _ (by unfold f_go; rw [g2_2 e3 (by rw [e7, c_214]; decide)]; exact ml_uSt o1 z hb (by decide)) (fun a ha => (jj_u_ne ha).trans (o2 a ha)))
  refine jr_aload_n hX dX6_sail_0 rfl ?_
  refine jr_iload_n hX dX6_sail_1 rfl ?_
  refine jr_iconst (v := 3) hX dX6_sail_2 (by decide) ?_
  refine jr_ret (jr_runV hX hSt kM_X6_74 (c_bo (jj_fl hX) hly (b := b) (k := 3) hb10 (show _ = nI 3 from rfl) (by decide)) rfl rfl (ly_kMo hly) ⟨_, _, rfl, by decide⟩ dX6_sail_3 rfl ⟨jj_b1 rfl, jj_b1 rfl⟩ rfl) ?_
  rw [q3]
  refine jr_iconst (v := 3) hX dX6_sail_6 (by decide) ?_
  refine jr_icmp_ne (tgt := 11) hX dX6_sail_7 (by decide) (fun c_7 => ?_) (fun c_7 => ?_)
  · obtain ⟨h0, hh0, eh0⟩ := h4 c_7
    refine jr_iconst (v := 0) hX dX6_sail_11 (by decide) ?_
    refine jr_istore_n hX dX6_sail_12 rfl ?_
    refine jr_aload_n hX dX6_sail_13 rfl ?_
    refine jr_iload_n hX dX6_sail_14 rfl ?_
    refine jr_ret (jr_runV hX hSt kM_X6_77 (c_isHere (jj_fl hX) hly hb10) rfl rfl (ly_kMo hly) ⟨_, _, rfl, by decide⟩ dX6_sail_15 rfl ⟨jj_b1 rfl, jj_b1 rfl⟩ rfl) ?_
    rw [q3]
    refine jr_if_eq (tgt := 161) hX dX6_sail_18 (by decide) (fun c_18 => ?_) (fun c_18 => ?_)
    · refine jr_aload_n hX dX6_sail_161 rfl ?_
      refine jr_iload_n hX dX6_sail_162 rfl ?_
      refine jr_iconst (v := 3) hX dX6_sail_163 (by decide) ?_
      refine jr_ret (jr_runV hX hSt kM_X6_74 (c_bo (jj_fl hX) hly (b := b) (k := 3) hb10 (show _ = nI 3 from rfl) (by decide)) rfl rfl (ly_kMo hly) ⟨_, _, rfl, by decide⟩ dX6_sail_164 rfl ⟨jj_b1 rfl, jj_b1 rfl⟩ rfl) ?_
      rw [q3]
      refine jr_iconst (v := 2) hX dX6_sail_167 (by decide) ?_
      refine jr_icmp_ne (tgt := 203) hX dX6_sail_168 (by decide) (fun c_168 => absurd (jm_p2 hp c_7 (jl_00 c_18)) c_168) (fun c_168 => ?_)
      have hst := jm_p2 hp c_7 (jl_00 c_18)
      obtain ⟨l, hl1, el⟩ := hl hst
      refine jr_aload_n hX dX6_sail_171 rfl ?_
      refine jr_aload_n hX dX6_sail_172 rfl ?_
      refine jr_iload_n hX dX6_sail_173 rfl ?_
      refine jr_bipush (v := 7) hX dX6_sail_174 (by decide) ?_
      refine jr_ret (jr_runV hX hSt kM_X6_74 (c_bo (jj_fl hX) hly (b := b) (k := 7) hb10 (show _ = nI 7 from rfl) (by decide)) rfl rfl (ly_kMo hly) ⟨_, _, rfl, by decide⟩ dX6_sail_176 rfl ⟨jj_b1 rfl, jj_b1 rfl⟩ rfl) ?_
      rw [q7 hst, el]
      refine jr_ret (jr_runV hX hSt kM_X6_90 (c_isOpen (jj_fl hX) hly rfl (by omega)) rfl rfl (ly_kMo hly) ⟨_, _, rfl, by decide⟩ dX6_sail_179 rfl ⟨jj_b1 rfl, jj_b1 rfl⟩ rfl) ?_
      rw [jm_ol hm (by omega)]
      refine jr_if_eq (tgt := 203) hX dX6_sail_182 (by decide) (fun c_182 => ?_) (fun c_182 => ?_)
      · refine jr_iload_n hX dX6_sail_203 rfl ?_
        refine jr_if_eq (tgt := 224) hX dX6_sail_204 (by decide) (fun _ => ?_) (fun c => absurd rfl c)
        exact jr_forget (K1 := K) (fun _ _ h => h) (L1 := [some (.ref 150), some (.int (nI b)), none, none, none]) (fun i v h => by rcases i with _ | _ | _ | _ | _ | i <;> first | exact h | exact absurd h (by simp)) (c224 I (by unfold f_go; rw [g1_on hst, if_pos (by rw [el, nv_nI (by omega)]; exact c_182), g2_1 (by obtain ⟨t, t1, t2, et⟩ := hg hst; rw [et, ← nI_0]; exact nI_lt (by omega) (by omega))]; exact hm) (fun _ _ => rfl))
      · obtain ⟨t, t1, t2, et⟩ := hg hst
        have es : nI t - 1 = nI (t - 1) := jm_sub1 t1
        have e1 : f_g1 w b C = jj_u C (aB w b) 7 (nI (t - 1)) := by rw [g1_on hst, if_neg (by rw [el, nv_nI (by omega)]; exact c_182), et, es]
        refine jr_aload_n hX dX6_sail_185 rfl ?_
        refine jr_iload_n hX dX6_sail_186 rfl ?_
        refine jr_bipush (v := 6) hX dX6_sail_187 (by decide) ?_
        refine jr_aload_n hX dX6_sail_189 rfl ?_
        refine jr_iload_n hX dX6_sail_190 rfl ?_
        refine jr_bipush (v := 6) hX dX6_sail_191 (by decide) ?_
        refine jr_ret (jr_runV hX hSt kM_X6_74 (c_bo (jj_fl hX) hly (b := b) (k := 6) hb10 (show _ = nI 6 from rfl) (by decide)) rfl rfl (ly_kMo hly) ⟨_, _, rfl, by decide⟩ dX6_sail_193 rfl ⟨jj_b1 rfl, jj_b1 rfl⟩ rfl) ?_
        rw [q6, et]
        refine jr_iconst (v := 1) hX dX6_sail_196 (by decide) ?_
        refine jr_isub hX dX6_sail_197 ?_
        rw [es]
        refine jr_void (jr_runV hX hSt kM_X6_124 (c_setBo (jj_fl hX) hly (b := b) (k := 6) hb10 (show _ = nI 6 from rfl) (by decide)) rfl rfl (ly_kMo hly) ⟨_, _, rfl, by decide⟩ dX6_sail_198 rfl ⟨jj_b1 rfl, jj_b1 rfl⟩ rfl) ?_
        refine jr_iconst (v := 1) hX dX6_sail_201 (by decide) ?_
        refine jr_istore_n hX dX6_sail_202 rfl ?_
        exact jr_forget (K1 := K) (fun _ _ h => h) (L1 := [some (.ref 150), some (.int (nI b)), some (.int 1), none, none]) (fun i v h => by rcases i with _ | _ | _ | _ | _ | i <;> first | exact h | exact absurd h (by simp)) (c203 _ (t - 1) (by rw [e1]; exact ml_uLeft hm z hb) (fun a ha => jj_u_ne ha) (by omega) (by rw [e1, jj_u_nk (by decide)]; exact hst) (by rw [e1, jj_u_eq]))
    · refine jr_aload_n hX dX6_sail_21 rfl ?_
      refine jr_iload_n hX dX6_sail_22 rfl ?_
      refine jr_iconst (v := 4) hX dX6_sail_23 (by decide) ?_
      refine jr_ret (jr_runV hX hSt kM_X6_74 (c_bo (jj_fl hX) hly (b := b) (k := 4) hb10 (show _ = nI 4 from rfl) (by decide)) rfl rfl (ly_kMo hly) ⟨_, _, rfl, by decide⟩ dX6_sail_24 rfl ⟨jj_b1 rfl, jj_b1 rfl⟩ rfl) ?_
      rw [q4]
      refine jr_aload_n hX dX6_sail_27 rfl ?_
      refine jr_iload_n hX dX6_sail_28 rfl ?_
      refine jr_iconst (v := 5) hX dX6_sail_29 (by decide) ?_
      refine jr_ret (jr_runV hX hSt kM_X6_74 (c_bo (jj_fl hX) hly (b := b) (k := 5) hb10 (show _ = nI 5 from rfl) (by decide)) rfl rfl (ly_kMo hly) ⟨_, _, rfl, by decide⟩ dX6_sail_30 rfl ⟨jj_b1 rfl, jj_b1 rfl⟩ rfl) ?_
      rw [q5]
      refine jr_icmp_eq (tgt := 161) hX dX6_sail_33 (by decide) (fun c_33 => ?_) (fun c_33 => ?_)
      · refine jr_aload_n hX dX6_sail_161 rfl ?_
        refine jr_iload_n hX dX6_sail_162 rfl ?_
        refine jr_iconst (v := 3) hX dX6_sail_163 (by decide) ?_
        refine jr_ret (jr_runV hX hSt kM_X6_74 (c_bo (jj_fl hX) hly (b := b) (k := 3) hb10 (show _ = nI 3 from rfl) (by decide)) rfl rfl (ly_kMo hly) ⟨_, _, rfl, by decide⟩ dX6_sail_164 rfl ⟨jj_b1 rfl, jj_b1 rfl⟩ rfl) ?_
        rw [q3]
        refine jr_iconst (v := 2) hX dX6_sail_167 (by decide) ?_
        refine jr_icmp_ne (tgt := 203) hX dX6_sail_168 (by decide) (fun c_168 => ?_) (fun c_168 => absurd c_168 (jm_n2 (jm_p01 hp (jl_01 c_18))))
        refine jr_iload_n hX dX6_sail_203 rfl ?_
        refine jr_if_eq (tgt := 224) hX dX6_sail_204 (by decide) (fun _ => ?_) (fun c => absurd rfl c)
        exact jr_forget (K1 := K) (fun _ _ h => h) (L1 := [some (.ref 150), some (.int (nI b)), none, none, none]) (fun i v h => by rcases i with _ | _ | _ | _ | _ | i <;> first | exact h | exact absurd h (by simp)) (c224 I (by rw [go_at (jm_p01 hp (jl_01 c_18)) c_33]; exact hm) (fun _ _ => rfl))
      · refine jr_aload_n hX dX6_sail_36 rfl ?_
        refine jr_iload_n hX dX6_sail_37 rfl ?_
        refine jr_iconst (v := 5) hX dX6_sail_38 (by decide) ?_
        refine jr_ret (jr_runV hX hSt kM_X6_74 (c_bo (jj_fl hX) hly (b := b) (k := 5) hb10 (show _ = nI 5 from rfl) (by decide)) rfl rfl (ly_kMo hly) ⟨_, _, rfl, by decide⟩ dX6_sail_39 rfl ⟨jj_b1 rfl, jj_b1 rfl⟩ rfl) ?_
        rw [q5]
        refine jr_aload_n hX dX6_sail_42 rfl ?_
        refine jr_iload_n hX dX6_sail_43 rfl ?_
        refine jr_iconst (v := 4) hX dX6_sail_44 (by decide) ?_
        refine jr_ret (jr_runV hX hSt kM_X6_74 (c_bo (jj_fl hX) hly (b := b) (k := 4) hb10 (show _ = nI 4 from rfl) (by decide)) rfl rfl (ly_kMo hly) ⟨_, _, rfl, by decide⟩ dX6_sail_45 rfl ⟨jj_b1 rfl, jj_b1 rfl⟩ rfl) ?_
        rw [q4]
        refine jr_icmp_le (tgt := 55) hX dX6_sail_48 (by decide) (fun c_48 => ?_) (fun c_48 => ?_)
        · have hlt : g < h0 := jm_up (by rw [← eg, ← eh0]; exact c_48) (by rw [← eg, ← eh0]; exact c_33) (by omega) (by omega)
          obtain ⟨h, rfl⟩ : ∃ h, h0 = h + 1 := ⟨h0 - 1, by omega⟩
          refine jr_iconst (v := 0) hX dX6_sail_55 (by decide) ?_
          refine jr_istore_n hX dX6_sail_56 rfl ?_
          refine jr_iload_n hX dX6_sail_57 rfl ?_
          refine jr_if_eq (tgt := 70) hX dX6_sail_58 (by decide) (fun c_58 => ?_) (fun c_58 => absurd rfl c_58)
          refine jr_aload_n hX dX6_sail_70 rfl ?_
          refine jr_iload_n hX dX6_sail_71 rfl ?_
          refine jr_iconst (v := 4) hX dX6_sail_72 (by decide) ?_
          refine jr_ret (jr_runV hX hSt kM_X6_74 (c_bo (jj_fl hX) hly (b := b) (k := 4) hb10 (show _ = nI 4 from rfl) (by decide)) rfl rfl (ly_kMo hly) ⟨_, _, rfl, by decide⟩ dX6_sail_73 rfl ⟨jj_b1 rfl, jj_b1 rfl⟩ rfl) ?_
          rw [q4, eh0]
          refine jr_iconst (v := 1) hX dX6_sail_76 (by decide) ?_
          refine jr_isub hX dX6_sail_77 ?_
          rw [nI_pred]
          refine jr_istore hX dX6_sail_78 rfl ?_
          refine jr_aload_n hX dX6_sail_80 rfl ?_
          refine jr_iload hX dX6_sail_81 rfl ?_
          refine jr_ret (jr_runV hX hSt kM_X6_90 (c_isOpen (jj_fl hX) hly rfl (by omega)) rfl rfl (ly_kMo hly) ⟨_, _, rfl, by decide⟩ dX6_sail_83 rfl ⟨jj_b1 rfl, jj_b1 rfl⟩ rfl) ?_
          rw [jm_ol hm (by omega)]
          refine jr_if_eq (tgt := 158) hX dX6_sail_86 (by decide) (fun c_86 => ?_) (fun c_86 => ?_)
          · refine jr_goto (tgt := 203) hX dX6_sail_158 (by decide) ?_
            refine jr_iload_n hX dX6_sail_203 rfl ?_
            refine jr_if_eq (tgt := 224) hX dX6_sail_204 (by decide) (fun _ => ?_) (fun c => absurd rfl c)
            exact jr_forget (K1 := K) (fun _ _ h => h) (L1 := [some (.ref 150), some (.int (nI b)), none, none, none]) (fun i v h => by rcases i with _ | _ | _ | _ | _ | i <;> first | exact h | exact absurd h (by simp)) (c224 I (by unfold f_go; rw [g1_so (jm_p01 hp (jl_01 c_18)) c_33, so_cl (h := h) (by rw [if_neg (Int32.not_lt.mpr c_48), eh0, nI_pred, nv_nI (by omega)]) c_86, g2_0 (jm_n2 (jm_p01 hp (jl_01 c_18)))]; exact hm) (fun _ _ => rfl))
          · obtain ⟨t, t1, t2, et⟩ := hL h (by omega)
            refine jr_aload_n hX dX6_sail_89 rfl ?_
            refine jr_iload_n hX dX6_sail_90 rfl ?_
            refine jr_iconst (v := 3) hX dX6_sail_91 (by decide) ?_
            refine jr_iconst (v := 2) hX dX6_sail_92 (by decide) ?_
            refine jr_void (jr_runV hX hSt kM_X6_124 (c_setBo (jj_fl hX) hly (b := b) (k := 3) hb10 (show _ = nI 3 from rfl) (by decide)) rfl rfl (ly_kMo hly) ⟨_, _, rfl, by decide⟩ dX6_sail_93 rfl ⟨jj_b1 rfl, jj_b1 rfl⟩ rfl) ?_
            refine jr_aload_n hX dX6_sail_96 rfl ?_
            refine jr_iload_n hX dX6_sail_97 rfl ?_
            refine jr_bipush (v := 7) hX dX6_sail_98 (by decide) ?_
            refine jr_iload hX dX6_sail_100 rfl ?_
            refine jr_void (jr_runV hX hSt kM_X6_124 (c_setBo (jj_fl hX) hly (b := b) (k := 7) hb10 (show _ = nI 7 from rfl) (by decide)) rfl rfl (ly_kMo hly) ⟨_, _, rfl, by decide⟩ dX6_sail_102 rfl ⟨jj_b1 rfl, jj_b1 rfl⟩ rfl) ?_
            refine jr_aload_n hX dX6_sail_105 rfl ?_
            refine jr_iload_n hX dX6_sail_106 rfl ?_
            refine jr_bipush (v := 6) hX dX6_sail_107 (by decide) ?_
            refine jr_iload_n hX dX6_sail_109 rfl ?_
            refine jr_if_eq (tgt := 123) hX dX6_sail_110 (by decide) (fun c_110 => ?_) (fun c_110 => absurd rfl c_110)
            refine jr_iconst (v := 2) hX dX6_sail_123 (by decide) ?_
            refine jr_aload_n hX dX6_sail_124 rfl ?_
            refine jr_getr hX kF_X6_13 rfl (ly_kMo hly) (ly_p6_3 hly) dX6_sail_125 ?_
            refine jr_iload hX dX6_sail_128 rfl ?_
            refine jr_iald hX (by first | with_reducible assumption | with_reducible exact ly_kWm hly (by first | assumption | omega) | with_reducible exact ly_kLd hly (by first | assumption | omega) | with_reducible exact ly_kIc hly (by first | assumption | omega) | with_reducible exact ly_kBe hly (by first | assumption | omega) | with_reducible exact ly_kPr hly (by first | assumption | omega) | with_reducible exact ly_kMt hly (by first | assumption | omega) (by first | assumption | omega) | with_reducible exact ly_kBc hly (by first | assumption | omega) (by first | assumption | omega) | with_reducible exact ly_k151 hly | with_reducible exact ly_k152 hly | with_reducible exact ly_k153 hly | with_reducible exact ly_k154 hly | with_reducible exact ly_k155 hly | with_reducible exact ly_k156 hly | with_reducible exact ly_k157 hly | with_reducible exact ly_k158 hly | with_reducible exact ly_k159 hly | with_reducible exact ly_k160 hly | with_reducible exact ly_kAh hly (by first | assumption | omega)) (by first | with_reducible rfl | with_reducible assumption | rfl) (by omega) dX6_sail_130 ?_
            rw [jj_u_ne (by decide), jj_u_ne (by decide), ml_hLeg hm (by omega), et]
            refine jr_imul hX dX6_sail_131 ?_
            rw [show (2 : Int32) = nI 2 from rfl, pk_mul]
            refine jr_iconst (v := 1) hX dX6_sail_132 (by decide) ?_
            refine jr_isub hX dX6_sail_133 ?_
            have es : nI (2 * t) - 1 = nI (2 * t - 1) := jm_sub1 (by omega)
            rw [es]
            refine jr_void (jr_runV hX hSt kM_X6_124 (c_setBo (jj_fl hX) hly (b := b) (k := 6) hb10 (show _ = nI 6 from rfl) (by decide)) rfl rfl (ly_kMo hly) ⟨_, _, rfl, by decide⟩ dX6_sail_134 rfl ⟨jj_b1 rfl, jj_b1 rfl⟩ rfl) ?_
            refine jr_aload_n hX dX6_sail_137 rfl ?_
            refine jr_iload_n hX dX6_sail_138 rfl ?_
            refine jr_iconst (v := 4) hX dX6_sail_139 (by decide) ?_
            refine jr_iload_n hX dX6_sail_140 rfl ?_
            refine jr_if_eq (tgt := 151) hX dX6_sail_141 (by decide) (fun c_141 => ?_) (fun c_141 => absurd rfl c_141)
            refine jr_iload hX dX6_sail_151 rfl ?_
            refine jr_void (jr_runV hX hSt kM_X6_124 (c_setBo (jj_fl hX) hly (b := b) (k := 4) hb10 (show _ = nI 4 from rfl) (by decide)) rfl rfl (ly_kMo hly) ⟨_, _, rfl, by decide⟩ dX6_sail_153 rfl ⟨jj_b1 rfl, jj_b1 rfl⟩ rfl) ?_
            have e1 := (g1_so (jm_p01 hp (jl_01 c_18)) c_33).trans (so_up eh0 (by omega) (Int32.not_lt.mpr c_48) c_86 et t1)
            refine jr_iconst (v := 1) hX dX6_sail_156 (by decide) ?_
            refine jr_istore_n hX dX6_sail_157 rfl ?_
            refine jr_goto (tgt := 203) hX dX6_sail_158 (by decide) ?_
            exact jr_forget (K1 := K) (fun _ _ h => h) (L1 := [some (.ref 150), some (.int (nI b)), some (.int 1), none, none]) (fun i v h => by rcases i with _ | _ | _ | _ | _ | i <;> first | exact h | exact absurd h (by simp)) (c203 _ (2 * t - 1) (by rw [e1]; exact ml_so hm z hb) (fun a ha => (jj_u_ne ha).trans ((jj_u_ne ha).trans ((jj_u_ne ha).trans (jj_u_ne ha)))) (by omega) (by rw [e1, jj_u_nk (by decide), jj_u_nk (by decide), jj_u_nk (by decide), jj_u_eq]) (by rw [e1, jj_u_eq]))
        · have hlt : h0 < g := jm_dn (by rw [← eg, ← eh0]; exact c_48) (by omega) (by omega)
          obtain ⟨h, rfl⟩ : ∃ h, h = h0 := ⟨h0, rfl⟩
          refine jr_iconst (v := 1) hX dX6_sail_51 (by decide) ?_
          refine jr_goto (tgt := 56) hX dX6_sail_52 (by decide) ?_
          refine jr_istore_n hX dX6_sail_56 rfl ?_
          refine jr_iload_n hX dX6_sail_57 rfl ?_
          refine jr_if_eq (tgt := 70) hX dX6_sail_58 (by decide) (fun c_58 => absurd c_58 (by decide)) (fun c_58 => ?_)
          refine jr_aload_n hX dX6_sail_61 rfl ?_
          refine jr_iload_n hX dX6_sail_62 rfl ?_
          refine jr_iconst (v := 4) hX dX6_sail_63 (by decide) ?_
          refine jr_ret (jr_runV hX hSt kM_X6_74 (c_bo (jj_fl hX) hly (b := b) (k := 4) hb10 (show _ = nI 4 from rfl) (by decide)) rfl rfl (ly_kMo hly) ⟨_, _, rfl, by decide⟩ dX6_sail_64 rfl ⟨jj_b1 rfl, jj_b1 rfl⟩ rfl) ?_
          rw [q4, eh0]
          refine jr_goto (tgt := 78) hX dX6_sail_67 (by decide) ?_
          refine jr_istore hX dX6_sail_78 rfl ?_
          refine jr_aload_n hX dX6_sail_80 rfl ?_
          refine jr_iload hX dX6_sail_81 rfl ?_
          refine jr_ret (jr_runV hX hSt kM_X6_90 (c_isOpen (jj_fl hX) hly rfl (by omega)) rfl rfl (ly_kMo hly) ⟨_, _, rfl, by decide⟩ dX6_sail_83 rfl ⟨jj_b1 rfl, jj_b1 rfl⟩ rfl) ?_
          rw [jm_ol hm (by omega)]
          refine jr_if_eq (tgt := 158) hX dX6_sail_86 (by decide) (fun c_86 => ?_) (fun c_86 => ?_)
          · refine jr_goto (tgt := 203) hX dX6_sail_158 (by decide) ?_
            refine jr_iload_n hX dX6_sail_203 rfl ?_
            refine jr_if_eq (tgt := 224) hX dX6_sail_204 (by decide) (fun _ => ?_) (fun c => absurd rfl c)
            exact jr_forget (K1 := K) (fun _ _ h => h) (L1 := [some (.ref 150), some (.int (nI b)), none, none, none]) (fun i v h => by rcases i with _ | _ | _ | _ | _ | i <;> first | exact h | exact absurd h (by simp)) (c224 I (by unfold f_go; rw [g1_so (jm_p01 hp (jl_01 c_18)) c_33, so_cl (h := h) (by rw [if_pos (Int32.not_le.mp c_48), eh0, nv_nI (by omega)]) c_86, g2_0 (jm_n2 (jm_p01 hp (jl_01 c_18)))]; exact hm) (fun _ _ => rfl))
          · obtain ⟨t, t1, t2, et⟩ := hL h (by omega)
            refine jr_aload_n hX dX6_sail_89 rfl ?_
            refine jr_iload_n hX dX6_sail_90 rfl ?_
            refine jr_iconst (v := 3) hX dX6_sail_91 (by decide) ?_
            refine jr_iconst (v := 2) hX dX6_sail_92 (by decide) ?_
            refine jr_void (jr_runV hX hSt kM_X6_124 (c_setBo (jj_fl hX) hly (b := b) (k := 3) hb10 (show _ = nI 3 from rfl) (by decide)) rfl rfl (ly_kMo hly) ⟨_, _, rfl, by decide⟩ dX6_sail_93 rfl ⟨jj_b1 rfl, jj_b1 rfl⟩ rfl) ?_
            refine jr_aload_n hX dX6_sail_96 rfl ?_
            refine jr_iload_n hX dX6_sail_97 rfl ?_
            refine jr_bipush (v := 7) hX dX6_sail_98 (by decide) ?_
            refine jr_iload hX dX6_sail_100 rfl ?_
            refine jr_void (jr_runV hX hSt kM_X6_124 (c_setBo (jj_fl hX) hly (b := b) (k := 7) hb10 (show _ = nI 7 from rfl) (by decide)) rfl rfl (ly_kMo hly) ⟨_, _, rfl, by decide⟩ dX6_sail_102 rfl ⟨jj_b1 rfl, jj_b1 rfl⟩ rfl) ?_
            refine jr_aload_n hX dX6_sail_105 rfl ?_
            refine jr_iload_n hX dX6_sail_106 rfl ?_
            refine jr_bipush (v := 6) hX dX6_sail_107 (by decide) ?_
            refine jr_iload_n hX dX6_sail_109 rfl ?_
            refine jr_if_eq (tgt := 123) hX dX6_sail_110 (by decide) (fun c_110 => absurd c_110 (by decide)) (fun c_110 => ?_)
            refine jr_aload_n hX dX6_sail_113 rfl ?_
            refine jr_getr hX kF_X6_13 rfl (ly_kMo hly) (ly_p6_3 hly) dX6_sail_114 ?_
            refine jr_iload hX dX6_sail_117 rfl ?_
            refine jr_iald hX (by first | with_reducible assumption | with_reducible exact ly_kWm hly (by first | assumption | omega) | with_reducible exact ly_kLd hly (by first | assumption | omega) | with_reducible exact ly_kIc hly (by first | assumption | omega) | with_reducible exact ly_kBe hly (by first | assumption | omega) | with_reducible exact ly_kPr hly (by first | assumption | omega) | with_reducible exact ly_kMt hly (by first | assumption | omega) (by first | assumption | omega) | with_reducible exact ly_kBc hly (by first | assumption | omega) (by first | assumption | omega) | with_reducible exact ly_k151 hly | with_reducible exact ly_k152 hly | with_reducible exact ly_k153 hly | with_reducible exact ly_k154 hly | with_reducible exact ly_k155 hly | with_reducible exact ly_k156 hly | with_reducible exact ly_k157 hly | with_reducible exact ly_k158 hly | with_reducible exact ly_k159 hly | with_reducible exact ly_k160 hly | with_reducible exact ly_kAh hly (by first | assumption | omega)) (by first | with_reducible rfl | with_reducible assumption | rfl) (by omega) dX6_sail_119 ?_
            rw [jj_u_ne (by decide), jj_u_ne (by decide), ml_hLeg hm (by omega), et]
            refine jr_goto (tgt := 132) hX dX6_sail_120 (by decide) ?_
            refine jr_iconst (v := 1) hX dX6_sail_132 (by decide) ?_
            refine jr_isub hX dX6_sail_133 ?_
            have es : nI t - 1 = nI (t - 1) := jm_sub1 t1
            rw [es]
            refine jr_void (jr_runV hX hSt kM_X6_124 (c_setBo (jj_fl hX) hly (b := b) (k := 6) hb10 (show _ = nI 6 from rfl) (by decide)) rfl rfl (ly_kMo hly) ⟨_, _, rfl, by decide⟩ dX6_sail_134 rfl ⟨jj_b1 rfl, jj_b1 rfl⟩ rfl) ?_
            refine jr_aload_n hX dX6_sail_137 rfl ?_
            refine jr_iload_n hX dX6_sail_138 rfl ?_
            refine jr_iconst (v := 4) hX dX6_sail_139 (by decide) ?_
            refine jr_iload_n hX dX6_sail_140 rfl ?_
            refine jr_if_eq (tgt := 151) hX dX6_sail_141 (by decide) (fun c_141 => absurd c_141 (by decide)) (fun c_141 => ?_)
            refine jr_iload hX dX6_sail_144 rfl ?_
            refine jr_iconst (v := 1) hX dX6_sail_146 (by decide) ?_
            refine jr_iadd hX dX6_sail_147 ?_
            rw [nI_1]
            refine jr_goto (tgt := 153) hX dX6_sail_148 (by decide) ?_
            refine jr_void (jr_runV hX hSt kM_X6_124 (c_setBo (jj_fl hX) hly (b := b) (k := 4) hb10 (show _ = nI 4 from rfl) (by decide)) rfl rfl (ly_kMo hly) ⟨_, _, rfl, by decide⟩ dX6_sail_153 rfl ⟨jj_b1 rfl, jj_b1 rfl⟩ rfl) ?_
            have e1 := (g1_so (jm_p01 hp (jl_01 c_18)) c_33).trans (so_dn eh0 (by omega) (Int32.not_le.mp c_48) c_86 et t1)
            refine jr_iconst (v := 1) hX dX6_sail_156 (by decide) ?_
            refine jr_istore_n hX dX6_sail_157 rfl ?_
            refine jr_goto (tgt := 203) hX dX6_sail_158 (by decide) ?_
            exact jr_forget (K1 := K) (fun _ _ h => h) (L1 := [some (.ref 150), some (.int (nI b)), some (.int 1), none, none]) (fun i v h => by rcases i with _ | _ | _ | _ | _ | i <;> first | exact h | exact absurd h (by simp)) (c203 _ (t - 1) (by rw [e1]; exact ml_so hm z hb) (fun a ha => (jj_u_ne ha).trans ((jj_u_ne ha).trans ((jj_u_ne ha).trans (jj_u_ne ha)))) (by omega) (by rw [e1, jj_u_nk (by decide), jj_u_nk (by decide), jj_u_nk (by decide), jj_u_eq]) (by rw [e1, jj_u_eq]))
  · exact jr_vret hX dX6_sail_10 rfl rfl ⟨⟨rfl, by rw [gb_3 c_7]; exact hm, fun _ _ => rfl⟩, rfl, rfl, rfl, rfl⟩
