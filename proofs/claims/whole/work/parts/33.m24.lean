/-! all in one number, the model -/
set_option maxHeartbeats 4000000 in
set_option maxRecDepth 100000 in
theorem m_digest {l : Launch} (hfl : l.stackTraces = false) {D : jj_D} {n : Nat} {K : jj_K} {I : jj_I} {P : jj_P} {G : jj_G} (hly : ly K P) {H M B N : Nat} {C : jj_I} (hs : sf 0 H M B N C) (hk : sk 0 H M B N C) (hm : ml 0 H M B N C I) (hz : mz M C I) :
    jj_Met l D yX6_digest (jj_ws yX6_digest cX6_digest 7 (some .long)) { frames := 4, cells := 0, slots := 0, locals := 89 } [.ref 150] n K I P G (jj_R (some (.long (f_dg H M B N C))) (n) (K) ((jj_u I 150 0 0)) (P) (G)) jj_noX := by
  refine jj_of hfl (by decide +kernel) [some (.ref 150), none, none, none, none, none, none] rfl rfl ?_
  intro X hXl hX hSt
  have z := sf_Z hs
  have hm0 : ml 0 H M B N C (jj_u I 150 0 0) := ml_th hm z
  have hz0 : mz M C (jj_u I 150 0 0) := mz_th hz
  have hH0 := hm0.1.1
  have hM0 := hm0.1.2.1
  have hB0 := hm0.1.2.2.1
  have hN0 := hm0.1.2.2.2
  have hH2 := hs.1.2
  have hM2 := z.1
  have hB2 := z.2.1
  have hN2 := z.2.2
  have c7 : ∀ x : Int64, f_mD C x N = f_dg H M B N C → jj_J X D 7 0 0 (jj_MQ X D { frames := 4, cells := 0, slots := 0, locals := 89 } (jj_R (some (.long (f_dg H M B N C))) (n) (K) ((jj_u I 150 0 0)) (P) (G)) jj_noX) (n) (K) ((jj_u I 150 0 0)) (P) (G) 320 [some (.ref 150), some (.long (x)), none, none, none, none, none] [] := by
    intro x hx
    refine jr_iconst (v := 0) hX dX6_digest_320 (by decide) ?_
    refine jr_istore_n hX dX6_digest_321 rfl ?_
    have h7 : ∀ k7, k7 ≤ N → jj_J X D 7 0 0 (jj_MQ X D { frames := 4, cells := 0, slots := 0, locals := 89 } (jj_R (some (.long (f_dg H M B N C))) (n) (K) ((jj_u I 150 0 0)) (P) (G)) jj_noX) (n) (K) ((jj_u I 150 0 0)) (P) (G) 322 [some (.ref 150), some (.long (f_mD C x k7)), none, some (.int (nI k7)), none, none, none] [] := by
      refine jj_for (N) _ ?_ (fun k7 hk7 ih => ?_)
      · refine jr_iload_n hX dX6_digest_322 rfl ?_
        refine jr_aload_n hX dX6_digest_323 rfl ?_
        refine jr_geti hX kF_X6_106 rfl (ly_kMo hly) dX6_digest_324 ?_
        refine jr_icmp_ge (tgt := 367) hX dX6_digest_327 (by decide) (fun c_327 => ?_) (fun c_327 => absurd (by rw [hN0]; exact nI_le (Nat.le_refl _) (by omega)) c_327)
        refine jr_lload_n hX dX6_digest_367 rfl ?_
        exact jr_lret hX dX6_digest_368 rfl rfl ⟨by rw [hx], rfl, rfl, rfl, rfl, rfl⟩
      · refine jr_iload_n hX dX6_digest_322 rfl ?_
        refine jr_aload_n hX dX6_digest_323 rfl ?_
        refine jr_geti hX kF_X6_106 rfl (ly_kMo hly) dX6_digest_324 ?_
        refine jr_icmp_ge (tgt := 367) hX dX6_digest_327 (by decide) (fun c_327 => absurd c_327 (by rw [hN0]; exact nI_ge (by assumption) (by omega))) (fun c_327 => ?_)
        refine jr_iconst (v := 0) hX dX6_digest_330 (by decide) ?_
        refine jr_istore hX dX6_digest_331 rfl ?_
        have h7b : ∀ j7, j7 ≤ 7 → jj_J X D 7 0 0 (jj_MQ X D { frames := 4, cells := 0, slots := 0, locals := 89 } (jj_R (some (.long (f_dg H M B N C))) (n) (K) ((jj_u I 150 0 0)) (P) (G)) jj_noX) (n) (K) ((jj_u I 150 0 0)) (P) (G) 333 [some (.ref 150), some (.long (lx (f_mD C x k7) (C (aD 0 k7)) j7)), none, some (.int (nI k7)), some (.int (nI j7)), none, none] [] := by
          refine jj_for (7) _ ?_ (fun j7 hj7 ih => ?_)
          · refine jr_iload hX dX6_digest_333 rfl ?_
            refine jr_bipush (v := 7) hX dX6_digest_335 (by decide) ?_
            refine jr_icmp_ge (tgt := 361) hX dX6_digest_337 (by decide) (fun c_337 => ?_) (fun c_337 => absurd (by decide) c_337)
            refine jr_iinc hX dX6_digest_361 rfl (by first | with_reducible exact jj_inc _ | with_reducible exact jj_inc1 _) rfl ?_
            refine jr_goto (tgt := 322) hX dX6_digest_364 (by decide) ?_
            exact jr_forget (fun _ _ h => h) (fun i v h => by rcases i with _ | _ | _ | _ | _ | _ | _ | i <;> first | exact h | exact absurd h (by simp)) (ih)
          · refine jr_iload hX dX6_digest_333 rfl ?_
            refine jr_bipush (v := 7) hX dX6_digest_335 (by decide) ?_
            refine jr_icmp_ge (tgt := 361) hX dX6_digest_337 (by decide) (fun c_337 => absurd c_337 (show ¬ nI 7 ≤ nI j7 from nI_ge (by assumption) (by omega))) (fun c_337 => ?_)
            refine jr_lload_n hX dX6_digest_340 rfl ?_
            refine jr_ldc2 hX kJ_X6_182 dX6_digest_341 ?_
            refine jr_lmul hX dX6_digest_344 ?_
            refine jr_aload_n hX dX6_digest_345 rfl ?_
            refine jr_iload_n hX dX6_digest_346 rfl ?_
            refine jr_iload hX dX6_digest_347 rfl ?_
            refine jr_ret (jr_runV hX hSt kM_X6_109 (c_de (jj_fl hX) hly (by omega) rfl hj7) rfl rfl (ly_kMo hly) ⟨_, _, rfl, by decide⟩ dX6_digest_349 rfl ⟨jj_b1 rfl, jj_b1 rfl⟩ rfl) ?_
            rw [ml_hDebt hm0 hk7 hj7]
            refine jr_i2l hX dX6_digest_352 ?_
            refine jr_ladd hX dX6_digest_353 ?_
            refine jr_lstore_n hX dX6_digest_354 rfl ?_
            refine jr_iinc hX dX6_digest_355 rfl (by first | with_reducible exact jj_inc _ | with_reducible exact jj_inc1 _) rfl ?_
            refine jr_goto (tgt := 333) hX dX6_digest_358 (by decide) ?_
            exact ih
        exact jr_forget (fun _ _ h => h) (fun i v h => by rcases i with _ | _ | _ | _ | _ | _ | _ | i <;> first | exact h | exact absurd h (by simp)) (h7b 0 (Nat.zero_le _))
    exact jr_forget (fun _ _ h => h) (fun i v h => by rcases i with _ | _ | _ | _ | _ | _ | _ | i <;> first | exact h | exact absurd h (by simp)) (h7 0 (Nat.zero_le _))
  have c6 : ∀ x : Int64, f_mD C (f_mB C x B) N = f_dg H M B N C → jj_J X D 7 0 0 (jj_MQ X D { frames := 4, cells := 0, slots := 0, locals := 89 } (jj_R (some (.long (f_dg H M B N C))) (n) (K) ((jj_u I 150 0 0)) (P) (G)) jj_noX) (n) (K) ((jj_u I 150 0 0)) (P) (G) 273 [some (.ref 150), some (.long (x)), none, none, none, none, none] [] := by
    intro x hx
    refine jr_iconst (v := 0) hX dX6_digest_273 (by decide) ?_
    refine jr_istore_n hX dX6_digest_274 rfl ?_
    have h6 : ∀ k6, k6 ≤ B → jj_J X D 7 0 0 (jj_MQ X D { frames := 4, cells := 0, slots := 0, locals := 89 } (jj_R (some (.long (f_dg H M B N C))) (n) (K) ((jj_u I 150 0 0)) (P) (G)) jj_noX) (n) (K) ((jj_u I 150 0 0)) (P) (G) 275 [some (.ref 150), some (.long (f_mB C x k6)), none, some (.int (nI k6)), none, none, none] [] := by
      refine jj_for (B) _ ?_ (fun k6 hk6 ih => ?_)
      · refine jr_iload_n hX dX6_digest_275 rfl ?_
        refine jr_aload_n hX dX6_digest_276 rfl ?_
        refine jr_geti hX kF_X6_54 rfl (ly_kMo hly) dX6_digest_277 ?_
        refine jr_icmp_ge (tgt := 320) hX dX6_digest_280 (by decide) (fun c_280 => ?_) (fun c_280 => absurd (by rw [hB0]; exact nI_le (Nat.le_refl _) (by omega)) c_280)
        exact jr_forget (fun _ _ h => h) (fun i v h => by rcases i with _ | _ | _ | _ | _ | _ | _ | i <;> first | exact h | exact absurd h (by simp)) (c7 _ hx)
      · refine jr_iload_n hX dX6_digest_275 rfl ?_
        refine jr_aload_n hX dX6_digest_276 rfl ?_
        refine jr_geti hX kF_X6_54 rfl (ly_kMo hly) dX6_digest_277 ?_
        refine jr_icmp_ge (tgt := 320) hX dX6_digest_280 (by decide) (fun c_280 => absurd c_280 (by rw [hB0]; exact nI_ge (by assumption) (by omega))) (fun c_280 => ?_)
        refine jr_iconst (v := 0) hX dX6_digest_283 (by decide) ?_
        refine jr_istore hX dX6_digest_284 rfl ?_
        have h6b : ∀ j6, j6 ≤ 12 → jj_J X D 7 0 0 (jj_MQ X D { frames := 4, cells := 0, slots := 0, locals := 89 } (jj_R (some (.long (f_dg H M B N C))) (n) (K) ((jj_u I 150 0 0)) (P) (G)) jj_noX) (n) (K) ((jj_u I 150 0 0)) (P) (G) 286 [some (.ref 150), some (.long (lx (f_mB C x k6) (q_bf k6 C) j6)), none, some (.int (nI k6)), some (.int (nI j6)), none, none] [] := by
          refine jj_for (12) _ ?_ (fun j6 hj6 ih => ?_)
          · refine jr_iload hX dX6_digest_286 rfl ?_
            refine jr_bipush (v := 12) hX dX6_digest_288 (by decide) ?_
            refine jr_icmp_ge (tgt := 314) hX dX6_digest_290 (by decide) (fun c_290 => ?_) (fun c_290 => absurd (by decide) c_290)
            refine jr_iinc hX dX6_digest_314 rfl (by first | with_reducible exact jj_inc _ | with_reducible exact jj_inc1 _) rfl ?_
            refine jr_goto (tgt := 275) hX dX6_digest_317 (by decide) ?_
            exact jr_forget (fun _ _ h => h) (fun i v h => by rcases i with _ | _ | _ | _ | _ | _ | _ | i <;> first | exact h | exact absurd h (by simp)) (ih)
          · refine jr_iload hX dX6_digest_286 rfl ?_
            refine jr_bipush (v := 12) hX dX6_digest_288 (by decide) ?_
            refine jr_icmp_ge (tgt := 314) hX dX6_digest_290 (by decide) (fun c_290 => absurd c_290 (show ¬ nI 12 ≤ nI j6 from nI_ge (by assumption) (by omega))) (fun c_290 => ?_)
            refine jr_lload_n hX dX6_digest_293 rfl ?_
            refine jr_ldc2 hX kJ_X6_182 dX6_digest_294 ?_
            refine jr_lmul hX dX6_digest_297 ?_
            refine jr_aload_n hX dX6_digest_298 rfl ?_
            refine jr_iload_n hX dX6_digest_299 rfl ?_
            refine jr_iload hX dX6_digest_300 rfl ?_
            refine jr_ret (jr_runV hX hSt kM_X6_134 (c_mB (jj_fl hX) hly (by omega) hj6) rfl rfl (ly_kMo hly) ⟨_, _, rfl, by decide⟩ dX6_digest_302 rfl ⟨jj_b1 rfl, jj_b1 rfl⟩ rfl) ?_
            rw [bf_eq hm0 hk6 hj6]
            refine jr_i2l hX dX6_digest_305 ?_
            refine jr_ladd hX dX6_digest_306 ?_
            refine jr_lstore_n hX dX6_digest_307 rfl ?_
            refine jr_iinc hX dX6_digest_308 rfl (by first | with_reducible exact jj_inc _ | with_reducible exact jj_inc1 _) rfl ?_
            refine jr_goto (tgt := 286) hX dX6_digest_311 (by decide) ?_
            exact ih
        exact jr_forget (fun _ _ h => h) (fun i v h => by rcases i with _ | _ | _ | _ | _ | _ | _ | i <;> first | exact h | exact absurd h (by simp)) (h6b 0 (Nat.zero_le _))
    exact jr_forget (fun _ _ h => h) (fun i v h => by rcases i with _ | _ | _ | _ | _ | _ | _ | i <;> first | exact h | exact absurd h (by simp)) (h6 0 (Nat.zero_le _))
  have c5 : ∀ x : Int64, f_mD C (f_mB C (f_mM H B N C x M) B) N = f_dg H M B N C → jj_J X D 7 0 0 (jj_MQ X D { frames := 4, cells := 0, slots := 0, locals := 89 } (jj_R (some (.long (f_dg H M B N C))) (n) (K) ((jj_u I 150 0 0)) (P) (G)) jj_noX) (n) (K) ((jj_u I 150 0 0)) (P) (G) 172 [some (.ref 150), some (.long (x)), none, none, none, none, none] [] := by
    intro x hx
    refine jr_iconst (v := 0) hX dX6_digest_172 (by decide) ?_
    refine jr_istore_n hX dX6_digest_173 rfl ?_
    have h5 : ∀ k5, k5 ≤ M → jj_J X D 7 0 0 (jj_MQ X D { frames := 4, cells := 0, slots := 0, locals := 89 } (jj_R (some (.long (f_dg H M B N C))) (n) (K) ((jj_u I 150 0 0)) (P) (G)) jj_noX) (n) (K) ((jj_u I 150 0 0)) (P) (G) 174 [some (.ref 150), some (.long (f_mM H B N C x k5)), none, some (.int (nI k5)), none, none, none] [] := by
      refine jj_for (M) _ ?_ (fun k5 hk5 ih => ?_)
      · refine jr_iload_n hX dX6_digest_174 rfl ?_
        refine jr_aload_n hX dX6_digest_175 rfl ?_
        refine jr_geti hX kF_X6_51 rfl (ly_kMo hly) dX6_digest_176 ?_
        refine jr_icmp_ge (tgt := 273) hX dX6_digest_179 (by decide) (fun c_179 => ?_) (fun c_179 => absurd (by rw [hM0]; exact nI_le (Nat.le_refl _) (by omega)) c_179)
        exact jr_forget (fun _ _ h => h) (fun i v h => by rcases i with _ | _ | _ | _ | _ | _ | _ | i <;> first | exact h | exact absurd h (by simp)) (c6 _ hx)
      · refine jr_iload_n hX dX6_digest_174 rfl ?_
        refine jr_aload_n hX dX6_digest_175 rfl ?_
        refine jr_geti hX kF_X6_51 rfl (ly_kMo hly) dX6_digest_176 ?_
        refine jr_icmp_ge (tgt := 273) hX dX6_digest_179 (by decide) (fun c_179 => absurd c_179 (by rw [hM0]; exact nI_ge (by assumption) (by omega))) (fun c_179 => ?_)
        refine jr_iconst (v := 0) hX dX6_digest_182 (by decide) ?_
        refine jr_istore hX dX6_digest_183 rfl ?_
        have h5b : ∀ j5, j5 ≤ 6 → jj_J X D 7 0 0 (jj_MQ X D { frames := 4, cells := 0, slots := 0, locals := 89 } (jj_R (some (.long (f_dg H M B N C))) (n) (K) ((jj_u I 150 0 0)) (P) (G)) jj_noX) (n) (K) ((jj_u I 150 0 0)) (P) (G) 185 [some (.ref 150), some (.long (lx (f_mM H B N C x k5) (q_mf k5 B N C) j5)), none, some (.int (nI k5)), some (.int (nI j5)), none, none] [] := by
          refine jj_for (6) _ ?_ (fun j5 hj5 ih => ?_)
          · refine jr_iload hX dX6_digest_185 rfl ?_
            refine jr_bipush (v := 6) hX dX6_digest_187 (by decide) ?_
            refine jr_icmp_ge (tgt := 213) hX dX6_digest_189 (by decide) (fun c_189 => ?_) (fun c_189 => absurd (by decide) c_189)
            generalize hg5 : lx (f_mM H B N C x k5) (q_mf k5 B N C) 6 = x5
            refine jr_iconst (v := 0) hX dX6_digest_213 (by decide) ?_
            refine jr_istore hX dX6_digest_214 rfl ?_
            have h5c : ∀ i5, i5 ≤ H → jj_J X D 7 0 0 (jj_MQ X D { frames := 4, cells := 0, slots := 0, locals := 89 } (jj_R (some (.long (f_dg H M B N C))) (n) (K) ((jj_u I 150 0 0)) (P) (G)) jj_noX) (n) (K) ((jj_u I 150 0 0)) (P) (G) 216 [some (.ref 150), some (.long (lx x5 (C (aMt 0 k5)) (4 * i5))), none, some (.int (nI k5)), some (.int (nI i5)), none, none] [] := by
              refine jj_for (H) _ ?_ (fun i5 hi5 ih => ?_)
              · refine jr_iload hX dX6_digest_216 rfl ?_
                refine jr_aload_n hX dX6_digest_218 rfl ?_
                refine jr_geti hX kF_X6_44 rfl (ly_kMo hly) dX6_digest_219 ?_
                refine jr_icmp_ge (tgt := 267) hX dX6_digest_222 (by decide) (fun c_222 => ?_) (fun c_222 => absurd (by rw [hH0]; exact nI_le (Nat.le_refl _) (by omega)) c_222)
                rw [← hg5, Nat.mul_comm 4 H]
                refine jr_iinc hX dX6_digest_267 rfl (by first | with_reducible exact jj_inc _ | with_reducible exact jj_inc1 _) rfl ?_
                refine jr_goto (tgt := 174) hX dX6_digest_270 (by decide) ?_
                exact jr_forget (fun _ _ h => h) (fun i v h => by rcases i with _ | _ | _ | _ | _ | _ | _ | i <;> first | exact h | exact absurd h (by simp)) (ih)
              · refine jr_iload hX dX6_digest_216 rfl ?_
                refine jr_aload_n hX dX6_digest_218 rfl ?_
                refine jr_geti hX kF_X6_44 rfl (ly_kMo hly) dX6_digest_219 ?_
                refine jr_icmp_ge (tgt := 267) hX dX6_digest_222 (by decide) (fun c_222 => absurd c_222 (by rw [hH0]; exact nI_ge (by assumption) (by omega))) (fun c_222 => ?_)
                refine jr_iconst (v := 0) hX dX6_digest_225 (by decide) ?_
                refine jr_istore hX dX6_digest_226 rfl ?_
                have h5d : ∀ g5, g5 ≤ 4 → jj_J X D 7 0 0 (jj_MQ X D { frames := 4, cells := 0, slots := 0, locals := 89 } (jj_R (some (.long (f_dg H M B N C))) (n) (K) ((jj_u I 150 0 0)) (P) (G)) jj_noX) (n) (K) ((jj_u I 150 0 0)) (P) (G) 228 [some (.ref 150), some (.long (lx x5 (C (aMt 0 k5)) (4 * i5 + g5))), none, some (.int (nI k5)), some (.int (nI i5)), some (.int (nI g5)), none] [] := by
                  refine jj_for (4) _ ?_ (fun g5 hg5 ih => ?_)
                  · refine jr_iload hX dX6_digest_228 rfl ?_
                    refine jr_iconst (v := 4) hX dX6_digest_230 (by decide) ?_
                    refine jr_icmp_ge (tgt := 261) hX dX6_digest_231 (by decide) (fun c_231 => ?_) (fun c_231 => absurd (by decide) c_231)
                    refine jr_iinc hX dX6_digest_261 rfl (by first | with_reducible exact jj_inc _ | with_reducible exact jj_inc1 _) rfl ?_
                    refine jr_goto (tgt := 216) hX dX6_digest_264 (by decide) ?_
                    exact jr_forget (fun _ _ h => h) (fun i v h => by rcases i with _ | _ | _ | _ | _ | _ | _ | i <;> first | exact h | exact absurd h (by simp)) (ih)
                  · refine jr_iload hX dX6_digest_228 rfl ?_
                    refine jr_iconst (v := 4) hX dX6_digest_230 (by decide) ?_
                    refine jr_icmp_ge (tgt := 261) hX dX6_digest_231 (by decide) (fun c_231 => absurd c_231 (show ¬ nI 4 ≤ nI g5 from nI_ge (by assumption) (by omega))) (fun c_231 => ?_)
                    refine jr_lload_n hX dX6_digest_234 rfl ?_
                    refine jr_ldc2 hX kJ_X6_182 dX6_digest_235 ?_
                    refine jr_lmul hX dX6_digest_238 ?_
                    refine jr_aload_n hX dX6_digest_239 rfl ?_
                    refine jr_getr hX kF_X6_28 rfl (ly_kMo hly) (ly_p6_11 hly) dX6_digest_240 ?_
                    refine jr_iload_n hX dX6_digest_243 rfl ?_
                    refine jr_iload hX dX6_digest_244 rfl ?_
                    refine jr_iload hX dX6_digest_246 rfl ?_
                    refine jr_ret (jr_runS hX hSt kM_X6_99 (c_at (jj_fl hX) (m := k5) (h := i5) (g := g5) rfl rfl rfl) rfl rfl dX6_digest_248 rfl ⟨jj_b1 rfl, jj_b1 rfl⟩ rfl) ?_
                    refine jr_iald hX (by first | with_reducible assumption | with_reducible exact ly_kWm hly (by first | assumption | omega) | with_reducible exact ly_kLd hly (by first | assumption | omega) | with_reducible exact ly_kIc hly (by first | assumption | omega) | with_reducible exact ly_kBe hly (by first | assumption | omega) | with_reducible exact ly_kPr hly (by first | assumption | omega) | with_reducible exact ly_kMt hly (by first | assumption | omega) (by first | assumption | omega) | with_reducible exact ly_kBc hly (by first | assumption | omega) (by first | assumption | omega) | with_reducible exact ly_k151 hly | with_reducible exact ly_k152 hly | with_reducible exact ly_k153 hly | with_reducible exact ly_k154 hly | with_reducible exact ly_k155 hly | with_reducible exact ly_k156 hly | with_reducible exact ly_k157 hly | with_reducible exact ly_k158 hly | with_reducible exact ly_k159 hly | with_reducible exact ly_k160 hly | with_reducible exact ly_kAh hly (by first | assumption | omega)) (by first | with_reducible rfl | with_reducible assumption | rfl) (by omega) dX6_digest_251 ?_
                    rw [ml_hStock hm0 hk5 (show 4 * i5 + g5 < 32 by omega)]
                    refine jr_i2l hX dX6_digest_252 ?_
                    refine jr_ladd hX dX6_digest_253 ?_
                    refine jr_lstore_n hX dX6_digest_254 rfl ?_
                    refine jr_iinc hX dX6_digest_255 rfl (by first | with_reducible exact jj_inc _ | with_reducible exact jj_inc1 _) rfl ?_
                    refine jr_goto (tgt := 228) hX dX6_digest_258 (by decide) ?_
                    exact ih
                exact jr_forget (fun _ _ h => h) (fun i v h => by rcases i with _ | _ | _ | _ | _ | _ | _ | i <;> first | exact h | exact absurd h (by simp)) (h5d 0 (Nat.zero_le _))
            exact jr_forget (fun _ _ h => h) (fun i v h => by rcases i with _ | _ | _ | _ | _ | _ | _ | i <;> first | exact h | exact absurd h (by simp)) (h5c 0 (Nat.zero_le _))
          · refine jr_iload hX dX6_digest_185 rfl ?_
            refine jr_bipush (v := 6) hX dX6_digest_187 (by decide) ?_
            refine jr_icmp_ge (tgt := 213) hX dX6_digest_189 (by decide) (fun c_189 => absurd c_189 (show ¬ nI 6 ≤ nI j5 from nI_ge (by assumption) (by omega))) (fun c_189 => ?_)
            refine jr_lload_n hX dX6_digest_192 rfl ?_
            refine jr_ldc2 hX kJ_X6_182 dX6_digest_193 ?_
            refine jr_lmul hX dX6_digest_196 ?_
            refine jr_aload_n hX dX6_digest_197 rfl ?_
            refine jr_iload_n hX dX6_digest_198 rfl ?_
            refine jr_iload hX dX6_digest_199 rfl ?_
            refine jr_ret (jr_runV hX hSt kM_X6_112 (c_mM (jj_fl hX) hly hB0 hB2 hN0 hN2 (by omega) hj5) rfl rfl (ly_kMo hly) ⟨_, _, rfl, by decide⟩ dX6_digest_201 rfl ⟨jj_b1 rfl, jj_b1 rfl⟩ rfl) ?_
            rw [mf_eq hm0 hk5]
            refine jr_i2l hX dX6_digest_204 ?_
            refine jr_ladd hX dX6_digest_205 ?_
            refine jr_lstore_n hX dX6_digest_206 rfl ?_
            refine jr_iinc hX dX6_digest_207 rfl (by first | with_reducible exact jj_inc _ | with_reducible exact jj_inc1 _) rfl ?_
            refine jr_goto (tgt := 185) hX dX6_digest_210 (by decide) ?_
            exact ih
        exact jr_forget (fun _ _ h => h) (fun i v h => by rcases i with _ | _ | _ | _ | _ | _ | _ | i <;> first | exact h | exact absurd h (by simp)) (h5b 0 (Nat.zero_le _))
    exact jr_forget (fun _ _ h => h) (fun i v h => by rcases i with _ | _ | _ | _ | _ | _ | _ | i <;> first | exact h | exact absurd h (by simp)) (h5 0 (Nat.zero_le _))
  have c4 : ∀ x : Int64, f_mD C (f_mB C (f_mM H B N C (f_mL B C x (H - 1)) M) B) N = f_dg H M B N C → jj_J X D 7 0 0 (jj_MQ X D { frames := 4, cells := 0, slots := 0, locals := 89 } (jj_R (some (.long (f_dg H M B N C))) (n) (K) ((jj_u I 150 0 0)) (P) (G)) jj_noX) (n) (K) ((jj_u I 150 0 0)) (P) (G) 124 [some (.ref 150), some (.long (x)), none, none, none, none, none] [] := by
    intro x hx
    refine jr_iconst (v := 0) hX dX6_digest_124 (by decide) ?_
    refine jr_istore_n hX dX6_digest_125 rfl ?_
    have h4 : ∀ k4, k4 ≤ H - 1 → jj_J X D 7 0 0 (jj_MQ X D { frames := 4, cells := 0, slots := 0, locals := 89 } (jj_R (some (.long (f_dg H M B N C))) (n) (K) ((jj_u I 150 0 0)) (P) (G)) jj_noX) (n) (K) ((jj_u I 150 0 0)) (P) (G) 126 [some (.ref 150), some (.long (f_mL B C x k4)), none, some (.int (nI k4)), none, none, none] [] := by
      refine jj_for (H - 1) _ ?_ (fun k4 hk4 ih => ?_)
      · refine jr_iload_n hX dX6_digest_126 rfl ?_
        refine jr_aload_n hX dX6_digest_127 rfl ?_
        refine jr_geti hX kF_X6_44 rfl (ly_kMo hly) dX6_digest_128 ?_
        refine jr_iconst (v := 1) hX dX6_digest_131 (by decide) ?_
        refine jr_isub hX dX6_digest_132 ?_
        refine jr_icmp_ge (tgt := 172) hX dX6_digest_133 (by decide) (fun c_133 => ?_) (fun c_133 => absurd (by rw [hH0]; exact jm_e (by omega)) c_133)
        exact jr_forget (fun _ _ h => h) (fun i v h => by rcases i with _ | _ | _ | _ | _ | _ | _ | i <;> first | exact h | exact absurd h (by simp)) (c5 _ hx)
      · refine jr_iload_n hX dX6_digest_126 rfl ?_
        refine jr_aload_n hX dX6_digest_127 rfl ?_
        refine jr_geti hX kF_X6_44 rfl (ly_kMo hly) dX6_digest_128 ?_
        refine jr_iconst (v := 1) hX dX6_digest_131 (by decide) ?_
        refine jr_isub hX dX6_digest_132 ?_
        refine jr_icmp_ge (tgt := 172) hX dX6_digest_133 (by decide) (fun c_133 => absurd c_133 (by rw [hH0]; exact jm_s (by assumption) (by omega))) (fun c_133 => ?_)
        refine jr_iconst (v := 0) hX dX6_digest_136 (by decide) ?_
        refine jr_istore hX dX6_digest_137 rfl ?_
        have h4b : ∀ j4, j4 ≤ 4 → jj_J X D 7 0 0 (jj_MQ X D { frames := 4, cells := 0, slots := 0, locals := 89 } (jj_R (some (.long (f_dg H M B N C))) (n) (K) ((jj_u I 150 0 0)) (P) (G)) jj_noX) (n) (K) ((jj_u I 150 0 0)) (P) (G) 139 [some (.ref 150), some (.long (lx (f_mL B C x k4) (q_lf k4 B C) j4)), none, some (.int (nI k4)), some (.int (nI j4)), none, none] [] := by
          refine jj_for (4) _ ?_ (fun j4 hj4 ih => ?_)
          · refine jr_iload hX dX6_digest_139 rfl ?_
            refine jr_iconst (v := 4) hX dX6_digest_141 (by decide) ?_
            refine jr_icmp_ge (tgt := 166) hX dX6_digest_142 (by decide) (fun c_142 => ?_) (fun c_142 => absurd (by decide) c_142)
            refine jr_iinc hX dX6_digest_166 rfl (by first | with_reducible exact jj_inc _ | with_reducible exact jj_inc1 _) rfl ?_
            refine jr_goto (tgt := 126) hX dX6_digest_169 (by decide) ?_
            exact jr_forget (fun _ _ h => h) (fun i v h => by rcases i with _ | _ | _ | _ | _ | _ | _ | i <;> first | exact h | exact absurd h (by simp)) (ih)
          · refine jr_iload hX dX6_digest_139 rfl ?_
            refine jr_iconst (v := 4) hX dX6_digest_141 (by decide) ?_
            refine jr_icmp_ge (tgt := 166) hX dX6_digest_142 (by decide) (fun c_142 => absurd c_142 (show ¬ nI 4 ≤ nI j4 from nI_ge (by assumption) (by omega))) (fun c_142 => ?_)
            refine jr_lload_n hX dX6_digest_145 rfl ?_
            refine jr_ldc2 hX kJ_X6_182 dX6_digest_146 ?_
            refine jr_lmul hX dX6_digest_149 ?_
            refine jr_aload_n hX dX6_digest_150 rfl ?_
            refine jr_iload_n hX dX6_digest_151 rfl ?_
            refine jr_iload hX dX6_digest_152 rfl ?_
            refine jr_ret (jr_runV hX hSt kM_X6_93 (c_mL (jj_fl hX) hly hB0 hB2 (by omega) hj4) rfl rfl (ly_kMo hly) ⟨_, _, rfl, by decide⟩ dX6_digest_154 rfl ⟨jj_b1 rfl, jj_b1 rfl⟩ rfl) ?_
            rw [lf_eq hm0 (by omega)]
            refine jr_i2l hX dX6_digest_157 ?_
            refine jr_ladd hX dX6_digest_158 ?_
            refine jr_lstore_n hX dX6_digest_159 rfl ?_
            refine jr_iinc hX dX6_digest_160 rfl (by first | with_reducible exact jj_inc _ | with_reducible exact jj_inc1 _) rfl ?_
            refine jr_goto (tgt := 139) hX dX6_digest_163 (by decide) ?_
            exact ih
        exact jr_forget (fun _ _ h => h) (fun i v h => by rcases i with _ | _ | _ | _ | _ | _ | _ | i <;> first | exact h | exact absurd h (by simp)) (h4b 0 (Nat.zero_le _))
    exact jr_forget (fun _ _ h => h) (fun i v h => by rcases i with _ | _ | _ | _ | _ | _ | _ | i <;> first | exact h | exact absurd h (by simp)) (h4 0 (Nat.zero_le _))
  have c3 : ∀ x : Int64, f_mD C (f_mB C (f_mM H B N C (f_mL B C (f_mH H B C x H) (H - 1)) M) B) N = f_dg H M B N C → jj_J X D 7 0 0 (jj_MQ X D { frames := 4, cells := 0, slots := 0, locals := 89 } (jj_R (some (.long (f_dg H M B N C))) (n) (K) ((jj_u I 150 0 0)) (P) (G)) jj_noX) (n) (K) ((jj_u I 150 0 0)) (P) (G) 77 [some (.ref 150), some (.long (x)), none, none, none, none, none] [] := by
    intro x hx
    refine jr_iconst (v := 0) hX dX6_digest_77 (by decide) ?_
    refine jr_istore_n hX dX6_digest_78 rfl ?_
    have h3 : ∀ k3, k3 ≤ H → jj_J X D 7 0 0 (jj_MQ X D { frames := 4, cells := 0, slots := 0, locals := 89 } (jj_R (some (.long (f_dg H M B N C))) (n) (K) ((jj_u I 150 0 0)) (P) (G)) jj_noX) (n) (K) ((jj_u I 150 0 0)) (P) (G) 79 [some (.ref 150), some (.long (f_mH H B C x k3)), none, some (.int (nI k3)), none, none, none] [] := by
      refine jj_for (H) _ ?_ (fun k3 hk3 ih => ?_)
      · refine jr_iload_n hX dX6_digest_79 rfl ?_
        refine jr_aload_n hX dX6_digest_80 rfl ?_
        refine jr_geti hX kF_X6_44 rfl (ly_kMo hly) dX6_digest_81 ?_
        refine jr_icmp_ge (tgt := 124) hX dX6_digest_84 (by decide) (fun c_84 => ?_) (fun c_84 => absurd (by rw [hH0]; exact nI_le (Nat.le_refl _) (by omega)) c_84)
        exact jr_forget (fun _ _ h => h) (fun i v h => by rcases i with _ | _ | _ | _ | _ | _ | _ | i <;> first | exact h | exact absurd h (by simp)) (c4 _ hx)
      · refine jr_iload_n hX dX6_digest_79 rfl ?_
        refine jr_aload_n hX dX6_digest_80 rfl ?_
        refine jr_geti hX kF_X6_44 rfl (ly_kMo hly) dX6_digest_81 ?_
        refine jr_icmp_ge (tgt := 124) hX dX6_digest_84 (by decide) (fun c_84 => absurd c_84 (by rw [hH0]; exact nI_ge (by assumption) (by omega))) (fun c_84 => ?_)
        refine jr_iconst (v := 0) hX dX6_digest_87 (by decide) ?_
        refine jr_istore hX dX6_digest_88 rfl ?_
        have h3b : ∀ j3, j3 ≤ 8 → jj_J X D 7 0 0 (jj_MQ X D { frames := 4, cells := 0, slots := 0, locals := 89 } (jj_R (some (.long (f_dg H M B N C))) (n) (K) ((jj_u I 150 0 0)) (P) (G)) jj_noX) (n) (K) ((jj_u I 150 0 0)) (P) (G) 90 [some (.ref 150), some (.long (lx (f_mH H B C x k3) (q_hf k3 H B C) j3)), none, some (.int (nI k3)), some (.int (nI j3)), none, none] [] := by
          refine jj_for (8) _ ?_ (fun j3 hj3 ih => ?_)
          · refine jr_iload hX dX6_digest_90 rfl ?_
            refine jr_bipush (v := 8) hX dX6_digest_92 (by decide) ?_
            refine jr_icmp_ge (tgt := 118) hX dX6_digest_94 (by decide) (fun c_94 => ?_) (fun c_94 => absurd (by decide) c_94)
            refine jr_iinc hX dX6_digest_118 rfl (by first | with_reducible exact jj_inc _ | with_reducible exact jj_inc1 _) rfl ?_
            refine jr_goto (tgt := 79) hX dX6_digest_121 (by decide) ?_
            exact jr_forget (fun _ _ h => h) (fun i v h => by rcases i with _ | _ | _ | _ | _ | _ | _ | i <;> first | exact h | exact absurd h (by simp)) (ih)
          · refine jr_iload hX dX6_digest_90 rfl ?_
            refine jr_bipush (v := 8) hX dX6_digest_92 (by decide) ?_
            refine jr_icmp_ge (tgt := 118) hX dX6_digest_94 (by decide) (fun c_94 => absurd c_94 (show ¬ nI 8 ≤ nI j3 from nI_ge (by assumption) (by omega))) (fun c_94 => ?_)
            refine jr_lload_n hX dX6_digest_97 rfl ?_
            refine jr_ldc2 hX kJ_X6_182 dX6_digest_98 ?_
            refine jr_lmul hX dX6_digest_101 ?_
            refine jr_aload_n hX dX6_digest_102 rfl ?_
            refine jr_iload_n hX dX6_digest_103 rfl ?_
            refine jr_iload hX dX6_digest_104 rfl ?_
            refine jr_ret (jr_runV hX hSt kM_X6_87 (c_mH (jj_fl hX) hly hH0 hH2 hB0 hB2 hk3 hj3) rfl rfl (ly_kMo hly) ⟨_, _, rfl, by decide⟩ dX6_digest_106 rfl ⟨jj_b1 rfl, jj_b1 rfl⟩ rfl) ?_
            rw [hf_eq hs hm0 hk3 hj3]
            refine jr_i2l hX dX6_digest_109 ?_
            refine jr_ladd hX dX6_digest_110 ?_
            refine jr_lstore_n hX dX6_digest_111 rfl ?_
            refine jr_iinc hX dX6_digest_112 rfl (by first | with_reducible exact jj_inc _ | with_reducible exact jj_inc1 _) rfl ?_
            refine jr_goto (tgt := 90) hX dX6_digest_115 (by decide) ?_
            exact ih
        exact jr_forget (fun _ _ h => h) (fun i v h => by rcases i with _ | _ | _ | _ | _ | _ | _ | i <;> first | exact h | exact absurd h (by simp)) (h3b 0 (Nat.zero_le _))
    exact jr_forget (fun _ _ h => h) (fun i v h => by rcases i with _ | _ | _ | _ | _ | _ | _ | i <;> first | exact h | exact absurd h (by simp)) (h3 0 (Nat.zero_le _))
  refine jr_aload_n hX dX6_digest_0 rfl ?_
  refine jr_iconst (v := 0) hX dX6_digest_1 (by decide) ?_
  refine jr_puti hX kF_X6_40 rfl (ly_kMo hly) (by decide) dX6_digest_2 ?_
  refine jr_ldc2 hX kJ_X6_180 dX6_digest_5 ?_
  refine jr_lstore_n hX dX6_digest_8 rfl ?_
  refine jr_iconst (v := 0) hX dX6_digest_9 (by decide) ?_
  refine jr_istore_n hX dX6_digest_10 rfl ?_
  have h1 : ∀ k1, k1 ≤ 10 → jj_J X D 7 0 0 (jj_MQ X D { frames := 4, cells := 0, slots := 0, locals := 89 } (jj_R (some (.long (f_dg H M B N C))) (n) (K) ((jj_u I 150 0 0)) (P) (G)) jj_noX) (n) (K) ((jj_u I 150 0 0)) (P) (G) 11 [some (.ref 150), some (.long (lx 661 (q_cf H M B N C) k1)), none, some (.int (nI k1)), none, none, none] [] := by
    refine jj_for (10) _ ?_ (fun k1 hk1 ih => ?_)
    · refine jr_iload_n hX dX6_digest_11 rfl ?_
      refine jr_bipush (v := 10) hX dX6_digest_12 (by decide) ?_
      refine jr_icmp_ge (tgt := 36) hX dX6_digest_14 (by decide) (fun c_14 => ?_) (fun c_14 => absurd (by decide) c_14)
      generalize hg1 : lx 661 (q_cf H M B N C) 10 = x1
      refine jr_aload_n hX dX6_digest_36 rfl ?_
      refine jr_getr hX kF_X6_9 rfl (ly_kMo hly) (ly_p6_1 hly) dX6_digest_37 ?_
      refine jr_astore_n hX dX6_digest_40 rfl ?_
      refine jr_aload_n hX dX6_digest_41 rfl ?_
      refine jr_alen (t := 10) hX (by decide) (by first | with_reducible assumption | with_reducible exact ly_kWm hly (by first | assumption | omega) | with_reducible exact ly_kLd hly (by first | assumption | omega) | with_reducible exact ly_kIc hly (by first | assumption | omega) | with_reducible exact ly_kBe hly (by first | assumption | omega) | with_reducible exact ly_kPr hly (by first | assumption | omega) | with_reducible exact ly_kMt hly (by first | assumption | omega) (by first | assumption | omega) | with_reducible exact ly_kBc hly (by first | assumption | omega) (by first | assumption | omega) | with_reducible exact ly_k151 hly | with_reducible exact ly_k152 hly | with_reducible exact ly_k153 hly | with_reducible exact ly_k154 hly | with_reducible exact ly_k155 hly | with_reducible exact ly_k156 hly | with_reducible exact ly_k157 hly | with_reducible exact ly_k158 hly | with_reducible exact ly_k159 hly | with_reducible exact ly_k160 hly | with_reducible exact ly_kAh hly (by first | assumption | omega)) dX6_digest_42 ?_
      refine jr_istore hX dX6_digest_43 rfl ?_
      refine jr_iconst (v := 0) hX dX6_digest_45 (by decide) ?_
      refine jr_istore hX dX6_digest_46 rfl ?_
      have h2 : ∀ k2, k2 ≤ 40 → jj_J X D 7 0 0 (jj_MQ X D { frames := 4, cells := 0, slots := 0, locals := 89 } (jj_R (some (.long (f_dg H M B N C))) (n) (K) ((jj_u I 150 0 0)) (P) (G)) jj_noX) (n) (K) ((jj_u I 150 0 0)) (P) (G) 48 [some (.ref 150), some (.long (lx x1 (C (aWm 0)) k2)), none, some (.ref 151), some (.int (nI 40)), some (.int (nI k2)), none] [] := by
        refine jj_for (40) _ ?_ (fun k2 hk2 ih => ?_)
        · refine jr_iload hX dX6_digest_48 rfl ?_
          refine jr_iload hX dX6_digest_50 rfl ?_
          refine jr_icmp_ge (tgt := 77) hX dX6_digest_52 (by decide) (fun c_52 => ?_) (fun c_52 => absurd (nI_le (Nat.le_refl _) (by omega)) c_52)
          exact jr_forget (fun _ _ h => h) (fun i v h => by rcases i with _ | _ | _ | _ | _ | _ | _ | i <;> first | exact h | exact absurd h (by simp)) (c3 _ (by unfold f_dg; rw [hg1]))
        · refine jr_iload hX dX6_digest_48 rfl ?_
          refine jr_iload hX dX6_digest_50 rfl ?_
          refine jr_icmp_ge (tgt := 77) hX dX6_digest_52 (by decide) (fun c_52 => absurd c_52 (nI_ge (by assumption) (by omega))) (fun c_52 => ?_)
          refine jr_aload_n hX dX6_digest_55 rfl ?_
          refine jr_iload hX dX6_digest_56 rfl ?_
          refine jr_iald hX (by first | with_reducible assumption | with_reducible exact ly_kWm hly (by first | assumption | omega) | with_reducible exact ly_kLd hly (by first | assumption | omega) | with_reducible exact ly_kIc hly (by first | assumption | omega) | with_reducible exact ly_kBe hly (by first | assumption | omega) | with_reducible exact ly_kPr hly (by first | assumption | omega) | with_reducible exact ly_kMt hly (by first | assumption | omega) (by first | assumption | omega) | with_reducible exact ly_kBc hly (by first | assumption | omega) (by first | assumption | omega) | with_reducible exact ly_k151 hly | with_reducible exact ly_k152 hly | with_reducible exact ly_k153 hly | with_reducible exact ly_k154 hly | with_reducible exact ly_k155 hly | with_reducible exact ly_k156 hly | with_reducible exact ly_k157 hly | with_reducible exact ly_k158 hly | with_reducible exact ly_k159 hly | with_reducible exact ly_k160 hly | with_reducible exact ly_kAh hly (by first | assumption | omega)) (by first | with_reducible rfl | with_reducible assumption | rfl) (by omega) dX6_digest_58 ?_
          rw [ml_hWarm hm0 hk2]
          refine jr_istore hX dX6_digest_59 rfl ?_
          refine jr_lload_n hX dX6_digest_61 rfl ?_
          refine jr_ldc2 hX kJ_X6_182 dX6_digest_62 ?_
          refine jr_lmul hX dX6_digest_65 ?_
          refine jr_iload hX dX6_digest_66 rfl ?_
          refine jr_i2l hX dX6_digest_68 ?_
          refine jr_ladd hX dX6_digest_69 ?_
          refine jr_lstore_n hX dX6_digest_70 rfl ?_
          refine jr_iinc hX dX6_digest_71 rfl (by first | with_reducible exact jj_inc _ | with_reducible exact jj_inc1 _) rfl ?_
          refine jr_goto (tgt := 48) hX dX6_digest_74 (by decide) ?_
          exact jr_forget (fun _ _ h => h) (fun i v h => by rcases i with _ | _ | _ | _ | _ | _ | _ | i <;> first | exact h | exact absurd h (by simp)) (ih)
      exact h2 0 (Nat.zero_le _)
    · refine jr_iload_n hX dX6_digest_11 rfl ?_
      refine jr_bipush (v := 10) hX dX6_digest_12 (by decide) ?_
      refine jr_icmp_ge (tgt := 36) hX dX6_digest_14 (by decide) (fun c_14 => absurd c_14 (show ¬ nI 10 ≤ nI k1 from nI_ge (by assumption) (by omega))) (fun c_14 => ?_)
      refine jr_lload_n hX dX6_digest_17 rfl ?_
      refine jr_ldc2 hX kJ_X6_182 dX6_digest_18 ?_
      refine jr_lmul hX dX6_digest_21 ?_
      refine jr_aload_n hX dX6_digest_22 rfl ?_
      refine jr_iload_n hX dX6_digest_23 rfl ?_
      refine jr_ret (jr_runV hX hSt kM_X6_155 (c_mC (jj_fl hX) hly hH0 hH2 hM0 hM2 hB0 hB2 hN0 hN2 hk1) rfl rfl (ly_kMo hly) ⟨_, _, rfl, by decide⟩ dX6_digest_24 rfl ⟨jj_b1 rfl, jj_b1 rfl⟩ rfl) ?_
      rw [cf_eq hs hm0 hk hz0]
      refine jr_i2l hX dX6_digest_27 ?_
      refine jr_ladd hX dX6_digest_28 ?_
      refine jr_lstore_n hX dX6_digest_29 rfl ?_
      refine jr_iinc hX dX6_digest_30 rfl (by first | with_reducible exact jj_inc _ | with_reducible exact jj_inc1 _) rfl ?_
      refine jr_goto (tgt := 11) hX dX6_digest_33 (by decide) ?_
      exact ih
  exact h1 0 (Nat.zero_le _)
