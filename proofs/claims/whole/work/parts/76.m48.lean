/-! the law's cases -/
abbrev lw_L (i : Nat) : List (Option Value) := [some (.ref 0), some (.ref 1), some (.ref 150), some (.ref 161), some (.int (nI i)), none, none, none, none]
theorem lw_cmp0 (x : Int64) : lg_cmp x x = 0 := (lg_cmp_eq x x).mpr rfl
theorem li_S {t : Nat} {I : jj_I} (h : li t I) (ht : t + 1 ≤ 512) : li (t + 1) I := by
  obtain ⟨H, M, B, N, hc, hm, hz⟩ := h
  exact ⟨H, M, B, N, tc_S hc ht, hm, hz⟩
theorem li_th {t : Nat} {I : jj_I} (h : li t I) (ht : t + 1 ≤ 512) : li (t + 1) (jj_u I 150 0 0) := by
  obtain ⟨H, M, B, N, hc, hm, hz⟩ := h
  exact li_mk (tc_S hc ht) (ml_th hm (sf_Z hc.1)) (mz_th hz) (fun a ha => jj_u_ne (by omega))
section LC
variable {X : jj_X} {D : jj_D} {nm : String} {rm : Room} {tb : List ExceptionTableEntry} {cs sl : Nat} {Q : State → Prop} {n : Nat} {K : jj_K} {I : jj_I} {P : jj_P} {G : jj_G}
set_option maxHeartbeats 4000000 in
set_option maxRecDepth 100000 in
theorem lc_setWarm (hX : jj_Cx X D cL_law RL 9 (some .boolean) nm rm tb) (hSt : jj_St X D) {S : Nat} {xs : Nat → Int32} (hxs : jj_XS X D S xs) (hly : ly K P) (hk161 : K 161 = some (11, 1)) (hKn0 : ∀ a, 162 ≤ a → K a = none) {t : Nat} (hI : li t I) (ht : t + 1 ≤ 512) {i : Nat} (hi : i + 7 ≤ S ∧ S ≤ 3584) (hn : 162 ≤ n) (hrf : 10 ≤ rm.frames) (hrl : 200 ≤ rm.locals) (hrc : cs + 16 ≤ rm.cells) (hrs : sl + 564 ≤ rm.slots) (kk : ∀ n1 I1 G1, 162 ≤ n1 → li (t + 1) I1 → jj_J X D 9 (cs + 16) (sl + 564) Q n1 K I1 P G1 2009 (lw_L i) []) : jj_J X D 9 cs sl Q n K I P G 164 (lw_L i) [] := by
  obtain ⟨c, S1, h1, h2⟩ := lj_setWarm (jj_fl hX) hly hk161 hKn0 hI ht (xs (i + 1)) (xs (i + 2))
  refine jr_aload_n hX dL_law_164 rfl ?_
  refine jr_aload_n hX dL_law_165 rfl ?_
  refine jr_iload hX dL_law_166 rfl ?_
  refine jr_iconst (v := 1) hX dL_law_168 (by decide) ?_
  refine jr_iadd hX dL_law_169 ?_
  refine jr_sld hX hxs (show nI i + _ = _ from nI_add i 1) (by omega) dL_law_170 ?_
  refine jr_aload_n hX dL_law_171 rfl ?_
  refine jr_iload hX dL_law_172 rfl ?_
  refine jr_iconst (v := 2) hX dL_law_174 (by decide) ?_
  refine jr_iadd hX dL_law_175 ?_
  refine jr_sld hX hxs (show nI i + _ = _ from nI_add i 2) (by omega) dL_law_176 ?_
  refine jr_aload_n hX dL_law_177 rfl ?_
  refine jr_relM (jr_runSX hX hSt kM_L_100 (h1 n G hn) rfl rfl dL_law_178 (jj_rb (by show 9 + 1 ≤ _; omega) (by show 8 + (_ + 11) + 160 ≤ _; omega)) ⟨by show cs + 1 ≤ _; omega, by show sl + 6 ≤ _; omega⟩ rfl) ?_
  intro r1 n1 K1 I1 P1 G1 hq
  obtain ⟨e1, hn1, e2, e3, v, hv, hG⟩ := hq
  subst e1
  subst e2
  subst e3
  simp only [Option.toList, List.cons_append, List.nil_append]
  obtain ⟨rm2, ⟨b1, b2, b3, b4⟩, h3⟩ := h2 v I1 hv n1 G1 (by omega)
  refine jr_istore hX dL_law_181 rfl ?_
  refine jr_aload_n hX dL_law_183 rfl ?_
  refine jr_aload_n hX dL_law_184 rfl ?_
  refine jr_iload hX dL_law_185 rfl ?_
  refine jr_iconst (v := 1) hX dL_law_187 (by decide) ?_
  refine jr_iadd hX dL_law_188 ?_
  refine jr_sld hX hxs (show nI i + _ = _ from nI_add i 1) (by omega) dL_law_189 ?_
  refine jr_aload_n hX dL_law_190 rfl ?_
  refine jr_iload hX dL_law_191 rfl ?_
  refine jr_iconst (v := 2) hX dL_law_193 (by decide) ?_
  refine jr_iadd hX dL_law_194 ?_
  refine jr_sld hX hxs (show nI i + _ = _ from nI_add i 2) (by omega) dL_law_195 ?_
  refine jr_relM (jr_runV hX hSt kM_L_105 h3 rfl rfl (ly_kMo hly) ⟨_, _, rfl, by decide⟩ dL_law_196 (jj_rb (by omega) (by omega)) ⟨by show cs + 1 + _ ≤ _; omega, by show sl + 6 + _ ≤ _; omega⟩ rfl) ?_
  intro r2 n2 K2 I2 P2 G2 hq
  obtain ⟨⟨u, e1, hu⟩, hn2, e2, e3, e4, h150, hli⟩ := hq
  subst e1
  subst e2
  subst e3
  subst e4
  simp only [Option.toList, List.cons_append, List.nil_append]
  refine jr_istore hX dL_law_199 rfl ?_
  refine jr_aload_n hX dL_law_201 rfl ?_
  refine jr_ret (jr_runV hX hSt kM_L_106 (c_thrown (jj_fl hX) hly) rfl rfl (ly_kMo hly) ⟨_, _, rfl, by decide⟩ dL_law_202 (jj_rb (by show 0 + 1 ≤ _; omega) (by show 8 + (_ + 11) + 0 ≤ _; omega)) ⟨by show cs + 1 + _ + 0 ≤ _; omega, by show sl + 6 + _ + 0 ≤ _; omega⟩ rfl) ?_
  rw [h150]
  refine jr_iload hX dL_law_205 rfl ?_
  refine jr_icmp_eq (tgt := 212) hX dL_law_207 (by decide) (fun _ => ?_) (fun q => absurd rfl q)
  refine jr_iload hX dL_law_212 rfl ?_
  refine jr_if_ne (tgt := 229) hX dL_law_214 (by decide) (fun _ => ?_) (fun q => ?_)
  · refine jr_goto (tgt := 2009) hX dL_law_229 (by decide) ?_
    refine jr_widen (cs1 := cs + 16) (sl1 := sl + 564) (by show cs + 1 + _ + 0 ≤ _; omega) (by show sl + 6 + _ + 0 ≤ _; omega) ?_
    exact jr_forget (fun _ _ h => h) (fun i v h => by rcases i with _ | _ | _ | _ | _ | _ | _ | _ | _ | i <;> first | exact h | exact absurd h (by simp)) (kk _ _ _ (by omega) hli)
  · refine jr_aload_n hX dL_law_217 rfl ?_
    refine jr_iconst (v := 0) hX dL_law_218 (by decide) ?_
    refine jr_lald hX hk161 (show _ = nI 0 from rfl) (by decide) dL_law_219 ?_
    refine jr_iload hX dL_law_220 rfl ?_
    refine jr_i2l hX dL_law_222 ?_
    refine jr_lcmp hX dL_law_223 ?_
    rw [hG q, hu q]
    refine jr_if_eq (tgt := 229) hX dL_law_224 (by decide) (fun _ => ?_) (fun q => absurd (lw_cmp0 _) q)
    refine jr_goto (tgt := 2009) hX dL_law_229 (by decide) ?_
    refine jr_widen (cs1 := cs + 16) (sl1 := sl + 564) (by show cs + 1 + _ + 0 ≤ _; omega) (by show sl + 6 + _ + 0 ≤ _; omega) ?_
    exact jr_forget (fun _ _ h => h) (fun i v h => by rcases i with _ | _ | _ | _ | _ | _ | _ | _ | _ | i <;> first | exact h | exact absurd h (by simp)) (kk _ _ _ (by omega) hli)
set_option maxHeartbeats 4000000 in
set_option maxRecDepth 100000 in
theorem lc_addHarbour (hX : jj_Cx X D cL_law RL 9 (some .boolean) nm rm tb) (hSt : jj_St X D) {S : Nat} {xs : Nat → Int32} (hxs : jj_XS X D S xs) (hly : ly K P) (hk161 : K 161 = some (11, 1)) (hKn0 : ∀ a, 162 ≤ a → K a = none) {t : Nat} (hI : li t I) (ht : t + 1 ≤ 512) {i : Nat} (hi : i + 7 ≤ S ∧ S ≤ 3584) (hn : 162 ≤ n) (hrf : 10 ≤ rm.frames) (hrl : 200 ≤ rm.locals) (hrc : cs + 16 ≤ rm.cells) (hrs : sl + 564 ≤ rm.slots) (kk : ∀ n1 I1 G1, 162 ≤ n1 → li (t + 1) I1 → jj_J X D 9 (cs + 16) (sl + 564) Q n1 K I1 P G1 2009 (lw_L i) []) : jj_J X D 9 cs sl Q n K I P G 232 (lw_L i) [] := by
  obtain ⟨c, S1, h1, h2⟩ := lj_addHarbour (jj_fl hX) hly hk161 hKn0 hI ht (xs (i + 1)) (xs (i + 2))
  refine jr_aload_n hX dL_law_232 rfl ?_
  refine jr_aload_n hX dL_law_233 rfl ?_
  refine jr_iload hX dL_law_234 rfl ?_
  refine jr_iconst (v := 1) hX dL_law_236 (by decide) ?_
  refine jr_iadd hX dL_law_237 ?_
  refine jr_sld hX hxs (show nI i + _ = _ from nI_add i 1) (by omega) dL_law_238 ?_
  refine jr_aload_n hX dL_law_239 rfl ?_
  refine jr_iload hX dL_law_240 rfl ?_
  refine jr_iconst (v := 2) hX dL_law_242 (by decide) ?_
  refine jr_iadd hX dL_law_243 ?_
  refine jr_sld hX hxs (show nI i + _ = _ from nI_add i 2) (by omega) dL_law_244 ?_
  refine jr_aload_n hX dL_law_245 rfl ?_
  refine jr_relM (jr_runSX hX hSt kM_L_110 (h1 n G hn) rfl rfl dL_law_246 (jj_rb (by show 9 + 1 ≤ _; omega) (by show 8 + (_ + 11) + 160 ≤ _; omega)) ⟨by show cs + 1 ≤ _; omega, by show sl + 6 ≤ _; omega⟩ rfl) ?_
  intro r1 n1 K1 I1 P1 G1 hq
  obtain ⟨e1, hn1, e2, e3, v, hv, hG⟩ := hq
  subst e1
  subst e2
  subst e3
  simp only [Option.toList, List.cons_append, List.nil_append]
  obtain ⟨rm2, ⟨b1, b2, b3, b4⟩, h3⟩ := h2 v I1 hv n1 G1 (by omega)
  refine jr_istore hX dL_law_249 rfl ?_
  refine jr_aload_n hX dL_law_251 rfl ?_
  refine jr_aload_n hX dL_law_252 rfl ?_
  refine jr_iload hX dL_law_253 rfl ?_
  refine jr_iconst (v := 1) hX dL_law_255 (by decide) ?_
  refine jr_iadd hX dL_law_256 ?_
  refine jr_sld hX hxs (show nI i + _ = _ from nI_add i 1) (by omega) dL_law_257 ?_
  refine jr_aload_n hX dL_law_258 rfl ?_
  refine jr_iload hX dL_law_259 rfl ?_
  refine jr_iconst (v := 2) hX dL_law_261 (by decide) ?_
  refine jr_iadd hX dL_law_262 ?_
  refine jr_sld hX hxs (show nI i + _ = _ from nI_add i 2) (by omega) dL_law_263 ?_
  refine jr_relM (jr_runV hX hSt kM_L_112 h3 rfl rfl (ly_kMo hly) ⟨_, _, rfl, by decide⟩ dL_law_264 (jj_rb (by omega) (by omega)) ⟨by show cs + 1 + _ ≤ _; omega, by show sl + 6 + _ ≤ _; omega⟩ rfl) ?_
  intro r2 n2 K2 I2 P2 G2 hq
  obtain ⟨⟨u, e1, hu⟩, hn2, e2, e3, e4, h150, hli⟩ := hq
  subst e1
  subst e2
  subst e3
  subst e4
  simp only [Option.toList, List.cons_append, List.nil_append]
  refine jr_istore hX dL_law_267 rfl ?_
  refine jr_aload_n hX dL_law_269 rfl ?_
  refine jr_ret (jr_runV hX hSt kM_L_106 (c_thrown (jj_fl hX) hly) rfl rfl (ly_kMo hly) ⟨_, _, rfl, by decide⟩ dL_law_270 (jj_rb (by show 0 + 1 ≤ _; omega) (by show 8 + (_ + 11) + 0 ≤ _; omega)) ⟨by show cs + 1 + _ + 0 ≤ _; omega, by show sl + 6 + _ + 0 ≤ _; omega⟩ rfl) ?_
  rw [h150]
  refine jr_iload hX dL_law_273 rfl ?_
  refine jr_icmp_eq (tgt := 280) hX dL_law_275 (by decide) (fun _ => ?_) (fun q => absurd rfl q)
  refine jr_iload hX dL_law_280 rfl ?_
  refine jr_if_ne (tgt := 297) hX dL_law_282 (by decide) (fun _ => ?_) (fun q => ?_)
  · refine jr_goto (tgt := 2009) hX dL_law_297 (by decide) ?_
    refine jr_widen (cs1 := cs + 16) (sl1 := sl + 564) (by show cs + 1 + _ + 0 ≤ _; omega) (by show sl + 6 + _ + 0 ≤ _; omega) ?_
    exact jr_forget (fun _ _ h => h) (fun i v h => by rcases i with _ | _ | _ | _ | _ | _ | _ | _ | _ | i <;> first | exact h | exact absurd h (by simp)) (kk _ _ _ (by omega) hli)
  · refine jr_aload_n hX dL_law_285 rfl ?_
    refine jr_iconst (v := 0) hX dL_law_286 (by decide) ?_
    refine jr_lald hX hk161 (show _ = nI 0 from rfl) (by decide) dL_law_287 ?_
    refine jr_iload hX dL_law_288 rfl ?_
    refine jr_i2l hX dL_law_290 ?_
    refine jr_lcmp hX dL_law_291 ?_
    rw [hG q, hu q]
    refine jr_if_eq (tgt := 297) hX dL_law_292 (by decide) (fun _ => ?_) (fun q => absurd (lw_cmp0 _) q)
    refine jr_goto (tgt := 2009) hX dL_law_297 (by decide) ?_
    refine jr_widen (cs1 := cs + 16) (sl1 := sl + 564) (by show cs + 1 + _ + 0 ≤ _; omega) (by show sl + 6 + _ + 0 ≤ _; omega) ?_
    exact jr_forget (fun _ _ h => h) (fun i v h => by rcases i with _ | _ | _ | _ | _ | _ | _ | _ | _ | i <;> first | exact h | exact absurd h (by simp)) (kk _ _ _ (by omega) hli)
set_option maxHeartbeats 4000000 in
set_option maxRecDepth 100000 in
theorem lc_setPrice (hX : jj_Cx X D cL_law RL 9 (some .boolean) nm rm tb) (hSt : jj_St X D) {S : Nat} {xs : Nat → Int32} (hxs : jj_XS X D S xs) (hly : ly K P) (hk161 : K 161 = some (11, 1)) (hKn0 : ∀ a, 162 ≤ a → K a = none) {t : Nat} (hI : li t I) (ht : t + 1 ≤ 512) {i : Nat} (hi : i + 7 ≤ S ∧ S ≤ 3584) (hn : 162 ≤ n) (hrf : 10 ≤ rm.frames) (hrl : 200 ≤ rm.locals) (hrc : cs + 16 ≤ rm.cells) (hrs : sl + 564 ≤ rm.slots) (kk : ∀ n1 I1 G1, 162 ≤ n1 → li (t + 1) I1 → jj_J X D 9 (cs + 16) (sl + 564) Q n1 K I1 P G1 2009 (lw_L i) []) : jj_J X D 9 cs sl Q n K I P G 300 (lw_L i) [] := by
  obtain ⟨c, S1, h1, h2⟩ := lj_setPrice (jj_fl hX) hly hk161 hKn0 hI ht (xs (i + 1)) (xs (i + 2)) (xs (i + 3))
  refine jr_aload_n hX dL_law_300 rfl ?_
  refine jr_aload_n hX dL_law_301 rfl ?_
  refine jr_iload hX dL_law_302 rfl ?_
  refine jr_iconst (v := 1) hX dL_law_304 (by decide) ?_
  refine jr_iadd hX dL_law_305 ?_
  refine jr_sld hX hxs (show nI i + _ = _ from nI_add i 1) (by omega) dL_law_306 ?_
  refine jr_aload_n hX dL_law_307 rfl ?_
  refine jr_iload hX dL_law_308 rfl ?_
  refine jr_iconst (v := 2) hX dL_law_310 (by decide) ?_
  refine jr_iadd hX dL_law_311 ?_
  refine jr_sld hX hxs (show nI i + _ = _ from nI_add i 2) (by omega) dL_law_312 ?_
  refine jr_aload_n hX dL_law_313 rfl ?_
  refine jr_iload hX dL_law_314 rfl ?_
  refine jr_iconst (v := 3) hX dL_law_316 (by decide) ?_
  refine jr_iadd hX dL_law_317 ?_
  refine jr_sld hX hxs (show nI i + _ = _ from nI_add i 3) (by omega) dL_law_318 ?_
  refine jr_aload_n hX dL_law_319 rfl ?_
  refine jr_relM (jr_runSX hX hSt kM_L_113 (h1 n G hn) rfl rfl dL_law_320 (jj_rb (by show 9 + 1 ≤ _; omega) (by show 8 + (_ + 11) + 160 ≤ _; omega)) ⟨by show cs + 1 ≤ _; omega, by show sl + 6 ≤ _; omega⟩ rfl) ?_
  intro r1 n1 K1 I1 P1 G1 hq
  obtain ⟨e1, hn1, e2, e3, v, hv, hG⟩ := hq
  subst e1
  subst e2
  subst e3
  simp only [Option.toList, List.cons_append, List.nil_append]
  obtain ⟨rm2, ⟨b1, b2, b3, b4⟩, h3⟩ := h2 v I1 hv n1 G1 (by omega)
  refine jr_istore hX dL_law_323 rfl ?_
  refine jr_aload_n hX dL_law_325 rfl ?_
  refine jr_aload_n hX dL_law_326 rfl ?_
  refine jr_iload hX dL_law_327 rfl ?_
  refine jr_iconst (v := 1) hX dL_law_329 (by decide) ?_
  refine jr_iadd hX dL_law_330 ?_
  refine jr_sld hX hxs (show nI i + _ = _ from nI_add i 1) (by omega) dL_law_331 ?_
  refine jr_aload_n hX dL_law_332 rfl ?_
  refine jr_iload hX dL_law_333 rfl ?_
  refine jr_iconst (v := 2) hX dL_law_335 (by decide) ?_
  refine jr_iadd hX dL_law_336 ?_
  refine jr_sld hX hxs (show nI i + _ = _ from nI_add i 2) (by omega) dL_law_337 ?_
  refine jr_aload_n hX dL_law_338 rfl ?_
  refine jr_iload hX dL_law_339 rfl ?_
  refine jr_iconst (v := 3) hX dL_law_341 (by decide) ?_
  refine jr_iadd hX dL_law_342 ?_
  refine jr_sld hX hxs (show nI i + _ = _ from nI_add i 3) (by omega) dL_law_343 ?_
  refine jr_relM (jr_runV hX hSt kM_L_116 h3 rfl rfl (ly_kMo hly) ⟨_, _, rfl, by decide⟩ dL_law_344 (jj_rb (by omega) (by omega)) ⟨by show cs + 1 + _ ≤ _; omega, by show sl + 6 + _ ≤ _; omega⟩ rfl) ?_
  intro r2 n2 K2 I2 P2 G2 hq
  obtain ⟨⟨u, e1, hu⟩, hn2, e2, e3, e4, h150, hli⟩ := hq
  subst e1
  subst e2
  subst e3
  subst e4
  simp only [Option.toList, List.cons_append, List.nil_append]
  refine jr_istore hX dL_law_347 rfl ?_
  refine jr_aload_n hX dL_law_349 rfl ?_
  refine jr_ret (jr_runV hX hSt kM_L_106 (c_thrown (jj_fl hX) hly) rfl rfl (ly_kMo hly) ⟨_, _, rfl, by decide⟩ dL_law_350 (jj_rb (by show 0 + 1 ≤ _; omega) (by show 8 + (_ + 11) + 0 ≤ _; omega)) ⟨by show cs + 1 + _ + 0 ≤ _; omega, by show sl + 6 + _ + 0 ≤ _; omega⟩ rfl) ?_
  rw [h150]
  refine jr_iload hX dL_law_353 rfl ?_
  refine jr_icmp_eq (tgt := 360) hX dL_law_355 (by decide) (fun _ => ?_) (fun q => absurd rfl q)
  refine jr_iload hX dL_law_360 rfl ?_
  refine jr_if_ne (tgt := 377) hX dL_law_362 (by decide) (fun _ => ?_) (fun q => ?_)
  · refine jr_goto (tgt := 2009) hX dL_law_377 (by decide) ?_
    refine jr_widen (cs1 := cs + 16) (sl1 := sl + 564) (by show cs + 1 + _ + 0 ≤ _; omega) (by show sl + 6 + _ + 0 ≤ _; omega) ?_
    exact jr_forget (fun _ _ h => h) (fun i v h => by rcases i with _ | _ | _ | _ | _ | _ | _ | _ | _ | i <;> first | exact h | exact absurd h (by simp)) (kk _ _ _ (by omega) hli)
  · refine jr_aload_n hX dL_law_365 rfl ?_
    refine jr_iconst (v := 0) hX dL_law_366 (by decide) ?_
    refine jr_lald hX hk161 (show _ = nI 0 from rfl) (by decide) dL_law_367 ?_
    refine jr_iload hX dL_law_368 rfl ?_
    refine jr_i2l hX dL_law_370 ?_
    refine jr_lcmp hX dL_law_371 ?_
    rw [hG q, hu q]
    refine jr_if_eq (tgt := 377) hX dL_law_372 (by decide) (fun _ => ?_) (fun q => absurd (lw_cmp0 _) q)
    refine jr_goto (tgt := 2009) hX dL_law_377 (by decide) ?_
    refine jr_widen (cs1 := cs + 16) (sl1 := sl + 564) (by show cs + 1 + _ + 0 ≤ _; omega) (by show sl + 6 + _ + 0 ≤ _; omega) ?_
    exact jr_forget (fun _ _ h => h) (fun i v h => by rcases i with _ | _ | _ | _ | _ | _ | _ | _ | _ | i <;> first | exact h | exact absurd h (by simp)) (kk _ _ _ (by omega) hli)
set_option maxHeartbeats 4000000 in
set_option maxRecDepth 100000 in
theorem lc_harbour (hX : jj_Cx X D cL_law RL 9 (some .boolean) nm rm tb) (hSt : jj_St X D) {S : Nat} {xs : Nat → Int32} (hxs : jj_XS X D S xs) (hly : ly K P) (hk161 : K 161 = some (11, 1)) (hKn0 : ∀ a, 162 ≤ a → K a = none) {t : Nat} (hI : li t I) (ht : t + 1 ≤ 512) {i : Nat} (hi : i + 7 ≤ S ∧ S ≤ 3584) (hn : 162 ≤ n) (hrf : 10 ≤ rm.frames) (hrl : 200 ≤ rm.locals) (hrc : cs + 16 ≤ rm.cells) (hrs : sl + 564 ≤ rm.slots) (kk : ∀ n1 I1 G1, 162 ≤ n1 → li (t + 1) I1 → jj_J X D 9 (cs + 16) (sl + 564) Q n1 K I1 P G1 2009 (lw_L i) []) : jj_J X D 9 cs sl Q n K I P G 380 (lw_L i) [] := by
  obtain ⟨c, S1, h1, h2⟩ := lj_harbour (jj_fl hX) hly hk161 hKn0 hI ht (xs (i + 1)) (xs (i + 2))
  refine jr_aload_n hX dL_law_380 rfl ?_
  refine jr_aload_n hX dL_law_381 rfl ?_
  refine jr_iload hX dL_law_382 rfl ?_
  refine jr_iconst (v := 1) hX dL_law_384 (by decide) ?_
  refine jr_iadd hX dL_law_385 ?_
  refine jr_sld hX hxs (show nI i + _ = _ from nI_add i 1) (by omega) dL_law_386 ?_
  refine jr_aload_n hX dL_law_387 rfl ?_
  refine jr_iload hX dL_law_388 rfl ?_
  refine jr_iconst (v := 2) hX dL_law_390 (by decide) ?_
  refine jr_iadd hX dL_law_391 ?_
  refine jr_sld hX hxs (show nI i + _ = _ from nI_add i 2) (by omega) dL_law_392 ?_
  refine jr_aload_n hX dL_law_393 rfl ?_
  refine jr_relM (jr_runSX hX hSt kM_L_117 (h1 n G hn) rfl rfl dL_law_394 (jj_rb (by show 9 + 1 ≤ _; omega) (by show 8 + (_ + 11) + 160 ≤ _; omega)) ⟨by show cs + 1 ≤ _; omega, by show sl + 6 ≤ _; omega⟩ rfl) ?_
  intro r1 n1 K1 I1 P1 G1 hq
  obtain ⟨e1, hn1, e2, e3, v, hv, hG⟩ := hq
  subst e1
  subst e2
  subst e3
  simp only [Option.toList, List.cons_append, List.nil_append]
  obtain ⟨rm2, ⟨b1, b2, b3, b4⟩, h3⟩ := h2 v I1 hv n1 G1 (by omega)
  refine jr_istore hX dL_law_397 rfl ?_
  refine jr_aload_n hX dL_law_399 rfl ?_
  refine jr_aload_n hX dL_law_400 rfl ?_
  refine jr_iload hX dL_law_401 rfl ?_
  refine jr_iconst (v := 1) hX dL_law_403 (by decide) ?_
  refine jr_iadd hX dL_law_404 ?_
  refine jr_sld hX hxs (show nI i + _ = _ from nI_add i 1) (by omega) dL_law_405 ?_
  refine jr_aload_n hX dL_law_406 rfl ?_
  refine jr_iload hX dL_law_407 rfl ?_
  refine jr_iconst (v := 2) hX dL_law_409 (by decide) ?_
  refine jr_iadd hX dL_law_410 ?_
  refine jr_sld hX hxs (show nI i + _ = _ from nI_add i 2) (by omega) dL_law_411 ?_
  refine jr_relM (jr_runV hX hSt kM_L_119 h3 rfl rfl (ly_kMo hly) ⟨_, _, rfl, by decide⟩ dL_law_412 (jj_rb (by omega) (by omega)) ⟨by show cs + 1 + _ ≤ _; omega, by show sl + 6 + _ ≤ _; omega⟩ rfl) ?_
  intro r2 n2 K2 I2 P2 G2 hq
  obtain ⟨⟨u, e1, hu⟩, hn2, e2, e3, e4, h150, hli⟩ := hq
  subst e1
  subst e2
  subst e3
  subst e4
  simp only [Option.toList, List.cons_append, List.nil_append]
  refine jr_istore hX dL_law_415 rfl ?_
  refine jr_aload_n hX dL_law_417 rfl ?_
  refine jr_ret (jr_runV hX hSt kM_L_106 (c_thrown (jj_fl hX) hly) rfl rfl (ly_kMo hly) ⟨_, _, rfl, by decide⟩ dL_law_418 (jj_rb (by show 0 + 1 ≤ _; omega) (by show 8 + (_ + 11) + 0 ≤ _; omega)) ⟨by show cs + 1 + _ + 0 ≤ _; omega, by show sl + 6 + _ + 0 ≤ _; omega⟩ rfl) ?_
  rw [h150]
  refine jr_iload hX dL_law_421 rfl ?_
  refine jr_icmp_eq (tgt := 428) hX dL_law_423 (by decide) (fun _ => ?_) (fun q => absurd rfl q)
  refine jr_iload hX dL_law_428 rfl ?_
  refine jr_if_ne (tgt := 445) hX dL_law_430 (by decide) (fun _ => ?_) (fun q => ?_)
  · refine jr_goto (tgt := 2009) hX dL_law_445 (by decide) ?_
    refine jr_widen (cs1 := cs + 16) (sl1 := sl + 564) (by show cs + 1 + _ + 0 ≤ _; omega) (by show sl + 6 + _ + 0 ≤ _; omega) ?_
    exact jr_forget (fun _ _ h => h) (fun i v h => by rcases i with _ | _ | _ | _ | _ | _ | _ | _ | _ | i <;> first | exact h | exact absurd h (by simp)) (kk _ _ _ (by omega) hli)
  · refine jr_aload_n hX dL_law_433 rfl ?_
    refine jr_iconst (v := 0) hX dL_law_434 (by decide) ?_
    refine jr_lald hX hk161 (show _ = nI 0 from rfl) (by decide) dL_law_435 ?_
    refine jr_iload hX dL_law_436 rfl ?_
    refine jr_i2l hX dL_law_438 ?_
    refine jr_lcmp hX dL_law_439 ?_
    rw [hG q, hu q]
    refine jr_if_eq (tgt := 445) hX dL_law_440 (by decide) (fun _ => ?_) (fun q => absurd (lw_cmp0 _) q)
    refine jr_goto (tgt := 2009) hX dL_law_445 (by decide) ?_
    refine jr_widen (cs1 := cs + 16) (sl1 := sl + 564) (by show cs + 1 + _ + 0 ≤ _; omega) (by show sl + 6 + _ + 0 ≤ _; omega) ?_
    exact jr_forget (fun _ _ h => h) (fun i v h => by rcases i with _ | _ | _ | _ | _ | _ | _ | _ | _ | i <;> first | exact h | exact absurd h (by simp)) (kk _ _ _ (by omega) hli)
set_option maxHeartbeats 4000000 in
set_option maxRecDepth 100000 in
theorem lc_leg (hX : jj_Cx X D cL_law RL 9 (some .boolean) nm rm tb) (hSt : jj_St X D) {S : Nat} {xs : Nat → Int32} (hxs : jj_XS X D S xs) (hly : ly K P) (hk161 : K 161 = some (11, 1)) (hKn0 : ∀ a, 162 ≤ a → K a = none) {t : Nat} (hI : li t I) (ht : t + 1 ≤ 512) {i : Nat} (hi : i + 7 ≤ S ∧ S ≤ 3584) (hn : 162 ≤ n) (hrf : 10 ≤ rm.frames) (hrl : 200 ≤ rm.locals) (hrc : cs + 16 ≤ rm.cells) (hrs : sl + 564 ≤ rm.slots) (kk : ∀ n1 I1 G1, 162 ≤ n1 → li (t + 1) I1 → jj_J X D 9 (cs + 16) (sl + 564) Q n1 K I1 P G1 2009 (lw_L i) []) : jj_J X D 9 cs sl Q n K I P G 448 (lw_L i) [] := by
  obtain ⟨c, S1, h1, h2⟩ := lj_leg (jj_fl hX) hly hk161 hKn0 hI ht (xs (i + 1)) (xs (i + 2))
  refine jr_aload_n hX dL_law_448 rfl ?_
  refine jr_aload_n hX dL_law_449 rfl ?_
  refine jr_iload hX dL_law_450 rfl ?_
  refine jr_iconst (v := 1) hX dL_law_452 (by decide) ?_
  refine jr_iadd hX dL_law_453 ?_
  refine jr_sld hX hxs (show nI i + _ = _ from nI_add i 1) (by omega) dL_law_454 ?_
  refine jr_aload_n hX dL_law_455 rfl ?_
  refine jr_iload hX dL_law_456 rfl ?_
  refine jr_iconst (v := 2) hX dL_law_458 (by decide) ?_
  refine jr_iadd hX dL_law_459 ?_
  refine jr_sld hX hxs (show nI i + _ = _ from nI_add i 2) (by omega) dL_law_460 ?_
  refine jr_aload_n hX dL_law_461 rfl ?_
  refine jr_relM (jr_runSX hX hSt kM_L_120 (h1 n G hn) rfl rfl dL_law_462 (jj_rb (by show 9 + 1 ≤ _; omega) (by show 8 + (_ + 11) + 160 ≤ _; omega)) ⟨by show cs + 1 ≤ _; omega, by show sl + 6 ≤ _; omega⟩ rfl) ?_
  intro r1 n1 K1 I1 P1 G1 hq
  obtain ⟨e1, hn1, e2, e3, v, hv, hG⟩ := hq
  subst e1
  subst e2
  subst e3
  simp only [Option.toList, List.cons_append, List.nil_append]
  obtain ⟨rm2, ⟨b1, b2, b3, b4⟩, h3⟩ := h2 v I1 hv n1 G1 (by omega)
  refine jr_istore hX dL_law_465 rfl ?_
  refine jr_aload_n hX dL_law_467 rfl ?_
  refine jr_aload_n hX dL_law_468 rfl ?_
  refine jr_iload hX dL_law_469 rfl ?_
  refine jr_iconst (v := 1) hX dL_law_471 (by decide) ?_
  refine jr_iadd hX dL_law_472 ?_
  refine jr_sld hX hxs (show nI i + _ = _ from nI_add i 1) (by omega) dL_law_473 ?_
  refine jr_aload_n hX dL_law_474 rfl ?_
  refine jr_iload hX dL_law_475 rfl ?_
  refine jr_iconst (v := 2) hX dL_law_477 (by decide) ?_
  refine jr_iadd hX dL_law_478 ?_
  refine jr_sld hX hxs (show nI i + _ = _ from nI_add i 2) (by omega) dL_law_479 ?_
  refine jr_relM (jr_runV hX hSt kM_L_122 h3 rfl rfl (ly_kMo hly) ⟨_, _, rfl, by decide⟩ dL_law_480 (jj_rb (by omega) (by omega)) ⟨by show cs + 1 + _ ≤ _; omega, by show sl + 6 + _ ≤ _; omega⟩ rfl) ?_
  intro r2 n2 K2 I2 P2 G2 hq
  obtain ⟨⟨u, e1, hu⟩, hn2, e2, e3, e4, h150, hli⟩ := hq
  subst e1
  subst e2
  subst e3
  subst e4
  simp only [Option.toList, List.cons_append, List.nil_append]
  refine jr_istore hX dL_law_483 rfl ?_
  refine jr_aload_n hX dL_law_485 rfl ?_
  refine jr_ret (jr_runV hX hSt kM_L_106 (c_thrown (jj_fl hX) hly) rfl rfl (ly_kMo hly) ⟨_, _, rfl, by decide⟩ dL_law_486 (jj_rb (by show 0 + 1 ≤ _; omega) (by show 8 + (_ + 11) + 0 ≤ _; omega)) ⟨by show cs + 1 + _ + 0 ≤ _; omega, by show sl + 6 + _ + 0 ≤ _; omega⟩ rfl) ?_
  rw [h150]
  refine jr_iload hX dL_law_489 rfl ?_
  refine jr_icmp_eq (tgt := 496) hX dL_law_491 (by decide) (fun _ => ?_) (fun q => absurd rfl q)
  refine jr_iload hX dL_law_496 rfl ?_
  refine jr_if_ne (tgt := 513) hX dL_law_498 (by decide) (fun _ => ?_) (fun q => ?_)
  · refine jr_goto (tgt := 2009) hX dL_law_513 (by decide) ?_
    refine jr_widen (cs1 := cs + 16) (sl1 := sl + 564) (by show cs + 1 + _ + 0 ≤ _; omega) (by show sl + 6 + _ + 0 ≤ _; omega) ?_
    exact jr_forget (fun _ _ h => h) (fun i v h => by rcases i with _ | _ | _ | _ | _ | _ | _ | _ | _ | i <;> first | exact h | exact absurd h (by simp)) (kk _ _ _ (by omega) hli)
  · refine jr_aload_n hX dL_law_501 rfl ?_
    refine jr_iconst (v := 0) hX dL_law_502 (by decide) ?_
    refine jr_lald hX hk161 (show _ = nI 0 from rfl) (by decide) dL_law_503 ?_
    refine jr_iload hX dL_law_504 rfl ?_
    refine jr_i2l hX dL_law_506 ?_
    refine jr_lcmp hX dL_law_507 ?_
    rw [hG q, hu q]
    refine jr_if_eq (tgt := 513) hX dL_law_508 (by decide) (fun _ => ?_) (fun q => absurd (lw_cmp0 _) q)
    refine jr_goto (tgt := 2009) hX dL_law_513 (by decide) ?_
    refine jr_widen (cs1 := cs + 16) (sl1 := sl + 564) (by show cs + 1 + _ + 0 ≤ _; omega) (by show sl + 6 + _ + 0 ≤ _; omega) ?_
    exact jr_forget (fun _ _ h => h) (fun i v h => by rcases i with _ | _ | _ | _ | _ | _ | _ | _ | _ | i <;> first | exact h | exact absurd h (by simp)) (kk _ _ _ (by omega) hli)
set_option maxHeartbeats 4000000 in
set_option maxRecDepth 100000 in
theorem lc_addMerchant (hX : jj_Cx X D cL_law RL 9 (some .boolean) nm rm tb) (hSt : jj_St X D) {S : Nat} {xs : Nat → Int32} (hxs : jj_XS X D S xs) (hly : ly K P) (hk161 : K 161 = some (11, 1)) (hKn0 : ∀ a, 162 ≤ a → K a = none) {t : Nat} (hI : li t I) (ht : t + 1 ≤ 512) {i : Nat} (hi : i + 7 ≤ S ∧ S ≤ 3584) (hn : 162 ≤ n) (hrf : 10 ≤ rm.frames) (hrl : 200 ≤ rm.locals) (hrc : cs + 16 ≤ rm.cells) (hrs : sl + 564 ≤ rm.slots) (kk : ∀ n1 I1 G1, 162 ≤ n1 → li (t + 1) I1 → jj_J X D 9 (cs + 16) (sl + 564) Q n1 K I1 P G1 2009 (lw_L i) []) : jj_J X D 9 cs sl Q n K I P G 516 (lw_L i) [] := by
  obtain ⟨c, S1, h1, h2⟩ := lj_addMerchant (jj_fl hX) hly hk161 hKn0 hI ht (xs (i + 1))
  refine jr_aload_n hX dL_law_516 rfl ?_
  refine jr_aload_n hX dL_law_517 rfl ?_
  refine jr_iload hX dL_law_518 rfl ?_
  refine jr_iconst (v := 1) hX dL_law_520 (by decide) ?_
  refine jr_iadd hX dL_law_521 ?_
  refine jr_sld hX hxs (show nI i + _ = _ from nI_add i 1) (by omega) dL_law_522 ?_
  refine jr_aload_n hX dL_law_523 rfl ?_
  refine jr_relM (jr_runSX hX hSt kM_L_123 (h1 n G hn) rfl rfl dL_law_524 (jj_rb (by show 9 + 1 ≤ _; omega) (by show 8 + (_ + 11) + 160 ≤ _; omega)) ⟨by show cs + 1 ≤ _; omega, by show sl + 6 ≤ _; omega⟩ rfl) ?_
  intro r1 n1 K1 I1 P1 G1 hq
  obtain ⟨e1, hn1, e2, e3, v, hv, hG⟩ := hq
  subst e1
  subst e2
  subst e3
  simp only [Option.toList, List.cons_append, List.nil_append]
  obtain ⟨rm2, ⟨b1, b2, b3, b4⟩, h3⟩ := h2 v I1 hv n1 G1 (by omega)
  refine jr_istore hX dL_law_527 rfl ?_
  refine jr_aload_n hX dL_law_529 rfl ?_
  refine jr_aload_n hX dL_law_530 rfl ?_
  refine jr_iload hX dL_law_531 rfl ?_
  refine jr_iconst (v := 1) hX dL_law_533 (by decide) ?_
  refine jr_iadd hX dL_law_534 ?_
  refine jr_sld hX hxs (show nI i + _ = _ from nI_add i 1) (by omega) dL_law_535 ?_
  refine jr_relM (jr_runV hX hSt kM_L_126 h3 rfl rfl (ly_kMo hly) ⟨_, _, rfl, by decide⟩ dL_law_536 (jj_rb (by omega) (by omega)) ⟨by show cs + 1 + _ ≤ _; omega, by show sl + 6 + _ ≤ _; omega⟩ rfl) ?_
  intro r2 n2 K2 I2 P2 G2 hq
  obtain ⟨⟨u, e1, hu⟩, hn2, e2, e3, e4, h150, hli⟩ := hq
  subst e1
  subst e2
  subst e3
  subst e4
  simp only [Option.toList, List.cons_append, List.nil_append]
  refine jr_istore hX dL_law_539 rfl ?_
  refine jr_aload_n hX dL_law_541 rfl ?_
  refine jr_ret (jr_runV hX hSt kM_L_106 (c_thrown (jj_fl hX) hly) rfl rfl (ly_kMo hly) ⟨_, _, rfl, by decide⟩ dL_law_542 (jj_rb (by show 0 + 1 ≤ _; omega) (by show 8 + (_ + 11) + 0 ≤ _; omega)) ⟨by show cs + 1 + _ + 0 ≤ _; omega, by show sl + 6 + _ + 0 ≤ _; omega⟩ rfl) ?_
  rw [h150]
  refine jr_iload hX dL_law_545 rfl ?_
  refine jr_icmp_eq (tgt := 552) hX dL_law_547 (by decide) (fun _ => ?_) (fun q => absurd rfl q)
  refine jr_iload hX dL_law_552 rfl ?_
  refine jr_if_ne (tgt := 569) hX dL_law_554 (by decide) (fun _ => ?_) (fun q => ?_)
  · refine jr_goto (tgt := 2009) hX dL_law_569 (by decide) ?_
    refine jr_widen (cs1 := cs + 16) (sl1 := sl + 564) (by show cs + 1 + _ + 0 ≤ _; omega) (by show sl + 6 + _ + 0 ≤ _; omega) ?_
    exact jr_forget (fun _ _ h => h) (fun i v h => by rcases i with _ | _ | _ | _ | _ | _ | _ | _ | _ | i <;> first | exact h | exact absurd h (by simp)) (kk _ _ _ (by omega) hli)
  · refine jr_aload_n hX dL_law_557 rfl ?_
    refine jr_iconst (v := 0) hX dL_law_558 (by decide) ?_
    refine jr_lald hX hk161 (show _ = nI 0 from rfl) (by decide) dL_law_559 ?_
    refine jr_iload hX dL_law_560 rfl ?_
    refine jr_i2l hX dL_law_562 ?_
    refine jr_lcmp hX dL_law_563 ?_
    rw [hG q, hu q]
    refine jr_if_eq (tgt := 569) hX dL_law_564 (by decide) (fun _ => ?_) (fun q => absurd (lw_cmp0 _) q)
    refine jr_goto (tgt := 2009) hX dL_law_569 (by decide) ?_
    refine jr_widen (cs1 := cs + 16) (sl1 := sl + 564) (by show cs + 1 + _ + 0 ≤ _; omega) (by show sl + 6 + _ + 0 ≤ _; omega) ?_
    exact jr_forget (fun _ _ h => h) (fun i v h => by rcases i with _ | _ | _ | _ | _ | _ | _ | _ | _ | i <;> first | exact h | exact absurd h (by simp)) (kk _ _ _ (by omega) hli)
set_option maxHeartbeats 4000000 in
set_option maxRecDepth 100000 in
theorem lc_bring (hX : jj_Cx X D cL_law RL 9 (some .boolean) nm rm tb) (hSt : jj_St X D) {S : Nat} {xs : Nat → Int32} (hxs : jj_XS X D S xs) (hly : ly K P) (hk161 : K 161 = some (11, 1)) (hKn0 : ∀ a, 162 ≤ a → K a = none) {t : Nat} (hI : li t I) (ht : t + 1 ≤ 512) {i : Nat} (hi : i + 7 ≤ S ∧ S ≤ 3584) (hn : 162 ≤ n) (hrf : 10 ≤ rm.frames) (hrl : 200 ≤ rm.locals) (hrc : cs + 16 ≤ rm.cells) (hrs : sl + 564 ≤ rm.slots) (kk : ∀ n1 I1 G1, 162 ≤ n1 → li (t + 1) I1 → jj_J X D 9 (cs + 16) (sl + 564) Q n1 K I1 P G1 2009 (lw_L i) []) : jj_J X D 9 cs sl Q n K I P G 572 (lw_L i) [] := by
  obtain ⟨c, S1, h1, h2⟩ := lj_bring (jj_fl hX) hly hk161 hKn0 hI ht (xs (i + 1)) (xs (i + 2)) (xs (i + 3)) (xs (i + 4))
  refine jr_aload_n hX dL_law_572 rfl ?_
  refine jr_aload_n hX dL_law_573 rfl ?_
  refine jr_iload hX dL_law_574 rfl ?_
  refine jr_iconst (v := 1) hX dL_law_576 (by decide) ?_
  refine jr_iadd hX dL_law_577 ?_
  refine jr_sld hX hxs (show nI i + _ = _ from nI_add i 1) (by omega) dL_law_578 ?_
  refine jr_aload_n hX dL_law_579 rfl ?_
  refine jr_iload hX dL_law_580 rfl ?_
  refine jr_iconst (v := 2) hX dL_law_582 (by decide) ?_
  refine jr_iadd hX dL_law_583 ?_
  refine jr_sld hX hxs (show nI i + _ = _ from nI_add i 2) (by omega) dL_law_584 ?_
  refine jr_aload_n hX dL_law_585 rfl ?_
  refine jr_iload hX dL_law_586 rfl ?_
  refine jr_iconst (v := 3) hX dL_law_588 (by decide) ?_
  refine jr_iadd hX dL_law_589 ?_
  refine jr_sld hX hxs (show nI i + _ = _ from nI_add i 3) (by omega) dL_law_590 ?_
  refine jr_aload_n hX dL_law_591 rfl ?_
  refine jr_iload hX dL_law_592 rfl ?_
  refine jr_iconst (v := 4) hX dL_law_594 (by decide) ?_
  refine jr_iadd hX dL_law_595 ?_
  refine jr_sld hX hxs (show nI i + _ = _ from nI_add i 4) (by omega) dL_law_596 ?_
  refine jr_aload_n hX dL_law_597 rfl ?_
  refine jr_relM (jr_runSX hX hSt kM_L_127 (h1 n G hn) rfl rfl dL_law_598 (jj_rb (by show 9 + 1 ≤ _; omega) (by show 8 + (_ + 11) + 160 ≤ _; omega)) ⟨by show cs + 1 ≤ _; omega, by show sl + 6 ≤ _; omega⟩ rfl) ?_
  intro r1 n1 K1 I1 P1 G1 hq
  obtain ⟨e1, hn1, e2, e3, v, hv, hG⟩ := hq
  subst e1
  subst e2
  subst e3
  simp only [Option.toList, List.cons_append, List.nil_append]
  obtain ⟨rm2, ⟨b1, b2, b3, b4⟩, h3⟩ := h2 v I1 hv n1 G1 (by omega)
  refine jr_istore hX dL_law_601 rfl ?_
  refine jr_aload_n hX dL_law_603 rfl ?_
  refine jr_aload_n hX dL_law_604 rfl ?_
  refine jr_iload hX dL_law_605 rfl ?_
  refine jr_iconst (v := 1) hX dL_law_607 (by decide) ?_
  refine jr_iadd hX dL_law_608 ?_
  refine jr_sld hX hxs (show nI i + _ = _ from nI_add i 1) (by omega) dL_law_609 ?_
  refine jr_aload_n hX dL_law_610 rfl ?_
  refine jr_iload hX dL_law_611 rfl ?_
  refine jr_iconst (v := 2) hX dL_law_613 (by decide) ?_
  refine jr_iadd hX dL_law_614 ?_
  refine jr_sld hX hxs (show nI i + _ = _ from nI_add i 2) (by omega) dL_law_615 ?_
  refine jr_aload_n hX dL_law_616 rfl ?_
  refine jr_iload hX dL_law_617 rfl ?_
  refine jr_iconst (v := 3) hX dL_law_619 (by decide) ?_
  refine jr_iadd hX dL_law_620 ?_
  refine jr_sld hX hxs (show nI i + _ = _ from nI_add i 3) (by omega) dL_law_621 ?_
  refine jr_aload_n hX dL_law_622 rfl ?_
  refine jr_iload hX dL_law_623 rfl ?_
  refine jr_iconst (v := 4) hX dL_law_625 (by decide) ?_
  refine jr_iadd hX dL_law_626 ?_
  refine jr_sld hX hxs (show nI i + _ = _ from nI_add i 4) (by omega) dL_law_627 ?_
  refine jr_relM (jr_runV hX hSt kM_L_130 h3 rfl rfl (ly_kMo hly) ⟨_, _, rfl, by decide⟩ dL_law_628 (jj_rb (by omega) (by omega)) ⟨by show cs + 1 + _ ≤ _; omega, by show sl + 6 + _ ≤ _; omega⟩ rfl) ?_
  intro r2 n2 K2 I2 P2 G2 hq
  obtain ⟨⟨u, e1, hu⟩, hn2, e2, e3, e4, h150, hli⟩ := hq
  subst e1
  subst e2
  subst e3
  subst e4
  simp only [Option.toList, List.cons_append, List.nil_append]
  refine jr_istore hX dL_law_631 rfl ?_
  refine jr_aload_n hX dL_law_633 rfl ?_
  refine jr_ret (jr_runV hX hSt kM_L_106 (c_thrown (jj_fl hX) hly) rfl rfl (ly_kMo hly) ⟨_, _, rfl, by decide⟩ dL_law_634 (jj_rb (by show 0 + 1 ≤ _; omega) (by show 8 + (_ + 11) + 0 ≤ _; omega)) ⟨by show cs + 1 + _ + 0 ≤ _; omega, by show sl + 6 + _ + 0 ≤ _; omega⟩ rfl) ?_
  rw [h150]
  refine jr_iload hX dL_law_637 rfl ?_
  refine jr_icmp_eq (tgt := 644) hX dL_law_639 (by decide) (fun _ => ?_) (fun q => absurd rfl q)
  refine jr_iload hX dL_law_644 rfl ?_
  refine jr_if_ne (tgt := 661) hX dL_law_646 (by decide) (fun _ => ?_) (fun q => ?_)
  · refine jr_goto (tgt := 2009) hX dL_law_661 (by decide) ?_
    refine jr_widen (cs1 := cs + 16) (sl1 := sl + 564) (by show cs + 1 + _ + 0 ≤ _; omega) (by show sl + 6 + _ + 0 ≤ _; omega) ?_
    exact jr_forget (fun _ _ h => h) (fun i v h => by rcases i with _ | _ | _ | _ | _ | _ | _ | _ | _ | i <;> first | exact h | exact absurd h (by simp)) (kk _ _ _ (by omega) hli)
  · refine jr_aload_n hX dL_law_649 rfl ?_
    refine jr_iconst (v := 0) hX dL_law_650 (by decide) ?_
    refine jr_lald hX hk161 (show _ = nI 0 from rfl) (by decide) dL_law_651 ?_
    refine jr_iload hX dL_law_652 rfl ?_
    refine jr_i2l hX dL_law_654 ?_
    refine jr_lcmp hX dL_law_655 ?_
    rw [hG q, hu q]
    refine jr_if_eq (tgt := 661) hX dL_law_656 (by decide) (fun _ => ?_) (fun q => absurd (lw_cmp0 _) q)
    refine jr_goto (tgt := 2009) hX dL_law_661 (by decide) ?_
    refine jr_widen (cs1 := cs + 16) (sl1 := sl + 564) (by show cs + 1 + _ + 0 ≤ _; omega) (by show sl + 6 + _ + 0 ≤ _; omega) ?_
    exact jr_forget (fun _ _ h => h) (fun i v h => by rcases i with _ | _ | _ | _ | _ | _ | _ | _ | _ | i <;> first | exact h | exact absurd h (by simp)) (kk _ _ _ (by omega) hli)
set_option maxHeartbeats 4000000 in
set_option maxRecDepth 100000 in
theorem lc_sell (hX : jj_Cx X D cL_law RL 9 (some .boolean) nm rm tb) (hSt : jj_St X D) {S : Nat} {xs : Nat → Int32} (hxs : jj_XS X D S xs) (hly : ly K P) (hk161 : K 161 = some (11, 1)) (hKn0 : ∀ a, 162 ≤ a → K a = none) {t : Nat} (hI : li t I) (ht : t + 1 ≤ 512) {i : Nat} (hi : i + 7 ≤ S ∧ S ≤ 3584) (hn : 162 ≤ n) (hrf : 10 ≤ rm.frames) (hrl : 200 ≤ rm.locals) (hrc : cs + 16 ≤ rm.cells) (hrs : sl + 564 ≤ rm.slots) (kk : ∀ n1 I1 G1, 162 ≤ n1 → li (t + 1) I1 → jj_J X D 9 (cs + 16) (sl + 564) Q n1 K I1 P G1 2009 (lw_L i) []) : jj_J X D 9 cs sl Q n K I P G 664 (lw_L i) [] := by
  obtain ⟨c, S1, h1, h2⟩ := lj_sell (jj_fl hX) hly hk161 hKn0 hI ht (xs (i + 1)) (xs (i + 2)) (xs (i + 3)) (xs (i + 4))
  refine jr_aload_n hX dL_law_664 rfl ?_
  refine jr_aload_n hX dL_law_665 rfl ?_
  refine jr_iload hX dL_law_666 rfl ?_
  refine jr_iconst (v := 1) hX dL_law_668 (by decide) ?_
  refine jr_iadd hX dL_law_669 ?_
  refine jr_sld hX hxs (show nI i + _ = _ from nI_add i 1) (by omega) dL_law_670 ?_
  refine jr_aload_n hX dL_law_671 rfl ?_
  refine jr_iload hX dL_law_672 rfl ?_
  refine jr_iconst (v := 2) hX dL_law_674 (by decide) ?_
  refine jr_iadd hX dL_law_675 ?_
  refine jr_sld hX hxs (show nI i + _ = _ from nI_add i 2) (by omega) dL_law_676 ?_
  refine jr_aload_n hX dL_law_677 rfl ?_
  refine jr_iload hX dL_law_678 rfl ?_
  refine jr_iconst (v := 3) hX dL_law_680 (by decide) ?_
  refine jr_iadd hX dL_law_681 ?_
  refine jr_sld hX hxs (show nI i + _ = _ from nI_add i 3) (by omega) dL_law_682 ?_
  refine jr_aload_n hX dL_law_683 rfl ?_
  refine jr_iload hX dL_law_684 rfl ?_
  refine jr_iconst (v := 4) hX dL_law_686 (by decide) ?_
  refine jr_iadd hX dL_law_687 ?_
  refine jr_sld hX hxs (show nI i + _ = _ from nI_add i 4) (by omega) dL_law_688 ?_
  refine jr_aload_n hX dL_law_689 rfl ?_
  refine jr_relM (jr_runSX hX hSt kM_L_131 (h1 n G hn) rfl rfl dL_law_690 (jj_rb (by show 9 + 1 ≤ _; omega) (by show 8 + (_ + 11) + 160 ≤ _; omega)) ⟨by show cs + 1 ≤ _; omega, by show sl + 6 ≤ _; omega⟩ rfl) ?_
  intro r1 n1 K1 I1 P1 G1 hq
  obtain ⟨e1, hn1, e2, e3, v, hv, hG⟩ := hq
  subst e1
  subst e2
  subst e3
  simp only [Option.toList, List.cons_append, List.nil_append]
  obtain ⟨rm2, ⟨b1, b2, b3, b4⟩, h3⟩ := h2 v I1 hv n1 G1 (by omega)
  refine jr_istore hX dL_law_693 rfl ?_
  refine jr_aload_n hX dL_law_695 rfl ?_
  refine jr_aload_n hX dL_law_696 rfl ?_
  refine jr_iload hX dL_law_697 rfl ?_
  refine jr_iconst (v := 1) hX dL_law_699 (by decide) ?_
  refine jr_iadd hX dL_law_700 ?_
  refine jr_sld hX hxs (show nI i + _ = _ from nI_add i 1) (by omega) dL_law_701 ?_
  refine jr_aload_n hX dL_law_702 rfl ?_
  refine jr_iload hX dL_law_703 rfl ?_
  refine jr_iconst (v := 2) hX dL_law_705 (by decide) ?_
  refine jr_iadd hX dL_law_706 ?_
  refine jr_sld hX hxs (show nI i + _ = _ from nI_add i 2) (by omega) dL_law_707 ?_
  refine jr_aload_n hX dL_law_708 rfl ?_
  refine jr_iload hX dL_law_709 rfl ?_
  refine jr_iconst (v := 3) hX dL_law_711 (by decide) ?_
  refine jr_iadd hX dL_law_712 ?_
  refine jr_sld hX hxs (show nI i + _ = _ from nI_add i 3) (by omega) dL_law_713 ?_
  refine jr_aload_n hX dL_law_714 rfl ?_
  refine jr_iload hX dL_law_715 rfl ?_
  refine jr_iconst (v := 4) hX dL_law_717 (by decide) ?_
  refine jr_iadd hX dL_law_718 ?_
  refine jr_sld hX hxs (show nI i + _ = _ from nI_add i 4) (by omega) dL_law_719 ?_
  refine jr_relM (jr_runV hX hSt kM_L_133 h3 rfl rfl (ly_kMo hly) ⟨_, _, rfl, by decide⟩ dL_law_720 (jj_rb (by omega) (by omega)) ⟨by show cs + 1 + _ ≤ _; omega, by show sl + 6 + _ ≤ _; omega⟩ rfl) ?_
  intro r2 n2 K2 I2 P2 G2 hq
  obtain ⟨⟨u, e1, hu⟩, hn2, e2, e3, e4, h150, hli⟩ := hq
  subst e1
  subst e2
  subst e3
  subst e4
  simp only [Option.toList, List.cons_append, List.nil_append]
  refine jr_istore hX dL_law_723 rfl ?_
  refine jr_aload_n hX dL_law_725 rfl ?_
  refine jr_ret (jr_runV hX hSt kM_L_106 (c_thrown (jj_fl hX) hly) rfl rfl (ly_kMo hly) ⟨_, _, rfl, by decide⟩ dL_law_726 (jj_rb (by show 0 + 1 ≤ _; omega) (by show 8 + (_ + 11) + 0 ≤ _; omega)) ⟨by show cs + 1 + _ + 0 ≤ _; omega, by show sl + 6 + _ + 0 ≤ _; omega⟩ rfl) ?_
  rw [h150]
  refine jr_iload hX dL_law_729 rfl ?_
  refine jr_icmp_eq (tgt := 736) hX dL_law_731 (by decide) (fun _ => ?_) (fun q => absurd rfl q)
  refine jr_iload hX dL_law_736 rfl ?_
  refine jr_if_ne (tgt := 753) hX dL_law_738 (by decide) (fun _ => ?_) (fun q => ?_)
  · refine jr_goto (tgt := 2009) hX dL_law_753 (by decide) ?_
    refine jr_widen (cs1 := cs + 16) (sl1 := sl + 564) (by show cs + 1 + _ + 0 ≤ _; omega) (by show sl + 6 + _ + 0 ≤ _; omega) ?_
    exact jr_forget (fun _ _ h => h) (fun i v h => by rcases i with _ | _ | _ | _ | _ | _ | _ | _ | _ | i <;> first | exact h | exact absurd h (by simp)) (kk _ _ _ (by omega) hli)
  · refine jr_aload_n hX dL_law_741 rfl ?_
    refine jr_iconst (v := 0) hX dL_law_742 (by decide) ?_
    refine jr_lald hX hk161 (show _ = nI 0 from rfl) (by decide) dL_law_743 ?_
    refine jr_iload hX dL_law_744 rfl ?_
    refine jr_i2l hX dL_law_746 ?_
    refine jr_lcmp hX dL_law_747 ?_
    rw [hG q, hu q]
    refine jr_if_eq (tgt := 753) hX dL_law_748 (by decide) (fun _ => ?_) (fun q => absurd (lw_cmp0 _) q)
    refine jr_goto (tgt := 2009) hX dL_law_753 (by decide) ?_
    refine jr_widen (cs1 := cs + 16) (sl1 := sl + 564) (by show cs + 1 + _ + 0 ≤ _; omega) (by show sl + 6 + _ + 0 ≤ _; omega) ?_
    exact jr_forget (fun _ _ h => h) (fun i v h => by rcases i with _ | _ | _ | _ | _ | _ | _ | _ | _ | i <;> first | exact h | exact absurd h (by simp)) (kk _ _ _ (by omega) hli)
set_option maxHeartbeats 4000000 in
set_option maxRecDepth 100000 in
theorem lc_stock (hX : jj_Cx X D cL_law RL 9 (some .boolean) nm rm tb) (hSt : jj_St X D) {S : Nat} {xs : Nat → Int32} (hxs : jj_XS X D S xs) (hly : ly K P) (hk161 : K 161 = some (11, 1)) (hKn0 : ∀ a, 162 ≤ a → K a = none) {t : Nat} (hI : li t I) (ht : t + 1 ≤ 512) {i : Nat} (hi : i + 7 ≤ S ∧ S ≤ 3584) (hn : 162 ≤ n) (hrf : 10 ≤ rm.frames) (hrl : 200 ≤ rm.locals) (hrc : cs + 16 ≤ rm.cells) (hrs : sl + 564 ≤ rm.slots) (kk : ∀ n1 I1 G1, 162 ≤ n1 → li (t + 1) I1 → jj_J X D 9 (cs + 16) (sl + 564) Q n1 K I1 P G1 2009 (lw_L i) []) : jj_J X D 9 cs sl Q n K I P G 756 (lw_L i) [] := by
  obtain ⟨c, S1, h1, h2⟩ := lj_stock (jj_fl hX) hly hk161 hKn0 hI ht (xs (i + 1)) (xs (i + 2)) (xs (i + 3))
  refine jr_aload_n hX dL_law_756 rfl ?_
  refine jr_aload_n hX dL_law_757 rfl ?_
  refine jr_iload hX dL_law_758 rfl ?_
  refine jr_iconst (v := 1) hX dL_law_760 (by decide) ?_
  refine jr_iadd hX dL_law_761 ?_
  refine jr_sld hX hxs (show nI i + _ = _ from nI_add i 1) (by omega) dL_law_762 ?_
  refine jr_aload_n hX dL_law_763 rfl ?_
  refine jr_iload hX dL_law_764 rfl ?_
  refine jr_iconst (v := 2) hX dL_law_766 (by decide) ?_
  refine jr_iadd hX dL_law_767 ?_
  refine jr_sld hX hxs (show nI i + _ = _ from nI_add i 2) (by omega) dL_law_768 ?_
  refine jr_aload_n hX dL_law_769 rfl ?_
  refine jr_iload hX dL_law_770 rfl ?_
  refine jr_iconst (v := 3) hX dL_law_772 (by decide) ?_
  refine jr_iadd hX dL_law_773 ?_
  refine jr_sld hX hxs (show nI i + _ = _ from nI_add i 3) (by omega) dL_law_774 ?_
  refine jr_aload_n hX dL_law_775 rfl ?_
  refine jr_relM (jr_runSX hX hSt kM_L_134 (h1 n G hn) rfl rfl dL_law_776 (jj_rb (by show 9 + 1 ≤ _; omega) (by show 8 + (_ + 11) + 160 ≤ _; omega)) ⟨by show cs + 1 ≤ _; omega, by show sl + 6 ≤ _; omega⟩ rfl) ?_
  intro r1 n1 K1 I1 P1 G1 hq
  obtain ⟨e1, hn1, e2, e3, v, hv, hG⟩ := hq
  subst e1
  subst e2
  subst e3
  simp only [Option.toList, List.cons_append, List.nil_append]
  obtain ⟨rm2, ⟨b1, b2, b3, b4⟩, h3⟩ := h2 v I1 hv n1 G1 (by omega)
  refine jr_istore hX dL_law_779 rfl ?_
  refine jr_aload_n hX dL_law_781 rfl ?_
  refine jr_aload_n hX dL_law_782 rfl ?_
  refine jr_iload hX dL_law_783 rfl ?_
  refine jr_iconst (v := 1) hX dL_law_785 (by decide) ?_
  refine jr_iadd hX dL_law_786 ?_
  refine jr_sld hX hxs (show nI i + _ = _ from nI_add i 1) (by omega) dL_law_787 ?_
  refine jr_aload_n hX dL_law_788 rfl ?_
  refine jr_iload hX dL_law_789 rfl ?_
  refine jr_iconst (v := 2) hX dL_law_791 (by decide) ?_
  refine jr_iadd hX dL_law_792 ?_
  refine jr_sld hX hxs (show nI i + _ = _ from nI_add i 2) (by omega) dL_law_793 ?_
  refine jr_aload_n hX dL_law_794 rfl ?_
  refine jr_iload hX dL_law_795 rfl ?_
  refine jr_iconst (v := 3) hX dL_law_797 (by decide) ?_
  refine jr_iadd hX dL_law_798 ?_
  refine jr_sld hX hxs (show nI i + _ = _ from nI_add i 3) (by omega) dL_law_799 ?_
  refine jr_relM (jr_runV hX hSt kM_L_136 h3 rfl rfl (ly_kMo hly) ⟨_, _, rfl, by decide⟩ dL_law_800 (jj_rb (by omega) (by omega)) ⟨by show cs + 1 + _ ≤ _; omega, by show sl + 6 + _ ≤ _; omega⟩ rfl) ?_
  intro r2 n2 K2 I2 P2 G2 hq
  obtain ⟨⟨u, e1, hu⟩, hn2, e2, e3, e4, h150, hli⟩ := hq
  subst e1
  subst e2
  subst e3
  subst e4
  simp only [Option.toList, List.cons_append, List.nil_append]
  refine jr_istore hX dL_law_803 rfl ?_
  refine jr_aload_n hX dL_law_805 rfl ?_
  refine jr_ret (jr_runV hX hSt kM_L_106 (c_thrown (jj_fl hX) hly) rfl rfl (ly_kMo hly) ⟨_, _, rfl, by decide⟩ dL_law_806 (jj_rb (by show 0 + 1 ≤ _; omega) (by show 8 + (_ + 11) + 0 ≤ _; omega)) ⟨by show cs + 1 + _ + 0 ≤ _; omega, by show sl + 6 + _ + 0 ≤ _; omega⟩ rfl) ?_
  rw [h150]
  refine jr_iload hX dL_law_809 rfl ?_
  refine jr_icmp_eq (tgt := 816) hX dL_law_811 (by decide) (fun _ => ?_) (fun q => absurd rfl q)
  refine jr_iload hX dL_law_816 rfl ?_
  refine jr_if_ne (tgt := 833) hX dL_law_818 (by decide) (fun _ => ?_) (fun q => ?_)
  · refine jr_goto (tgt := 2009) hX dL_law_833 (by decide) ?_
    refine jr_widen (cs1 := cs + 16) (sl1 := sl + 564) (by show cs + 1 + _ + 0 ≤ _; omega) (by show sl + 6 + _ + 0 ≤ _; omega) ?_
    exact jr_forget (fun _ _ h => h) (fun i v h => by rcases i with _ | _ | _ | _ | _ | _ | _ | _ | _ | i <;> first | exact h | exact absurd h (by simp)) (kk _ _ _ (by omega) hli)
  · refine jr_aload_n hX dL_law_821 rfl ?_
    refine jr_iconst (v := 0) hX dL_law_822 (by decide) ?_
    refine jr_lald hX hk161 (show _ = nI 0 from rfl) (by decide) dL_law_823 ?_
    refine jr_iload hX dL_law_824 rfl ?_
    refine jr_i2l hX dL_law_826 ?_
    refine jr_lcmp hX dL_law_827 ?_
    rw [hG q, hu q]
    refine jr_if_eq (tgt := 833) hX dL_law_828 (by decide) (fun _ => ?_) (fun q => absurd (lw_cmp0 _) q)
    refine jr_goto (tgt := 2009) hX dL_law_833 (by decide) ?_
    refine jr_widen (cs1 := cs + 16) (sl1 := sl + 564) (by show cs + 1 + _ + 0 ≤ _; omega) (by show sl + 6 + _ + 0 ≤ _; omega) ?_
    exact jr_forget (fun _ _ h => h) (fun i v h => by rcases i with _ | _ | _ | _ | _ | _ | _ | _ | _ | i <;> first | exact h | exact absurd h (by simp)) (kk _ _ _ (by omega) hli)
set_option maxHeartbeats 4000000 in
set_option maxRecDepth 100000 in
theorem lc_merchant (hX : jj_Cx X D cL_law RL 9 (some .boolean) nm rm tb) (hSt : jj_St X D) {S : Nat} {xs : Nat → Int32} (hxs : jj_XS X D S xs) (hly : ly K P) (hk161 : K 161 = some (11, 1)) (hKn0 : ∀ a, 162 ≤ a → K a = none) {t : Nat} (hI : li t I) (ht : t + 1 ≤ 512) {i : Nat} (hi : i + 7 ≤ S ∧ S ≤ 3584) (hn : 162 ≤ n) (hrf : 10 ≤ rm.frames) (hrl : 200 ≤ rm.locals) (hrc : cs + 16 ≤ rm.cells) (hrs : sl + 564 ≤ rm.slots) (kk : ∀ n1 I1 G1, 162 ≤ n1 → li (t + 1) I1 → jj_J X D 9 (cs + 16) (sl + 564) Q n1 K I1 P G1 2009 (lw_L i) []) : jj_J X D 9 cs sl Q n K I P G 836 (lw_L i) [] := by
  obtain ⟨c, S1, h1, h2⟩ := lj_merchant (jj_fl hX) hly hk161 hKn0 hI ht (xs (i + 1)) (xs (i + 2))
  refine jr_aload_n hX dL_law_836 rfl ?_
  refine jr_aload_n hX dL_law_837 rfl ?_
  refine jr_iload hX dL_law_838 rfl ?_
  refine jr_iconst (v := 1) hX dL_law_840 (by decide) ?_
  refine jr_iadd hX dL_law_841 ?_
  refine jr_sld hX hxs (show nI i + _ = _ from nI_add i 1) (by omega) dL_law_842 ?_
  refine jr_aload_n hX dL_law_843 rfl ?_
  refine jr_iload hX dL_law_844 rfl ?_
  refine jr_iconst (v := 2) hX dL_law_846 (by decide) ?_
  refine jr_iadd hX dL_law_847 ?_
  refine jr_sld hX hxs (show nI i + _ = _ from nI_add i 2) (by omega) dL_law_848 ?_
  refine jr_aload_n hX dL_law_849 rfl ?_
  refine jr_relM (jr_runSX hX hSt kM_L_137 (h1 n G hn) rfl rfl dL_law_850 (jj_rb (by show 9 + 1 ≤ _; omega) (by show 8 + (_ + 11) + 160 ≤ _; omega)) ⟨by show cs + 1 ≤ _; omega, by show sl + 6 ≤ _; omega⟩ rfl) ?_
  intro r1 n1 K1 I1 P1 G1 hq
  obtain ⟨e1, hn1, e2, e3, v, hv, hG⟩ := hq
  subst e1
  subst e2
  subst e3
  simp only [Option.toList, List.cons_append, List.nil_append]
  obtain ⟨rm2, ⟨b1, b2, b3, b4⟩, h3⟩ := h2 v I1 hv n1 G1 (by omega)
  refine jr_istore hX dL_law_853 rfl ?_
  refine jr_aload_n hX dL_law_855 rfl ?_
  refine jr_aload_n hX dL_law_856 rfl ?_
  refine jr_iload hX dL_law_857 rfl ?_
  refine jr_iconst (v := 1) hX dL_law_859 (by decide) ?_
  refine jr_iadd hX dL_law_860 ?_
  refine jr_sld hX hxs (show nI i + _ = _ from nI_add i 1) (by omega) dL_law_861 ?_
  refine jr_aload_n hX dL_law_862 rfl ?_
  refine jr_iload hX dL_law_863 rfl ?_
  refine jr_iconst (v := 2) hX dL_law_865 (by decide) ?_
  refine jr_iadd hX dL_law_866 ?_
  refine jr_sld hX hxs (show nI i + _ = _ from nI_add i 2) (by omega) dL_law_867 ?_
  refine jr_relM (jr_runV hX hSt kM_L_139 h3 rfl rfl (ly_kMo hly) ⟨_, _, rfl, by decide⟩ dL_law_868 (jj_rb (by omega) (by omega)) ⟨by show cs + 1 + _ ≤ _; omega, by show sl + 6 + _ ≤ _; omega⟩ rfl) ?_
  intro r2 n2 K2 I2 P2 G2 hq
  obtain ⟨⟨u, e1, hu⟩, hn2, e2, e3, e4, h150, hli⟩ := hq
  subst e1
  subst e2
  subst e3
  subst e4
  simp only [Option.toList, List.cons_append, List.nil_append]
  refine jr_istore hX dL_law_871 rfl ?_
  refine jr_aload_n hX dL_law_873 rfl ?_
  refine jr_ret (jr_runV hX hSt kM_L_106 (c_thrown (jj_fl hX) hly) rfl rfl (ly_kMo hly) ⟨_, _, rfl, by decide⟩ dL_law_874 (jj_rb (by show 0 + 1 ≤ _; omega) (by show 8 + (_ + 11) + 0 ≤ _; omega)) ⟨by show cs + 1 + _ + 0 ≤ _; omega, by show sl + 6 + _ + 0 ≤ _; omega⟩ rfl) ?_
  rw [h150]
  refine jr_iload hX dL_law_877 rfl ?_
  refine jr_icmp_eq (tgt := 884) hX dL_law_879 (by decide) (fun _ => ?_) (fun q => absurd rfl q)
  refine jr_iload hX dL_law_884 rfl ?_
  refine jr_if_ne (tgt := 901) hX dL_law_886 (by decide) (fun _ => ?_) (fun q => ?_)
  · refine jr_goto (tgt := 2009) hX dL_law_901 (by decide) ?_
    refine jr_widen (cs1 := cs + 16) (sl1 := sl + 564) (by show cs + 1 + _ + 0 ≤ _; omega) (by show sl + 6 + _ + 0 ≤ _; omega) ?_
    exact jr_forget (fun _ _ h => h) (fun i v h => by rcases i with _ | _ | _ | _ | _ | _ | _ | _ | _ | i <;> first | exact h | exact absurd h (by simp)) (kk _ _ _ (by omega) hli)
  · refine jr_aload_n hX dL_law_889 rfl ?_
    refine jr_iconst (v := 0) hX dL_law_890 (by decide) ?_
    refine jr_lald hX hk161 (show _ = nI 0 from rfl) (by decide) dL_law_891 ?_
    refine jr_iload hX dL_law_892 rfl ?_
    refine jr_i2l hX dL_law_894 ?_
    refine jr_lcmp hX dL_law_895 ?_
    rw [hG q, hu q]
    refine jr_if_eq (tgt := 901) hX dL_law_896 (by decide) (fun _ => ?_) (fun q => absurd (lw_cmp0 _) q)
    refine jr_goto (tgt := 2009) hX dL_law_901 (by decide) ?_
    refine jr_widen (cs1 := cs + 16) (sl1 := sl + 564) (by show cs + 1 + _ + 0 ≤ _; omega) (by show sl + 6 + _ + 0 ≤ _; omega) ?_
    exact jr_forget (fun _ _ h => h) (fun i v h => by rcases i with _ | _ | _ | _ | _ | _ | _ | _ | _ | i <;> first | exact h | exact absurd h (by simp)) (kk _ _ _ (by omega) hli)
set_option maxHeartbeats 4000000 in
set_option maxRecDepth 100000 in
theorem lc_build (hX : jj_Cx X D cL_law RL 9 (some .boolean) nm rm tb) (hSt : jj_St X D) {S : Nat} {xs : Nat → Int32} (hxs : jj_XS X D S xs) (hly : ly K P) (hk161 : K 161 = some (11, 1)) (hKn0 : ∀ a, 162 ≤ a → K a = none) {t : Nat} (hI : li t I) (ht : t + 1 ≤ 512) {i : Nat} (hi : i + 7 ≤ S ∧ S ≤ 3584) (hn : 162 ≤ n) (hrf : 10 ≤ rm.frames) (hrl : 200 ≤ rm.locals) (hrc : cs + 16 ≤ rm.cells) (hrs : sl + 564 ≤ rm.slots) (kk : ∀ n1 I1 G1, 162 ≤ n1 → li (t + 1) I1 → jj_J X D 9 (cs + 16) (sl + 564) Q n1 K I1 P G1 2009 (lw_L i) []) : jj_J X D 9 cs sl Q n K I P G 904 (lw_L i) [] := by
  obtain ⟨c, S1, h1, h2⟩ := lj_build (jj_fl hX) hly hk161 hKn0 hI ht (xs (i + 1)) (xs (i + 2)) (xs (i + 3))
  refine jr_aload_n hX dL_law_904 rfl ?_
  refine jr_aload_n hX dL_law_905 rfl ?_
  refine jr_iload hX dL_law_906 rfl ?_
  refine jr_iconst (v := 1) hX dL_law_908 (by decide) ?_
  refine jr_iadd hX dL_law_909 ?_
  refine jr_sld hX hxs (show nI i + _ = _ from nI_add i 1) (by omega) dL_law_910 ?_
  refine jr_aload_n hX dL_law_911 rfl ?_
  refine jr_iload hX dL_law_912 rfl ?_
  refine jr_iconst (v := 2) hX dL_law_914 (by decide) ?_
  refine jr_iadd hX dL_law_915 ?_
  refine jr_sld hX hxs (show nI i + _ = _ from nI_add i 2) (by omega) dL_law_916 ?_
  refine jr_aload_n hX dL_law_917 rfl ?_
  refine jr_iload hX dL_law_918 rfl ?_
  refine jr_iconst (v := 3) hX dL_law_920 (by decide) ?_
  refine jr_iadd hX dL_law_921 ?_
  refine jr_sld hX hxs (show nI i + _ = _ from nI_add i 3) (by omega) dL_law_922 ?_
  refine jr_aload_n hX dL_law_923 rfl ?_
  refine jr_relM (jr_runSX hX hSt kM_L_140 (h1 n G hn) rfl rfl dL_law_924 (jj_rb (by show 9 + 1 ≤ _; omega) (by show 8 + (_ + 11) + 160 ≤ _; omega)) ⟨by show cs + 1 ≤ _; omega, by show sl + 6 ≤ _; omega⟩ rfl) ?_
  intro r1 n1 K1 I1 P1 G1 hq
  obtain ⟨e1, hn1, e2, e3, v, hv, hG⟩ := hq
  subst e1
  subst e2
  subst e3
  simp only [Option.toList, List.cons_append, List.nil_append]
  obtain ⟨rm2, ⟨b1, b2, b3, b4⟩, h3⟩ := h2 v I1 hv n1 G1 (by omega)
  refine jr_istore hX dL_law_927 rfl ?_
  refine jr_aload_n hX dL_law_929 rfl ?_
  refine jr_aload_n hX dL_law_930 rfl ?_
  refine jr_iload hX dL_law_931 rfl ?_
  refine jr_iconst (v := 1) hX dL_law_933 (by decide) ?_
  refine jr_iadd hX dL_law_934 ?_
  refine jr_sld hX hxs (show nI i + _ = _ from nI_add i 1) (by omega) dL_law_935 ?_
  refine jr_aload_n hX dL_law_936 rfl ?_
  refine jr_iload hX dL_law_937 rfl ?_
  refine jr_iconst (v := 2) hX dL_law_939 (by decide) ?_
  refine jr_iadd hX dL_law_940 ?_
  refine jr_sld hX hxs (show nI i + _ = _ from nI_add i 2) (by omega) dL_law_941 ?_
  refine jr_aload_n hX dL_law_942 rfl ?_
  refine jr_iload hX dL_law_943 rfl ?_
  refine jr_iconst (v := 3) hX dL_law_945 (by decide) ?_
  refine jr_iadd hX dL_law_946 ?_
  refine jr_sld hX hxs (show nI i + _ = _ from nI_add i 3) (by omega) dL_law_947 ?_
  refine jr_relM (jr_runV hX hSt kM_L_142 h3 rfl rfl (ly_kMo hly) ⟨_, _, rfl, by decide⟩ dL_law_948 (jj_rb (by omega) (by omega)) ⟨by show cs + 1 + _ ≤ _; omega, by show sl + 6 + _ ≤ _; omega⟩ rfl) ?_
  intro r2 n2 K2 I2 P2 G2 hq
  obtain ⟨⟨u, e1, hu⟩, hn2, e2, e3, e4, h150, hli⟩ := hq
  subst e1
  subst e2
  subst e3
  subst e4
  simp only [Option.toList, List.cons_append, List.nil_append]
  refine jr_istore hX dL_law_951 rfl ?_
  refine jr_aload_n hX dL_law_953 rfl ?_
  refine jr_ret (jr_runV hX hSt kM_L_106 (c_thrown (jj_fl hX) hly) rfl rfl (ly_kMo hly) ⟨_, _, rfl, by decide⟩ dL_law_954 (jj_rb (by show 0 + 1 ≤ _; omega) (by show 8 + (_ + 11) + 0 ≤ _; omega)) ⟨by show cs + 1 + _ + 0 ≤ _; omega, by show sl + 6 + _ + 0 ≤ _; omega⟩ rfl) ?_
  rw [h150]
  refine jr_iload hX dL_law_957 rfl ?_
  refine jr_icmp_eq (tgt := 964) hX dL_law_959 (by decide) (fun _ => ?_) (fun q => absurd rfl q)
  refine jr_iload hX dL_law_964 rfl ?_
  refine jr_if_ne (tgt := 981) hX dL_law_966 (by decide) (fun _ => ?_) (fun q => ?_)
  · refine jr_goto (tgt := 2009) hX dL_law_981 (by decide) ?_
    refine jr_widen (cs1 := cs + 16) (sl1 := sl + 564) (by show cs + 1 + _ + 0 ≤ _; omega) (by show sl + 6 + _ + 0 ≤ _; omega) ?_
    exact jr_forget (fun _ _ h => h) (fun i v h => by rcases i with _ | _ | _ | _ | _ | _ | _ | _ | _ | i <;> first | exact h | exact absurd h (by simp)) (kk _ _ _ (by omega) hli)
  · refine jr_aload_n hX dL_law_969 rfl ?_
    refine jr_iconst (v := 0) hX dL_law_970 (by decide) ?_
    refine jr_lald hX hk161 (show _ = nI 0 from rfl) (by decide) dL_law_971 ?_
    refine jr_iload hX dL_law_972 rfl ?_
    refine jr_i2l hX dL_law_974 ?_
    refine jr_lcmp hX dL_law_975 ?_
    rw [hG q, hu q]
    refine jr_if_eq (tgt := 981) hX dL_law_976 (by decide) (fun _ => ?_) (fun q => absurd (lw_cmp0 _) q)
    refine jr_goto (tgt := 2009) hX dL_law_981 (by decide) ?_
    refine jr_widen (cs1 := cs + 16) (sl1 := sl + 564) (by show cs + 1 + _ + 0 ≤ _; omega) (by show sl + 6 + _ + 0 ≤ _; omega) ?_
    exact jr_forget (fun _ _ h => h) (fun i v h => by rcases i with _ | _ | _ | _ | _ | _ | _ | _ | _ | i <;> first | exact h | exact absurd h (by simp)) (kk _ _ _ (by omega) hli)
set_option maxHeartbeats 4000000 in
set_option maxRecDepth 100000 in
theorem lc_load (hX : jj_Cx X D cL_law RL 9 (some .boolean) nm rm tb) (hSt : jj_St X D) {S : Nat} {xs : Nat → Int32} (hxs : jj_XS X D S xs) (hly : ly K P) (hk161 : K 161 = some (11, 1)) (hKn0 : ∀ a, 162 ≤ a → K a = none) {t : Nat} (hI : li t I) (ht : t + 1 ≤ 512) {i : Nat} (hi : i + 7 ≤ S ∧ S ≤ 3584) (hn : 162 ≤ n) (hrf : 10 ≤ rm.frames) (hrl : 200 ≤ rm.locals) (hrc : cs + 16 ≤ rm.cells) (hrs : sl + 564 ≤ rm.slots) (kk : ∀ n1 I1 G1, 162 ≤ n1 → li (t + 1) I1 → jj_J X D 9 (cs + 16) (sl + 564) Q n1 K I1 P G1 2009 (lw_L i) []) : jj_J X D 9 cs sl Q n K I P G 984 (lw_L i) [] := by
  obtain ⟨c, S1, h1, h2⟩ := lj_load (jj_fl hX) hly hk161 hKn0 hI ht (xs (i + 1)) (xs (i + 2)) (xs (i + 3))
  refine jr_aload_n hX dL_law_984 rfl ?_
  refine jr_aload_n hX dL_law_985 rfl ?_
  refine jr_iload hX dL_law_986 rfl ?_
  refine jr_iconst (v := 1) hX dL_law_988 (by decide) ?_
  refine jr_iadd hX dL_law_989 ?_
  refine jr_sld hX hxs (show nI i + _ = _ from nI_add i 1) (by omega) dL_law_990 ?_
  refine jr_aload_n hX dL_law_991 rfl ?_
  refine jr_iload hX dL_law_992 rfl ?_
  refine jr_iconst (v := 2) hX dL_law_994 (by decide) ?_
  refine jr_iadd hX dL_law_995 ?_
  refine jr_sld hX hxs (show nI i + _ = _ from nI_add i 2) (by omega) dL_law_996 ?_
  refine jr_aload_n hX dL_law_997 rfl ?_
  refine jr_iload hX dL_law_998 rfl ?_
  refine jr_iconst (v := 3) hX dL_law_1000 (by decide) ?_
  refine jr_iadd hX dL_law_1001 ?_
  refine jr_sld hX hxs (show nI i + _ = _ from nI_add i 3) (by omega) dL_law_1002 ?_
  refine jr_aload_n hX dL_law_1003 rfl ?_
  refine jr_relM (jr_runSX hX hSt kM_L_143 (h1 n G hn) rfl rfl dL_law_1004 (jj_rb (by show 9 + 1 ≤ _; omega) (by show 8 + (_ + 11) + 160 ≤ _; omega)) ⟨by show cs + 1 ≤ _; omega, by show sl + 6 ≤ _; omega⟩ rfl) ?_
  intro r1 n1 K1 I1 P1 G1 hq
  obtain ⟨e1, hn1, e2, e3, v, hv, hG⟩ := hq
  subst e1
  subst e2
  subst e3
  simp only [Option.toList, List.cons_append, List.nil_append]
  obtain ⟨rm2, ⟨b1, b2, b3, b4⟩, h3⟩ := h2 v I1 hv n1 G1 (by omega)
  refine jr_istore hX dL_law_1007 rfl ?_
  refine jr_aload_n hX dL_law_1009 rfl ?_
  refine jr_aload_n hX dL_law_1010 rfl ?_
  refine jr_iload hX dL_law_1011 rfl ?_
  refine jr_iconst (v := 1) hX dL_law_1013 (by decide) ?_
  refine jr_iadd hX dL_law_1014 ?_
  refine jr_sld hX hxs (show nI i + _ = _ from nI_add i 1) (by omega) dL_law_1015 ?_
  refine jr_aload_n hX dL_law_1016 rfl ?_
  refine jr_iload hX dL_law_1017 rfl ?_
  refine jr_iconst (v := 2) hX dL_law_1019 (by decide) ?_
  refine jr_iadd hX dL_law_1020 ?_
  refine jr_sld hX hxs (show nI i + _ = _ from nI_add i 2) (by omega) dL_law_1021 ?_
  refine jr_aload_n hX dL_law_1022 rfl ?_
  refine jr_iload hX dL_law_1023 rfl ?_
  refine jr_iconst (v := 3) hX dL_law_1025 (by decide) ?_
  refine jr_iadd hX dL_law_1026 ?_
  refine jr_sld hX hxs (show nI i + _ = _ from nI_add i 3) (by omega) dL_law_1027 ?_
  refine jr_relM (jr_runV hX hSt kM_L_145 h3 rfl rfl (ly_kMo hly) ⟨_, _, rfl, by decide⟩ dL_law_1028 (jj_rb (by omega) (by omega)) ⟨by show cs + 1 + _ ≤ _; omega, by show sl + 6 + _ ≤ _; omega⟩ rfl) ?_
  intro r2 n2 K2 I2 P2 G2 hq
  obtain ⟨⟨u, e1, hu⟩, hn2, e2, e3, e4, h150, hli⟩ := hq
  subst e1
  subst e2
  subst e3
  subst e4
  simp only [Option.toList, List.cons_append, List.nil_append]
  refine jr_istore hX dL_law_1031 rfl ?_
  refine jr_aload_n hX dL_law_1033 rfl ?_
  refine jr_ret (jr_runV hX hSt kM_L_106 (c_thrown (jj_fl hX) hly) rfl rfl (ly_kMo hly) ⟨_, _, rfl, by decide⟩ dL_law_1034 (jj_rb (by show 0 + 1 ≤ _; omega) (by show 8 + (_ + 11) + 0 ≤ _; omega)) ⟨by show cs + 1 + _ + 0 ≤ _; omega, by show sl + 6 + _ + 0 ≤ _; omega⟩ rfl) ?_
  rw [h150]
  refine jr_iload hX dL_law_1037 rfl ?_
  refine jr_icmp_eq (tgt := 1044) hX dL_law_1039 (by decide) (fun _ => ?_) (fun q => absurd rfl q)
  refine jr_iload hX dL_law_1044 rfl ?_
  refine jr_if_ne (tgt := 1061) hX dL_law_1046 (by decide) (fun _ => ?_) (fun q => ?_)
  · refine jr_goto (tgt := 2009) hX dL_law_1061 (by decide) ?_
    refine jr_widen (cs1 := cs + 16) (sl1 := sl + 564) (by show cs + 1 + _ + 0 ≤ _; omega) (by show sl + 6 + _ + 0 ≤ _; omega) ?_
    exact jr_forget (fun _ _ h => h) (fun i v h => by rcases i with _ | _ | _ | _ | _ | _ | _ | _ | _ | i <;> first | exact h | exact absurd h (by simp)) (kk _ _ _ (by omega) hli)
  · refine jr_aload_n hX dL_law_1049 rfl ?_
    refine jr_iconst (v := 0) hX dL_law_1050 (by decide) ?_
    refine jr_lald hX hk161 (show _ = nI 0 from rfl) (by decide) dL_law_1051 ?_
    refine jr_iload hX dL_law_1052 rfl ?_
    refine jr_i2l hX dL_law_1054 ?_
    refine jr_lcmp hX dL_law_1055 ?_
    rw [hG q, hu q]
    refine jr_if_eq (tgt := 1061) hX dL_law_1056 (by decide) (fun _ => ?_) (fun q => absurd (lw_cmp0 _) q)
    refine jr_goto (tgt := 2009) hX dL_law_1061 (by decide) ?_
    refine jr_widen (cs1 := cs + 16) (sl1 := sl + 564) (by show cs + 1 + _ + 0 ≤ _; omega) (by show sl + 6 + _ + 0 ≤ _; omega) ?_
    exact jr_forget (fun _ _ h => h) (fun i v h => by rcases i with _ | _ | _ | _ | _ | _ | _ | _ | _ | i <;> first | exact h | exact absurd h (by simp)) (kk _ _ _ (by omega) hli)
set_option maxHeartbeats 4000000 in
set_option maxRecDepth 100000 in
theorem lc_send (hX : jj_Cx X D cL_law RL 9 (some .boolean) nm rm tb) (hSt : jj_St X D) {S : Nat} {xs : Nat → Int32} (hxs : jj_XS X D S xs) (hly : ly K P) (hk161 : K 161 = some (11, 1)) (hKn0 : ∀ a, 162 ≤ a → K a = none) {t : Nat} (hI : li t I) (ht : t + 1 ≤ 512) {i : Nat} (hi : i + 7 ≤ S ∧ S ≤ 3584) (hn : 162 ≤ n) (hrf : 10 ≤ rm.frames) (hrl : 200 ≤ rm.locals) (hrc : cs + 16 ≤ rm.cells) (hrs : sl + 564 ≤ rm.slots) (kk : ∀ n1 I1 G1, 162 ≤ n1 → li (t + 1) I1 → jj_J X D 9 (cs + 16) (sl + 564) Q n1 K I1 P G1 2009 (lw_L i) []) : jj_J X D 9 cs sl Q n K I P G 1064 (lw_L i) [] := by
  obtain ⟨c, S1, h1, h2⟩ := lj_send (jj_fl hX) hly hk161 hKn0 hI ht (xs (i + 1)) (xs (i + 2))
  refine jr_aload_n hX dL_law_1064 rfl ?_
  refine jr_aload_n hX dL_law_1065 rfl ?_
  refine jr_iload hX dL_law_1066 rfl ?_
  refine jr_iconst (v := 1) hX dL_law_1068 (by decide) ?_
  refine jr_iadd hX dL_law_1069 ?_
  refine jr_sld hX hxs (show nI i + _ = _ from nI_add i 1) (by omega) dL_law_1070 ?_
  refine jr_aload_n hX dL_law_1071 rfl ?_
  refine jr_iload hX dL_law_1072 rfl ?_
  refine jr_iconst (v := 2) hX dL_law_1074 (by decide) ?_
  refine jr_iadd hX dL_law_1075 ?_
  refine jr_sld hX hxs (show nI i + _ = _ from nI_add i 2) (by omega) dL_law_1076 ?_
  refine jr_aload_n hX dL_law_1077 rfl ?_
  refine jr_relM (jr_runSX hX hSt kM_L_146 (h1 n G hn) rfl rfl dL_law_1078 (jj_rb (by show 9 + 1 ≤ _; omega) (by show 8 + (_ + 11) + 160 ≤ _; omega)) ⟨by show cs + 1 ≤ _; omega, by show sl + 6 ≤ _; omega⟩ rfl) ?_
  intro r1 n1 K1 I1 P1 G1 hq
  obtain ⟨e1, hn1, e2, e3, v, hv, hG⟩ := hq
  subst e1
  subst e2
  subst e3
  simp only [Option.toList, List.cons_append, List.nil_append]
  obtain ⟨rm2, ⟨b1, b2, b3, b4⟩, h3⟩ := h2 v I1 hv n1 G1 (by omega)
  refine jr_istore hX dL_law_1081 rfl ?_
  refine jr_aload_n hX dL_law_1083 rfl ?_
  refine jr_aload_n hX dL_law_1084 rfl ?_
  refine jr_iload hX dL_law_1085 rfl ?_
  refine jr_iconst (v := 1) hX dL_law_1087 (by decide) ?_
  refine jr_iadd hX dL_law_1088 ?_
  refine jr_sld hX hxs (show nI i + _ = _ from nI_add i 1) (by omega) dL_law_1089 ?_
  refine jr_aload_n hX dL_law_1090 rfl ?_
  refine jr_iload hX dL_law_1091 rfl ?_
  refine jr_iconst (v := 2) hX dL_law_1093 (by decide) ?_
  refine jr_iadd hX dL_law_1094 ?_
  refine jr_sld hX hxs (show nI i + _ = _ from nI_add i 2) (by omega) dL_law_1095 ?_
  refine jr_relM (jr_runV hX hSt kM_L_148 h3 rfl rfl (ly_kMo hly) ⟨_, _, rfl, by decide⟩ dL_law_1096 (jj_rb (by omega) (by omega)) ⟨by show cs + 1 + _ ≤ _; omega, by show sl + 6 + _ ≤ _; omega⟩ rfl) ?_
  intro r2 n2 K2 I2 P2 G2 hq
  obtain ⟨⟨u, e1, hu⟩, hn2, e2, e3, e4, h150, hli⟩ := hq
  subst e1
  subst e2
  subst e3
  subst e4
  simp only [Option.toList, List.cons_append, List.nil_append]
  refine jr_istore hX dL_law_1099 rfl ?_
  refine jr_aload_n hX dL_law_1101 rfl ?_
  refine jr_ret (jr_runV hX hSt kM_L_106 (c_thrown (jj_fl hX) hly) rfl rfl (ly_kMo hly) ⟨_, _, rfl, by decide⟩ dL_law_1102 (jj_rb (by show 0 + 1 ≤ _; omega) (by show 8 + (_ + 11) + 0 ≤ _; omega)) ⟨by show cs + 1 + _ + 0 ≤ _; omega, by show sl + 6 + _ + 0 ≤ _; omega⟩ rfl) ?_
  rw [h150]
  refine jr_iload hX dL_law_1105 rfl ?_
  refine jr_icmp_eq (tgt := 1112) hX dL_law_1107 (by decide) (fun _ => ?_) (fun q => absurd rfl q)
  refine jr_iload hX dL_law_1112 rfl ?_
  refine jr_if_ne (tgt := 1129) hX dL_law_1114 (by decide) (fun _ => ?_) (fun q => ?_)
  · refine jr_goto (tgt := 2009) hX dL_law_1129 (by decide) ?_
    refine jr_widen (cs1 := cs + 16) (sl1 := sl + 564) (by show cs + 1 + _ + 0 ≤ _; omega) (by show sl + 6 + _ + 0 ≤ _; omega) ?_
    exact jr_forget (fun _ _ h => h) (fun i v h => by rcases i with _ | _ | _ | _ | _ | _ | _ | _ | _ | i <;> first | exact h | exact absurd h (by simp)) (kk _ _ _ (by omega) hli)
  · refine jr_aload_n hX dL_law_1117 rfl ?_
    refine jr_iconst (v := 0) hX dL_law_1118 (by decide) ?_
    refine jr_lald hX hk161 (show _ = nI 0 from rfl) (by decide) dL_law_1119 ?_
    refine jr_iload hX dL_law_1120 rfl ?_
    refine jr_i2l hX dL_law_1122 ?_
    refine jr_lcmp hX dL_law_1123 ?_
    rw [hG q, hu q]
    refine jr_if_eq (tgt := 1129) hX dL_law_1124 (by decide) (fun _ => ?_) (fun q => absurd (lw_cmp0 _) q)
    refine jr_goto (tgt := 2009) hX dL_law_1129 (by decide) ?_
    refine jr_widen (cs1 := cs + 16) (sl1 := sl + 564) (by show cs + 1 + _ + 0 ≤ _; omega) (by show sl + 6 + _ + 0 ≤ _; omega) ?_
    exact jr_forget (fun _ _ h => h) (fun i v h => by rcases i with _ | _ | _ | _ | _ | _ | _ | _ | _ | i <;> first | exact h | exact absurd h (by simp)) (kk _ _ _ (by omega) hli)
set_option maxHeartbeats 4000000 in
set_option maxRecDepth 100000 in
theorem lc_berth (hX : jj_Cx X D cL_law RL 9 (some .boolean) nm rm tb) (hSt : jj_St X D) {S : Nat} {xs : Nat → Int32} (hxs : jj_XS X D S xs) (hly : ly K P) (hk161 : K 161 = some (11, 1)) (hKn0 : ∀ a, 162 ≤ a → K a = none) {t : Nat} (hI : li t I) (ht : t + 1 ≤ 512) {i : Nat} (hi : i + 7 ≤ S ∧ S ≤ 3584) (hn : 162 ≤ n) (hrf : 10 ≤ rm.frames) (hrl : 200 ≤ rm.locals) (hrc : cs + 16 ≤ rm.cells) (hrs : sl + 564 ≤ rm.slots) (kk : ∀ n1 I1 G1, 162 ≤ n1 → li (t + 1) I1 → jj_J X D 9 (cs + 16) (sl + 564) Q n1 K I1 P G1 2009 (lw_L i) []) : jj_J X D 9 cs sl Q n K I P G 1132 (lw_L i) [] := by
  by_cases hz : xs (i + 2) = 0
  · obtain ⟨c, S1, h1, h2⟩ := lj_berth (jj_fl hX) hly hk161 hKn0 hI ht (xs (i + 1)) 0
    refine jr_aload_n hX dL_law_1132 rfl ?_
    refine jr_aload_n hX dL_law_1133 rfl ?_
    refine jr_iload hX dL_law_1134 rfl ?_
    refine jr_iconst (v := 1) hX dL_law_1136 (by decide) ?_
    refine jr_iadd hX dL_law_1137 ?_
    refine jr_sld hX hxs (show nI i + _ = _ from nI_add i 1) (by omega) dL_law_1138 ?_
    refine jr_aload_n hX dL_law_1139 rfl ?_
    refine jr_iload hX dL_law_1140 rfl ?_
    refine jr_iconst (v := 2) hX dL_law_1142 (by decide) ?_
    refine jr_iadd hX dL_law_1143 ?_
    refine jr_sld hX hxs (show nI i + _ = _ from nI_add i 2) (by omega) dL_law_1144 ?_
    refine jr_if_eq (tgt := 1152) hX dL_law_1145 (by decide) (fun _ => ?_) (fun c => absurd hz c)
    refine jr_iconst (v := 0) hX dL_law_1152 (by decide) ?_
    refine jr_aload_n hX dL_law_1153 rfl ?_
    refine jr_relM (jr_runSX hX hSt kM_L_149 (h1 n G hn) rfl rfl dL_law_1154 (jj_rb (by show 9 + 1 ≤ _; omega) (by show 8 + (_ + 11) + 160 ≤ _; omega)) ⟨by show cs + 1 ≤ _; omega, by show sl + 6 ≤ _; omega⟩ rfl) ?_
    intro r1 n1 K1 I1 P1 G1 hq
    obtain ⟨e1, hn1, e2, e3, v, hv, hG⟩ := hq
    subst e1
    subst e2
    subst e3
    simp only [Option.toList, List.cons_append, List.nil_append]
    obtain ⟨rm2, ⟨b1, b2, b3, b4⟩, h3⟩ := h2 v I1 hv n1 G1 (by omega)
    refine jr_istore hX dL_law_1157 rfl ?_
    refine jr_aload_n hX dL_law_1159 rfl ?_
    refine jr_aload_n hX dL_law_1160 rfl ?_
    refine jr_iload hX dL_law_1161 rfl ?_
    refine jr_iconst (v := 1) hX dL_law_1163 (by decide) ?_
    refine jr_iadd hX dL_law_1164 ?_
    refine jr_sld hX hxs (show nI i + _ = _ from nI_add i 1) (by omega) dL_law_1165 ?_
    refine jr_aload_n hX dL_law_1166 rfl ?_
    refine jr_iload hX dL_law_1167 rfl ?_
    refine jr_iconst (v := 2) hX dL_law_1169 (by decide) ?_
    refine jr_iadd hX dL_law_1170 ?_
    refine jr_sld hX hxs (show nI i + _ = _ from nI_add i 2) (by omega) dL_law_1171 ?_
    refine jr_if_eq (tgt := 1179) hX dL_law_1172 (by decide) (fun _ => ?_) (fun c => absurd hz c)
    refine jr_iconst (v := 0) hX dL_law_1179 (by decide) ?_
    refine jr_relM (jr_runV hX hSt kM_L_152 h3 rfl rfl (ly_kMo hly) ⟨_, _, rfl, by decide⟩ dL_law_1180 (jj_rb (by omega) (by omega)) ⟨by show cs + 1 + _ ≤ _; omega, by show sl + 6 + _ ≤ _; omega⟩ rfl) ?_
    intro r2 n2 K2 I2 P2 G2 hq
    obtain ⟨⟨u, e1, hu⟩, hn2, e2, e3, e4, h150, hli⟩ := hq
    subst e1
    subst e2
    subst e3
    subst e4
    simp only [Option.toList, List.cons_append, List.nil_append]
    refine jr_istore hX dL_law_1183 rfl ?_
    refine jr_aload_n hX dL_law_1185 rfl ?_
    refine jr_ret (jr_runV hX hSt kM_L_106 (c_thrown (jj_fl hX) hly) rfl rfl (ly_kMo hly) ⟨_, _, rfl, by decide⟩ dL_law_1186 (jj_rb (by show 0 + 1 ≤ _; omega) (by show 8 + (_ + 11) + 0 ≤ _; omega)) ⟨by show cs + 1 + _ + 0 ≤ _; omega, by show sl + 6 + _ + 0 ≤ _; omega⟩ rfl) ?_
    rw [h150]
    refine jr_iload hX dL_law_1189 rfl ?_
    refine jr_icmp_eq (tgt := 1196) hX dL_law_1191 (by decide) (fun _ => ?_) (fun q => absurd rfl q)
    refine jr_iload hX dL_law_1196 rfl ?_
    refine jr_if_ne (tgt := 1213) hX dL_law_1198 (by decide) (fun _ => ?_) (fun q => ?_)
    · refine jr_goto (tgt := 2009) hX dL_law_1213 (by decide) ?_
      refine jr_widen (cs1 := cs + 16) (sl1 := sl + 564) (by show cs + 1 + _ + 0 ≤ _; omega) (by show sl + 6 + _ + 0 ≤ _; omega) ?_
      exact jr_forget (fun _ _ h => h) (fun i v h => by rcases i with _ | _ | _ | _ | _ | _ | _ | _ | _ | i <;> first | exact h | exact absurd h (by simp)) (kk _ _ _ (by omega) hli)
    · refine jr_aload_n hX dL_law_1201 rfl ?_
      refine jr_iconst (v := 0) hX dL_law_1202 (by decide) ?_
      refine jr_lald hX hk161 (show _ = nI 0 from rfl) (by decide) dL_law_1203 ?_
      refine jr_iload hX dL_law_1204 rfl ?_
      refine jr_i2l hX dL_law_1206 ?_
      refine jr_lcmp hX dL_law_1207 ?_
      rw [hG q, hu q]
      refine jr_if_eq (tgt := 1213) hX dL_law_1208 (by decide) (fun _ => ?_) (fun q => absurd (lw_cmp0 _) q)
      refine jr_goto (tgt := 2009) hX dL_law_1213 (by decide) ?_
      refine jr_widen (cs1 := cs + 16) (sl1 := sl + 564) (by show cs + 1 + _ + 0 ≤ _; omega) (by show sl + 6 + _ + 0 ≤ _; omega) ?_
      exact jr_forget (fun _ _ h => h) (fun i v h => by rcases i with _ | _ | _ | _ | _ | _ | _ | _ | _ | i <;> first | exact h | exact absurd h (by simp)) (kk _ _ _ (by omega) hli)
  · obtain ⟨c, S1, h1, h2⟩ := lj_berth (jj_fl hX) hly hk161 hKn0 hI ht (xs (i + 1)) 1
    refine jr_aload_n hX dL_law_1132 rfl ?_
    refine jr_aload_n hX dL_law_1133 rfl ?_
    refine jr_iload hX dL_law_1134 rfl ?_
    refine jr_iconst (v := 1) hX dL_law_1136 (by decide) ?_
    refine jr_iadd hX dL_law_1137 ?_
    refine jr_sld hX hxs (show nI i + _ = _ from nI_add i 1) (by omega) dL_law_1138 ?_
    refine jr_aload_n hX dL_law_1139 rfl ?_
    refine jr_iload hX dL_law_1140 rfl ?_
    refine jr_iconst (v := 2) hX dL_law_1142 (by decide) ?_
    refine jr_iadd hX dL_law_1143 ?_
    refine jr_sld hX hxs (show nI i + _ = _ from nI_add i 2) (by omega) dL_law_1144 ?_
    refine jr_if_eq (tgt := 1152) hX dL_law_1145 (by decide) (fun c => absurd c hz) (fun _ => ?_)
    refine jr_iconst (v := 1) hX dL_law_1148 (by decide) ?_
    refine jr_goto (tgt := 1153) hX dL_law_1149 (by decide) ?_
    refine jr_aload_n hX dL_law_1153 rfl ?_
    refine jr_relM (jr_runSX hX hSt kM_L_149 (h1 n G hn) rfl rfl dL_law_1154 (jj_rb (by show 9 + 1 ≤ _; omega) (by show 8 + (_ + 11) + 160 ≤ _; omega)) ⟨by show cs + 1 ≤ _; omega, by show sl + 6 ≤ _; omega⟩ rfl) ?_
    intro r1 n1 K1 I1 P1 G1 hq
    obtain ⟨e1, hn1, e2, e3, v, hv, hG⟩ := hq
    subst e1
    subst e2
    subst e3
    simp only [Option.toList, List.cons_append, List.nil_append]
    obtain ⟨rm2, ⟨b1, b2, b3, b4⟩, h3⟩ := h2 v I1 hv n1 G1 (by omega)
    refine jr_istore hX dL_law_1157 rfl ?_
    refine jr_aload_n hX dL_law_1159 rfl ?_
    refine jr_aload_n hX dL_law_1160 rfl ?_
    refine jr_iload hX dL_law_1161 rfl ?_
    refine jr_iconst (v := 1) hX dL_law_1163 (by decide) ?_
    refine jr_iadd hX dL_law_1164 ?_
    refine jr_sld hX hxs (show nI i + _ = _ from nI_add i 1) (by omega) dL_law_1165 ?_
    refine jr_aload_n hX dL_law_1166 rfl ?_
    refine jr_iload hX dL_law_1167 rfl ?_
    refine jr_iconst (v := 2) hX dL_law_1169 (by decide) ?_
    refine jr_iadd hX dL_law_1170 ?_
    refine jr_sld hX hxs (show nI i + _ = _ from nI_add i 2) (by omega) dL_law_1171 ?_
    refine jr_if_eq (tgt := 1179) hX dL_law_1172 (by decide) (fun c => absurd c hz) (fun _ => ?_)
    refine jr_iconst (v := 1) hX dL_law_1175 (by decide) ?_
    refine jr_goto (tgt := 1180) hX dL_law_1176 (by decide) ?_
    refine jr_relM (jr_runV hX hSt kM_L_152 h3 rfl rfl (ly_kMo hly) ⟨_, _, rfl, by decide⟩ dL_law_1180 (jj_rb (by omega) (by omega)) ⟨by show cs + 1 + _ ≤ _; omega, by show sl + 6 + _ ≤ _; omega⟩ rfl) ?_
    intro r2 n2 K2 I2 P2 G2 hq
    obtain ⟨⟨u, e1, hu⟩, hn2, e2, e3, e4, h150, hli⟩ := hq
    subst e1
    subst e2
    subst e3
    subst e4
    simp only [Option.toList, List.cons_append, List.nil_append]
    refine jr_istore hX dL_law_1183 rfl ?_
    refine jr_aload_n hX dL_law_1185 rfl ?_
    refine jr_ret (jr_runV hX hSt kM_L_106 (c_thrown (jj_fl hX) hly) rfl rfl (ly_kMo hly) ⟨_, _, rfl, by decide⟩ dL_law_1186 (jj_rb (by show 0 + 1 ≤ _; omega) (by show 8 + (_ + 11) + 0 ≤ _; omega)) ⟨by show cs + 1 + _ + 0 ≤ _; omega, by show sl + 6 + _ + 0 ≤ _; omega⟩ rfl) ?_
    rw [h150]
    refine jr_iload hX dL_law_1189 rfl ?_
    refine jr_icmp_eq (tgt := 1196) hX dL_law_1191 (by decide) (fun _ => ?_) (fun q => absurd rfl q)
    refine jr_iload hX dL_law_1196 rfl ?_
    refine jr_if_ne (tgt := 1213) hX dL_law_1198 (by decide) (fun _ => ?_) (fun q => ?_)
    · refine jr_goto (tgt := 2009) hX dL_law_1213 (by decide) ?_
      refine jr_widen (cs1 := cs + 16) (sl1 := sl + 564) (by show cs + 1 + _ + 0 ≤ _; omega) (by show sl + 6 + _ + 0 ≤ _; omega) ?_
      exact jr_forget (fun _ _ h => h) (fun i v h => by rcases i with _ | _ | _ | _ | _ | _ | _ | _ | _ | i <;> first | exact h | exact absurd h (by simp)) (kk _ _ _ (by omega) hli)
    · refine jr_aload_n hX dL_law_1201 rfl ?_
      refine jr_iconst (v := 0) hX dL_law_1202 (by decide) ?_
      refine jr_lald hX hk161 (show _ = nI 0 from rfl) (by decide) dL_law_1203 ?_
      refine jr_iload hX dL_law_1204 rfl ?_
      refine jr_i2l hX dL_law_1206 ?_
      refine jr_lcmp hX dL_law_1207 ?_
      rw [hG q, hu q]
      refine jr_if_eq (tgt := 1213) hX dL_law_1208 (by decide) (fun _ => ?_) (fun q => absurd (lw_cmp0 _) q)
      refine jr_goto (tgt := 2009) hX dL_law_1213 (by decide) ?_
      refine jr_widen (cs1 := cs + 16) (sl1 := sl + 564) (by show cs + 1 + _ + 0 ≤ _; omega) (by show sl + 6 + _ + 0 ≤ _; omega) ?_
      exact jr_forget (fun _ _ h => h) (fun i v h => by rcases i with _ | _ | _ | _ | _ | _ | _ | _ | _ | i <;> first | exact h | exact absurd h (by simp)) (kk _ _ _ (by omega) hli)
set_option maxHeartbeats 4000000 in
set_option maxRecDepth 100000 in
theorem lc_mend (hX : jj_Cx X D cL_law RL 9 (some .boolean) nm rm tb) (hSt : jj_St X D) {S : Nat} {xs : Nat → Int32} (hxs : jj_XS X D S xs) (hly : ly K P) (hk161 : K 161 = some (11, 1)) (hKn0 : ∀ a, 162 ≤ a → K a = none) {t : Nat} (hI : li t I) (ht : t + 1 ≤ 512) {i : Nat} (hi : i + 7 ≤ S ∧ S ≤ 3584) (hn : 162 ≤ n) (hrf : 10 ≤ rm.frames) (hrl : 200 ≤ rm.locals) (hrc : cs + 16 ≤ rm.cells) (hrs : sl + 564 ≤ rm.slots) (kk : ∀ n1 I1 G1, 162 ≤ n1 → li (t + 1) I1 → jj_J X D 9 (cs + 16) (sl + 564) Q n1 K I1 P G1 2009 (lw_L i) []) : jj_J X D 9 cs sl Q n K I P G 1216 (lw_L i) [] := by
  obtain ⟨c, S1, h1, h2⟩ := lj_mend (jj_fl hX) hly hk161 hKn0 hI ht (xs (i + 1))
  refine jr_aload_n hX dL_law_1216 rfl ?_
  refine jr_aload_n hX dL_law_1217 rfl ?_
  refine jr_iload hX dL_law_1218 rfl ?_
  refine jr_iconst (v := 1) hX dL_law_1220 (by decide) ?_
  refine jr_iadd hX dL_law_1221 ?_
  refine jr_sld hX hxs (show nI i + _ = _ from nI_add i 1) (by omega) dL_law_1222 ?_
  refine jr_aload_n hX dL_law_1223 rfl ?_
  refine jr_relM (jr_runSX hX hSt kM_L_153 (h1 n G hn) rfl rfl dL_law_1224 (jj_rb (by show 9 + 1 ≤ _; omega) (by show 8 + (_ + 11) + 160 ≤ _; omega)) ⟨by show cs + 1 ≤ _; omega, by show sl + 6 ≤ _; omega⟩ rfl) ?_
  intro r1 n1 K1 I1 P1 G1 hq
  obtain ⟨e1, hn1, e2, e3, v, hv, hG⟩ := hq
  subst e1
  subst e2
  subst e3
  simp only [Option.toList, List.cons_append, List.nil_append]
  obtain ⟨rm2, ⟨b1, b2, b3, b4⟩, h3⟩ := h2 v I1 hv n1 G1 (by omega)
  refine jr_istore hX dL_law_1227 rfl ?_
  refine jr_aload_n hX dL_law_1229 rfl ?_
  refine jr_aload_n hX dL_law_1230 rfl ?_
  refine jr_iload hX dL_law_1231 rfl ?_
  refine jr_iconst (v := 1) hX dL_law_1233 (by decide) ?_
  refine jr_iadd hX dL_law_1234 ?_
  refine jr_sld hX hxs (show nI i + _ = _ from nI_add i 1) (by omega) dL_law_1235 ?_
  refine jr_relM (jr_runV hX hSt kM_L_155 h3 rfl rfl (ly_kMo hly) ⟨_, _, rfl, by decide⟩ dL_law_1236 (jj_rb (by omega) (by omega)) ⟨by show cs + 1 + _ ≤ _; omega, by show sl + 6 + _ ≤ _; omega⟩ rfl) ?_
  intro r2 n2 K2 I2 P2 G2 hq
  obtain ⟨⟨u, e1, hu⟩, hn2, e2, e3, e4, h150, hli⟩ := hq
  subst e1
  subst e2
  subst e3
  subst e4
  simp only [Option.toList, List.cons_append, List.nil_append]
  refine jr_istore hX dL_law_1239 rfl ?_
  refine jr_aload_n hX dL_law_1241 rfl ?_
  refine jr_ret (jr_runV hX hSt kM_L_106 (c_thrown (jj_fl hX) hly) rfl rfl (ly_kMo hly) ⟨_, _, rfl, by decide⟩ dL_law_1242 (jj_rb (by show 0 + 1 ≤ _; omega) (by show 8 + (_ + 11) + 0 ≤ _; omega)) ⟨by show cs + 1 + _ + 0 ≤ _; omega, by show sl + 6 + _ + 0 ≤ _; omega⟩ rfl) ?_
  rw [h150]
  refine jr_iload hX dL_law_1245 rfl ?_
  refine jr_icmp_eq (tgt := 1252) hX dL_law_1247 (by decide) (fun _ => ?_) (fun q => absurd rfl q)
  refine jr_iload hX dL_law_1252 rfl ?_
  refine jr_if_ne (tgt := 1269) hX dL_law_1254 (by decide) (fun _ => ?_) (fun q => ?_)
  · refine jr_goto (tgt := 2009) hX dL_law_1269 (by decide) ?_
    refine jr_widen (cs1 := cs + 16) (sl1 := sl + 564) (by show cs + 1 + _ + 0 ≤ _; omega) (by show sl + 6 + _ + 0 ≤ _; omega) ?_
    exact jr_forget (fun _ _ h => h) (fun i v h => by rcases i with _ | _ | _ | _ | _ | _ | _ | _ | _ | i <;> first | exact h | exact absurd h (by simp)) (kk _ _ _ (by omega) hli)
  · refine jr_aload_n hX dL_law_1257 rfl ?_
    refine jr_iconst (v := 0) hX dL_law_1258 (by decide) ?_
    refine jr_lald hX hk161 (show _ = nI 0 from rfl) (by decide) dL_law_1259 ?_
    refine jr_iload hX dL_law_1260 rfl ?_
    refine jr_i2l hX dL_law_1262 ?_
    refine jr_lcmp hX dL_law_1263 ?_
    rw [hG q, hu q]
    refine jr_if_eq (tgt := 1269) hX dL_law_1264 (by decide) (fun _ => ?_) (fun q => absurd (lw_cmp0 _) q)
    refine jr_goto (tgt := 2009) hX dL_law_1269 (by decide) ?_
    refine jr_widen (cs1 := cs + 16) (sl1 := sl + 564) (by show cs + 1 + _ + 0 ≤ _; omega) (by show sl + 6 + _ + 0 ≤ _; omega) ?_
    exact jr_forget (fun _ _ h => h) (fun i v h => by rcases i with _ | _ | _ | _ | _ | _ | _ | _ | _ | i <;> first | exact h | exact absurd h (by simp)) (kk _ _ _ (by omega) hli)
set_option maxHeartbeats 4000000 in
set_option maxRecDepth 100000 in
theorem lc_boat (hX : jj_Cx X D cL_law RL 9 (some .boolean) nm rm tb) (hSt : jj_St X D) {S : Nat} {xs : Nat → Int32} (hxs : jj_XS X D S xs) (hly : ly K P) (hk161 : K 161 = some (11, 1)) (hKn0 : ∀ a, 162 ≤ a → K a = none) {t : Nat} (hI : li t I) (ht : t + 1 ≤ 512) {i : Nat} (hi : i + 7 ≤ S ∧ S ≤ 3584) (hn : 162 ≤ n) (hrf : 10 ≤ rm.frames) (hrl : 200 ≤ rm.locals) (hrc : cs + 16 ≤ rm.cells) (hrs : sl + 564 ≤ rm.slots) (kk : ∀ n1 I1 G1, 162 ≤ n1 → li (t + 1) I1 → jj_J X D 9 (cs + 16) (sl + 564) Q n1 K I1 P G1 2009 (lw_L i) []) : jj_J X D 9 cs sl Q n K I P G 1272 (lw_L i) [] := by
  obtain ⟨c, S1, h1, h2⟩ := lj_boat (jj_fl hX) hly hk161 hKn0 hI ht (xs (i + 1)) (xs (i + 2))
  refine jr_aload_n hX dL_law_1272 rfl ?_
  refine jr_aload_n hX dL_law_1273 rfl ?_
  refine jr_iload hX dL_law_1274 rfl ?_
  refine jr_iconst (v := 1) hX dL_law_1276 (by decide) ?_
  refine jr_iadd hX dL_law_1277 ?_
  refine jr_sld hX hxs (show nI i + _ = _ from nI_add i 1) (by omega) dL_law_1278 ?_
  refine jr_aload_n hX dL_law_1279 rfl ?_
  refine jr_iload hX dL_law_1280 rfl ?_
  refine jr_iconst (v := 2) hX dL_law_1282 (by decide) ?_
  refine jr_iadd hX dL_law_1283 ?_
  refine jr_sld hX hxs (show nI i + _ = _ from nI_add i 2) (by omega) dL_law_1284 ?_
  refine jr_aload_n hX dL_law_1285 rfl ?_
  refine jr_relM (jr_runSX hX hSt kM_L_156 (h1 n G hn) rfl rfl dL_law_1286 (jj_rb (by show 9 + 1 ≤ _; omega) (by show 8 + (_ + 11) + 160 ≤ _; omega)) ⟨by show cs + 1 ≤ _; omega, by show sl + 6 ≤ _; omega⟩ rfl) ?_
  intro r1 n1 K1 I1 P1 G1 hq
  obtain ⟨e1, hn1, e2, e3, v, hv, hG⟩ := hq
  subst e1
  subst e2
  subst e3
  simp only [Option.toList, List.cons_append, List.nil_append]
  obtain ⟨rm2, ⟨b1, b2, b3, b4⟩, h3⟩ := h2 v I1 hv n1 G1 (by omega)
  refine jr_istore hX dL_law_1289 rfl ?_
  refine jr_aload_n hX dL_law_1291 rfl ?_
  refine jr_aload_n hX dL_law_1292 rfl ?_
  refine jr_iload hX dL_law_1293 rfl ?_
  refine jr_iconst (v := 1) hX dL_law_1295 (by decide) ?_
  refine jr_iadd hX dL_law_1296 ?_
  refine jr_sld hX hxs (show nI i + _ = _ from nI_add i 1) (by omega) dL_law_1297 ?_
  refine jr_aload_n hX dL_law_1298 rfl ?_
  refine jr_iload hX dL_law_1299 rfl ?_
  refine jr_iconst (v := 2) hX dL_law_1301 (by decide) ?_
  refine jr_iadd hX dL_law_1302 ?_
  refine jr_sld hX hxs (show nI i + _ = _ from nI_add i 2) (by omega) dL_law_1303 ?_
  refine jr_relM (jr_runV hX hSt kM_L_158 h3 rfl rfl (ly_kMo hly) ⟨_, _, rfl, by decide⟩ dL_law_1304 (jj_rb (by omega) (by omega)) ⟨by show cs + 1 + _ ≤ _; omega, by show sl + 6 + _ ≤ _; omega⟩ rfl) ?_
  intro r2 n2 K2 I2 P2 G2 hq
  obtain ⟨⟨u, e1, hu⟩, hn2, e2, e3, e4, h150, hli⟩ := hq
  subst e1
  subst e2
  subst e3
  subst e4
  simp only [Option.toList, List.cons_append, List.nil_append]
  refine jr_istore hX dL_law_1307 rfl ?_
  refine jr_aload_n hX dL_law_1309 rfl ?_
  refine jr_ret (jr_runV hX hSt kM_L_106 (c_thrown (jj_fl hX) hly) rfl rfl (ly_kMo hly) ⟨_, _, rfl, by decide⟩ dL_law_1310 (jj_rb (by show 0 + 1 ≤ _; omega) (by show 8 + (_ + 11) + 0 ≤ _; omega)) ⟨by show cs + 1 + _ + 0 ≤ _; omega, by show sl + 6 + _ + 0 ≤ _; omega⟩ rfl) ?_
  rw [h150]
  refine jr_iload hX dL_law_1313 rfl ?_
  refine jr_icmp_eq (tgt := 1320) hX dL_law_1315 (by decide) (fun _ => ?_) (fun q => absurd rfl q)
  refine jr_iload hX dL_law_1320 rfl ?_
  refine jr_if_ne (tgt := 1337) hX dL_law_1322 (by decide) (fun _ => ?_) (fun q => ?_)
  · refine jr_goto (tgt := 2009) hX dL_law_1337 (by decide) ?_
    refine jr_widen (cs1 := cs + 16) (sl1 := sl + 564) (by show cs + 1 + _ + 0 ≤ _; omega) (by show sl + 6 + _ + 0 ≤ _; omega) ?_
    exact jr_forget (fun _ _ h => h) (fun i v h => by rcases i with _ | _ | _ | _ | _ | _ | _ | _ | _ | i <;> first | exact h | exact absurd h (by simp)) (kk _ _ _ (by omega) hli)
  · refine jr_aload_n hX dL_law_1325 rfl ?_
    refine jr_iconst (v := 0) hX dL_law_1326 (by decide) ?_
    refine jr_lald hX hk161 (show _ = nI 0 from rfl) (by decide) dL_law_1327 ?_
    refine jr_iload hX dL_law_1328 rfl ?_
    refine jr_i2l hX dL_law_1330 ?_
    refine jr_lcmp hX dL_law_1331 ?_
    rw [hG q, hu q]
    refine jr_if_eq (tgt := 1337) hX dL_law_1332 (by decide) (fun _ => ?_) (fun q => absurd (lw_cmp0 _) q)
    refine jr_goto (tgt := 2009) hX dL_law_1337 (by decide) ?_
    refine jr_widen (cs1 := cs + 16) (sl1 := sl + 564) (by show cs + 1 + _ + 0 ≤ _; omega) (by show sl + 6 + _ + 0 ≤ _; omega) ?_
    exact jr_forget (fun _ _ h => h) (fun i v h => by rcases i with _ | _ | _ | _ | _ | _ | _ | _ | _ | i <;> first | exact h | exact absurd h (by simp)) (kk _ _ _ (by omega) hli)
set_option maxHeartbeats 4000000 in
set_option maxRecDepth 100000 in
theorem lc_lend (hX : jj_Cx X D cL_law RL 9 (some .boolean) nm rm tb) (hSt : jj_St X D) {S : Nat} {xs : Nat → Int32} (hxs : jj_XS X D S xs) (hly : ly K P) (hk161 : K 161 = some (11, 1)) (hKn0 : ∀ a, 162 ≤ a → K a = none) {t : Nat} (hI : li t I) (ht : t + 1 ≤ 512) {i : Nat} (hi : i + 7 ≤ S ∧ S ≤ 3584) (hn : 162 ≤ n) (hrf : 10 ≤ rm.frames) (hrl : 200 ≤ rm.locals) (hrc : cs + 16 ≤ rm.cells) (hrs : sl + 564 ≤ rm.slots) (kk : ∀ n1 I1 G1, 162 ≤ n1 → li (t + 1) I1 → jj_J X D 9 (cs + 16) (sl + 564) Q n1 K I1 P G1 2009 (lw_L i) []) : jj_J X D 9 cs sl Q n K I P G 1340 (lw_L i) [] := by
  obtain ⟨c, S1, h1, h2⟩ := lj_lend (jj_fl hX) hly hk161 hKn0 hI ht (xs (i + 1)) (xs (i + 2)) (xs (i + 3)) (xs (i + 4)) (xs (i + 5)) (xs (i + 6))
  refine jr_aload_n hX dL_law_1340 rfl ?_
  refine jr_aload_n hX dL_law_1341 rfl ?_
  refine jr_iload hX dL_law_1342 rfl ?_
  refine jr_iconst (v := 1) hX dL_law_1344 (by decide) ?_
  refine jr_iadd hX dL_law_1345 ?_
  refine jr_sld hX hxs (show nI i + _ = _ from nI_add i 1) (by omega) dL_law_1346 ?_
  refine jr_aload_n hX dL_law_1347 rfl ?_
  refine jr_iload hX dL_law_1348 rfl ?_
  refine jr_iconst (v := 2) hX dL_law_1350 (by decide) ?_
  refine jr_iadd hX dL_law_1351 ?_
  refine jr_sld hX hxs (show nI i + _ = _ from nI_add i 2) (by omega) dL_law_1352 ?_
  refine jr_aload_n hX dL_law_1353 rfl ?_
  refine jr_iload hX dL_law_1354 rfl ?_
  refine jr_iconst (v := 3) hX dL_law_1356 (by decide) ?_
  refine jr_iadd hX dL_law_1357 ?_
  refine jr_sld hX hxs (show nI i + _ = _ from nI_add i 3) (by omega) dL_law_1358 ?_
  refine jr_aload_n hX dL_law_1359 rfl ?_
  refine jr_iload hX dL_law_1360 rfl ?_
  refine jr_iconst (v := 4) hX dL_law_1362 (by decide) ?_
  refine jr_iadd hX dL_law_1363 ?_
  refine jr_sld hX hxs (show nI i + _ = _ from nI_add i 4) (by omega) dL_law_1364 ?_
  refine jr_aload_n hX dL_law_1365 rfl ?_
  refine jr_iload hX dL_law_1366 rfl ?_
  refine jr_iconst (v := 5) hX dL_law_1368 (by decide) ?_
  refine jr_iadd hX dL_law_1369 ?_
  refine jr_sld hX hxs (show nI i + _ = _ from nI_add i 5) (by omega) dL_law_1370 ?_
  refine jr_aload_n hX dL_law_1371 rfl ?_
  refine jr_iload hX dL_law_1372 rfl ?_
  refine jr_bipush (v := 6) hX dL_law_1374 (by decide) ?_
  refine jr_iadd hX dL_law_1376 ?_
  refine jr_sld hX hxs (show nI i + _ = _ from nI_add i 6) (by omega) dL_law_1377 ?_
  refine jr_aload_n hX dL_law_1378 rfl ?_
  refine jr_relM (jr_runSX hX hSt kM_L_159 (h1 n G hn) rfl rfl dL_law_1379 (jj_rb (by show 9 + 1 ≤ _; omega) (by show 8 + (_ + 11) + 160 ≤ _; omega)) ⟨by show cs + 1 ≤ _; omega, by show sl + 6 ≤ _; omega⟩ rfl) ?_
  intro r1 n1 K1 I1 P1 G1 hq
  obtain ⟨e1, hn1, e2, e3, v, hv, hG⟩ := hq
  subst e1
  subst e2
  subst e3
  simp only [Option.toList, List.cons_append, List.nil_append]
  obtain ⟨rm2, ⟨b1, b2, b3, b4⟩, h3⟩ := h2 v I1 hv n1 G1 (by omega)
  refine jr_istore hX dL_law_1382 rfl ?_
  refine jr_aload_n hX dL_law_1384 rfl ?_
  refine jr_aload_n hX dL_law_1385 rfl ?_
  refine jr_iload hX dL_law_1386 rfl ?_
  refine jr_iconst (v := 1) hX dL_law_1388 (by decide) ?_
  refine jr_iadd hX dL_law_1389 ?_
  refine jr_sld hX hxs (show nI i + _ = _ from nI_add i 1) (by omega) dL_law_1390 ?_
  refine jr_aload_n hX dL_law_1391 rfl ?_
  refine jr_iload hX dL_law_1392 rfl ?_
  refine jr_iconst (v := 2) hX dL_law_1394 (by decide) ?_
  refine jr_iadd hX dL_law_1395 ?_
  refine jr_sld hX hxs (show nI i + _ = _ from nI_add i 2) (by omega) dL_law_1396 ?_
  refine jr_aload_n hX dL_law_1397 rfl ?_
  refine jr_iload hX dL_law_1398 rfl ?_
  refine jr_iconst (v := 3) hX dL_law_1400 (by decide) ?_
  refine jr_iadd hX dL_law_1401 ?_
  refine jr_sld hX hxs (show nI i + _ = _ from nI_add i 3) (by omega) dL_law_1402 ?_
  refine jr_aload_n hX dL_law_1403 rfl ?_
  refine jr_iload hX dL_law_1404 rfl ?_
  refine jr_iconst (v := 4) hX dL_law_1406 (by decide) ?_
  refine jr_iadd hX dL_law_1407 ?_
  refine jr_sld hX hxs (show nI i + _ = _ from nI_add i 4) (by omega) dL_law_1408 ?_
  refine jr_aload_n hX dL_law_1409 rfl ?_
  refine jr_iload hX dL_law_1410 rfl ?_
  refine jr_iconst (v := 5) hX dL_law_1412 (by decide) ?_
  refine jr_iadd hX dL_law_1413 ?_
  refine jr_sld hX hxs (show nI i + _ = _ from nI_add i 5) (by omega) dL_law_1414 ?_
  refine jr_aload_n hX dL_law_1415 rfl ?_
  refine jr_iload hX dL_law_1416 rfl ?_
  refine jr_bipush (v := 6) hX dL_law_1418 (by decide) ?_
  refine jr_iadd hX dL_law_1420 ?_
  refine jr_sld hX hxs (show nI i + _ = _ from nI_add i 6) (by omega) dL_law_1421 ?_
  refine jr_relM (jr_runV hX hSt kM_L_162 h3 rfl rfl (ly_kMo hly) ⟨_, _, rfl, by decide⟩ dL_law_1422 (jj_rb (by omega) (by omega)) ⟨by show cs + 1 + _ ≤ _; omega, by show sl + 6 + _ ≤ _; omega⟩ rfl) ?_
  intro r2 n2 K2 I2 P2 G2 hq
  obtain ⟨⟨u, e1, hu⟩, hn2, e2, e3, e4, h150, hli⟩ := hq
  subst e1
  subst e2
  subst e3
  subst e4
  simp only [Option.toList, List.cons_append, List.nil_append]
  refine jr_istore hX dL_law_1425 rfl ?_
  refine jr_aload_n hX dL_law_1427 rfl ?_
  refine jr_ret (jr_runV hX hSt kM_L_106 (c_thrown (jj_fl hX) hly) rfl rfl (ly_kMo hly) ⟨_, _, rfl, by decide⟩ dL_law_1428 (jj_rb (by show 0 + 1 ≤ _; omega) (by show 8 + (_ + 11) + 0 ≤ _; omega)) ⟨by show cs + 1 + _ + 0 ≤ _; omega, by show sl + 6 + _ + 0 ≤ _; omega⟩ rfl) ?_
  rw [h150]
  refine jr_iload hX dL_law_1431 rfl ?_
  refine jr_icmp_eq (tgt := 1438) hX dL_law_1433 (by decide) (fun _ => ?_) (fun q => absurd rfl q)
  refine jr_iload hX dL_law_1438 rfl ?_
  refine jr_if_ne (tgt := 1455) hX dL_law_1440 (by decide) (fun _ => ?_) (fun q => ?_)
  · refine jr_goto (tgt := 2009) hX dL_law_1455 (by decide) ?_
    refine jr_widen (cs1 := cs + 16) (sl1 := sl + 564) (by show cs + 1 + _ + 0 ≤ _; omega) (by show sl + 6 + _ + 0 ≤ _; omega) ?_
    exact jr_forget (fun _ _ h => h) (fun i v h => by rcases i with _ | _ | _ | _ | _ | _ | _ | _ | _ | i <;> first | exact h | exact absurd h (by simp)) (kk _ _ _ (by omega) hli)
  · refine jr_aload_n hX dL_law_1443 rfl ?_
    refine jr_iconst (v := 0) hX dL_law_1444 (by decide) ?_
    refine jr_lald hX hk161 (show _ = nI 0 from rfl) (by decide) dL_law_1445 ?_
    refine jr_iload hX dL_law_1446 rfl ?_
    refine jr_i2l hX dL_law_1448 ?_
    refine jr_lcmp hX dL_law_1449 ?_
    rw [hG q, hu q]
    refine jr_if_eq (tgt := 1455) hX dL_law_1450 (by decide) (fun _ => ?_) (fun q => absurd (lw_cmp0 _) q)
    refine jr_goto (tgt := 2009) hX dL_law_1455 (by decide) ?_
    refine jr_widen (cs1 := cs + 16) (sl1 := sl + 564) (by show cs + 1 + _ + 0 ≤ _; omega) (by show sl + 6 + _ + 0 ≤ _; omega) ?_
    exact jr_forget (fun _ _ h => h) (fun i v h => by rcases i with _ | _ | _ | _ | _ | _ | _ | _ | _ | i <;> first | exact h | exact absurd h (by simp)) (kk _ _ _ (by omega) hli)
set_option maxHeartbeats 4000000 in
set_option maxRecDepth 100000 in
theorem lc_repay (hX : jj_Cx X D cL_law RL 9 (some .boolean) nm rm tb) (hSt : jj_St X D) {S : Nat} {xs : Nat → Int32} (hxs : jj_XS X D S xs) (hly : ly K P) (hk161 : K 161 = some (11, 1)) (hKn0 : ∀ a, 162 ≤ a → K a = none) {t : Nat} (hI : li t I) (ht : t + 1 ≤ 512) {i : Nat} (hi : i + 7 ≤ S ∧ S ≤ 3584) (hn : 162 ≤ n) (hrf : 10 ≤ rm.frames) (hrl : 200 ≤ rm.locals) (hrc : cs + 16 ≤ rm.cells) (hrs : sl + 564 ≤ rm.slots) (kk : ∀ n1 I1 G1, 162 ≤ n1 → li (t + 1) I1 → jj_J X D 9 (cs + 16) (sl + 564) Q n1 K I1 P G1 2009 (lw_L i) []) : jj_J X D 9 cs sl Q n K I P G 1458 (lw_L i) [] := by
  obtain ⟨c, S1, h1, h2⟩ := lj_repay (jj_fl hX) hly hk161 hKn0 hI ht (xs (i + 1)) (xs (i + 2))
  refine jr_aload_n hX dL_law_1458 rfl ?_
  refine jr_aload_n hX dL_law_1459 rfl ?_
  refine jr_iload hX dL_law_1460 rfl ?_
  refine jr_iconst (v := 1) hX dL_law_1462 (by decide) ?_
  refine jr_iadd hX dL_law_1463 ?_
  refine jr_sld hX hxs (show nI i + _ = _ from nI_add i 1) (by omega) dL_law_1464 ?_
  refine jr_aload_n hX dL_law_1465 rfl ?_
  refine jr_iload hX dL_law_1466 rfl ?_
  refine jr_iconst (v := 2) hX dL_law_1468 (by decide) ?_
  refine jr_iadd hX dL_law_1469 ?_
  refine jr_sld hX hxs (show nI i + _ = _ from nI_add i 2) (by omega) dL_law_1470 ?_
  refine jr_aload_n hX dL_law_1471 rfl ?_
  refine jr_relM (jr_runSX hX hSt kM_L_163 (h1 n G hn) rfl rfl dL_law_1472 (jj_rb (by show 9 + 1 ≤ _; omega) (by show 8 + (_ + 11) + 160 ≤ _; omega)) ⟨by show cs + 1 ≤ _; omega, by show sl + 6 ≤ _; omega⟩ rfl) ?_
  intro r1 n1 K1 I1 P1 G1 hq
  obtain ⟨e1, hn1, e2, e3, v, hv, hG⟩ := hq
  subst e1
  subst e2
  subst e3
  simp only [Option.toList, List.cons_append, List.nil_append]
  obtain ⟨rm2, ⟨b1, b2, b3, b4⟩, h3⟩ := h2 v I1 hv n1 G1 (by omega)
  refine jr_istore hX dL_law_1475 rfl ?_
  refine jr_aload_n hX dL_law_1477 rfl ?_
  refine jr_aload_n hX dL_law_1478 rfl ?_
  refine jr_iload hX dL_law_1479 rfl ?_
  refine jr_iconst (v := 1) hX dL_law_1481 (by decide) ?_
  refine jr_iadd hX dL_law_1482 ?_
  refine jr_sld hX hxs (show nI i + _ = _ from nI_add i 1) (by omega) dL_law_1483 ?_
  refine jr_aload_n hX dL_law_1484 rfl ?_
  refine jr_iload hX dL_law_1485 rfl ?_
  refine jr_iconst (v := 2) hX dL_law_1487 (by decide) ?_
  refine jr_iadd hX dL_law_1488 ?_
  refine jr_sld hX hxs (show nI i + _ = _ from nI_add i 2) (by omega) dL_law_1489 ?_
  refine jr_relM (jr_runV hX hSt kM_L_165 h3 rfl rfl (ly_kMo hly) ⟨_, _, rfl, by decide⟩ dL_law_1490 (jj_rb (by omega) (by omega)) ⟨by show cs + 1 + _ ≤ _; omega, by show sl + 6 + _ ≤ _; omega⟩ rfl) ?_
  intro r2 n2 K2 I2 P2 G2 hq
  obtain ⟨⟨u, e1, hu⟩, hn2, e2, e3, e4, h150, hli⟩ := hq
  subst e1
  subst e2
  subst e3
  subst e4
  simp only [Option.toList, List.cons_append, List.nil_append]
  refine jr_istore hX dL_law_1493 rfl ?_
  refine jr_aload_n hX dL_law_1495 rfl ?_
  refine jr_ret (jr_runV hX hSt kM_L_106 (c_thrown (jj_fl hX) hly) rfl rfl (ly_kMo hly) ⟨_, _, rfl, by decide⟩ dL_law_1496 (jj_rb (by show 0 + 1 ≤ _; omega) (by show 8 + (_ + 11) + 0 ≤ _; omega)) ⟨by show cs + 1 + _ + 0 ≤ _; omega, by show sl + 6 + _ + 0 ≤ _; omega⟩ rfl) ?_
  rw [h150]
  refine jr_iload hX dL_law_1499 rfl ?_
  refine jr_icmp_eq (tgt := 1506) hX dL_law_1501 (by decide) (fun _ => ?_) (fun q => absurd rfl q)
  refine jr_iload hX dL_law_1506 rfl ?_
  refine jr_if_ne (tgt := 1523) hX dL_law_1508 (by decide) (fun _ => ?_) (fun q => ?_)
  · refine jr_goto (tgt := 2009) hX dL_law_1523 (by decide) ?_
    refine jr_widen (cs1 := cs + 16) (sl1 := sl + 564) (by show cs + 1 + _ + 0 ≤ _; omega) (by show sl + 6 + _ + 0 ≤ _; omega) ?_
    exact jr_forget (fun _ _ h => h) (fun i v h => by rcases i with _ | _ | _ | _ | _ | _ | _ | _ | _ | i <;> first | exact h | exact absurd h (by simp)) (kk _ _ _ (by omega) hli)
  · refine jr_aload_n hX dL_law_1511 rfl ?_
    refine jr_iconst (v := 0) hX dL_law_1512 (by decide) ?_
    refine jr_lald hX hk161 (show _ = nI 0 from rfl) (by decide) dL_law_1513 ?_
    refine jr_iload hX dL_law_1514 rfl ?_
    refine jr_i2l hX dL_law_1516 ?_
    refine jr_lcmp hX dL_law_1517 ?_
    rw [hG q, hu q]
    refine jr_if_eq (tgt := 1523) hX dL_law_1518 (by decide) (fun _ => ?_) (fun q => absurd (lw_cmp0 _) q)
    refine jr_goto (tgt := 2009) hX dL_law_1523 (by decide) ?_
    refine jr_widen (cs1 := cs + 16) (sl1 := sl + 564) (by show cs + 1 + _ + 0 ≤ _; omega) (by show sl + 6 + _ + 0 ≤ _; omega) ?_
    exact jr_forget (fun _ _ h => h) (fun i v h => by rcases i with _ | _ | _ | _ | _ | _ | _ | _ | _ | i <;> first | exact h | exact absurd h (by simp)) (kk _ _ _ (by omega) hli)
set_option maxHeartbeats 4000000 in
set_option maxRecDepth 100000 in
theorem lc_debt (hX : jj_Cx X D cL_law RL 9 (some .boolean) nm rm tb) (hSt : jj_St X D) {S : Nat} {xs : Nat → Int32} (hxs : jj_XS X D S xs) (hly : ly K P) (hk161 : K 161 = some (11, 1)) (hKn0 : ∀ a, 162 ≤ a → K a = none) {t : Nat} (hI : li t I) (ht : t + 1 ≤ 512) {i : Nat} (hi : i + 7 ≤ S ∧ S ≤ 3584) (hn : 162 ≤ n) (hrf : 10 ≤ rm.frames) (hrl : 200 ≤ rm.locals) (hrc : cs + 16 ≤ rm.cells) (hrs : sl + 564 ≤ rm.slots) (kk : ∀ n1 I1 G1, 162 ≤ n1 → li (t + 1) I1 → jj_J X D 9 (cs + 16) (sl + 564) Q n1 K I1 P G1 2009 (lw_L i) []) : jj_J X D 9 cs sl Q n K I P G 1526 (lw_L i) [] := by
  obtain ⟨c, S1, h1, h2⟩ := lj_debt (jj_fl hX) hly hk161 hKn0 hI ht (xs (i + 1)) (xs (i + 2))
  refine jr_aload_n hX dL_law_1526 rfl ?_
  refine jr_aload_n hX dL_law_1527 rfl ?_
  refine jr_iload hX dL_law_1528 rfl ?_
  refine jr_iconst (v := 1) hX dL_law_1530 (by decide) ?_
  refine jr_iadd hX dL_law_1531 ?_
  refine jr_sld hX hxs (show nI i + _ = _ from nI_add i 1) (by omega) dL_law_1532 ?_
  refine jr_aload_n hX dL_law_1533 rfl ?_
  refine jr_iload hX dL_law_1534 rfl ?_
  refine jr_iconst (v := 2) hX dL_law_1536 (by decide) ?_
  refine jr_iadd hX dL_law_1537 ?_
  refine jr_sld hX hxs (show nI i + _ = _ from nI_add i 2) (by omega) dL_law_1538 ?_
  refine jr_aload_n hX dL_law_1539 rfl ?_
  refine jr_relM (jr_runSX hX hSt kM_L_166 (h1 n G hn) rfl rfl dL_law_1540 (jj_rb (by show 9 + 1 ≤ _; omega) (by show 8 + (_ + 11) + 160 ≤ _; omega)) ⟨by show cs + 1 ≤ _; omega, by show sl + 6 ≤ _; omega⟩ rfl) ?_
  intro r1 n1 K1 I1 P1 G1 hq
  obtain ⟨e1, hn1, e2, e3, v, hv, hG⟩ := hq
  subst e1
  subst e2
  subst e3
  simp only [Option.toList, List.cons_append, List.nil_append]
  obtain ⟨rm2, ⟨b1, b2, b3, b4⟩, h3⟩ := h2 v I1 hv n1 G1 (by omega)
  refine jr_istore hX dL_law_1543 rfl ?_
  refine jr_aload_n hX dL_law_1545 rfl ?_
  refine jr_aload_n hX dL_law_1546 rfl ?_
  refine jr_iload hX dL_law_1547 rfl ?_
  refine jr_iconst (v := 1) hX dL_law_1549 (by decide) ?_
  refine jr_iadd hX dL_law_1550 ?_
  refine jr_sld hX hxs (show nI i + _ = _ from nI_add i 1) (by omega) dL_law_1551 ?_
  refine jr_aload_n hX dL_law_1552 rfl ?_
  refine jr_iload hX dL_law_1553 rfl ?_
  refine jr_iconst (v := 2) hX dL_law_1555 (by decide) ?_
  refine jr_iadd hX dL_law_1556 ?_
  refine jr_sld hX hxs (show nI i + _ = _ from nI_add i 2) (by omega) dL_law_1557 ?_
  refine jr_relM (jr_runV hX hSt kM_L_168 h3 rfl rfl (ly_kMo hly) ⟨_, _, rfl, by decide⟩ dL_law_1558 (jj_rb (by omega) (by omega)) ⟨by show cs + 1 + _ ≤ _; omega, by show sl + 6 + _ ≤ _; omega⟩ rfl) ?_
  intro r2 n2 K2 I2 P2 G2 hq
  obtain ⟨⟨u, e1, hu⟩, hn2, e2, e3, e4, h150, hli⟩ := hq
  subst e1
  subst e2
  subst e3
  subst e4
  simp only [Option.toList, List.cons_append, List.nil_append]
  refine jr_istore hX dL_law_1561 rfl ?_
  refine jr_aload_n hX dL_law_1563 rfl ?_
  refine jr_ret (jr_runV hX hSt kM_L_106 (c_thrown (jj_fl hX) hly) rfl rfl (ly_kMo hly) ⟨_, _, rfl, by decide⟩ dL_law_1564 (jj_rb (by show 0 + 1 ≤ _; omega) (by show 8 + (_ + 11) + 0 ≤ _; omega)) ⟨by show cs + 1 + _ + 0 ≤ _; omega, by show sl + 6 + _ + 0 ≤ _; omega⟩ rfl) ?_
  rw [h150]
  refine jr_iload hX dL_law_1567 rfl ?_
  refine jr_icmp_eq (tgt := 1574) hX dL_law_1569 (by decide) (fun _ => ?_) (fun q => absurd rfl q)
  refine jr_iload hX dL_law_1574 rfl ?_
  refine jr_if_ne (tgt := 1591) hX dL_law_1576 (by decide) (fun _ => ?_) (fun q => ?_)
  · refine jr_goto (tgt := 2009) hX dL_law_1591 (by decide) ?_
    refine jr_widen (cs1 := cs + 16) (sl1 := sl + 564) (by show cs + 1 + _ + 0 ≤ _; omega) (by show sl + 6 + _ + 0 ≤ _; omega) ?_
    exact jr_forget (fun _ _ h => h) (fun i v h => by rcases i with _ | _ | _ | _ | _ | _ | _ | _ | _ | i <;> first | exact h | exact absurd h (by simp)) (kk _ _ _ (by omega) hli)
  · refine jr_aload_n hX dL_law_1579 rfl ?_
    refine jr_iconst (v := 0) hX dL_law_1580 (by decide) ?_
    refine jr_lald hX hk161 (show _ = nI 0 from rfl) (by decide) dL_law_1581 ?_
    refine jr_iload hX dL_law_1582 rfl ?_
    refine jr_i2l hX dL_law_1584 ?_
    refine jr_lcmp hX dL_law_1585 ?_
    rw [hG q, hu q]
    refine jr_if_eq (tgt := 1591) hX dL_law_1586 (by decide) (fun _ => ?_) (fun q => absurd (lw_cmp0 _) q)
    refine jr_goto (tgt := 2009) hX dL_law_1591 (by decide) ?_
    refine jr_widen (cs1 := cs + 16) (sl1 := sl + 564) (by show cs + 1 + _ + 0 ≤ _; omega) (by show sl + 6 + _ + 0 ≤ _; omega) ?_
    exact jr_forget (fun _ _ h => h) (fun i v h => by rcases i with _ | _ | _ | _ | _ | _ | _ | _ | _ | i <;> first | exact h | exact absurd h (by simp)) (kk _ _ _ (by omega) hli)
set_option maxHeartbeats 4000000 in
set_option maxRecDepth 100000 in
theorem lc_pass (hX : jj_Cx X D cL_law RL 9 (some .boolean) nm rm tb) (hSt : jj_St X D) {S : Nat} {xs : Nat → Int32} (hxs : jj_XS X D S xs) (hly : ly K P) (hk161 : K 161 = some (11, 1)) (hKn0 : ∀ a, 162 ≤ a → K a = none) {t : Nat} (hI : li t I) (ht : t + 1 ≤ 512) {i : Nat} (hi : i + 7 ≤ S ∧ S ≤ 3584) (hn : 162 ≤ n) (hrf : 10 ≤ rm.frames) (hrl : 200 ≤ rm.locals) (hrc : cs + 16 ≤ rm.cells) (hrs : sl + 564 ≤ rm.slots) (kk : ∀ n1 I1 G1, 162 ≤ n1 → li (t + 1) I1 → jj_J X D 9 (cs + 16) (sl + 564) Q n1 K I1 P G1 2009 (lw_L i) []) : jj_J X D 9 cs sl Q n K I P G 1594 (lw_L i) [] := by
  obtain ⟨c, S1, h1, h2⟩ := lj_pass (jj_fl hX) hly hk161 hKn0 hI ht (xs (i + 1))
  refine jr_aload_n hX dL_law_1594 rfl ?_
  refine jr_aload_n hX dL_law_1595 rfl ?_
  refine jr_iload hX dL_law_1596 rfl ?_
  refine jr_iconst (v := 1) hX dL_law_1598 (by decide) ?_
  refine jr_iadd hX dL_law_1599 ?_
  refine jr_sld hX hxs (show nI i + _ = _ from nI_add i 1) (by omega) dL_law_1600 ?_
  refine jr_aload_n hX dL_law_1601 rfl ?_
  refine jr_relM (jr_runSX hX hSt kM_L_169 (h1 n G hn) rfl rfl dL_law_1602 (jj_rb (by show 9 + 1 ≤ _; omega) (by show 8 + (_ + 11) + 160 ≤ _; omega)) ⟨by show cs + 1 ≤ _; omega, by show sl + 6 ≤ _; omega⟩ rfl) ?_
  intro r1 n1 K1 I1 P1 G1 hq
  obtain ⟨e1, hn1, e2, e3, v, hv, hG⟩ := hq
  subst e1
  subst e2
  subst e3
  simp only [Option.toList, List.cons_append, List.nil_append]
  obtain ⟨rm2, ⟨b1, b2, b3, b4⟩, h3⟩ := h2 v I1 hv n1 G1 (by omega)
  refine jr_istore hX dL_law_1605 rfl ?_
  refine jr_aload_n hX dL_law_1607 rfl ?_
  refine jr_aload_n hX dL_law_1608 rfl ?_
  refine jr_iload hX dL_law_1609 rfl ?_
  refine jr_iconst (v := 1) hX dL_law_1611 (by decide) ?_
  refine jr_iadd hX dL_law_1612 ?_
  refine jr_sld hX hxs (show nI i + _ = _ from nI_add i 1) (by omega) dL_law_1613 ?_
  refine jr_relM (jr_runV hX hSt kM_L_171 h3 rfl rfl (ly_kMo hly) ⟨_, _, rfl, by decide⟩ dL_law_1614 (jj_rb (by omega) (by omega)) ⟨by show cs + 1 + _ ≤ _; omega, by show sl + 6 + _ ≤ _; omega⟩ rfl) ?_
  intro r2 n2 K2 I2 P2 G2 hq
  obtain ⟨⟨u, e1, hu⟩, hn2, e2, e3, e4, h150, hli⟩ := hq
  subst e1
  subst e2
  subst e3
  subst e4
  simp only [Option.toList, List.cons_append, List.nil_append]
  refine jr_istore hX dL_law_1617 rfl ?_
  refine jr_aload_n hX dL_law_1619 rfl ?_
  refine jr_ret (jr_runV hX hSt kM_L_106 (c_thrown (jj_fl hX) hly) rfl rfl (ly_kMo hly) ⟨_, _, rfl, by decide⟩ dL_law_1620 (jj_rb (by show 0 + 1 ≤ _; omega) (by show 8 + (_ + 11) + 0 ≤ _; omega)) ⟨by show cs + 1 + _ + 0 ≤ _; omega, by show sl + 6 + _ + 0 ≤ _; omega⟩ rfl) ?_
  rw [h150]
  refine jr_iload hX dL_law_1623 rfl ?_
  refine jr_icmp_eq (tgt := 1630) hX dL_law_1625 (by decide) (fun _ => ?_) (fun q => absurd rfl q)
  refine jr_iload hX dL_law_1630 rfl ?_
  refine jr_if_ne (tgt := 1647) hX dL_law_1632 (by decide) (fun _ => ?_) (fun q => ?_)
  · refine jr_goto (tgt := 2009) hX dL_law_1647 (by decide) ?_
    refine jr_widen (cs1 := cs + 16) (sl1 := sl + 564) (by show cs + 1 + _ + 0 ≤ _; omega) (by show sl + 6 + _ + 0 ≤ _; omega) ?_
    exact jr_forget (fun _ _ h => h) (fun i v h => by rcases i with _ | _ | _ | _ | _ | _ | _ | _ | _ | i <;> first | exact h | exact absurd h (by simp)) (kk _ _ _ (by omega) hli)
  · refine jr_aload_n hX dL_law_1635 rfl ?_
    refine jr_iconst (v := 0) hX dL_law_1636 (by decide) ?_
    refine jr_lald hX hk161 (show _ = nI 0 from rfl) (by decide) dL_law_1637 ?_
    refine jr_iload hX dL_law_1638 rfl ?_
    refine jr_i2l hX dL_law_1640 ?_
    refine jr_lcmp hX dL_law_1641 ?_
    rw [hG q, hu q]
    refine jr_if_eq (tgt := 1647) hX dL_law_1642 (by decide) (fun _ => ?_) (fun q => absurd (lw_cmp0 _) q)
    refine jr_goto (tgt := 2009) hX dL_law_1647 (by decide) ?_
    refine jr_widen (cs1 := cs + 16) (sl1 := sl + 564) (by show cs + 1 + _ + 0 ≤ _; omega) (by show sl + 6 + _ + 0 ≤ _; omega) ?_
    exact jr_forget (fun _ _ h => h) (fun i v h => by rcases i with _ | _ | _ | _ | _ | _ | _ | _ | _ | i <;> first | exact h | exact absurd h (by simp)) (kk _ _ _ (by omega) hli)
set_option maxHeartbeats 4000000 in
set_option maxRecDepth 100000 in
theorem lc_count (hX : jj_Cx X D cL_law RL 9 (some .boolean) nm rm tb) (hSt : jj_St X D) {S : Nat} {xs : Nat → Int32} (hxs : jj_XS X D S xs) (hly : ly K P) (hk161 : K 161 = some (11, 1)) (hKn0 : ∀ a, 162 ≤ a → K a = none) {t : Nat} (hI : li t I) (ht : t + 1 ≤ 512) {i : Nat} (hi : i + 7 ≤ S ∧ S ≤ 3584) (hn : 162 ≤ n) (hrf : 10 ≤ rm.frames) (hrl : 200 ≤ rm.locals) (hrc : cs + 16 ≤ rm.cells) (hrs : sl + 564 ≤ rm.slots) (kk : ∀ n1 I1 G1, 162 ≤ n1 → li (t + 1) I1 → jj_J X D 9 (cs + 16) (sl + 564) Q n1 K I1 P G1 2009 (lw_L i) []) : jj_J X D 9 cs sl Q n K I P G 1650 (lw_L i) [] := by
  obtain ⟨c, S1, h1, h2⟩ := lj_count (jj_fl hX) hly hk161 hKn0 hI ht (xs (i + 1))
  refine jr_aload_n hX dL_law_1650 rfl ?_
  refine jr_aload_n hX dL_law_1651 rfl ?_
  refine jr_iload hX dL_law_1652 rfl ?_
  refine jr_iconst (v := 1) hX dL_law_1654 (by decide) ?_
  refine jr_iadd hX dL_law_1655 ?_
  refine jr_sld hX hxs (show nI i + _ = _ from nI_add i 1) (by omega) dL_law_1656 ?_
  refine jr_aload_n hX dL_law_1657 rfl ?_
  refine jr_relM (jr_runSX hX hSt kM_L_172 (h1 n G hn) rfl rfl dL_law_1658 (jj_rb (by show 9 + 1 ≤ _; omega) (by show 8 + (_ + 11) + 160 ≤ _; omega)) ⟨by show cs + 1 ≤ _; omega, by show sl + 6 ≤ _; omega⟩ rfl) ?_
  intro r1 n1 K1 I1 P1 G1 hq
  obtain ⟨e1, hn1, e2, e3, v, hv, hG⟩ := hq
  subst e1
  subst e2
  subst e3
  simp only [Option.toList, List.cons_append, List.nil_append]
  obtain ⟨rm2, ⟨b1, b2, b3, b4⟩, h3⟩ := h2 v I1 hv n1 G1 (by omega)
  refine jr_istore hX dL_law_1661 rfl ?_
  refine jr_aload_n hX dL_law_1663 rfl ?_
  refine jr_aload_n hX dL_law_1664 rfl ?_
  refine jr_iload hX dL_law_1665 rfl ?_
  refine jr_iconst (v := 1) hX dL_law_1667 (by decide) ?_
  refine jr_iadd hX dL_law_1668 ?_
  refine jr_sld hX hxs (show nI i + _ = _ from nI_add i 1) (by omega) dL_law_1669 ?_
  refine jr_relM (jr_runV hX hSt kM_L_174 h3 rfl rfl (ly_kMo hly) ⟨_, _, rfl, by decide⟩ dL_law_1670 (jj_rb (by omega) (by omega)) ⟨by show cs + 1 + _ ≤ _; omega, by show sl + 6 + _ ≤ _; omega⟩ rfl) ?_
  intro r2 n2 K2 I2 P2 G2 hq
  obtain ⟨⟨u, e1, hu⟩, hn2, e2, e3, e4, h150, hli⟩ := hq
  subst e1
  subst e2
  subst e3
  subst e4
  simp only [Option.toList, List.cons_append, List.nil_append]
  refine jr_istore hX dL_law_1673 rfl ?_
  refine jr_aload_n hX dL_law_1675 rfl ?_
  refine jr_ret (jr_runV hX hSt kM_L_106 (c_thrown (jj_fl hX) hly) rfl rfl (ly_kMo hly) ⟨_, _, rfl, by decide⟩ dL_law_1676 (jj_rb (by show 0 + 1 ≤ _; omega) (by show 8 + (_ + 11) + 0 ≤ _; omega)) ⟨by show cs + 1 + _ + 0 ≤ _; omega, by show sl + 6 + _ + 0 ≤ _; omega⟩ rfl) ?_
  rw [h150]
  refine jr_iload hX dL_law_1679 rfl ?_
  refine jr_icmp_eq (tgt := 1686) hX dL_law_1681 (by decide) (fun _ => ?_) (fun q => absurd rfl q)
  refine jr_iload hX dL_law_1686 rfl ?_
  refine jr_if_ne (tgt := 1703) hX dL_law_1688 (by decide) (fun _ => ?_) (fun q => ?_)
  · refine jr_goto (tgt := 2009) hX dL_law_1703 (by decide) ?_
    refine jr_widen (cs1 := cs + 16) (sl1 := sl + 564) (by show cs + 1 + _ + 0 ≤ _; omega) (by show sl + 6 + _ + 0 ≤ _; omega) ?_
    exact jr_forget (fun _ _ h => h) (fun i v h => by rcases i with _ | _ | _ | _ | _ | _ | _ | _ | _ | i <;> first | exact h | exact absurd h (by simp)) (kk _ _ _ (by omega) hli)
  · refine jr_aload_n hX dL_law_1691 rfl ?_
    refine jr_iconst (v := 0) hX dL_law_1692 (by decide) ?_
    refine jr_lald hX hk161 (show _ = nI 0 from rfl) (by decide) dL_law_1693 ?_
    refine jr_iload hX dL_law_1694 rfl ?_
    refine jr_i2l hX dL_law_1696 ?_
    refine jr_lcmp hX dL_law_1697 ?_
    rw [hG q, hu q]
    refine jr_if_eq (tgt := 1703) hX dL_law_1698 (by decide) (fun _ => ?_) (fun q => absurd (lw_cmp0 _) q)
    refine jr_goto (tgt := 2009) hX dL_law_1703 (by decide) ?_
    refine jr_widen (cs1 := cs + 16) (sl1 := sl + 564) (by show cs + 1 + _ + 0 ≤ _; omega) (by show sl + 6 + _ + 0 ≤ _; omega) ?_
    exact jr_forget (fun _ _ h => h) (fun i v h => by rcases i with _ | _ | _ | _ | _ | _ | _ | _ | _ | i <;> first | exact h | exact absurd h (by simp)) (kk _ _ _ (by omega) hli)
set_option maxHeartbeats 4000000 in
set_option maxRecDepth 100000 in
theorem lc_opens (hX : jj_Cx X D cL_law RL 9 (some .boolean) nm rm tb) (hSt : jj_St X D) {S : Nat} {xs : Nat → Int32} (hxs : jj_XS X D S xs) (hly : ly K P) (hk161 : K 161 = some (11, 1)) (hKn0 : ∀ a, 162 ≤ a → K a = none) {t : Nat} (hI : li t I) (ht : t + 1 ≤ 512) {i : Nat} (hi : i + 7 ≤ S ∧ S ≤ 3584) (hn : 162 ≤ n) (hrf : 10 ≤ rm.frames) (hrl : 200 ≤ rm.locals) (hrc : cs + 16 ≤ rm.cells) (hrs : sl + 564 ≤ rm.slots) (kk : ∀ n1 I1 G1, 162 ≤ n1 → li (t + 1) I1 → jj_J X D 9 (cs + 16) (sl + 564) Q n1 K I1 P G1 2009 (lw_L i) []) : jj_J X D 9 cs sl Q n K I P G 1706 (lw_L i) [] := by
  obtain ⟨c, S1, h1, h2⟩ := lj_opens (jj_fl hX) hly hk161 hKn0 hI ht (xs (i + 1))
  refine jr_aload_n hX dL_law_1706 rfl ?_
  refine jr_aload_n hX dL_law_1707 rfl ?_
  refine jr_iload hX dL_law_1708 rfl ?_
  refine jr_iconst (v := 1) hX dL_law_1710 (by decide) ?_
  refine jr_iadd hX dL_law_1711 ?_
  refine jr_sld hX hxs (show nI i + _ = _ from nI_add i 1) (by omega) dL_law_1712 ?_
  refine jr_aload_n hX dL_law_1713 rfl ?_
  refine jr_relM (jr_runSX hX hSt kM_L_175 (h1 n G hn) rfl rfl dL_law_1714 (jj_rb (by show 9 + 1 ≤ _; omega) (by show 8 + (_ + 11) + 160 ≤ _; omega)) ⟨by show cs + 1 ≤ _; omega, by show sl + 6 ≤ _; omega⟩ rfl) ?_
  intro r1 n1 K1 I1 P1 G1 hq
  obtain ⟨e1, hn1, e2, e3, v, hv, hG⟩ := hq
  subst e1
  subst e2
  subst e3
  simp only [Option.toList, List.cons_append, List.nil_append]
  obtain ⟨rm2, ⟨b1, b2, b3, b4⟩, h3⟩ := h2 v I1 hv n1 G1 (by omega)
  refine jr_istore hX dL_law_1717 rfl ?_
  refine jr_aload_n hX dL_law_1719 rfl ?_
  refine jr_aload_n hX dL_law_1720 rfl ?_
  refine jr_iload hX dL_law_1721 rfl ?_
  refine jr_iconst (v := 1) hX dL_law_1723 (by decide) ?_
  refine jr_iadd hX dL_law_1724 ?_
  refine jr_sld hX hxs (show nI i + _ = _ from nI_add i 1) (by omega) dL_law_1725 ?_
  refine jr_relM (jr_runV hX hSt kM_L_177 h3 rfl rfl (ly_kMo hly) ⟨_, _, rfl, by decide⟩ dL_law_1726 (jj_rb (by omega) (by omega)) ⟨by show cs + 1 + _ ≤ _; omega, by show sl + 6 + _ ≤ _; omega⟩ rfl) ?_
  intro r2 n2 K2 I2 P2 G2 hq
  obtain ⟨⟨u, e1, hu⟩, hn2, e2, e3, e4, h150, hli⟩ := hq
  subst e1
  subst e2
  subst e3
  subst e4
  simp only [Option.toList, List.cons_append, List.nil_append]
  refine jr_istore hX dL_law_1729 rfl ?_
  refine jr_aload_n hX dL_law_1731 rfl ?_
  refine jr_ret (jr_runV hX hSt kM_L_106 (c_thrown (jj_fl hX) hly) rfl rfl (ly_kMo hly) ⟨_, _, rfl, by decide⟩ dL_law_1732 (jj_rb (by show 0 + 1 ≤ _; omega) (by show 8 + (_ + 11) + 0 ≤ _; omega)) ⟨by show cs + 1 + _ + 0 ≤ _; omega, by show sl + 6 + _ + 0 ≤ _; omega⟩ rfl) ?_
  rw [h150]
  refine jr_iload hX dL_law_1735 rfl ?_
  refine jr_icmp_eq (tgt := 1742) hX dL_law_1737 (by decide) (fun _ => ?_) (fun q => absurd rfl q)
  refine jr_iload hX dL_law_1742 rfl ?_
  refine jr_if_ne (tgt := 1759) hX dL_law_1744 (by decide) (fun _ => ?_) (fun q => ?_)
  · refine jr_goto (tgt := 2009) hX dL_law_1759 (by decide) ?_
    refine jr_widen (cs1 := cs + 16) (sl1 := sl + 564) (by show cs + 1 + _ + 0 ≤ _; omega) (by show sl + 6 + _ + 0 ≤ _; omega) ?_
    exact jr_forget (fun _ _ h => h) (fun i v h => by rcases i with _ | _ | _ | _ | _ | _ | _ | _ | _ | i <;> first | exact h | exact absurd h (by simp)) (kk _ _ _ (by omega) hli)
  · refine jr_aload_n hX dL_law_1747 rfl ?_
    refine jr_iconst (v := 0) hX dL_law_1748 (by decide) ?_
    refine jr_lald hX hk161 (show _ = nI 0 from rfl) (by decide) dL_law_1749 ?_
    refine jr_iload hX dL_law_1750 rfl ?_
    refine jr_i2l hX dL_law_1752 ?_
    refine jr_lcmp hX dL_law_1753 ?_
    rw [hG q, hu q]
    refine jr_if_eq (tgt := 1759) hX dL_law_1754 (by decide) (fun _ => ?_) (fun q => absurd (lw_cmp0 _) q)
    refine jr_goto (tgt := 2009) hX dL_law_1759 (by decide) ?_
    refine jr_widen (cs1 := cs + 16) (sl1 := sl + 564) (by show cs + 1 + _ + 0 ≤ _; omega) (by show sl + 6 + _ + 0 ≤ _; omega) ?_
    exact jr_forget (fun _ _ h => h) (fun i v h => by rcases i with _ | _ | _ | _ | _ | _ | _ | _ | _ | i <;> first | exact h | exact absurd h (by simp)) (kk _ _ _ (by omega) hli)
set_option maxHeartbeats 4000000 in
set_option maxRecDepth 100000 in
theorem lc_arrives (hX : jj_Cx X D cL_law RL 9 (some .boolean) nm rm tb) (hSt : jj_St X D) {S : Nat} {xs : Nat → Int32} (hxs : jj_XS X D S xs) (hly : ly K P) (hk161 : K 161 = some (11, 1)) (hKn0 : ∀ a, 162 ≤ a → K a = none) {t : Nat} (hI : li t I) (ht : t + 1 ≤ 512) {i : Nat} (hi : i + 7 ≤ S ∧ S ≤ 3584) (hn : 162 ≤ n) (hrf : 10 ≤ rm.frames) (hrl : 200 ≤ rm.locals) (hrc : cs + 16 ≤ rm.cells) (hrs : sl + 564 ≤ rm.slots) (kk : ∀ n1 I1 G1, 162 ≤ n1 → li (t + 1) I1 → jj_J X D 9 (cs + 16) (sl + 564) Q n1 K I1 P G1 2009 (lw_L i) []) : jj_J X D 9 cs sl Q n K I P G 1762 (lw_L i) [] := by
  obtain ⟨c, S1, h1, h2⟩ := lj_arrives (jj_fl hX) hly hk161 hKn0 hI ht (xs (i + 1))
  refine jr_aload_n hX dL_law_1762 rfl ?_
  refine jr_aload_n hX dL_law_1763 rfl ?_
  refine jr_iload hX dL_law_1764 rfl ?_
  refine jr_iconst (v := 1) hX dL_law_1766 (by decide) ?_
  refine jr_iadd hX dL_law_1767 ?_
  refine jr_sld hX hxs (show nI i + _ = _ from nI_add i 1) (by omega) dL_law_1768 ?_
  refine jr_aload_n hX dL_law_1769 rfl ?_
  refine jr_relM (jr_runSX hX hSt kM_L_178 (h1 n G hn) rfl rfl dL_law_1770 (jj_rb (by show 9 + 1 ≤ _; omega) (by show 8 + (_ + 11) + 160 ≤ _; omega)) ⟨by show cs + 1 ≤ _; omega, by show sl + 6 ≤ _; omega⟩ rfl) ?_
  intro r1 n1 K1 I1 P1 G1 hq
  obtain ⟨e1, hn1, e2, e3, v, hv, hG⟩ := hq
  subst e1
  subst e2
  subst e3
  simp only [Option.toList, List.cons_append, List.nil_append]
  obtain ⟨rm2, ⟨b1, b2, b3, b4⟩, h3⟩ := h2 v I1 hv n1 G1 (by omega)
  refine jr_istore hX dL_law_1773 rfl ?_
  refine jr_aload_n hX dL_law_1775 rfl ?_
  refine jr_aload_n hX dL_law_1776 rfl ?_
  refine jr_iload hX dL_law_1777 rfl ?_
  refine jr_iconst (v := 1) hX dL_law_1779 (by decide) ?_
  refine jr_iadd hX dL_law_1780 ?_
  refine jr_sld hX hxs (show nI i + _ = _ from nI_add i 1) (by omega) dL_law_1781 ?_
  refine jr_relM (jr_runV hX hSt kM_L_180 h3 rfl rfl (ly_kMo hly) ⟨_, _, rfl, by decide⟩ dL_law_1782 (jj_rb (by omega) (by omega)) ⟨by show cs + 1 + _ ≤ _; omega, by show sl + 6 + _ ≤ _; omega⟩ rfl) ?_
  intro r2 n2 K2 I2 P2 G2 hq
  obtain ⟨⟨u, e1, hu⟩, hn2, e2, e3, e4, h150, hli⟩ := hq
  subst e1
  subst e2
  subst e3
  subst e4
  simp only [Option.toList, List.cons_append, List.nil_append]
  refine jr_istore hX dL_law_1785 rfl ?_
  refine jr_aload_n hX dL_law_1787 rfl ?_
  refine jr_ret (jr_runV hX hSt kM_L_106 (c_thrown (jj_fl hX) hly) rfl rfl (ly_kMo hly) ⟨_, _, rfl, by decide⟩ dL_law_1788 (jj_rb (by show 0 + 1 ≤ _; omega) (by show 8 + (_ + 11) + 0 ≤ _; omega)) ⟨by show cs + 1 + _ + 0 ≤ _; omega, by show sl + 6 + _ + 0 ≤ _; omega⟩ rfl) ?_
  rw [h150]
  refine jr_iload hX dL_law_1791 rfl ?_
  refine jr_icmp_eq (tgt := 1798) hX dL_law_1793 (by decide) (fun _ => ?_) (fun q => absurd rfl q)
  refine jr_iload hX dL_law_1798 rfl ?_
  refine jr_if_ne (tgt := 1815) hX dL_law_1800 (by decide) (fun _ => ?_) (fun q => ?_)
  · refine jr_goto (tgt := 2009) hX dL_law_1815 (by decide) ?_
    refine jr_widen (cs1 := cs + 16) (sl1 := sl + 564) (by show cs + 1 + _ + 0 ≤ _; omega) (by show sl + 6 + _ + 0 ≤ _; omega) ?_
    exact jr_forget (fun _ _ h => h) (fun i v h => by rcases i with _ | _ | _ | _ | _ | _ | _ | _ | _ | i <;> first | exact h | exact absurd h (by simp)) (kk _ _ _ (by omega) hli)
  · refine jr_aload_n hX dL_law_1803 rfl ?_
    refine jr_iconst (v := 0) hX dL_law_1804 (by decide) ?_
    refine jr_lald hX hk161 (show _ = nI 0 from rfl) (by decide) dL_law_1805 ?_
    refine jr_iload hX dL_law_1806 rfl ?_
    refine jr_i2l hX dL_law_1808 ?_
    refine jr_lcmp hX dL_law_1809 ?_
    rw [hG q, hu q]
    refine jr_if_eq (tgt := 1815) hX dL_law_1810 (by decide) (fun _ => ?_) (fun q => absurd (lw_cmp0 _) q)
    refine jr_goto (tgt := 2009) hX dL_law_1815 (by decide) ?_
    refine jr_widen (cs1 := cs + 16) (sl1 := sl + 564) (by show cs + 1 + _ + 0 ≤ _; omega) (by show sl + 6 + _ + 0 ≤ _; omega) ?_
    exact jr_forget (fun _ _ h => h) (fun i v h => by rcases i with _ | _ | _ | _ | _ | _ | _ | _ | _ | i <;> first | exact h | exact absurd h (by simp)) (kk _ _ _ (by omega) hli)
set_option maxHeartbeats 4000000 in
set_option maxRecDepth 100000 in
theorem lc_latest (hX : jj_Cx X D cL_law RL 9 (some .boolean) nm rm tb) (hSt : jj_St X D) {S : Nat} {xs : Nat → Int32} (hxs : jj_XS X D S xs) (hly : ly K P) (hk161 : K 161 = some (11, 1)) (hKn0 : ∀ a, 162 ≤ a → K a = none) {t : Nat} (hI : li t I) (ht : t + 1 ≤ 512) {i : Nat} (hi : i + 7 ≤ S ∧ S ≤ 3584) (hn : 162 ≤ n) (hrf : 10 ≤ rm.frames) (hrl : 200 ≤ rm.locals) (hrc : cs + 16 ≤ rm.cells) (hrs : sl + 564 ≤ rm.slots) (kk : ∀ n1 I1 G1, 162 ≤ n1 → li (t + 1) I1 → jj_J X D 9 (cs + 16) (sl + 564) Q n1 K I1 P G1 2009 (lw_L i) []) : jj_J X D 9 cs sl Q n K I P G 1818 (lw_L i) [] := by
  obtain ⟨c, S1, h1, h2⟩ := lj_latest (jj_fl hX) hly hk161 hKn0 hI ht (xs (i + 1)) (xs (i + 2))
  refine jr_aload_n hX dL_law_1818 rfl ?_
  refine jr_aload_n hX dL_law_1819 rfl ?_
  refine jr_iload hX dL_law_1820 rfl ?_
  refine jr_iconst (v := 1) hX dL_law_1822 (by decide) ?_
  refine jr_iadd hX dL_law_1823 ?_
  refine jr_sld hX hxs (show nI i + _ = _ from nI_add i 1) (by omega) dL_law_1824 ?_
  refine jr_aload_n hX dL_law_1825 rfl ?_
  refine jr_iload hX dL_law_1826 rfl ?_
  refine jr_iconst (v := 2) hX dL_law_1828 (by decide) ?_
  refine jr_iadd hX dL_law_1829 ?_
  refine jr_sld hX hxs (show nI i + _ = _ from nI_add i 2) (by omega) dL_law_1830 ?_
  refine jr_aload_n hX dL_law_1831 rfl ?_
  refine jr_relM (jr_runSX hX hSt kM_L_181 (h1 n G hn) rfl rfl dL_law_1832 (jj_rb (by show 9 + 1 ≤ _; omega) (by show 8 + (_ + 11) + 160 ≤ _; omega)) ⟨by show cs + 1 ≤ _; omega, by show sl + 6 ≤ _; omega⟩ rfl) ?_
  intro r1 n1 K1 I1 P1 G1 hq
  obtain ⟨e1, hn1, e2, e3, v, hv, hG⟩ := hq
  subst e1
  subst e2
  subst e3
  simp only [Option.toList, List.cons_append, List.nil_append]
  obtain ⟨rm2, ⟨b1, b2, b3, b4⟩, h3⟩ := h2 v I1 hv n1 G1 (by omega)
  refine jr_istore hX dL_law_1835 rfl ?_
  refine jr_aload_n hX dL_law_1837 rfl ?_
  refine jr_aload_n hX dL_law_1838 rfl ?_
  refine jr_iload hX dL_law_1839 rfl ?_
  refine jr_iconst (v := 1) hX dL_law_1841 (by decide) ?_
  refine jr_iadd hX dL_law_1842 ?_
  refine jr_sld hX hxs (show nI i + _ = _ from nI_add i 1) (by omega) dL_law_1843 ?_
  refine jr_aload_n hX dL_law_1844 rfl ?_
  refine jr_iload hX dL_law_1845 rfl ?_
  refine jr_iconst (v := 2) hX dL_law_1847 (by decide) ?_
  refine jr_iadd hX dL_law_1848 ?_
  refine jr_sld hX hxs (show nI i + _ = _ from nI_add i 2) (by omega) dL_law_1849 ?_
  refine jr_relM (jr_runV hX hSt kM_L_183 h3 rfl rfl (ly_kMo hly) ⟨_, _, rfl, by decide⟩ dL_law_1850 (jj_rb (by omega) (by omega)) ⟨by show cs + 1 + _ ≤ _; omega, by show sl + 6 + _ ≤ _; omega⟩ rfl) ?_
  intro r2 n2 K2 I2 P2 G2 hq
  obtain ⟨⟨u, e1, hu⟩, hn2, e2, e3, e4, h150, hli⟩ := hq
  subst e1
  subst e2
  subst e3
  subst e4
  simp only [Option.toList, List.cons_append, List.nil_append]
  refine jr_istore hX dL_law_1853 rfl ?_
  refine jr_aload_n hX dL_law_1855 rfl ?_
  refine jr_ret (jr_runV hX hSt kM_L_106 (c_thrown (jj_fl hX) hly) rfl rfl (ly_kMo hly) ⟨_, _, rfl, by decide⟩ dL_law_1856 (jj_rb (by show 0 + 1 ≤ _; omega) (by show 8 + (_ + 11) + 0 ≤ _; omega)) ⟨by show cs + 1 + _ + 0 ≤ _; omega, by show sl + 6 + _ + 0 ≤ _; omega⟩ rfl) ?_
  rw [h150]
  refine jr_iload hX dL_law_1859 rfl ?_
  refine jr_icmp_eq (tgt := 1866) hX dL_law_1861 (by decide) (fun _ => ?_) (fun q => absurd rfl q)
  refine jr_iload hX dL_law_1866 rfl ?_
  refine jr_if_ne (tgt := 1883) hX dL_law_1868 (by decide) (fun _ => ?_) (fun q => ?_)
  · refine jr_goto (tgt := 2009) hX dL_law_1883 (by decide) ?_
    refine jr_widen (cs1 := cs + 16) (sl1 := sl + 564) (by show cs + 1 + _ + 0 ≤ _; omega) (by show sl + 6 + _ + 0 ≤ _; omega) ?_
    exact jr_forget (fun _ _ h => h) (fun i v h => by rcases i with _ | _ | _ | _ | _ | _ | _ | _ | _ | i <;> first | exact h | exact absurd h (by simp)) (kk _ _ _ (by omega) hli)
  · refine jr_aload_n hX dL_law_1871 rfl ?_
    refine jr_iconst (v := 0) hX dL_law_1872 (by decide) ?_
    refine jr_lald hX hk161 (show _ = nI 0 from rfl) (by decide) dL_law_1873 ?_
    refine jr_iload hX dL_law_1874 rfl ?_
    refine jr_i2l hX dL_law_1876 ?_
    refine jr_lcmp hX dL_law_1877 ?_
    rw [hG q, hu q]
    refine jr_if_eq (tgt := 1883) hX dL_law_1878 (by decide) (fun _ => ?_) (fun q => absurd (lw_cmp0 _) q)
    refine jr_goto (tgt := 2009) hX dL_law_1883 (by decide) ?_
    refine jr_widen (cs1 := cs + 16) (sl1 := sl + 564) (by show cs + 1 + _ + 0 ≤ _; omega) (by show sl + 6 + _ + 0 ≤ _; omega) ?_
    exact jr_forget (fun _ _ h => h) (fun i v h => by rcases i with _ | _ | _ | _ | _ | _ | _ | _ | _ | i <;> first | exact h | exact absurd h (by simp)) (kk _ _ _ (by omega) hli)
set_option maxHeartbeats 4000000 in
set_option maxRecDepth 100000 in
theorem lc_advise (hX : jj_Cx X D cL_law RL 9 (some .boolean) nm rm tb) (hSt : jj_St X D) {S : Nat} {xs : Nat → Int32} (hxs : jj_XS X D S xs) (hly : ly K P) (hk161 : K 161 = some (11, 1)) (hKn0 : ∀ a, 162 ≤ a → K a = none) {t : Nat} (hI : li t I) (ht : t + 1 ≤ 512) {i : Nat} (hi : i + 7 ≤ S ∧ S ≤ 3584) (hn : 162 ≤ n) (hrf : 10 ≤ rm.frames) (hrl : 200 ≤ rm.locals) (hrc : cs + 16 ≤ rm.cells) (hrs : sl + 564 ≤ rm.slots) (kk : ∀ n1 I1 G1, 162 ≤ n1 → li (t + 1) I1 → jj_J X D 9 (cs + 16) (sl + 564) Q n1 K I1 P G1 2009 (lw_L i) []) : jj_J X D 9 cs sl Q n K I P G 1886 (lw_L i) [] := by
  obtain ⟨c, S1, h1, h2⟩ := lj_advise (jj_fl hX) hly hk161 hKn0 hI ht (xs (i + 1)) (xs (i + 2))
  refine jr_aload_n hX dL_law_1886 rfl ?_
  refine jr_aload_n hX dL_law_1887 rfl ?_
  refine jr_iload hX dL_law_1888 rfl ?_
  refine jr_iconst (v := 1) hX dL_law_1890 (by decide) ?_
  refine jr_iadd hX dL_law_1891 ?_
  refine jr_sld hX hxs (show nI i + _ = _ from nI_add i 1) (by omega) dL_law_1892 ?_
  refine jr_aload_n hX dL_law_1893 rfl ?_
  refine jr_iload hX dL_law_1894 rfl ?_
  refine jr_iconst (v := 2) hX dL_law_1896 (by decide) ?_
  refine jr_iadd hX dL_law_1897 ?_
  refine jr_sld hX hxs (show nI i + _ = _ from nI_add i 2) (by omega) dL_law_1898 ?_
  refine jr_aload_n hX dL_law_1899 rfl ?_
  refine jr_relM (jr_runSX hX hSt kM_L_184 (h1 n G hn) rfl rfl dL_law_1900 (jj_rb (by show 9 + 1 ≤ _; omega) (by show 8 + (_ + 11) + 160 ≤ _; omega)) ⟨by show cs + 1 ≤ _; omega, by show sl + 6 ≤ _; omega⟩ rfl) ?_
  intro r1 n1 K1 I1 P1 G1 hq
  obtain ⟨e1, hn1, e2, e3, v, hv, hG⟩ := hq
  subst e1
  subst e2
  subst e3
  simp only [Option.toList, List.cons_append, List.nil_append]
  obtain ⟨rm2, ⟨b1, b2, b3, b4⟩, h3⟩ := h2 v I1 hv n1 G1 (by omega)
  refine jr_istore hX dL_law_1903 rfl ?_
  refine jr_aload_n hX dL_law_1905 rfl ?_
  refine jr_aload_n hX dL_law_1906 rfl ?_
  refine jr_iload hX dL_law_1907 rfl ?_
  refine jr_iconst (v := 1) hX dL_law_1909 (by decide) ?_
  refine jr_iadd hX dL_law_1910 ?_
  refine jr_sld hX hxs (show nI i + _ = _ from nI_add i 1) (by omega) dL_law_1911 ?_
  refine jr_aload_n hX dL_law_1912 rfl ?_
  refine jr_iload hX dL_law_1913 rfl ?_
  refine jr_iconst (v := 2) hX dL_law_1915 (by decide) ?_
  refine jr_iadd hX dL_law_1916 ?_
  refine jr_sld hX hxs (show nI i + _ = _ from nI_add i 2) (by omega) dL_law_1917 ?_
  refine jr_relM (jr_runV hX hSt kM_L_186 h3 rfl rfl (ly_kMo hly) ⟨_, _, rfl, by decide⟩ dL_law_1918 (jj_rb (by omega) (by omega)) ⟨by show cs + 1 + _ ≤ _; omega, by show sl + 6 + _ ≤ _; omega⟩ rfl) ?_
  intro r2 n2 K2 I2 P2 G2 hq
  obtain ⟨⟨u, e1, hu⟩, hn2, e2, e3, e4, h150, hli⟩ := hq
  subst e1
  subst e2
  subst e3
  subst e4
  simp only [Option.toList, List.cons_append, List.nil_append]
  refine jr_istore hX dL_law_1921 rfl ?_
  refine jr_aload_n hX dL_law_1923 rfl ?_
  refine jr_ret (jr_runV hX hSt kM_L_106 (c_thrown (jj_fl hX) hly) rfl rfl (ly_kMo hly) ⟨_, _, rfl, by decide⟩ dL_law_1924 (jj_rb (by show 0 + 1 ≤ _; omega) (by show 8 + (_ + 11) + 0 ≤ _; omega)) ⟨by show cs + 1 + _ + 0 ≤ _; omega, by show sl + 6 + _ + 0 ≤ _; omega⟩ rfl) ?_
  rw [h150]
  refine jr_iload hX dL_law_1927 rfl ?_
  refine jr_icmp_eq (tgt := 1934) hX dL_law_1929 (by decide) (fun _ => ?_) (fun q => absurd rfl q)
  refine jr_iload hX dL_law_1934 rfl ?_
  refine jr_if_ne (tgt := 1951) hX dL_law_1936 (by decide) (fun _ => ?_) (fun q => ?_)
  · refine jr_goto (tgt := 2009) hX dL_law_1951 (by decide) ?_
    refine jr_widen (cs1 := cs + 16) (sl1 := sl + 564) (by show cs + 1 + _ + 0 ≤ _; omega) (by show sl + 6 + _ + 0 ≤ _; omega) ?_
    exact jr_forget (fun _ _ h => h) (fun i v h => by rcases i with _ | _ | _ | _ | _ | _ | _ | _ | _ | i <;> first | exact h | exact absurd h (by simp)) (kk _ _ _ (by omega) hli)
  · refine jr_aload_n hX dL_law_1939 rfl ?_
    refine jr_iconst (v := 0) hX dL_law_1940 (by decide) ?_
    refine jr_lald hX hk161 (show _ = nI 0 from rfl) (by decide) dL_law_1941 ?_
    refine jr_iload hX dL_law_1942 rfl ?_
    refine jr_i2l hX dL_law_1944 ?_
    refine jr_lcmp hX dL_law_1945 ?_
    rw [hG q, hu q]
    refine jr_if_eq (tgt := 1951) hX dL_law_1946 (by decide) (fun _ => ?_) (fun q => absurd (lw_cmp0 _) q)
    refine jr_goto (tgt := 2009) hX dL_law_1951 (by decide) ?_
    refine jr_widen (cs1 := cs + 16) (sl1 := sl + 564) (by show cs + 1 + _ + 0 ≤ _; omega) (by show sl + 6 + _ + 0 ≤ _; omega) ?_
    exact jr_forget (fun _ _ h => h) (fun i v h => by rcases i with _ | _ | _ | _ | _ | _ | _ | _ | _ | i <;> first | exact h | exact absurd h (by simp)) (kk _ _ _ (by omega) hli)
end LC
