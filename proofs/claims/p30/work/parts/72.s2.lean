/-! the law's own river: a boat's day -/
/-- a boat's numbers: place, harbour, days to go, leg, hull -/
def sb (I : jj_I) (x : Nat) (s t l g u : Int32) : jj_I := fun a k => if a = x then (if k = 3 then s else if k = 4 then t else if k = 6 then l else if k = 7 then g else if k = 1 then u else I x k) else I a k
section SB
variable {I : jj_I} {x : Nat} {s t l g u v : Int32}
theorem sb_id (I : jj_I) (x : Nat) : sb I x (I x 3) (I x 4) (I x 6) (I x 7) (I x 1) = I := by
  funext a k
  unfold sb
  by_cases h : a = x
  · subst h
    rw [if_pos rfl]
    by_cases h3 : k = 3
    · rw [if_pos h3, h3]
    · rw [if_neg h3]
      by_cases h4 : k = 4
      · rw [if_pos h4, h4]
      · rw [if_neg h4]
        by_cases h6 : k = 6
        · rw [if_pos h6, h6]
        · rw [if_neg h6]
          by_cases h7 : k = 7
          · rw [if_pos h7, h7]
          · rw [if_neg h7]
            by_cases h1 : k = 1
            · rw [if_pos h1, h1]
            · rw [if_neg h1]
  · rw [if_neg h]
theorem sb_ne {a : Nat} (h : a ≠ x) : sb I x s t l g u a = I a := funext fun k => if_neg h
theorem sb_k {k : Nat} : sb I x s t l g u x k = if k = 3 then s else if k = 4 then t else if k = 6 then l else if k = 7 then g else if k = 1 then u else I x k := if_pos rfl
theorem sb_r3 : sb I x s t l g u x 3 = s := sb_k
theorem sb_r4 : sb I x s t l g u x 4 = t := sb_k
theorem sb_r6 : sb I x s t l g u x 6 = l := sb_k
theorem sb_r7 : sb I x s t l g u x 7 = g := sb_k
theorem sb_r1 : sb I x s t l g u x 1 = u := sb_k
theorem sb_r5 : sb I x s t l g u x 5 = I x 5 := sb_k
theorem sb_r0 : sb I x s t l g u x 0 = I x 0 := sb_k
theorem sb_r2 : sb I x s t l g u x 2 = I x 2 := sb_k
theorem sb_u3 : jj_u (sb I x s t l g u) x 3 v = sb I x v t l g u := by
  funext a j
  unfold jj_u
  by_cases h : a = x
  · subst h
    rw [sb_k, sb_k]
    by_cases h2 : j = 3
    · subst h2
      rw [if_pos ⟨rfl, rfl⟩]
      rfl
    · rw [if_neg (fun q => h2 q.2)]
      simp [h2]
  · rw [if_neg (fun q => h q.1), sb_ne h, sb_ne h]
theorem sb_u4 : jj_u (sb I x s t l g u) x 4 v = sb I x s v l g u := by
  funext a j
  unfold jj_u
  by_cases h : a = x
  · subst h
    rw [sb_k, sb_k]
    by_cases h2 : j = 4
    · subst h2
      rw [if_pos ⟨rfl, rfl⟩]
      rfl
    · rw [if_neg (fun q => h2 q.2)]
      simp [h2]
  · rw [if_neg (fun q => h q.1), sb_ne h, sb_ne h]
theorem sb_u6 : jj_u (sb I x s t l g u) x 6 v = sb I x s t v g u := by
  funext a j
  unfold jj_u
  by_cases h : a = x
  · subst h
    rw [sb_k, sb_k]
    by_cases h2 : j = 6
    · subst h2
      rw [if_pos ⟨rfl, rfl⟩]
      rfl
    · rw [if_neg (fun q => h2 q.2)]
      simp [h2]
  · rw [if_neg (fun q => h q.1), sb_ne h, sb_ne h]
theorem sb_u7 : jj_u (sb I x s t l g u) x 7 v = sb I x s t l v u := by
  funext a j
  unfold jj_u
  by_cases h : a = x
  · subst h
    rw [sb_k, sb_k]
    by_cases h2 : j = 7
    · subst h2
      rw [if_pos ⟨rfl, rfl⟩]
      rfl
    · rw [if_neg (fun q => h2 q.2)]
      simp [h2]
  · rw [if_neg (fun q => h q.1), sb_ne h, sb_ne h]
theorem sb_u1 : jj_u (sb I x s t l g u) x 1 v = sb I x s t l g v := by
  funext a j
  unfold jj_u
  by_cases h : a = x
  · subst h
    rw [sb_k, sb_k]
    by_cases h2 : j = 1
    · subst h2
      rw [if_pos ⟨rfl, rfl⟩]
      rfl
    · rw [if_neg (fun q => h2 q.2)]
      simp [h2]
  · rw [if_neg (fun q => h q.1), sb_ne h, sb_ne h]
end SB
def s_g1 (A : Nat → Nat) (I : jj_I) (go s t l g : Int32) : Int32 × Int32 × Int32 × Int32 :=
  if s < 2 ∧ ¬ go = t ∧ I (A 3) (nv (if t < go then t + 1 else t)) < 11 then (2, (if t < go then t + 1 else t + -1), (if t < go then I (A 2) (nv (t + 1)) else 2 * I (A 2) (nv t)), if t < go then t + 1 else t) else (s, t, l, g)
def s_g2 (A : Nat → Nat) (I : jj_I) (q : Int32 × Int32 × Int32 × Int32) : Int32 × Int32 × Int32 × Int32 :=
  if q.1 = 2 ∧ I (A 3) (nv q.2.2.2) < 11 then ((if q.2.2.1 - 1 = 0 then 0 else q.1), q.2.1, q.2.2.1 - 1, q.2.2.2) else q
def s_ca (A : Nat → Nat) (H : Nat) (I : jj_I) (s t g : Int32) : Prop := (s = 2 ∧ 20 < I (A 3) (nv g)) ∨ (s = 0 ∧ 20 < s_ar A H (nv t) I)
def s_g (A : Nat → Nat) (b : Nat) (I : jj_I) : Int32 × Int32 × Int32 × Int32 := s_g2 A I (s_g1 A I (I (A (20 + b)) 5) (I (A (20 + b)) 3) (I (A (20 + b)) 4) (I (A (20 + b)) 6) (I (A (20 + b)) 7))
def sl_R (A : Nat → Nat) (H b n : Nat) (K : jj_K) (I : jj_I) (P : jj_P) (n1 : Nat) (K1 : jj_K) (I1 : jj_I) (P1 : jj_P) : Prop := ∃ s t l g, s_g A b I = (s, t, l, g) ∧
  ((¬ s_ca A H I s t g ∧ n1 = n ∧ K1 = K ∧ P1 = P ∧ I1 = sb I (A (20 + b)) s t l g (I (A (20 + b)) 1)) ∨ (s_ca A H I s t g ∧ 0 < I (A (20 + b)) 1 - 1 ∧ n1 = n ∧ K1 = K ∧ P1 = P ∧ I1 = sb I (A (20 + b)) s t l g (I (A (20 + b)) 1 - 1)) ∨
    (s_ca A H I s t g ∧ ¬ 0 < I (A (20 + b)) 1 - 1 ∧ n1 = n + 1 ∧ K1 = jj_uK K n (10, 4) ∧ P1 = jj_u P (A (20 + b)) 8 (some n) ∧ I1 = jj_uR (sb I (A (20 + b)) 3 (-1) 0 g (I (A (20 + b)) 1 - 1)) n (fun _ => 0)))
theorem s_g1_n {A : Nat → Nat} {I : jj_I} {go s t l g : Int32} (h : ¬ (s < 2 ∧ ¬ go = t ∧ I (A 3) (nv (if t < go then t + 1 else t)) < 11)) : s_g1 A I go s t l g = (s, t, l, g) := if_neg h
theorem s_g1_dn {A : Nat → Nat} {I : jj_I} {go s t l g : Int32} {h : Nat} (hs : s < 2) (ht : t = nI h) (hh : h < 1000) (hg : t < go) (ho : I (A 3) (h + 1) < 11) : s_g1 A I go s t l g = (2, nI (h + 1), I (A 2) (h + 1), nI (h + 1)) := by
  subst ht
  have e : nv (nI h + 1) = h + 1 := by rw [jm_n1, nv_nI (by omega)]
  have hne : ¬ go = nI h := fun q => absurd hg (by rw [q]; exact Int32.lt_irrefl)
  unfold s_g1
  rw [if_pos hg, e, if_pos ⟨hs, hne, ho⟩, if_pos hg, if_pos hg, jm_n1]
theorem s_g1_up {A : Nat → Nat} {I : jj_I} {go s t l g : Int32} {h : Nat} (hs : s < 2) (ht : t = nI h) (hh : h < 1000) (hg : ¬ t < go) (hne : ¬ go = t) (ho : I (A 3) h < 11) : s_g1 A I go s t l g = (2, nI h + -1, 2 * I (A 2) h, nI h) := by
  subst ht
  unfold s_g1
  rw [if_neg hg, nv_nI (by omega), if_pos ⟨hs, hne, ho⟩, if_neg hg, if_neg hg]
theorem s_g2_n {A : Nat → Nat} {I : jj_I} {s t l g : Int32} (h : ¬ (s = 2 ∧ I (A 3) (nv g) < 11)) : s_g2 A I (s, t, l, g) = (s, t, l, g) := if_neg h
theorem s_g2_0 {A : Nat → Nat} {I : jj_I} {s t l g : Int32} {k : Nat} (hs : s = 2) (hg : g = nI k) (hk : k < 1000) (ho : I (A 3) k < 11) (h : l - 1 = 0) : s_g2 A I (s, t, l, g) = (0, t, l - 1, g) := by
  subst hg
  unfold s_g2
  dsimp only
  rw [nv_nI (by omega), if_pos ⟨hs, ho⟩, if_pos h]
theorem s_g2_1 {A : Nat → Nat} {I : jj_I} {s t l g : Int32} {k : Nat} (hs : s = 2) (hg : g = nI k) (hk : k < 1000) (ho : I (A 3) k < 11) (h : ¬ l - 1 = 0) : s_g2 A I (s, t, l, g) = (s, t, l - 1, g) := by
  subst hg
  unfold s_g2
  dsimp only
  rw [nv_nI (by omega), if_pos ⟨hs, ho⟩, if_neg h]
theorem s_ar_cg {A : Nat → Nat} {H h : Nat} {I J : jj_I} (h3 : J (A 3) = I (A 3)) : s_ar A H h J = s_ar A H h I := by
  unfold s_ar
  rw [h3]
theorem jm_m1 {h : Nat} (h0 : 1 ≤ h) : nI h + -1 = nI (h - 1) := by rw [← jm_sub1 h0, Int32.sub_eq_add_neg]
section JRI
variable {X : jj_X} {D : jj_D} {nL cs sl : Nat} {Q : State → Prop} {n : Nat} {K : jj_K} {I I1 : jj_I} {P : jj_P} {G : jj_G} {pc : Nat} {L : List (Option Value)} {st : List Value}
theorem jr_I (h : I1 = I) (k : jj_J X D nL cs sl Q n K I1 P G pc L st) : jj_J X D nL cs sl Q n K I P G pc L st := by rw [← h]; exact k
end JRI
set_option maxHeartbeats 4000000 in
set_option maxRecDepth 100000 in
theorem s_sail {l : Launch} (hfl : l.stackTraces = false) {D : jj_D} {n : Nat} {K : jj_K} {I : jj_I} {P : jj_P} {G : jj_G} {A : Nat → Nat} {H M B N : Nat} {b : Nat} (hsy : sy A H M B N n K P) (hb : b < B) (h3 : ¬ I (A (20 + b)) 3 = 3) (f1 : ¬ I (A (20 + b)) 3 = 3 → (I (A (20 + b)) 3 = 0 ∨ I (A (20 + b)) 3 = 1 ∨ I (A (20 + b)) 3 = 2)) (f2 : I (A (20 + b)) 3 = 2 → ∃ k, 1 ≤ k ∧ k < 8 ∧ I (A (20 + b)) 7 = nI k) (f0 : ∃ h, h < H ∧ I (A (20 + b)) 4 = nI h) (fg : ∃ g, g < H ∧ I (A (20 + b)) 5 = nI g) :
    jj_Met l D yX7_sail (jj_ws yX7_sail cX7_sail 4 none) { frames := 1, cells := 1, slots := 4, locals := 21 } [.ref (A 0), .ref (A (20 + b))] n K I P G (fun r n1 K1 I1 P1 G1 => r = none ∧ G1 = G ∧ sl_R A H b n K I P n1 K1 I1 P1) jj_noX := by
  refine jj_of hfl (by decide +kernel) [some (.ref (A 0)), some (.ref (A (20 + b))), none, none] rfl rfl ?_
  intro X hXl hX hSt
  obtain ⟨hH8, hM5, hB10, hN30⟩ := id hsy.1
  have ib := sy_eB hsy.1 hb
  have n3 : A 3 ≠ (A (20 + b)) := fun e => by have := hsy.2.2.2 3 (20 + b) (by rw [sy_e3]; simp) (by rw [ib]; simp) e; omega
  have n2 : A 2 ≠ (A (20 + b)) := fun e => by have := hsy.2.2.2 2 (20 + b) (by rw [sy_e2]; simp) (by rw [ib]; simp) e; omega
  have o3 : ∀ s t l g u, sb I (A (20 + b)) (s) (t) (l) (g) (u) (A 3) = I (A 3) := fun s t l g u => sb_ne n3
  have o2 : ∀ s t l g u, sb I (A (20 + b)) (s) (t) (l) (g) (u) (A 2) = I (A 2) := fun s t l g u => sb_ne n2
  have h178 : ∀ s t l g, s_g2 A I (s_g1 A I (I (A (20 + b)) 5) (I (A (20 + b)) 3) (I (A (20 + b)) 4) (I (A (20 + b)) 6) (I (A (20 + b)) 7)) = (s, t, l, g) → (s = 0 ∨ s = 1 ∨ s = 2) → (s = 2 → ∃ k, 1 ≤ k ∧ k < 8 ∧ g = nI k) → (∃ h, h < H ∧ t = nI h) → jj_J X D 4 0 0 (jj_MQ X D { frames := 1, cells := 1, slots := 4, locals := 21 } (fun r n1 K1 I1 P1 G1 => r = none ∧ G1 = G ∧ sl_R A H b n K I P n1 K1 I1 P1) jj_noX) (n) (K) (sb I (A (20 + b)) (s) (t) (l) (g) (I (A (20 + b)) 1)) (P) (G) 178 [some (.ref (A 0)), some (.ref (A (20 + b))), none, none] [] := by
    intro s t l g hq F1 F2 F0
    refine jr_aload_n hX dX7_sail_178 rfl ?_
    refine jr_geti hX kF_X7_67 rfl (sy_kB hsy (by first | assumption | omega)) dX7_sail_179 ?_
    rw [sb_r3]
    refine jr_iconst (v := 2) hX dX7_sail_182 (by decide) ?_
    refine jr_icmp_ne (tgt := 208) hX dX7_sail_183 (by decide) (fun c_183 => ?_) (fun c_183 => ?_)
    · refine jr_aload_n hX dX7_sail_208 rfl ?_
      refine jr_geti hX kF_X7_67 rfl (sy_kB hsy (by first | assumption | omega)) dX7_sail_209 ?_
      rw [sb_r3]
      refine jr_if_ne (tgt := 232) hX dX7_sail_212 (by decide) (fun c_212 => ?_) (fun c_212 => ?_)
      · refine jr_iconst (v := 0) hX dX7_sail_232 (by decide) ?_
        refine jr_istore_n hX dX7_sail_233 rfl ?_
        refine jr_iload_n hX dX7_sail_234 rfl ?_
        refine jr_if_ne (tgt := 239) hX dX7_sail_235 (by decide) (fun c_235 => absurd c_235 (by decide)) (fun c_235 => ?_)
        exact jr_vret hX dX7_sail_238 rfl rfl ⟨rfl, rfl, s, t, l, g, hq, Or.inl ⟨fun q => q.elim (fun q => c_183 q.1) (fun q => c_212 q.1), rfl, rfl, rfl, rfl⟩⟩
      · obtain ⟨h, hh, eh⟩ := F0
        refine jr_aload_n hX dX7_sail_215 rfl ?_
        refine jr_aload_n hX dX7_sail_216 rfl ?_
        refine jr_geti hX kF_X7_61 rfl (sy_kB hsy (by first | assumption | omega)) dX7_sail_217 ?_
        rw [sb_r4, eh]
        refine jr_ret (jr_runV hX hSt kM_X7_76 (s_around (jj_fl hX) hsy hh) rfl rfl (sy_k0 hsy) ⟨_, _, rfl, by decide⟩ dX7_sail_220 rfl ⟨jj_b1 rfl, jj_b1 rfl⟩ rfl) ?_
        rw [s_ar_cg (o3 _ _ _ _ _)]
        refine jr_bipush (v := 20) hX dX7_sail_223 (by decide) ?_
        refine jr_icmp_le (tgt := 232) hX dX7_sail_225 (by decide) (fun c_225 => ?_) (fun c_225 => ?_)
        · refine jr_iconst (v := 0) hX dX7_sail_232 (by decide) ?_
          refine jr_istore_n hX dX7_sail_233 rfl ?_
          refine jr_iload_n hX dX7_sail_234 rfl ?_
          refine jr_if_ne (tgt := 239) hX dX7_sail_235 (by decide) (fun c_235 => absurd c_235 (by decide)) (fun c_235 => ?_)
          exact jr_vret hX dX7_sail_238 rfl rfl ⟨rfl, rfl, s, t, l, g, hq, Or.inl ⟨fun q => q.elim (fun q => c_183 q.1) (fun q => by have w := q.2; rw [eh, nv_nI (by omega)] at w; exact absurd w (Int32.not_lt.mpr c_225)), rfl, rfl, rfl, by rw [eh]⟩⟩
        · refine jr_iconst (v := 1) hX dX7_sail_228 (by decide) ?_
          refine jr_goto (tgt := 233) hX dX7_sail_229 (by decide) ?_
          refine jr_istore_n hX dX7_sail_233 rfl ?_
          refine jr_iload_n hX dX7_sail_234 rfl ?_
          refine jr_if_ne (tgt := 239) hX dX7_sail_235 (by decide) (fun c_235 => ?_) (fun c_235 => absurd c_235 (by decide))
          have hca : s_ca A H I s t g := Or.inr ⟨c_212, by rw [eh, nv_nI (by omega)]; exact Int32.not_le.mp c_225⟩
          refine jr_aload_n hX dX7_sail_239 rfl ?_
          refine jr_dup hX dX7_sail_240 rfl ?_
          refine jr_geti hX kF_X7_80 rfl (sy_kB hsy (by first | assumption | omega)) dX7_sail_241 ?_
          rw [sb_r1]
          refine jr_iconst (v := 1) hX dX7_sail_244 (by decide) ?_
          refine jr_isub hX dX7_sail_245 ?_
          refine jr_puti hX kF_X7_80 rfl (sy_kB hsy (by first | assumption | omega)) (sy_zB hsy (by first | assumption | omega)) dX7_sail_246 ?_
          rw [sb_u1]
          refine jr_aload_n hX dX7_sail_249 rfl ?_
          refine jr_geti hX kF_X7_80 rfl (sy_kB hsy (by first | assumption | omega)) dX7_sail_250 ?_
          rw [sb_r1]
          refine jr_if_le (tgt := 257) hX dX7_sail_253 (by decide) (fun c_253 => ?_) (fun c_253 => ?_)
          · refine jr_aload_n hX dX7_sail_257 rfl ?_
            refine jr_iconst (v := 3) hX dX7_sail_258 (by decide) ?_
            refine jr_puti hX kF_X7_67 rfl (sy_kB hsy (by first | assumption | omega)) (sy_zB hsy (by first | assumption | omega)) dX7_sail_259 ?_
            rw [sb_u3]
            refine jr_aload_n hX dX7_sail_262 rfl ?_
            refine jr_iconst (v := -1) hX dX7_sail_263 (by decide) ?_
            refine jr_puti hX kF_X7_61 rfl (sy_kB hsy (by first | assumption | omega)) (sy_zB hsy (by first | assumption | omega)) dX7_sail_264 ?_
            rw [sb_u4]
            refine jr_aload_n hX dX7_sail_267 rfl ?_
            refine jr_iconst (v := 0) hX dX7_sail_268 (by decide) ?_
            refine jr_puti hX kF_X7_73 rfl (sy_kB hsy (by first | assumption | omega)) (sy_zB hsy (by first | assumption | omega)) dX7_sail_269 ?_
            rw [sb_u6]
            refine jr_aload_n hX dX7_sail_272 rfl ?_
            refine jr_iconst (v := 4) hX dX7_sail_273 (by decide) ?_
            refine jr_newI hX kA_int (show _ = nI 4 from rfl) (by omega) dX7_sail_274 ⟨jj_b1 rfl, jj_b1 rfl⟩ ?_
            refine jr_putr hX kF_X7_83 rfl (by unfold jj_uK; rw [if_neg (by have := (hsy.2.1 _ _ ib).1; omega)]; exact sy_kB hsy hb) (sy_zB hsy hb) dX7_sail_276 ?_
            exact jr_vret hX dX7_sail_279 rfl rfl ⟨rfl, rfl, s, t, l, g, hq, Or.inr (Or.inr ⟨hca, Int32.not_lt.mpr c_253, rfl, rfl, rfl, rfl⟩)⟩
          · exact jr_vret hX dX7_sail_256 rfl rfl ⟨rfl, rfl, s, t, l, g, hq, Or.inr (Or.inl ⟨hca, Int32.not_le.mp c_253, rfl, rfl, rfl, by rw [eh]⟩)⟩
    · obtain ⟨k, k1, k2, ek⟩ := F2 c_183
      refine jr_aload_n hX dX7_sail_186 rfl ?_
      refine jr_getr hX kF_X7_21 rfl (sy_k0 hsy) (sy_p0_3 hsy) dX7_sail_187 ?_
      refine jr_aload_n hX dX7_sail_190 rfl ?_
      refine jr_geti hX kF_X7_70 rfl (sy_kB hsy (by first | assumption | omega)) dX7_sail_191 ?_
      rw [sb_r7]
      refine jr_iald hX (sy_k3 hsy) ek (by omega) dX7_sail_194 ?_
      rw [o3]
      refine jr_bipush (v := 20) hX dX7_sail_195 (by decide) ?_
      refine jr_icmp_le (tgt := 204) hX dX7_sail_197 (by decide) (fun c_197 => ?_) (fun c_197 => ?_)
      · refine jr_iconst (v := 0) hX dX7_sail_204 (by decide) ?_
        refine jr_goto (tgt := 233) hX dX7_sail_205 (by decide) ?_
        refine jr_istore_n hX dX7_sail_233 rfl ?_
        refine jr_iload_n hX dX7_sail_234 rfl ?_
        refine jr_if_ne (tgt := 239) hX dX7_sail_235 (by decide) (fun c_235 => absurd c_235 (by decide)) (fun c_235 => ?_)
        exact jr_vret hX dX7_sail_238 rfl rfl ⟨rfl, rfl, s, t, l, g, hq, Or.inl ⟨fun q => q.elim (fun q => by have w := q.2; rw [ek, nv_nI (by omega)] at w; exact absurd w (Int32.not_lt.mpr c_197)) (fun q => absurd (c_183.symm.trans q.1) (by decide)), rfl, rfl, rfl, rfl⟩⟩
      · refine jr_iconst (v := 1) hX dX7_sail_200 (by decide) ?_
        refine jr_goto (tgt := 233) hX dX7_sail_201 (by decide) ?_
        refine jr_istore_n hX dX7_sail_233 rfl ?_
        refine jr_iload_n hX dX7_sail_234 rfl ?_
        refine jr_if_ne (tgt := 239) hX dX7_sail_235 (by decide) (fun c_235 => ?_) (fun c_235 => absurd c_235 (by decide))
        have hca : s_ca A H I s t g := Or.inl ⟨c_183, by rw [ek, nv_nI (by omega)]; exact Int32.not_le.mp c_197⟩
        refine jr_aload_n hX dX7_sail_239 rfl ?_
        refine jr_dup hX dX7_sail_240 rfl ?_
        refine jr_geti hX kF_X7_80 rfl (sy_kB hsy (by first | assumption | omega)) dX7_sail_241 ?_
        rw [sb_r1]
        refine jr_iconst (v := 1) hX dX7_sail_244 (by decide) ?_
        refine jr_isub hX dX7_sail_245 ?_
        refine jr_puti hX kF_X7_80 rfl (sy_kB hsy (by first | assumption | omega)) (sy_zB hsy (by first | assumption | omega)) dX7_sail_246 ?_
        rw [sb_u1]
        refine jr_aload_n hX dX7_sail_249 rfl ?_
        refine jr_geti hX kF_X7_80 rfl (sy_kB hsy (by first | assumption | omega)) dX7_sail_250 ?_
        rw [sb_r1]
        refine jr_if_le (tgt := 257) hX dX7_sail_253 (by decide) (fun c_253 => ?_) (fun c_253 => ?_)
        · refine jr_aload_n hX dX7_sail_257 rfl ?_
          refine jr_iconst (v := 3) hX dX7_sail_258 (by decide) ?_
          refine jr_puti hX kF_X7_67 rfl (sy_kB hsy (by first | assumption | omega)) (sy_zB hsy (by first | assumption | omega)) dX7_sail_259 ?_
          rw [sb_u3]
          refine jr_aload_n hX dX7_sail_262 rfl ?_
          refine jr_iconst (v := -1) hX dX7_sail_263 (by decide) ?_
          refine jr_puti hX kF_X7_61 rfl (sy_kB hsy (by first | assumption | omega)) (sy_zB hsy (by first | assumption | omega)) dX7_sail_264 ?_
          rw [sb_u4]
          refine jr_aload_n hX dX7_sail_267 rfl ?_
          refine jr_iconst (v := 0) hX dX7_sail_268 (by decide) ?_
          refine jr_puti hX kF_X7_73 rfl (sy_kB hsy (by first | assumption | omega)) (sy_zB hsy (by first | assumption | omega)) dX7_sail_269 ?_
          rw [sb_u6]
          refine jr_aload_n hX dX7_sail_272 rfl ?_
          refine jr_iconst (v := 4) hX dX7_sail_273 (by decide) ?_
          refine jr_newI hX kA_int (show _ = nI 4 from rfl) (by omega) dX7_sail_274 ⟨jj_b1 rfl, jj_b1 rfl⟩ ?_
          refine jr_putr hX kF_X7_83 rfl (by unfold jj_uK; rw [if_neg (by have := (hsy.2.1 _ _ ib).1; omega)]; exact sy_kB hsy hb) (sy_zB hsy hb) dX7_sail_276 ?_
          exact jr_vret hX dX7_sail_279 rfl rfl ⟨rfl, rfl, s, t, l, g, hq, Or.inr (Or.inr ⟨hca, Int32.not_lt.mpr c_253, rfl, rfl, rfl, rfl⟩)⟩
        · exact jr_vret hX dX7_sail_256 rfl rfl ⟨rfl, rfl, s, t, l, g, hq, Or.inr (Or.inl ⟨hca, Int32.not_le.mp c_253, rfl, rfl, rfl, rfl⟩)⟩
  have h134 : ∀ s t l g, s_g1 A I (I (A (20 + b)) 5) (I (A (20 + b)) 3) (I (A (20 + b)) 4) (I (A (20 + b)) 6) (I (A (20 + b)) 7) = (s, t, l, g) → (s = 0 ∨ s = 1 ∨ s = 2) → (s = 2 → ∃ k, 1 ≤ k ∧ k < 8 ∧ g = nI k) → (∃ h, h < H ∧ t = nI h) → jj_J X D 4 0 0 (jj_MQ X D { frames := 1, cells := 1, slots := 4, locals := 21 } (fun r n1 K1 I1 P1 G1 => r = none ∧ G1 = G ∧ sl_R A H b n K I P n1 K1 I1 P1) jj_noX) (n) (K) (sb I (A (20 + b)) (s) (t) (l) (g) (I (A (20 + b)) 1)) (P) (G) 134 [some (.ref (A 0)), some (.ref (A (20 + b))), none, none] [] := by
    intro s t l g hq F1 F2 F0
    refine jr_aload_n hX dX7_sail_134 rfl ?_
    refine jr_geti hX kF_X7_67 rfl (sy_kB hsy (by first | assumption | omega)) dX7_sail_135 ?_
    rw [sb_r3]
    refine jr_iconst (v := 2) hX dX7_sail_138 (by decide) ?_
    refine jr_icmp_ne (tgt := 178) hX dX7_sail_139 (by decide) (fun c_139 => ?_) (fun c_139 => ?_)
    · exact jr_forget (fun _ _ h => h) (fun i v h => by rcases i with _ | _ | _ | _ | i <;> first | exact h | exact absurd h (by simp)) (h178 _ _ _ _ (by rw [hq]; exact s_g2_n (fun q => c_139 q.1)) F1 F2 F0)
    · obtain ⟨k, k1, k2, ek⟩ := F2 c_139
      refine jr_aload_n hX dX7_sail_142 rfl ?_
      refine jr_getr hX kF_X7_21 rfl (sy_k0 hsy) (sy_p0_3 hsy) dX7_sail_143 ?_
      refine jr_aload_n hX dX7_sail_146 rfl ?_
      refine jr_geti hX kF_X7_70 rfl (sy_kB hsy (by first | assumption | omega)) dX7_sail_147 ?_
      rw [sb_r7]
      refine jr_iald hX (sy_k3 hsy) ek (by omega) dX7_sail_150 ?_
      rw [o3]
      refine jr_bipush (v := 11) hX dX7_sail_151 (by decide) ?_
      refine jr_icmp_ge (tgt := 178) hX dX7_sail_153 (by decide) (fun c_153 => ?_) (fun c_153 => ?_)
      · exact jr_forget (fun _ _ h => h) (fun i v h => by rcases i with _ | _ | _ | _ | i <;> first | exact h | exact absurd h (by simp)) (h178 _ _ _ _ (by rw [hq]; exact s_g2_n (fun q => by have w := q.2; rw [ek, nv_nI (by omega)] at w; exact absurd w (Int32.not_lt.mpr c_153))) F1 F2 F0)
      · refine jr_aload_n hX dX7_sail_156 rfl ?_
        refine jr_dup hX dX7_sail_157 rfl ?_
        refine jr_geti hX kF_X7_73 rfl (sy_kB hsy (by first | assumption | omega)) dX7_sail_158 ?_
        rw [sb_r6]
        refine jr_iconst (v := 1) hX dX7_sail_161 (by decide) ?_
        refine jr_isub hX dX7_sail_162 ?_
        refine jr_puti hX kF_X7_73 rfl (sy_kB hsy (by first | assumption | omega)) (sy_zB hsy (by first | assumption | omega)) dX7_sail_163 ?_
        rw [sb_u6]
        refine jr_aload_n hX dX7_sail_166 rfl ?_
        refine jr_geti hX kF_X7_73 rfl (sy_kB hsy (by first | assumption | omega)) dX7_sail_167 ?_
        rw [sb_r6]
        refine jr_if_ne (tgt := 178) hX dX7_sail_170 (by decide) (fun c_170 => ?_) (fun c_170 => ?_)
        · exact jr_forget (fun _ _ h => h) (fun i v h => by rcases i with _ | _ | _ | _ | i <;> first | exact h | exact absurd h (by simp)) (h178 _ _ _ _ (by rw [hq]; exact s_g2_1 c_139 ek (by omega) (Int32.not_le.mp c_153) c_170) F1 F2 F0)
        · refine jr_aload_n hX dX7_sail_173 rfl ?_
          refine jr_iconst (v := 0) hX dX7_sail_174 (by decide) ?_
          refine jr_puti hX kF_X7_67 rfl (sy_kB hsy (by first | assumption | omega)) (sy_zB hsy (by first | assumption | omega)) dX7_sail_175 ?_
          rw [sb_u3]
          exact jr_forget (fun _ _ h => h) (fun i v h => by rcases i with _ | _ | _ | _ | i <;> first | exact h | exact absurd h (by simp)) (h178 _ _ _ _ (by rw [hq]; exact s_g2_0 c_139 ek (by omega) (Int32.not_le.mp c_153) c_170) (Or.inl rfl) (fun e => absurd e (by decide)) F0)
  refine jr_I (sb_id I (A (20 + b))) ?_
  refine jr_aload_n hX dX7_sail_0 rfl ?_
  refine jr_geti hX kF_X7_67 rfl (sy_kB hsy (by first | assumption | omega)) dX7_sail_1 ?_
  rw [sb_r3]
  refine jr_iconst (v := 3) hX dX7_sail_4 (by decide) ?_
  refine jr_icmp_ne (tgt := 9) hX dX7_sail_5 (by decide) (fun c_5 => ?_) (fun c_5 => absurd c_5 h3)
  refine jr_aload_n hX dX7_sail_9 rfl ?_
  refine jr_geti hX kF_X7_67 rfl (sy_kB hsy (by first | assumption | omega)) dX7_sail_10 ?_
  rw [sb_r3]
  refine jr_iconst (v := 2) hX dX7_sail_13 (by decide) ?_
  refine jr_icmp_ge (tgt := 134) hX dX7_sail_14 (by decide) (fun c_14 => ?_) (fun c_14 => ?_)
  · exact jr_forget (fun _ _ h => h) (fun i v h => by rcases i with _ | _ | _ | _ | i <;> first | exact h | exact absurd h (by simp)) (h134 _ _ _ _ (s_g1_n (fun q => absurd q.1 (Int32.not_lt.mpr c_14))) (f1 h3) f2 f0)
  · obtain ⟨h, hh, eh⟩ := f0
    rw [eh]
    refine jr_aload_n hX dX7_sail_17 rfl ?_
    refine jr_geti hX kF_X7_64 rfl (sy_kB hsy (by first | assumption | omega)) dX7_sail_18 ?_
    rw [sb_r5]
    refine jr_aload_n hX dX7_sail_21 rfl ?_
    refine jr_geti hX kF_X7_61 rfl (sy_kB hsy (by first | assumption | omega)) dX7_sail_22 ?_
    rw [sb_r4]
    refine jr_icmp_le (tgt := 37) hX dX7_sail_25 (by decide) (fun c_25 => ?_) (fun c_25 => ?_)
    · refine jr_aload_n hX dX7_sail_37 rfl ?_
      refine jr_geti hX kF_X7_61 rfl (sy_kB hsy (by first | assumption | omega)) dX7_sail_38 ?_
      rw [sb_r4]
      refine jr_istore_n hX dX7_sail_41 rfl ?_
      refine jr_aload_n hX dX7_sail_42 rfl ?_
      refine jr_geti hX kF_X7_64 rfl (sy_kB hsy (by first | assumption | omega)) dX7_sail_43 ?_
      rw [sb_r5]
      refine jr_aload_n hX dX7_sail_46 rfl ?_
      refine jr_geti hX kF_X7_61 rfl (sy_kB hsy (by first | assumption | omega)) dX7_sail_47 ?_
      rw [sb_r4]
      refine jr_icmp_eq (tgt := 134) hX dX7_sail_50 (by decide) (fun c_50 => ?_) (fun c_50 => ?_)
      · exact jr_forget (fun _ _ h => h) (fun i v h => by rcases i with _ | _ | _ | _ | i <;> first | exact h | exact absurd h (by simp)) (h134 _ _ _ _ (by rw [eh]; exact s_g1_n (fun q => q.2.1 c_50)) (f1 h3) f2 ⟨h, hh, rfl⟩)
      · refine jr_aload_n hX dX7_sail_53 rfl ?_
        refine jr_getr hX kF_X7_21 rfl (sy_k0 hsy) (sy_p0_3 hsy) dX7_sail_54 ?_
        refine jr_iload_n hX dX7_sail_57 rfl ?_
        refine jr_iald hX (sy_k3 hsy) rfl (by omega) dX7_sail_58 ?_
        rw [o3]
        refine jr_bipush (v := 11) hX dX7_sail_59 (by decide) ?_
        refine jr_icmp_ge (tgt := 134) hX dX7_sail_61 (by decide) (fun c_61 => ?_) (fun c_61 => ?_)
        · exact jr_forget (fun _ _ h => h) (fun i v h => by rcases i with _ | _ | _ | _ | i <;> first | exact h | exact absurd h (by simp)) (h134 _ _ _ _ (by rw [eh]; exact s_g1_n (fun q => by have w := q.2.2; rw [if_neg (Int32.not_lt.mpr c_25), nv_nI (by omega)] at w; exact absurd w (Int32.not_lt.mpr c_61))) (f1 h3) f2 ⟨h, hh, rfl⟩)
        · refine jr_aload_n hX dX7_sail_64 rfl ?_
          refine jr_geti hX kF_X7_64 rfl (sy_kB hsy (by first | assumption | omega)) dX7_sail_65 ?_
          rw [sb_r5]
          refine jr_aload_n hX dX7_sail_68 rfl ?_
          refine jr_geti hX kF_X7_61 rfl (sy_kB hsy (by first | assumption | omega)) dX7_sail_69 ?_
          rw [sb_r4]
          refine jr_icmp_le (tgt := 79) hX dX7_sail_72 (by decide) (fun c_72 => ?_) (fun c_72 => absurd c_25 c_72)
          refine jr_iconst (v := 0) hX dX7_sail_79 (by decide) ?_
          refine jr_istore_n hX dX7_sail_80 rfl ?_
          refine jr_aload_n hX dX7_sail_81 rfl ?_
          refine jr_iconst (v := 2) hX dX7_sail_82 (by decide) ?_
          refine jr_puti hX kF_X7_67 rfl (sy_kB hsy (by first | assumption | omega)) (sy_zB hsy (by first | assumption | omega)) dX7_sail_83 ?_
          rw [sb_u3]
          refine jr_aload_n hX dX7_sail_86 rfl ?_
          refine jr_iload_n hX dX7_sail_87 rfl ?_
          refine jr_puti hX kF_X7_70 rfl (sy_kB hsy (by first | assumption | omega)) (sy_zB hsy (by first | assumption | omega)) dX7_sail_88 ?_
          rw [sb_u7]
          refine jr_aload_n hX dX7_sail_91 rfl ?_
          refine jr_iload_n hX dX7_sail_92 rfl ?_
          refine jr_if_eq (tgt := 105) hX dX7_sail_93 (by decide) (fun c_93 => ?_) (fun c_93 => absurd rfl c_93)
          refine jr_iconst (v := 2) hX dX7_sail_105 (by decide) ?_
          refine jr_aload_n hX dX7_sail_106 rfl ?_
          refine jr_getr hX kF_X7_18 rfl (sy_k0 hsy) (sy_p0_2 hsy) dX7_sail_107 ?_
          refine jr_iload_n hX dX7_sail_110 rfl ?_
          refine jr_iald hX (sy_k2 hsy) rfl (by omega) dX7_sail_111 ?_
          rw [o2]
          refine jr_imul hX dX7_sail_112 ?_
          refine jr_puti hX kF_X7_73 rfl (sy_kB hsy (by first | assumption | omega)) (sy_zB hsy (by first | assumption | omega)) dX7_sail_113 ?_
          rw [sb_u6]
          refine jr_aload_n hX dX7_sail_116 rfl ?_
          refine jr_dup hX dX7_sail_117 rfl ?_
          refine jr_geti hX kF_X7_61 rfl (sy_kB hsy (by first | assumption | omega)) dX7_sail_118 ?_
          rw [sb_r4]
          refine jr_iload_n hX dX7_sail_121 rfl ?_
          refine jr_if_eq (tgt := 129) hX dX7_sail_122 (by decide) (fun c_122 => ?_) (fun c_122 => absurd rfl c_122)
          refine jr_iconst (v := -1) hX dX7_sail_129 (by decide) ?_
          refine jr_iadd hX dX7_sail_130 ?_
          refine jr_puti hX kF_X7_61 rfl (sy_kB hsy (by first | assumption | omega)) (sy_zB hsy (by first | assumption | omega)) dX7_sail_131 ?_
          rw [sb_u4]
          have h1 : 1 ≤ h := by
            obtain ⟨g0, q1, q2⟩ := fg
            rw [q2] at c_25 c_50
            have q3 := (sn_i (by omega) (by omega)).mp c_25
            have q4 : g0 ≠ h := fun e => c_50 (by rw [e])
            omega
          exact jr_forget (fun _ _ h => h) (fun i v h => by rcases i with _ | _ | _ | _ | i <;> first | exact h | exact absurd h (by simp)) (h134 _ _ _ _ (by rw [eh]; exact s_g1_up (Int32.not_le.mp c_14) rfl (by omega) (Int32.not_lt.mpr c_25) c_50 (Int32.not_le.mp c_61)) (Or.inr (Or.inr rfl)) (fun _ => ⟨h, h1, by omega, rfl⟩) ⟨h - 1, by omega, jm_m1 h1⟩)
    · refine jr_aload_n hX dX7_sail_28 rfl ?_
      refine jr_geti hX kF_X7_61 rfl (sy_kB hsy (by first | assumption | omega)) dX7_sail_29 ?_
      rw [sb_r4]
      refine jr_iconst (v := 1) hX dX7_sail_32 (by decide) ?_
      refine jr_iadd hX dX7_sail_33 ?_
      rw [jm_n1]
      refine jr_goto (tgt := 41) hX dX7_sail_34 (by decide) ?_
      have hlt : h + 1 < H := by
        obtain ⟨g0, q1, q2⟩ := fg
        rw [q2] at c_25
        have := mt (sn_i (by omega) (by omega)).mpr c_25
        omega
      refine jr_istore_n hX dX7_sail_41 rfl ?_
      refine jr_aload_n hX dX7_sail_42 rfl ?_
      refine jr_geti hX kF_X7_64 rfl (sy_kB hsy (by first | assumption | omega)) dX7_sail_43 ?_
      rw [sb_r5]
      refine jr_aload_n hX dX7_sail_46 rfl ?_
      refine jr_geti hX kF_X7_61 rfl (sy_kB hsy (by first | assumption | omega)) dX7_sail_47 ?_
      rw [sb_r4]
      refine jr_icmp_eq (tgt := 134) hX dX7_sail_50 (by decide) (fun c_50 => absurd c_50 (fun e => c_25 (by rw [e]; exact Int32.le_refl _))) (fun c_50 => ?_)
      refine jr_aload_n hX dX7_sail_53 rfl ?_
      refine jr_getr hX kF_X7_21 rfl (sy_k0 hsy) (sy_p0_3 hsy) dX7_sail_54 ?_
      refine jr_iload_n hX dX7_sail_57 rfl ?_
      refine jr_iald hX (sy_k3 hsy) rfl (by omega) dX7_sail_58 ?_
      rw [o3]
      refine jr_bipush (v := 11) hX dX7_sail_59 (by decide) ?_
      refine jr_icmp_ge (tgt := 134) hX dX7_sail_61 (by decide) (fun c_61 => ?_) (fun c_61 => ?_)
      · exact jr_forget (fun _ _ h => h) (fun i v h => by rcases i with _ | _ | _ | _ | i <;> first | exact h | exact absurd h (by simp)) (h134 _ _ _ _ (by rw [eh]; exact s_g1_n (fun q => by have w := q.2.2; rw [if_pos (Int32.not_le.mp c_25), jm_n1, nv_nI (by omega)] at w; exact absurd w (Int32.not_lt.mpr c_61))) (f1 h3) f2 ⟨h, hh, rfl⟩)
      · refine jr_aload_n hX dX7_sail_64 rfl ?_
        refine jr_geti hX kF_X7_64 rfl (sy_kB hsy (by first | assumption | omega)) dX7_sail_65 ?_
        rw [sb_r5]
        refine jr_aload_n hX dX7_sail_68 rfl ?_
        refine jr_geti hX kF_X7_61 rfl (sy_kB hsy (by first | assumption | omega)) dX7_sail_69 ?_
        rw [sb_r4]
        refine jr_icmp_le (tgt := 79) hX dX7_sail_72 (by decide) (fun c_72 => absurd c_72 c_25) (fun c_72 => ?_)
        refine jr_iconst (v := 1) hX dX7_sail_75 (by decide) ?_
        refine jr_goto (tgt := 80) hX dX7_sail_76 (by decide) ?_
        refine jr_istore_n hX dX7_sail_80 rfl ?_
        refine jr_aload_n hX dX7_sail_81 rfl ?_
        refine jr_iconst (v := 2) hX dX7_sail_82 (by decide) ?_
        refine jr_puti hX kF_X7_67 rfl (sy_kB hsy (by first | assumption | omega)) (sy_zB hsy (by first | assumption | omega)) dX7_sail_83 ?_
        rw [sb_u3]
        refine jr_aload_n hX dX7_sail_86 rfl ?_
        refine jr_iload_n hX dX7_sail_87 rfl ?_
        refine jr_puti hX kF_X7_70 rfl (sy_kB hsy (by first | assumption | omega)) (sy_zB hsy (by first | assumption | omega)) dX7_sail_88 ?_
        rw [sb_u7]
        refine jr_aload_n hX dX7_sail_91 rfl ?_
        refine jr_iload_n hX dX7_sail_92 rfl ?_
        refine jr_if_eq (tgt := 105) hX dX7_sail_93 (by decide) (fun c_93 => absurd c_93 (by decide)) (fun c_93 => ?_)
        refine jr_aload_n hX dX7_sail_96 rfl ?_
        refine jr_getr hX kF_X7_18 rfl (sy_k0 hsy) (sy_p0_2 hsy) dX7_sail_97 ?_
        refine jr_iload_n hX dX7_sail_100 rfl ?_
        refine jr_iald hX (sy_k2 hsy) rfl (by omega) dX7_sail_101 ?_
        rw [o2]
        refine jr_goto (tgt := 113) hX dX7_sail_102 (by decide) ?_
        refine jr_puti hX kF_X7_73 rfl (sy_kB hsy (by first | assumption | omega)) (sy_zB hsy (by first | assumption | omega)) dX7_sail_113 ?_
        rw [sb_u6]
        refine jr_aload_n hX dX7_sail_116 rfl ?_
        refine jr_dup hX dX7_sail_117 rfl ?_
        refine jr_geti hX kF_X7_61 rfl (sy_kB hsy (by first | assumption | omega)) dX7_sail_118 ?_
        rw [sb_r4]
        refine jr_iload_n hX dX7_sail_121 rfl ?_
        refine jr_if_eq (tgt := 129) hX dX7_sail_122 (by decide) (fun c_122 => absurd c_122 (by decide)) (fun c_122 => ?_)
        refine jr_iconst (v := 1) hX dX7_sail_125 (by decide) ?_
        refine jr_goto (tgt := 130) hX dX7_sail_126 (by decide) ?_
        refine jr_iadd hX dX7_sail_130 ?_
        refine jr_puti hX kF_X7_61 rfl (sy_kB hsy (by first | assumption | omega)) (sy_zB hsy (by first | assumption | omega)) dX7_sail_131 ?_
        rw [sb_u4]
        exact jr_forget (fun _ _ h => h) (fun i v h => by rcases i with _ | _ | _ | _ | i <;> first | exact h | exact absurd h (by simp)) (h134 _ _ _ _ (by rw [eh, jm_n1]; exact s_g1_dn (Int32.not_le.mp c_14) rfl (by omega) (Int32.not_le.mp c_25) (Int32.not_le.mp c_61)) (Or.inr (Or.inr rfl)) (fun _ => ⟨h + 1, by omega, by omega, rfl⟩) ⟨h + 1, hlt, jm_n1 h⟩)
set_option maxHeartbeats 4000000 in
set_option maxRecDepth 100000 in
theorem s_sail3 {l : Launch} (hfl : l.stackTraces = false) {D : jj_D} {n : Nat} {K : jj_K} {I : jj_I} {P : jj_P} {G : jj_G} {A : Nat → Nat} {H M B N : Nat} {b : Nat} (hsy : sy A H M B N n K P) (hb : b < B) (h3 : I (A (20 + b)) 3 = 3) :
    jj_Met l D yX7_sail (jj_ws yX7_sail cX7_sail 4 none) { frames := 1, cells := 1, slots := 4, locals := 21 } [.ref (A 0), .ref (A (20 + b))] n K I P G (jj_R (none) (n) (K) (I) (P) (G)) jj_noX := by
  refine jj_of hfl (by decide +kernel) [some (.ref (A 0)), some (.ref (A (20 + b))), none, none] rfl rfl ?_
  intro X hXl hX hSt
  obtain ⟨hH8, hM5, hB10, hN30⟩ := id hsy.1
  refine jr_aload_n hX dX7_sail_0 rfl ?_
  refine jr_geti hX kF_X7_67 rfl (sy_kB hsy (by first | assumption | omega)) dX7_sail_1 ?_
  refine jr_iconst (v := 3) hX dX7_sail_4 (by decide) ?_
  refine jr_icmp_ne (tgt := 9) hX dX7_sail_5 (by decide) (fun c_5 => absurd c_5 (fun e => e h3)) (fun c_5 => ?_)
  exact jr_vret hX dX7_sail_8 rfl rfl ⟨rfl, rfl, rfl, rfl, rfl, rfl⟩
