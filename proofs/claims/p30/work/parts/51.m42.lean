/-! makers: what a world is while it is made -/
/-- whence a cell of a world is reached: cell and slot, by the cell's place -/
def ly_Rw (t : Nat) : Nat × Nat :=
  if t = 1 then (0, 0) else if t < 7 then (1, t) else if t = 7 then (0, 4) else if t = 8 then (0, 5) else if t = 9 then (0, 6)
  else if t < 20 then (if t % 2 = 0 then (7, (t - 10) / 2) else (t - 1, 1)) else if t < 40 then (if t % 2 = 0 then (8, (t - 20) / 2) else (t - 1, 8)) else (9, t - 40)
theorem ly_Rw_lt : ∀ t, t < 70 → 1 ≤ t → (ly_Rw t).1 < t := by decide +kernel
theorem ly_Rw_inj (t : Nat) (ht : t < 70) (h1 : 1 ≤ t) (u : Nat) (hu : u < 70) (h2 : 1 ≤ u) (e : ly_Rw t = ly_Rw u) : t = u :=
  (by decide +kernel : ∀ t, t < 70 → ∀ u, u < 70 → (1 ≤ t ∧ 1 ≤ u ∧ ly_Rw t = ly_Rw u) → t = u) t ht u hu ⟨h1, h2, e⟩
theorem ly_Pw_big {w o k : Nat} (hk : 32 ≤ k) : ly_Pw w o k = none := by
  unfold ly_Pw
  repeat' split
  all_goals first | rfl | omega
theorem ly_Pw_R {w o k q : Nat} (hw : w < 2) (ho : o < 70) (h : ly_Pw w o k = some q) : ∃ t, 1 ≤ t ∧ t < 70 ∧ q = aW w + t ∧ ly_Rw t = (o, k) := by
  have hk : k < 32 := by
    by_cases e : k < 32
    · exact e
    · rw [ly_Pw_big (by omega)] at h
      exact absurd h (by simp)
  have key := (by decide +kernel : ∀ w, w < 2 → ∀ o, o < 70 → ∀ k, k < 32 → (ly_Pw w o k).all (fun q => decide (aW w + 1 ≤ q ∧ q < aW w + 70 ∧ ly_Rw (q - aW w) = (o, k))) = true) w hw o ho k hk
  rw [h] at key
  simp only [Option.all_some, decide_eq_true_eq] at key
  exact ⟨q - aW w, by omega, by omega, by omega, key.2.2⟩
/-- m cells of the world w are made; those of d are put where they belong -/
def wi (w m : Nat) (d : Nat → Prop) (K0 : jj_K) (I0 : jj_I) (P0 : jj_P) (K : jj_K) (I : jj_I) (P : jj_P) : Prop :=
  m ≤ 70 ∧ (∀ o, o < m → K (aW w + o) = some (ly_Kw o)) ∧ (∀ t, 1 ≤ t → t < m → d t → P (aW w + (ly_Rw t).1) (ly_Rw t).2 = some (aW w + t)) ∧
  (∀ o, o < m → (ly_Kw o).1 ≤ 10 → ∀ k, I (aW w + o) k = if o = 2 ∧ k < 40 then 4 else 0) ∧
  (∀ b, b < aW w → K b = K0 b ∧ I b = I0 b ∧ P b = P0 b) ∧ ∀ b, aW w + m ≤ b → K b = K0 b
section WI
variable {w m : Nat} {d : Nat → Prop} {K0 K : jj_K} {I0 I : jj_I} {P0 P : jj_P}
theorem wi_d {d' : Nat → Prop} (h : wi w m d K0 I0 P0 K I P) (hd : ∀ t, 1 ≤ t → t < m → d' t → d t) : wi w m d' K0 I0 P0 K I P :=
  ⟨h.1, h.2.1, fun t h1 h2 h3 => h.2.2.1 t h1 h2 (hd t h1 h2 h3), h.2.2.2⟩
theorem wi_obj {n c z : Nat} (h : wi w m d K0 I0 P0 K I P) (hm : m < 70) (hn : n = aW w + m) (hk : ly_Kw m = (c, z)) (h2 : m ≠ 2) : wi w (m + 1) (fun t => d t ∧ t ≠ m) K0 I0 P0 (jj_uK K n (c, z)) (jj_uR I n (fun _ => 0)) (jj_uR P n (fun _ => none)) := by
  subst hn
  obtain ⟨a0, a1, a2, a3, a4, a5⟩ := h
  refine ⟨by omega, fun o ho => ?_, fun t t1 t2 t3 => ?_, fun o ho hc k => ?_, fun b hb => ⟨?_, ?_, ?_⟩, fun b hb => ?_⟩
  · unfold jj_uK
    by_cases e : o = m
    · subst e; rw [if_pos rfl, hk]
    · rw [if_neg (by omega)]; exact a1 o (by omega)
  · have hlt := ly_Rw_lt t (by omega) t1
    have := t3.2
    rw [jj_uR_ne (by omega)]
    exact a2 t t1 (by omega) t3.1
  · by_cases e : o = m
    · subst e; rw [jj_uR_eq, if_neg (by omega)]
    · rw [jj_uR_ne (by omega)]; exact a3 o (by omega) hc k
  · unfold jj_uK; rw [if_neg (by omega)]; exact (a4 b hb).1
  · rw [jj_uR_ne (by omega)]; exact (a4 b hb).2.1
  · rw [jj_uR_ne (by omega)]; exact (a4 b hb).2.2
  · unfold jj_uK; rw [if_neg (by omega)]; exact a5 b (by omega)
theorem wi_int {n c z : Nat} (h : wi w m d K0 I0 P0 K I P) (hm : m < 70) (hn : n = aW w + m) (hk : ly_Kw m = (c, z)) (h2 : m ≠ 2) : wi w (m + 1) (fun t => d t ∧ t ≠ m) K0 I0 P0 (jj_uK K n (c, z)) (jj_uR I n (fun _ => 0)) P := by
  subst hn
  obtain ⟨a0, a1, a2, a3, a4, a5⟩ := h
  refine ⟨by omega, fun o ho => ?_, fun t t1 t2 t3 => ?_, fun o ho hc k => ?_, fun b hb => ⟨?_, ?_, ?_⟩, fun b hb => ?_⟩
  · unfold jj_uK
    by_cases e : o = m
    · subst e; rw [if_pos rfl, hk]
    · rw [if_neg (by omega)]; exact a1 o (by omega)
  · have := t3.2
    exact a2 t t1 (by omega) t3.1
  · by_cases e : o = m
    · subst e; rw [jj_uR_eq, if_neg (by omega)]
    · rw [jj_uR_ne (by omega)]; exact a3 o (by omega) hc k
  · unfold jj_uK; rw [if_neg (by omega)]; exact (a4 b hb).1
  · rw [jj_uR_ne (by omega)]; exact (a4 b hb).2.1
  · exact (a4 b hb).2.2
  · unfold jj_uK; rw [if_neg (by omega)]; exact a5 b (by omega)
theorem wi_ref {n c z : Nat} (h : wi w m d K0 I0 P0 K I P) (hm : m < 70) (hn : n = aW w + m) (hk : ly_Kw m = (c, z)) (hc : 10 < c) : wi w (m + 1) (fun t => d t ∧ t ≠ m) K0 I0 P0 (jj_uK K n (c, z)) I (jj_uR P n (fun _ => none)) := by
  subst hn
  obtain ⟨a0, a1, a2, a3, a4, a5⟩ := h
  refine ⟨by omega, fun o ho => ?_, fun t t1 t2 t3 => ?_, fun o ho hc k => ?_, fun b hb => ⟨?_, ?_, ?_⟩, fun b hb => ?_⟩
  · unfold jj_uK
    by_cases e : o = m
    · subst e; rw [if_pos rfl, hk]
    · rw [if_neg (by omega)]; exact a1 o (by omega)
  · have hlt := ly_Rw_lt t (by omega) t1
    have := t3.2
    rw [jj_uR_ne (by omega)]
    exact a2 t t1 (by omega) t3.1
  · by_cases e : o = m
    · subst e; rw [hk] at hc; omega
    · exact a3 o (by omega) hc k
  · unfold jj_uK; rw [if_neg (by omega)]; exact (a4 b hb).1
  · exact (a4 b hb).2.1
  · rw [jj_uR_ne (by omega)]; exact (a4 b hb).2.2
  · unfold jj_uK; rw [if_neg (by omega)]; exact a5 b (by omega)
theorem wi_set {t a k q : Nat} (h : wi w m d K0 I0 P0 K I P) (ht1 : 1 ≤ t) (ht : t < m) (ha : a = aW w + (ly_Rw t).1) (hk : k = (ly_Rw t).2) (hq : q = aW w + t) : wi w m (fun s => d s ∨ s = t) K0 I0 P0 K I (jj_u P a k (some q)) := by
  subst ha
  subst hk
  subst hq
  obtain ⟨a0, a1, a2, a3, a4, a5⟩ := h
  refine ⟨a0, a1, fun s s1 s2 s3 => ?_, a3, fun b hb => ⟨(a4 b hb).1, (a4 b hb).2.1, ?_⟩, a5⟩
  · by_cases e : s = t
    · subst e; rw [jj_u_eq]
    · have e2 : d s := s3.resolve_right e
      have e3 : ¬ ly_Rw s = ly_Rw t := fun q => e (ly_Rw_inj s (by omega) s1 t (by omega) ht1 q)
      show (if aW w + (ly_Rw s).1 = aW w + (ly_Rw t).1 ∧ (ly_Rw s).2 = (ly_Rw t).2 then _ else _) = _
      rw [if_neg (fun q => e3 (Prod.ext (by omega) q.2))]
      exact a2 s s1 s2 e2
  · rw [jj_u_ne (by omega)]; exact (a4 b hb).2.2
theorem wi_k (h : wi w m d K0 I0 P0 K I P) {o : Nat} (ho : o < m) {kd : Nat × Nat} (e : ly_Kw o = kd) : K (aW w + o) = some kd := by
  rw [h.2.1 o ho, e]
theorem wi_p (h : wi w m d K0 I0 P0 K I P) {t : Nat} (h1 : 1 ≤ t) (h2 : t < m) (hd : d t) {o k : Nat} (e : ly_Rw t = (o, k)) : P (aW w + o) k = some (aW w + t) := by
  have := h.2.2.1 t h1 h2 hd
  rw [e] at this
  exact this
/-- the river, made at once -/
theorem wi_riv {n : Nat} (h : wi w 2 d K0 I0 P0 K I P) (hd : ∀ t, d t → t = 1) (hn : n = aW w + 2) : wi w 7 (fun t => d t ∨ (2 ≤ t ∧ t < 7)) K0 I0 P0 (jj_uK (jj_uK (jj_uK (jj_uK (jj_uK K (n) (10, 40)) (n + 1) (10, 7)) (n + 1 + 1) (10, 7)) (n + 1 + 1 + 1) (10, 8)) (n + 1 + 1 + 1 + 1) (10, 32))
    (it (fun k J => jj_u J n k 4) (jj_uR (jj_uR (jj_uR (jj_uR (jj_uR I (n) (fun _ => 0)) (n + 1) (fun _ => 0)) (n + 1 + 1) (fun _ => 0)) (n + 1 + 1 + 1) (fun _ => 0)) (n + 1 + 1 + 1 + 1) (fun _ => 0)) 40)
    (jj_u (jj_u (jj_u (jj_u (jj_u P (aW w + 1) 2 (some (n))) (aW w + 1) 3 (some (n + 1))) (aW w + 1) 4 (some (n + 1 + 1))) (aW w + 1) 5 (some (n + 1 + 1 + 1))) (aW w + 1) 6 (some (n + 1 + 1 + 1 + 1))) := by
  subst hn
  obtain ⟨a0, a1, a2, a3, a4, a5⟩ := h
  have eI : ∀ a k, it (fun k J => jj_u J (aW w + 2) k 4) (jj_uR (jj_uR (jj_uR (jj_uR (jj_uR I (aW w + 2) (fun _ => 0)) (aW w + 2 + 1) (fun _ => 0)) (aW w + 2 + 1 + 1) (fun _ => 0)) (aW w + 2 + 1 + 1 + 1) (fun _ => 0)) (aW w + 2 + 1 + 1 + 1 + 1) (fun _ => 0)) 40 a k =
      if aW w + 2 ≤ a ∧ a < aW w + 7 then (if a = aW w + 2 ∧ k < 40 then 4 else 0) else I a k := by
    intro a k
    have base : ∀ a k, (jj_uR (jj_uR (jj_uR (jj_uR (jj_uR I (aW w + 2) (fun _ => 0)) (aW w + 2 + 1) (fun _ => 0)) (aW w + 2 + 1 + 1) (fun _ => 0)) (aW w + 2 + 1 + 1 + 1) (fun _ => 0)) (aW w + 2 + 1 + 1 + 1 + 1) (fun _ => (0 : Int32))) a k = if aW w + 2 ≤ a ∧ a < aW w + 7 then 0 else I a k := by
      intro a k
      simp only [jj_uR]
      by_cases e : aW w + 2 ≤ a ∧ a < aW w + 7
      · rw [if_pos e]
        repeat' split
        all_goals first | rfl | omega
      · rw [if_neg e, if_neg (by omega), if_neg (by omega), if_neg (by omega), if_neg (by omega), if_neg (by omega)]
    generalize (jj_uR (jj_uR (jj_uR (jj_uR (jj_uR I (aW w + 2) (fun _ => 0)) (aW w + 2 + 1) (fun _ => 0)) (aW w + 2 + 1 + 1) (fun _ => 0)) (aW w + 2 + 1 + 1 + 1) (fun _ => 0)) (aW w + 2 + 1 + 1 + 1 + 1) (fun _ => (0 : Int32))) = J at base ⊢
    have key : ∀ N, it (fun k J => jj_u J (aW w + 2) k 4) J N a k = if a = aW w + 2 ∧ k < N then 4 else J a k := by
      intro N
      induction N with
      | zero => rw [if_neg (by omega)]; rfl
      | succ N ih =>
        show jj_u (it (fun k J => jj_u J (aW w + 2) k 4) J N) (aW w + 2) N 4 a k = _
        unfold jj_u
        by_cases e : a = aW w + 2 ∧ k = N
        · rw [if_pos e, if_pos (by omega)]
        · rw [if_neg e]
          unfold jj_u at ih
          rw [ih]
          by_cases e2 : a = aW w + 2 ∧ k < N
          · rw [if_pos e2, if_pos (by omega)]
          · rw [if_neg e2, if_neg (by omega)]
    rw [key, base]
    by_cases e1 : a = aW w + 2 ∧ k < 40
    · rw [if_pos e1, if_pos (by omega), if_pos e1]
    · rw [if_neg e1, if_neg e1]
  generalize it (fun k J => jj_u J (aW w + 2) k 4) (jj_uR (jj_uR (jj_uR (jj_uR (jj_uR I (aW w + 2) (fun _ => 0)) (aW w + 2 + 1) (fun _ => 0)) (aW w + 2 + 1 + 1) (fun _ => 0)) (aW w + 2 + 1 + 1 + 1) (fun _ => 0)) (aW w + 2 + 1 + 1 + 1 + 1) (fun _ => 0)) 40 = J at eI ⊢
  refine ⟨by decide, fun o ho => ?_, fun t t1 t2 t3 => ?_, fun o ho hc k => ?_, fun b hb => ⟨?_, ?_, ?_⟩, fun b hb => ?_⟩
  · simp only [jj_uK]
    by_cases e : o < 2
    · rw [if_neg (by omega), if_neg (by omega), if_neg (by omega), if_neg (by omega), if_neg (by omega)]; exact a1 o e
    · obtain rfl | rfl | rfl | rfl | rfl : o = 2 ∨ o = 3 ∨ o = 4 ∨ o = 5 ∨ o = 6 := by omega
      · rw [if_neg (by omega), if_neg (by omega), if_neg (by omega), if_neg (by omega), if_pos rfl]; rfl
      · rw [if_neg (by omega), if_neg (by omega), if_neg (by omega), if_pos rfl]; rfl
      · rw [if_neg (by omega), if_neg (by omega), if_pos rfl]; rfl
      · rw [if_neg (by omega), if_pos rfl]; rfl
      · rw [if_pos rfl]; rfl
  · by_cases e : t = 1
    · subst e
      have h1 : d 1 := by
        rcases t3 with q | q
        · exact q
        · omega
      have := a2 1 (by decide) (by decide) h1
      show jj_u _ _ _ _ (aW w + 0) 0 = _
      rw [jj_u_ne (by omega), jj_u_ne (by omega), jj_u_ne (by omega), jj_u_ne (by omega), jj_u_ne (by omega)]
      exact this
    · obtain rfl | rfl | rfl | rfl | rfl : t = 2 ∨ t = 3 ∨ t = 4 ∨ t = 5 ∨ t = 6 := by omega
      · show jj_u _ _ _ _ (aW w + 1) 2 = _
        rw [jj_u_nk (by decide), jj_u_nk (by decide), jj_u_nk (by decide), jj_u_nk (by decide), jj_u_eq]
      · show jj_u _ _ _ _ (aW w + 1) 3 = _
        rw [jj_u_nk (by decide), jj_u_nk (by decide), jj_u_nk (by decide), jj_u_eq]
      · show jj_u _ _ _ _ (aW w + 1) 4 = _
        rw [jj_u_nk (by decide), jj_u_nk (by decide), jj_u_eq]
      · show jj_u _ _ _ _ (aW w + 1) 5 = _
        rw [jj_u_nk (by decide), jj_u_eq]
      · show jj_u _ _ _ _ (aW w + 1) 6 = _
        rw [jj_u_eq]
  · rw [eI]
    by_cases e : o < 2
    · rw [if_neg (by omega)]; exact a3 o e hc k
    · rw [if_pos (by omega)]
      by_cases e2 : o = 2 ∧ k < 40
      · rw [if_pos e2, if_pos ⟨by omega, e2.2⟩]
      · rw [if_neg e2, if_neg (fun q => e2 ⟨by omega, q.2⟩)]
  · simp only [jj_uK]
    rw [if_neg (by omega), if_neg (by omega), if_neg (by omega), if_neg (by omega), if_neg (by omega)]; exact (a4 b hb).1
  · funext k; rw [eI, if_neg (by omega), (a4 b hb).2.1]
  · rw [jj_u_ne (by omega), jj_u_ne (by omega), jj_u_ne (by omega), jj_u_ne (by omega), jj_u_ne (by omega)]; exact (a4 b hb).2.2
  · simp only [jj_uK]
    rw [if_neg (by omega), if_neg (by omega), if_neg (by omega), if_neg (by omega), if_neg (by omega)]; exact a5 b (by omega)
end WI
