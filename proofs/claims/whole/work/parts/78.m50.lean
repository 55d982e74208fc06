/-! the law's beginning -/
set_option maxHeartbeats 4000000 in
set_option maxRecDepth 100000 in
theorem lw_I0 (I : jj_I) (a k : Nat) : (it (fun k J => jj_u J (150 + 1) k 4) (jj_u (jj_uR (jj_uR (jj_uR (jj_uR (jj_uR (jj_uR (jj_uR (jj_uR (jj_uR (jj_uR (jj_uR I 150 (fun _ => 0)) (150 + 1) (fun _ => 0)) (150 + 1 + 1) (fun _ => 0)) (150 + 1 + 1 + 1) (fun _ => 0)) (150 + 1 + 1 + 1 + 1) (fun _ => 0)) (150 + 1 + 1 + 1 + 1 + 1) (fun _ => 0)) (150 + 1 + 1 + 1 + 1 + 1 + 1) (fun _ => 0)) (150 + 1 + 1 + 1 + 1 + 1 + 1 + 1) (fun _ => 0)) (150 + 1 + 1 + 1 + 1 + 1 + 1 + 1 + 1) (fun _ => 0)) (150 + 1 + 1 + 1 + 1 + 1 + 1 + 1 + 1 + 1) (fun _ => 0)) (150 + 1 + 1 + 1 + 1 + 1 + 1 + 1 + 1 + 1 + 1) (fun _ => 0)) (150 + 1 + 1 + 1 + 1 + 1 + 1 + 1 + 1 + 1 + 1) 0 0) 40) a k = if 150 ≤ a ∧ a < 161 then (if a = 151 ∧ k < 40 then 4 else 0) else I a k := by
  have base : ∀ a k, (jj_u (jj_uR (jj_uR (jj_uR (jj_uR (jj_uR (jj_uR (jj_uR (jj_uR (jj_uR (jj_uR (jj_uR I 150 (fun _ => 0)) (150 + 1) (fun _ => 0)) (150 + 1 + 1) (fun _ => 0)) (150 + 1 + 1 + 1) (fun _ => 0)) (150 + 1 + 1 + 1 + 1) (fun _ => 0)) (150 + 1 + 1 + 1 + 1 + 1) (fun _ => 0)) (150 + 1 + 1 + 1 + 1 + 1 + 1) (fun _ => 0)) (150 + 1 + 1 + 1 + 1 + 1 + 1 + 1) (fun _ => 0)) (150 + 1 + 1 + 1 + 1 + 1 + 1 + 1 + 1) (fun _ => 0)) (150 + 1 + 1 + 1 + 1 + 1 + 1 + 1 + 1 + 1) (fun _ => 0)) (150 + 1 + 1 + 1 + 1 + 1 + 1 + 1 + 1 + 1 + 1) (fun _ => 0)) (150 + 1 + 1 + 1 + 1 + 1 + 1 + 1 + 1 + 1 + 1) 0 0) a k = if 150 ≤ a ∧ a < 161 then 0 else I a k := by
    intro a k
    by_cases e : 150 ≤ a ∧ a < 161
    · rw [if_pos e]
      obtain rfl | rfl | rfl | rfl | rfl | rfl | rfl | rfl | rfl | rfl | rfl : a = 150 ∨ a = 151 ∨ a = 152 ∨ a = 153 ∨ a = 154 ∨ a = 155 ∨ a = 156 ∨ a = 157 ∨ a = 158 ∨ a = 159 ∨ a = 160 := by omega
      all_goals first | rfl | (unfold jj_u; split <;> rfl)
    · rw [if_neg e]
      unfold jj_u jj_uR
      rw [if_neg (by omega), if_neg (by omega), if_neg (by omega), if_neg (by omega), if_neg (by omega), if_neg (by omega), if_neg (by omega), if_neg (by omega), if_neg (by omega), if_neg (by omega), if_neg (by omega), if_neg (by omega)]
  generalize (jj_u (jj_uR (jj_uR (jj_uR (jj_uR (jj_uR (jj_uR (jj_uR (jj_uR (jj_uR (jj_uR (jj_uR I 150 (fun _ => 0)) (150 + 1) (fun _ => 0)) (150 + 1 + 1) (fun _ => 0)) (150 + 1 + 1 + 1) (fun _ => 0)) (150 + 1 + 1 + 1 + 1) (fun _ => 0)) (150 + 1 + 1 + 1 + 1 + 1) (fun _ => 0)) (150 + 1 + 1 + 1 + 1 + 1 + 1) (fun _ => 0)) (150 + 1 + 1 + 1 + 1 + 1 + 1 + 1) (fun _ => 0)) (150 + 1 + 1 + 1 + 1 + 1 + 1 + 1 + 1) (fun _ => 0)) (150 + 1 + 1 + 1 + 1 + 1 + 1 + 1 + 1 + 1) (fun _ => 0)) (150 + 1 + 1 + 1 + 1 + 1 + 1 + 1 + 1 + 1 + 1) (fun _ => 0)) (150 + 1 + 1 + 1 + 1 + 1 + 1 + 1 + 1 + 1 + 1) 0 0) = J at base ⊢
  have key : ∀ N, it (fun k J => jj_u J (150 + 1) k 4) J N a k = if a = 151 ∧ k < N then 4 else J a k := by
    intro N
    induction N with
    | zero => rw [if_neg (by omega)]; rfl
    | succ N ih =>
      show jj_u (it (fun k J => jj_u J (150 + 1) k 4) J N) (150 + 1) N 4 a k = _
      unfold jj_u
      by_cases e : a = 151 ∧ k = N
      · rw [if_pos e, if_pos (by omega)]
      · rw [if_neg e]
        unfold jj_u at ih
        rw [ih]
        by_cases e2 : a = 151 ∧ k < N
        · rw [if_pos e2, if_pos (by omega)]
        · rw [if_neg e2, if_neg (by omega)]
  rw [key, base]
  by_cases e1 : a = 151 ∧ k < 40
  · rw [if_pos e1, if_pos (by omega), if_pos e1]
  · rw [if_neg e1, if_neg e1]
set_option maxHeartbeats 4000000 in
set_option maxRecDepth 100000 in
theorem lw_ly0 {K0 K : jj_K} {I0 I : jj_I} {P0 P : jj_P} (h : wx K0 I0 P0 K I P) (h0 : ∀ a, K0 a = none) : ly (jj_uK (jj_uK (jj_uK (jj_uK (jj_uK (jj_uK (jj_uK (jj_uK (jj_uK (jj_uK (jj_uK (jj_uK K 150 (6, 0)) (150 + 1) (10, 40)) (150 + 1 + 1) (10, 8)) (150 + 1 + 1 + 1) (10, 8)) (150 + 1 + 1 + 1 + 1) (10, 32)) (150 + 1 + 1 + 1 + 1 + 1) (10, 8)) (150 + 1 + 1 + 1 + 1 + 1 + 1) (10, 5)) (150 + 1 + 1 + 1 + 1 + 1 + 1 + 1) (10, 160)) (150 + 1 + 1 + 1 + 1 + 1 + 1 + 1 + 1) (10, 120)) (150 + 1 + 1 + 1 + 1 + 1 + 1 + 1 + 1 + 1) (10, 210)) (150 + 1 + 1 + 1 + 1 + 1 + 1 + 1 + 1 + 1 + 1) (10, 1)) (150 + 1 + 10) (11, 1)) (jj_u (jj_u (jj_u (jj_u (jj_u (jj_u (jj_u (jj_u (jj_u (jj_u (jj_uR P 150 (fun _ => none)) 150 1 (some (150 + 1))) 150 3 (some (150 + 1 + 1))) 150 4 (some (150 + 1 + 1 + 1))) 150 5 (some (150 + 1 + 1 + 1 + 1))) 150 9 (some (150 + 1 + 1 + 1 + 1 + 1))) 150 10 (some (150 + 1 + 1 + 1 + 1 + 1 + 1))) 150 11 (some (150 + 1 + 1 + 1 + 1 + 1 + 1 + 1))) 150 12 (some (150 + 1 + 1 + 1 + 1 + 1 + 1 + 1 + 1))) 150 13 (some (150 + 1 + 1 + 1 + 1 + 1 + 1 + 1 + 1 + 1))) 150 14 (some (150 + 1 + 1 + 1 + 1 + 1 + 1 + 1 + 1 + 1 + 1))) ∧ (jj_uK (jj_uK (jj_uK (jj_uK (jj_uK (jj_uK (jj_uK (jj_uK (jj_uK (jj_uK (jj_uK (jj_uK K 150 (6, 0)) (150 + 1) (10, 40)) (150 + 1 + 1) (10, 8)) (150 + 1 + 1 + 1) (10, 8)) (150 + 1 + 1 + 1 + 1) (10, 32)) (150 + 1 + 1 + 1 + 1 + 1) (10, 8)) (150 + 1 + 1 + 1 + 1 + 1 + 1) (10, 5)) (150 + 1 + 1 + 1 + 1 + 1 + 1 + 1) (10, 160)) (150 + 1 + 1 + 1 + 1 + 1 + 1 + 1 + 1) (10, 120)) (150 + 1 + 1 + 1 + 1 + 1 + 1 + 1 + 1 + 1) (10, 210)) (150 + 1 + 1 + 1 + 1 + 1 + 1 + 1 + 1 + 1 + 1) (10, 1)) (150 + 1 + 10) (11, 1)) 161 = some (11, 1) ∧ ∀ a, 162 ≤ a → (jj_uK (jj_uK (jj_uK (jj_uK (jj_uK (jj_uK (jj_uK (jj_uK (jj_uK (jj_uK (jj_uK (jj_uK K 150 (6, 0)) (150 + 1) (10, 40)) (150 + 1 + 1) (10, 8)) (150 + 1 + 1 + 1) (10, 8)) (150 + 1 + 1 + 1 + 1) (10, 32)) (150 + 1 + 1 + 1 + 1 + 1) (10, 8)) (150 + 1 + 1 + 1 + 1 + 1 + 1) (10, 5)) (150 + 1 + 1 + 1 + 1 + 1 + 1 + 1) (10, 160)) (150 + 1 + 1 + 1 + 1 + 1 + 1 + 1 + 1) (10, 120)) (150 + 1 + 1 + 1 + 1 + 1 + 1 + 1 + 1 + 1) (10, 210)) (150 + 1 + 1 + 1 + 1 + 1 + 1 + 1 + 1 + 1 + 1) (10, 1)) (150 + 1 + 10) (11, 1)) a = none := by
  obtain ⟨k1, p1, -, -, k2⟩ := h
  have hge : ∀ a, a < 150 ∨ 162 ≤ a → (jj_uK (jj_uK (jj_uK (jj_uK (jj_uK (jj_uK (jj_uK (jj_uK (jj_uK (jj_uK (jj_uK (jj_uK K 150 (6, 0)) (150 + 1) (10, 40)) (150 + 1 + 1) (10, 8)) (150 + 1 + 1 + 1) (10, 8)) (150 + 1 + 1 + 1 + 1) (10, 32)) (150 + 1 + 1 + 1 + 1 + 1) (10, 8)) (150 + 1 + 1 + 1 + 1 + 1 + 1) (10, 5)) (150 + 1 + 1 + 1 + 1 + 1 + 1 + 1) (10, 160)) (150 + 1 + 1 + 1 + 1 + 1 + 1 + 1 + 1) (10, 120)) (150 + 1 + 1 + 1 + 1 + 1 + 1 + 1 + 1 + 1) (10, 210)) (150 + 1 + 1 + 1 + 1 + 1 + 1 + 1 + 1 + 1 + 1) (10, 1)) (150 + 1 + 10) (11, 1)) a = K a := fun a ha => by
    unfold jj_uK
    rw [if_neg (by omega), if_neg (by omega), if_neg (by omega), if_neg (by omega), if_neg (by omega), if_neg (by omega), if_neg (by omega), if_neg (by omega), if_neg (by omega), if_neg (by omega), if_neg (by omega), if_neg (by omega)]
  refine ⟨⟨fun a kd e => ?_, fun a k q e => ?_⟩, rfl, fun a ha => by rw [hge a (by omega), k2 a (by omega), h0 a]⟩
  · by_cases c : a < 150
    · rw [hge a (by omega)]
      exact k1 a kd c e
    · by_cases c2 : a < 161
      · obtain rfl | rfl | rfl | rfl | rfl | rfl | rfl | rfl | rfl | rfl | rfl : a = 150 ∨ a = 151 ∨ a = 152 ∨ a = 153 ∨ a = 154 ∨ a = 155 ∨ a = 156 ∨ a = 157 ∨ a = 158 ∨ a = 159 ∨ a = 160 := by omega
        all_goals exact e
      · unfold ly_K0 at e
        rw [if_neg (by omega), if_neg (by omega), if_neg (by omega), if_neg (by omega), if_neg (by omega), if_neg (by omega)] at e
        exact absurd e (by simp)
  · have hlt := ly_ltP e
    by_cases c : a < 150
    · have hne : a ≠ 150 := by omega
      rw [jj_u_ne hne, jj_u_ne hne, jj_u_ne hne, jj_u_ne hne, jj_u_ne hne, jj_u_ne hne, jj_u_ne hne, jj_u_ne hne, jj_u_ne hne, jj_u_ne hne, jj_uR_ne hne]
      exact p1 a k q c e
    · by_cases c2 : a = 150
      · subst c2
        have e : ly_Pm k = some q := e
        unfold ly_Pm at e
        by_cases d1 : k = 1
        · subst d1; exact e
        · rw [if_neg d1] at e
          by_cases d3 : k = 3
          · subst d3; exact e
          · rw [if_neg d3] at e
            by_cases d4 : k = 4
            · subst d4; exact e
            · rw [if_neg d4] at e
              by_cases d5 : k = 5
              · subst d5; exact e
              · rw [if_neg d5] at e
                by_cases d9 : k = 9
                · subst d9; exact e
                · rw [if_neg d9] at e
                  by_cases d10 : k = 10
                  · subst d10; exact e
                  · rw [if_neg d10] at e
                    by_cases d11 : k = 11
                    · subst d11; exact e
                    · rw [if_neg d11] at e
                      by_cases d12 : k = 12
                      · subst d12; exact e
                      · rw [if_neg d12] at e
                        by_cases d13 : k = 13
                        · subst d13; exact e
                        · rw [if_neg d13] at e
                          by_cases d14 : k = 14
                          · subst d14; exact e
                          · rw [if_neg d14] at e
                            exact absurd e (by simp)
      · unfold ly_P0 at e
        rw [if_neg (by omega), if_neg (by omega), if_neg (by omega), if_neg (by omega), if_neg (by omega)] at e
        exact absurd e (by simp)
set_option maxHeartbeats 4000000 in
set_option maxRecDepth 100000 in
theorem lw_li0 {J : jj_I} (h1 : ∀ o, o < 70 → (ly_Kw o).1 ≤ 10 → ∀ k, J (2 + o) k = if o = 2 ∧ k < 40 then 4 else 0) (h2 : ∀ a, 150 ≤ a → a < 161 → ∀ k, J a k = if a = 151 ∧ k < 40 then 4 else 0) : li 0 J := by
  have z : ∀ a o, a = 2 + o → o < 70 → (ly_Kw o).1 ≤ 10 → o ≠ 2 → ∀ k, J a k = 0 := fun a o e ho hk hne k => by
    rw [e, h1 o ho hk k, if_neg (fun q => hne q.1)]
  have zR : ∀ k, J (aR 0) k = 0 := z _ 1 rfl (by decide) (by decide +kernel) (by decide)
  have zW : ∀ k, J (aW 0) k = 0 := z _ 0 rfl (by decide) (by decide +kernel) (by decide)
  have zL : ∀ k, J (aLd 0) k = 0 := z _ 3 rfl (by decide) (by decide +kernel) (by decide)
  have zI : ∀ k, J (aIc 0) k = 0 := z _ 4 rfl (by decide) (by decide +kernel) (by decide)
  have zE : ∀ k, J (aBe 0) k = 0 := z _ 5 rfl (by decide) (by decide +kernel) (by decide)
  have zP : ∀ k, J (aPr 0) k = 0 := z _ 6 rfl (by decide) (by decide +kernel) (by decide)
  have zM : ∀ m, m < 5 → ∀ k, J (aM 0 m) k = 0 := fun m hm => z _ (10 + 2 * m) (by simp only [aM]; omega) (by omega) ((by decide +kernel : ∀ m, m < 5 → (ly_Kw (10 + 2 * m)).1 ≤ 10) m hm) (by omega)
  have zS : ∀ m, m < 5 → ∀ k, J (aMt 0 m) k = 0 := fun m hm => z _ (11 + 2 * m) (by simp only [aMt]; omega) (by omega) ((by decide +kernel : ∀ m, m < 5 → (ly_Kw (11 + 2 * m)).1 ≤ 10) m hm) (by omega)
  have zB : ∀ b, b < 10 → ∀ k, J (aB 0 b) k = 0 := fun b hb => z _ (20 + 2 * b) (by simp only [aB]; omega) (by omega) ((by decide +kernel : ∀ m, m < 10 → (ly_Kw (20 + 2 * m)).1 ≤ 10) b hb) (by omega)
  have zC : ∀ b, b < 10 → ∀ k, J (aBc 0 b) k = 0 := fun b hb => z _ (21 + 2 * b) (by simp only [aBc]; omega) (by omega) ((by decide +kernel : ∀ m, m < 10 → (ly_Kw (21 + 2 * m)).1 ≤ 10) b hb) (by omega)
  have zWm : ∀ k, J (aWm 0) k = if k < 40 then 4 else 0 := fun k => by
    rw [show aWm 0 = 2 + 2 from rfl, h1 2 (by decide) (by decide +kernel) k]
    by_cases c : k < 40
    · rw [if_pos ⟨rfl, c⟩, if_pos c]
    · rw [if_neg (fun q => c q.2), if_neg c]
  have y : ∀ a, 150 ≤ a → a < 161 → a ≠ 151 → ∀ k, J a k = 0 := fun a q1 q2 q3 k => by rw [h2 a q1 q2 k, if_neg (fun q => q3 q.1)]
  have y151 : ∀ k, J 151 k = if k < 40 then 4 else 0 := fun k => by
    rw [h2 151 (by decide) (by decide) k]
    by_cases c : k < 40
    · rw [if_pos ⟨rfl, c⟩, if_pos c]
    · rw [if_neg (fun q => c q.2), if_neg c]
  have n0 : (0 : Int32) = nI 0 := nI_0.symm
  have v0 : nv 0 = 0 := rfl
  refine ⟨0, 0, 0, 0, ⟨⟨⟨by rw [zR, n0], by decide⟩, ⟨by rw [zW, n0], by decide⟩, ⟨by rw [zW, n0], by decide⟩, ⟨by rw [zW, n0], by decide⟩, fun b hb => absurd hb (by omega), fun b hb => absurd hb (by omega)⟩, ⟨fun l hl => absurd hl (by omega), fun b hb => absurd hb (by omega), fun b hb => absurd hb (by omega)⟩, ⟨0, by decide, by rw [zR, n0]⟩, ⟨by decide, fun k _ => ⟨0, by decide, by rw [zP, n0]⟩, fun m hm => by rw [zM m hm, v0, n0], fun m hm k _ => by rw [zS m hm, v0, n0], fun b hb g _ => by rw [zC b hb, v0, n0], fun q hq => absurd hq (by omega), ?_⟩, ⟨fun b hb => absurd hb (by omega), fun b _ hb => ⟨zB b hb 7, fun g _ => zC b hb g⟩, fun q hq => absurd hq (by omega)⟩⟩, ⟨⟨by rw [y 150 (by decide) (by decide) (by decide), n0], by rw [y 150 (by decide) (by decide) (by decide), n0], by rw [y 150 (by decide) (by decide) (by decide), n0], by rw [y 150 (by decide) (by decide) (by decide), n0]⟩, by rw [y 160 (by decide) (by decide) (by decide), zR], fun k _ => by rw [y151, zWm], fun k _ => by rw [y 152 (by decide) (by decide) (by decide), zL], fun k _ => by rw [y 153 (by decide) (by decide) (by decide), zE], fun k _ => by rw [y 154 (by decide) (by decide) (by decide), zP], fun k _ => by rw [y 155 (by decide) (by decide) (by decide), zI], fun m hm => absurd hm (by omega), fun m hm => absurd hm (by omega), fun m hm => absurd hm (by omega), fun m hm => absurd hm (by omega)⟩, fun m _ hm => ⟨y 156 (by decide) (by decide) (by decide) m, fun k _ => ⟨y 157 (by decide) (by decide) (by decide) _, zS m hm k⟩⟩⟩
  have s1 : tn_S 0 J = 0 := tn_zero (fun m hm => tn_zero (fun k _ => by rw [zS m hm]; rfl))
  have s2 : tn_K 0 J = 0 := tn_zero (fun m hm => tn_zero (fun k _ => by rw [zC m hm]; rfl))
  have s3 : tn_C 0 J = 0 := tn_zero (fun m hm => by rw [zM m hm]; rfl)
  rw [s1, s2, s3]
  decide
section LB
variable {X : jj_X} {D : jj_D} {nm : String} {rm : Room} {tb : List ExceptionTableEntry} {Q : State → Prop} {K : jj_K} {I : jj_I} {P : jj_P} {G : jj_G}
set_option maxHeartbeats 4000000 in
set_option maxRecDepth 100000 in
theorem lw_begin (hX : jj_Cx X D cL_law RL 9 (some .boolean) nm rm tb) (hSt : jj_St X D) {S : Nat} {xs : Nat → Int32} (hxs : jj_XS X D S xs) (hK : ∀ a, K a = none) (hS : S ≤ 3584) (hrf : 10 ≤ rm.frames) (hrl : 200 ≤ rm.locals) (hrc : 161 + 8192 ≤ rm.cells) (hrs : 3254 + 288768 ≤ rm.slots)
    (hend : ∀ j, j ≤ 512 → ∀ n K I P G, jj_J X D 9 (161 + 16 * j) (3254 + 564 * j) Q n K I P G 2015 (lw_L (7 * j)) []) : jj_J X D 9 0 0 Q 1 K I P G 0 [some (.ref 0), none, none, none, none, none, none, none, none] [] := by
  refine jr_new hX kN_L_8 dL_law_0 ⟨by show 0 + 1 ≤ _; omega, by show 0 + 4 ≤ _; omega⟩ ?_
  refine jr_dup hX dL_law_3 rfl ?_
  refine jr_relM (jr_runI hX hSt kM_L_96 (c_X5_init (jj_fl hX) (if_pos rfl) rfl) rfl rfl dL_law_4 (jj_rb (by show 3 + 1 ≤ _; omega) (by show 8 + (_ + 11) + 62 ≤ _; omega)) ⟨by show 0 + 1 + 148 ≤ _; omega, by show 0 + 4 + 2642 ≤ _; omega⟩ rfl) ?_
  intro r n1 K1 I1 P1 G1 hq
  obtain ⟨e1, e2, hw, e3⟩ := hq
  subst e1
  subst e2
  subst e3
  simp only [Option.toList, List.nil_append]
  have hK1 : ∀ a, jj_uK K 1 (5, 0) a = none ∨ a = 1 := fun a => by
    by_cases c : a = 1
    · exact Or.inr c
    · exact Or.inl ((if_neg c).trans (hK a))
  refine jr_astore_n hX dL_law_7 rfl ?_
  refine jr_new hX kN_L_97 dL_law_8 ⟨by show 0 + 1 + 148 + 1 ≤ _; omega, by show 0 + 4 + 2642 + 15 ≤ _; omega⟩ ?_
  refine jr_dup hX dL_law_11 rfl ?_
  refine jr_void (jr_runI hX hSt kM_L_99 (c_X6_init (jj_fl hX) (a := 150) (if_pos rfl) ⟨by decide, by decide⟩) rfl rfl dL_law_12 (jj_rb (by show 1 + 1 ≤ _; omega) (by show 8 + (_ + 11) + 20 ≤ _; omega)) ⟨by show 0 + 1 + 148 + 1 + 10 ≤ _; omega, by show 0 + 4 + 2642 + 15 + 592 ≤ _; omega⟩ rfl) ?_
  refine jr_astore_n hX dL_law_15 rfl ?_
  refine jr_iconst (v := 1) hX dL_law_16 (by decide) ?_
  refine jr_newJ hX kA_long (show _ = nI 1 from rfl) (by decide) dL_law_17 ⟨by show 0 + 1 + 148 + 1 + 10 + 1 ≤ _; omega, by show 0 + 4 + 2642 + 15 + 592 + 1 ≤ _; omega⟩ ?_
  refine jr_astore_n hX dL_law_19 rfl ?_
  refine jr_iconst (v := 0) hX dL_law_20 (by decide) ?_
  refine jr_istore hX dL_law_21 rfl ?_
  have hw2 : wx (fun a => if a = 1 then none else jj_uK K 1 (5, 0) a) (jj_uR I 1 (fun _ => 0)) (jj_uR P 1 (fun _ => none)) K1 I1 P1 := by
    obtain ⟨a1, a2, a3, a4, a5⟩ := hw
    refine ⟨a1, a2, a3, ⟨?_, a4.2.1, a4.2.2⟩, fun b hb => ?_⟩
    · exact a4.1.trans (if_neg (by decide)).symm
    · exact (a5 b hb).trans (if_neg (show ¬ b = 1 by omega)).symm
  obtain ⟨hly, hk161, hKn0⟩ := lw_ly0 hw2 (fun a => by
    by_cases c : a = 1
    · rw [if_pos c]
    · rw [if_neg c]; exact (hK1 a).resolve_right c)
  have hI := lw_I0 I1
  have hli : li 0 (it (fun k J => jj_u J (150 + 1) k 4) (jj_u (jj_uR (jj_uR (jj_uR (jj_uR (jj_uR (jj_uR (jj_uR (jj_uR (jj_uR (jj_uR (jj_uR I1 150 (fun _ => 0)) (150 + 1) (fun _ => 0)) (150 + 1 + 1) (fun _ => 0)) (150 + 1 + 1 + 1) (fun _ => 0)) (150 + 1 + 1 + 1 + 1) (fun _ => 0)) (150 + 1 + 1 + 1 + 1 + 1) (fun _ => 0)) (150 + 1 + 1 + 1 + 1 + 1 + 1) (fun _ => 0)) (150 + 1 + 1 + 1 + 1 + 1 + 1 + 1) (fun _ => 0)) (150 + 1 + 1 + 1 + 1 + 1 + 1 + 1 + 1) (fun _ => 0)) (150 + 1 + 1 + 1 + 1 + 1 + 1 + 1 + 1 + 1) (fun _ => 0)) (150 + 1 + 1 + 1 + 1 + 1 + 1 + 1 + 1 + 1 + 1) (fun _ => 0)) (150 + 1 + 1 + 1 + 1 + 1 + 1 + 1 + 1 + 1 + 1) 0 0) 40) := lw_li0 (fun o ho hk k => by
    rw [hI, if_neg (by omega)]
    exact hw.2.2.1 0 (by decide) o ho hk k) (fun a h1 h2 k => by rw [hI, if_pos ⟨h1, h2⟩])
  exact lw_loop (cs := 161) (sl := 3254) hX hSt hxs hly hk161 hKn0 hS hrf hrl hrc hrs (fun j hj n I G => hend j hj n _ I _ G) 0 (by decide) _ _ _ (by decide) hli
end LB
