/-! new int[a][b] -/
def mnK (K : jj_K) (n a b : Nat) : jj_K := fun q => if q = n then some (15, a) else if n < q ∧ q ≤ n + a then some (10, b) else K q
def mnI (I : jj_I) (n a : Nat) : jj_I := fun q => if n < q ∧ q ≤ n + a then (fun _ => 0) else I q
def mnP (P : jj_P) (n a : Nat) : jj_P := fun q => if q = n then (fun k => if k < a then some (n + 1 + k) else none) else P q
theorem mn_outer (c : ClassId) (N h0 : Nat) : ∀ i : Nat, Jvm.Free.Multi.outerC c N h0 i = arrV c N (fun j => va_rf (if j < i then some (h0 + 1 + j) else none))
  | 0 => by
    show ({ cls := c, slots := Array.replicate N .null, vm := .none } : Cell) = _
    rw [arrV_new]
    exact congrArg (arrV c N) (funext fun j => by rw [if_neg (by omega)]; rfl)
  | i + 1 => by
    show (Jvm.Free.Multi.outerC c N h0 i).setSlot i (.ref (h0 + 1 + i)) = _
    rw [mn_outer c N h0 i, arrV_store]
    refine congrArg (arrV c N) (funext fun j => ?_)
    unfold updV
    by_cases e : j = i
    · subst e; rw [if_pos rfl, if_pos (by omega)]; rfl
    · rw [if_neg e]
      dsimp only
      by_cases h : j < i
      · rw [if_pos h, if_pos (by omega)]
      · rw [if_neg h, if_neg (by omega)]
section JMN
variable {X : jj_X} {D : jj_D} {cc : ByteArray} {own nm : String} {nL : Nat} {ret : Option FieldType} {rm : Room} {tb : List ExceptionTableEntry} {cs sl : Nat} {Q : State → Prop} {n : Nat} {K : jj_K} {I : jj_I} {P : jj_P} {G : jj_G} {pc : Nat} {L : List (Option Value)} {rest : List Value}
theorem jj_gn {n' : Nat} {st : List Value} (e : n = n') (kk : jj_J X D nL cs sl Q n' K I P G pc L st) : jj_J X D nL cs sl Q n K I P G pc L st := by rw [e]; exact kk
theorem jj_gs {sl' : Nat} {st : List Value} (e : sl = sl') (kk : jj_J X D nL cs sl' Q n K I P G pc L st) : jj_J X D nL cs sl Q n K I P G pc L st := by rw [e]; exact kk
theorem jj_gz {S : jj_K → jj_I → jj_P → Prop} {st : List Value} (h : S K I P) (kk : ∀ K I P, S K I P → jj_J X D nL cs sl Q n K I P G pc L st) : jj_J X D nL cs sl Q n K I P G pc L st := kk K I P h
theorem jr_relM {st : List Value} {mc ms : Nat} {post1 : jj_post} (hr : jj_Run X D nL cs sl n K I P G pc L st rest mc ms post1 jj_noX)
    (kk : ∀ r n1 K1 I1 P1 G1, post1 r n1 K1 I1 P1 G1 → jj_J X D nL (cs + mc) (sl + ms) Q n1 K1 I1 P1 G1 (pc + 3) L (r.toList ++ rest)) : jj_J X D nL cs sl Q n K I P G pc L st := jr_gen hr (fun _ _ _ _ _ _ h => h.elim) kk
theorem jr_mna (hX : jj_Cx X D cc own nL ret nm rm tb) (hSt : jj_St X D) {x y : Int32} {a b idx : Nat} (hw : Cond.classLink own idx "[[I" ∈ jj_W) (hw2 : Cond.arrayClass .int ∈ jj_W) (hx0 : x = nI a) (hy0 : y = nI b) (hab : a < 1000 ∧ b < 1000) (hd : decode cc pc = .ok (.multianewarray idx 2, 4)) (hf : cs + (1 + a) ≤ rm.cells ∧ sl + (a + a * b) ≤ rm.slots)
    (kk : jj_J X D nL (cs + 1 + a) (sl + a + a * b) Q (n + 1 + a) (mnK K n a b) (mnI I n a) (mnP P n a) G (pc + 4) L (.ref n :: rest)) : jj_J X D nL cs sl Q n K I P G pc L (.int y :: .int x :: rest) := by
  obtain ⟨p, l, e, R, s, m, args, below, meth, c⟩ := X
  obtain ⟨hx, hb, -, -, hml, hown, -, -, hRR, hts, -, hi, hi2, hKK, hZ⟩ := hX
  subst hRR
  subst hx0
  subst hy0
  intro H locs ls hz hK hS hl
  have htop := jj_ad_top hz (Nat.le_trans hi2 hS.1)
  have ca : (nI a).toNatClampNeg = a := nI_clamp (by omega)
  have cb : (nI b).toNatClampNeg = b := nI_clamp (by omega)
  have hover : (Cond.arrayOver (.array .int)).before args s = true := hSt.2.1 (.arrayOver (.array .int)) (by simp [jj_trav])
  intro T hT Y
  obtain ⟨vm₁, cA, comp, -, fA, fC, -, -, X', step⟩ := Y.multianewarray2F hx hown (own := own) (index := idx) (ty := .int) (hts _ hw) hover (hts _ hw2) (g := F0 m pc ls ((.int (nI b) :: .int (nI a) :: rest : List Value).map (jj_tr D))) rfl (by rw [hb]; exact hd) (rest := rest.map (jj_tr D)) rfl (nI_pos (by omega)) (nI_pos (by omega)) (by rw [ca]; omega) (by rw [cb]; show b * 4 ≤ _; omega) (by rw [cb]; omega) rfl rfl (by rw [ca]; exact hf.1) (by rw [ca, cb]; exact hf.2)
  rw [ca, cb] at X' step
  have eA : s.vm.findClass ("[" ++ (FieldType.array .int).toString) = some (D.2.1 15) := (hKK.2 5 _ rfl).2
  have eC : s.vm.findClass (FieldType.array .int).toString = some (D.2.1 10) := (hKK.2 0 _ rfl).2
  have hA : cA = D.2.1 15 := Option.some.inj (fA.symm.trans eA)
  have hC : comp = D.2.1 10 := Option.some.inj (fC.symm.trans eC)
  subst hA
  subst hC
  have hTh : (T.setVm vm₁).heap = H := hT
  generalize hF : Jvm.Free.Multi.fill (T.setVm vm₁) (D.2.1 15) (D.2.1 10) a b (defaultValue .int) a = F at X' step
  obtain ⟨f1, f2, -, -⟩ := Jvm.Free.Multi.fill_facts (T.setVm vm₁) (D.2.1 15) (D.2.1 10) a b (defaultValue .int) a
  rw [hF, hTh] at f1 f2
  have hold : ∀ q : Nat, q < H.size → F.heap[q]? = H[q]? := fun q hq => by
    have := Jvm.Free.Multi.fill_old (T.setVm vm₁) (D.2.1 15) (D.2.1 10) a b (defaultValue .int) (a := q) (by rw [hTh]; exact hq) a
    rw [hF, hTh] at this
    exact this
  have hrow : ∀ j : Nat, j < a → F.heap[H.size + 1 + j]? = some (Jvm.Free.Multi.innerC (D.2.1 10) b (defaultValue .int)) := fun j hj => by
    have := Jvm.Free.Multi.fill_inner (T.setVm vm₁) (D.2.1 15) (D.2.1 10) a b (defaultValue .int) a j hj
    rw [hF, hTh] at this
    exact this
  have had : ∀ j, jj_ad D (n + j) = H.size + j := fun j => by
    obtain ⟨k, rfl⟩ : ∃ k, n = k + 1 := ⟨n - 1, by have := Nat.le_trans hi2 hS.1; omega⟩
    rw [show k + 1 + j = (k + j) + 1 by omega]
    show D.2.2.2 + (k + j) = H.size + j
    omega
  have hHn : jj_H D (mnK K n a b) (n + 1 + a) (mnI I n a) (mnP P n a) G F.heap := by
    intro q kd hq
    unfold mnK at hq
    by_cases e1 : q = n
    · subst e1
      rw [if_pos rfl] at hq
      cases hq
      refine ⟨by omega, ?_⟩
      rw [jj_ent_a (by decide), htop]
      show F.heap[H.size]? = some (vp_cell (D.2.1 15) (a, .inr (.inr (.inr (.inr (fun k => (mnP P q a q k).map (jj_ad D)))))))
      rw [f2, mn_outer, vp_cell_q]
      refine congrArg (fun z => some (arrV (D.2.1 15) a z)) (funext fun j => ?_)
      unfold mnP
      rw [if_pos rfl]
      by_cases h : j < a
      · rw [if_pos h, if_pos h]
        show va_rf (some (H.size + 1 + j)) = va_rf (some (jj_ad D (q + 1 + j)))
        rw [show q + 1 + j = q + (1 + j) by omega, had, show H.size + 1 + j = H.size + (1 + j) by omega]
      · rw [if_neg h, if_neg h]; rfl
    · rw [if_neg e1] at hq
      by_cases e2 : n < q ∧ q ≤ n + a
      · rw [if_pos e2] at hq
        cases hq
        refine ⟨by omega, ?_⟩
        obtain ⟨j, rfl⟩ : ∃ j, q = n + (1 + j) := ⟨q - n - 1, by omega⟩
        rw [jj_ent_a (by decide), had, show H.size + (1 + j) = H.size + 1 + j by omega]
        show F.heap[H.size + 1 + j]? = some (vp_cell (D.2.1 10) (b, .inl (mnI I n a (n + (1 + j)))))
        rw [hrow j (by omega), show mnI I n a (n + (1 + j)) = fun _ => 0 from if_pos (by omega), vp_cell_i, ← arrV_new]
        rfl
      · rw [if_neg e2] at hq
        have h1 := hK q kd hq
        refine ⟨by omega, ?_⟩
        rw [jj_ent_cg (I := I) (P := P) (G := G) (show mnI I n a q = I q from if_neg e2) (show mnP P n a q = P q from if_neg e1) rfl kd]
        exact h1.2.kept (hold _ h1.2.lt)
  obtain ⟨t, a9, b9⟩ := kk F.heap locs ls (by rw [f1]; omega) hHn ⟨by rw [f1]; exact Nat.le_trans hS.1 (by omega), fun q h1 h2 => (hold q (Nat.lt_of_lt_of_le h1 hS.1)).trans (hS.2.1 q h1 h2), hS.2.2⟩ hl F rfl X'
  refine ⟨t, step t ?_, b9⟩
  rw [show List.map (jj_tr D) (Value.ref n :: rest) = Value.ref (jj_ad D n) :: List.map (jj_tr D) rest from rfl, htop] at a9
  have e : T.heap.size = H.size := by rw [hT]
  rw [e]
  exact a9
end JMN
