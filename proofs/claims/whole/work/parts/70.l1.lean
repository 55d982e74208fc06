/-! the law's own rows: methods with tables, the script -/
def jj_wsH (y : MethodName) (c : ByteArray) (nL : Nat) (ret : Option FieldType) (hh : List (Nat × Nat × Nat × Nat)) : List Cond := Cond.codeWith y c nL ret hh :: jj_W
theorem jj_ofH {l : Launch} (hfl : l.stackTraces = false) {D : jj_D} {y : MethodName} {cc : ByteArray} {nL : Nat} {ret : Option FieldType} {hh : List (Nat × Nat × Nat × Nat)} {rm : Room} {av : List Value} {n : Nat} {K : jj_K} {I : jj_I} {P : jj_P} {G : jj_G} {post : jj_post} {px : jj_px}
    (hy : plainName y.cls = true) (L : List (Option Value)) (hL : (jj_args av ++ List.replicate (nL - (jj_args av).length) none) = L) (hle : Nat.ble (lg_sl av).length nL = true)
    (body : ∀ X : jj_X, X.2.1 = l → jj_Cx X D cc y.cls nL ret y.name rm (tableOf hh) → jj_St X D → jj_J X D nL 0 0 (jj_MQ X D rm post px) n K I P G 0 L []) : jj_Met l D y (jj_wsH y cc nL ret hh) rm av n K I P G post px := by
  refine vx_ofWH (cc := cc) (maxL := nL) (ret := ret) (hh := hh) hy rfl ?_
  intro p e s m args below meth c s₁ B hml hv
  obtain ⟨rfl, ⟨⟨hi, hi2, hz, hKK, hK, hZ⟩, hstr⟩⟩ := hv
  have hts := atoms_spec (ws := jj_wsH y cc nL ret hh) B.pre
  have htb := vx_table (x := y) B (hts _ List.mem_cons_self)
  have hlen : ∀ vs : List Value, (lg_sl (vs.map (jj_tr D))).length = (lg_sl vs).length := by
    intro vs
    induction vs with
    | nil => rfl
    | cons v vs ih =>
      simp only [lg_sl] at ih ⊢
      simp only [List.map_cons, List.flatMap_cons, List.length_append, ih, jj_cat]
      split <;> rfl
  have hl := lv_entry (av.map (jj_tr D)) (n := nL) (by rw [hlen]; exact Nat.le_of_ble_eq_true hle)
  rw [lg_entry_eq]
  refine body (p, l, e, (headSpec (jj_wsH y cc nL ret hh) rm).room, s, m, (av.map (jj_tr D)).toArray, below, meth, c) rfl ⟨B.exec, B.bytes, B.returns, (name_of_methodNamed B.named B.method).1, hml, findClass_of_methodNamed B.named, B.notSynchronized, hfl, rfl, fun w h => hts w (List.mem_cons_of_mem _ h), htb, hi, hi2, hKK, hZ⟩ hstr s.heap [] _ hz hK va_S.rf ⟨hl.1, hl.2.1, fun q hq => hl.2.2 q ?_⟩
  obtain ⟨v, h1, h2⟩ := jj_L_mem.mp hq
  rw [← hL] at h1
  by_cases hlt : q.1 < (jj_args av).length
  · rw [List.getElem?_append_left hlt] at h1
    have := jj_args_mem D av 0 q.1 v h1
    obtain ⟨i, w⟩ := q
    dsimp only at h2 this ⊢
    rw [h2]
    simpa using this
  · rw [List.getElem?_append_right (by omega)] at h1
    simp [List.getElem?_replicate] at h1
section JLW
variable {X : jj_X} {D : jj_D} {cc : ByteArray} {own nm : String} {nL : Nat} {ret : Option FieldType} {rm : Room} {tb : List ExceptionTableEntry} {cs sl : Nat} {Q : State → Prop} {n : Nat} {K : jj_K} {I : jj_I} {P : jj_P} {G : jj_G} {pc : Nat} {L : List (Option Value)} {rest : List Value} {post : jj_post} {px : jj_px}
def jj_MSX (own : String) (idx : Nat) (y : MethodName) (c : ByteArray) (nL : Nat) (ret : Option FieldType) (hh : List (Nat × Nat × Nat × Nat)) (ar : Nat) : Prop :=
  Cond.methodLink own idx y ∈ jj_W ∧ Cond.static y ∈ jj_W ∧ Cond.initialized y.cls ∈ jj_W ∧ Cond.codeWith y c nL ret hh ∈ jj_W ∧ y.cls ≠ "java/lang/invoke/MethodHandle" ∧ y.cls ≠ "java/lang/invoke/VarHandle" ∧ (parseMethodDescriptor y.desc).map (fun d => d.parameters.length) = some ar
theorem jj_goodH {y : MethodName} {c : ByteArray} {nL : Nat} {ret : Option FieldType} {hh : List (Nat × Nat × Nat × Nat)} (h : Cond.codeWith y c nL ret hh ∈ jj_W) : GoodIn jj_W (jj_wsH y c nL ret hh) := by
  intro w hw
  rcases List.mem_cons.mp hw with rfl | hw
  · exact ⟨h, jj_wsgood _ h⟩
  · exact ⟨hw, jj_wsgood _ hw⟩
theorem jr_runSX (hX : jj_Cx X D cc own nL ret nm rm tb) (hSt : jj_St X D) {idx ny ar : Nat} {y : MethodName} {cy : ByteArray} {rety : Option FieldType} {hh : List (Nat × Nat × Nat × Nat)} (hm : jj_MSX own idx y cy ny rety hh ar) {rmy : Room} {As st : List Value} {post1 : jj_post} {px1 : jj_px}
    (hM : jj_Met X.2.1 D y (jj_wsH y cy ny rety hh) rmy As n K I P G post1 px1) (har : As.length = ar) (hst : st = As.reverse ++ rest) (hd : decode cc pc = .ok (.invokestatic idx, 3))
    (hR : (Nat.ble (rmy.frames + 1) rm.frames && Nat.ble (8 + (ny + 11) + rmy.locals) rm.locals) = true) (hf : cs + rmy.cells ≤ rm.cells ∧ sl + rmy.slots ≤ rm.slots) (hw : Nat.ble (rest.map fun v => v.category).sum 8 = true) : jj_Run X D nL cs sl n K I P G pc L st rest rmy.cells rmy.slots post1 px1 := by
  obtain ⟨p, l, e, R, s, m, args, below, meth, c⟩ := X
  obtain ⟨hx, hb, -, -, hml, hown, -, -, hRR, hts, -, hi, hi2, hKK, hZ⟩ := hX
  subst hRR
  subst hst
  intro H locs ls hz hK hS hl
  have hbef : ∀ U : State, U.heap = H → s.WarmedH U.vm → jj_Bef D n K I P G U := fun U hU hW => ⟨⟨hi, by rw [hU]; exact Nat.le_trans hi2 hS.1, by rw [hU]; exact hz, va_K.moved hW.alike hKK, by rw [hU]; exact hK, by rw [hU]; exact jj_Z_keep hZ hS hW.alike⟩, jj_Str_warm hW hSt⟩
  have hw2 : 2 * (F0 m pc ls ((As.reverse ++ rest).map (jj_tr D))).monitorRoom + ((rest.map (jj_tr D)).map fun v => v.category).sum ≤ 8 := lv_room (by rw [jj_catsum]; exact Nat.le_of_ble_eq_true hw)
  obtain ⟨hR1, hR2⟩ := jj_b2 hR
  obtain ⟨m1, m2, m3, m4, m5, m6, m7⟩ := hm
  refine ⟨_, vx_runSX (nL := nL) (hh := hh) (As := As.map (jj_tr D)) ⟨hx, hb, hml, hown, hts⟩ hM ⟨⟨rfl, rfl, hR1, hR2, pay_in hts (jj_goodH m4), List.mem_cons_self⟩, hts _ m4, hts _ m3, ⟨m5, m6⟩, fun sig h => by rw [h] at m7; exact har.trans (Option.some.inj m7).symm, hts _ m1, hts _ m2⟩ ⟨jj_blind, fun U hU hW => ⟨rfl, hbef U hU hW⟩⟩ rfl (by rw [List.length_map]) hl.1 ?_ hw2 hd hf⟩
  show (As.reverse ++ rest).map (jj_tr D) = _
  rw [List.map_append, List.map_reverse]
/-- what was stored is of no matter -/
theorem jj_drop {ls : Array Slot} {i : Nat} {v : Value} (hi : L[i]? = some none) (hk : jj_ok L i = true) (h : lv_has ls nL ((i, v) :: (jj_L D L).filter (fun q => !(q.1 == i) && !(q.1 + 1 == i && q.2.category == 2)))) : lv_has ls nL (jj_L D L) := by
  refine ⟨h.1, h.2.1, fun q hq => h.2.2 q (List.mem_cons_of_mem _ (List.mem_filter.mpr ⟨hq, ?_⟩))⟩
  obtain ⟨w, h1, h2⟩ := jj_L_mem.mp hq
  obtain ⟨j, x⟩ := q
  dsimp only at h1 h2 ⊢
  have hj : ¬ j = i := fun e => by
    subst e
    rw [hi] at h1
    simp at h1
  by_cases h4 : j + 1 = i
  · subst h4
    simp only [jj_ok, h1] at hk
    have h5 : ¬ w.category = 2 := by simpa using hk
    simp [h2, jj_cat, h5]
  · simp [hj, h4]
theorem jr_catch (hX : jj_Cx X D cc own nL ret nm rm tb) (hSt : jj_St X D) {E : String} (pre : List ExceptionTableEntry) (x : ExceptionTableEntry) (suf : List ExceptionTableEntry) (htb : tb = pre ++ x :: suf)
    (hpass : ∀ z ∈ pre, z.catchType ≠ 0 ∧ ∃ nm : String, Cond.classLink own z.catchType nm ∈ jj_W ∧ (E, nm) ∈ jj_nc) (hcov : covers x pc = true) (h0 : x.catchType ≠ 0) (hlink : Cond.classLink own x.catchType E ∈ jj_W) (hcast : Cond.castable E E ∈ jj_trav) {i : Nat}
    (hd : decode cc x.handlerPc = .ok (.astore i, 2)) (hi : L[i]? = some none) (hk : (jj_ok L i && Nat.ble (i + 1) nL) = true) (kk : jj_J X D nL cs sl Q n K I P G (x.handlerPc + 2) L []) : jj_JX X D nL cs sl Q E n K I P G pc L := by
  obtain ⟨p, l, e, R, s, m, args, below, meth, c⟩ := X
  obtain ⟨hx, hb, -, -, hml, hown, -, -, hRR, hts, htb2, hi1, hi2, hKK, hZ⟩ := hX
  have hk1 := (Bool.and_eq_true_iff.mp hk).1
  have hk2 := Nat.le_of_ble_eq_true (Bool.and_eq_true_iff.mp hk).2
  intro H locs ls rst ce q hz hK hS hl h1 h2 h3
  refine vx_catch (name := E) hown pre x suf (htb2.trans htb) (fun z hz => ?_) hcov h0 (hts _ hlink) (va_Nw.use (A := args) rfl (hSt.2.1 _ hcast)) h1 h2 h3 ?_
  · obtain ⟨a1, nm, a2, a3⟩ := hpass z hz
    exact Or.inr ⟨a1, nm, hts _ a2, hSt.2.2.1 _ a3⟩
  · exact lv_astore hx hb hd hl (by omega) rfl (fun ls1 g1 => kk H locs ls1 hz hK hS (jj_drop hi hk1 g1))
theorem jr_catch_n (hX : jj_Cx X D cc own nL ret nm rm tb) (hSt : jj_St X D) {E : String} (pre : List ExceptionTableEntry) (x : ExceptionTableEntry) (suf : List ExceptionTableEntry) (htb : tb = pre ++ x :: suf)
    (hpass : ∀ z ∈ pre, z.catchType ≠ 0 ∧ ∃ nm : String, Cond.classLink own z.catchType nm ∈ jj_W ∧ (E, nm) ∈ jj_nc) (hcov : covers x pc = true) (h0 : x.catchType ≠ 0) (hlink : Cond.classLink own x.catchType E ∈ jj_W) (hcast : Cond.castable E E ∈ jj_trav) {i : Fin 4}
    (hd : decode cc x.handlerPc = .ok (.astore_n i, 1)) (hi : L[(i : Nat)]? = some none) (hk : (jj_ok L (i : Nat) && Nat.ble ((i : Nat) + 1) nL) = true) (kk : jj_J X D nL cs sl Q n K I P G (x.handlerPc + 1) L []) : jj_JX X D nL cs sl Q E n K I P G pc L := by
  obtain ⟨p, l, e, R, s, m, args, below, meth, c⟩ := X
  obtain ⟨hx, hb, -, -, hml, hown, -, -, hRR, hts, htb2, hi1, hi2, hKK, hZ⟩ := hX
  have hk1 := (Bool.and_eq_true_iff.mp hk).1
  have hk2 := Nat.le_of_ble_eq_true (Bool.and_eq_true_iff.mp hk).2
  intro H locs ls rst ce q hz hK hS hl h1 h2 h3
  refine vx_catch (name := E) hown pre x suf (htb2.trans htb) (fun z hz => ?_) hcov h0 (hts _ hlink) (va_Nw.use (A := args) rfl (hSt.2.1 _ hcast)) h1 h2 h3 ?_
  · obtain ⟨a1, nm, a2, a3⟩ := hpass z hz
    exact Or.inr ⟨a1, nm, hts _ a2, hSt.2.2.1 _ a3⟩
  · exact lv_astore_n hx hb hd rfl hl (by omega) rfl (fun ls1 g1 => kk H locs ls1 hz hK hS (jj_drop hi hk1 g1))
/-- the script -/
def jj_XS (X : jj_X) (D : jj_D) (L : Nat) (xs : Nat → Int32) : Prop := match X with
  | (_, _, _, _, s, _, _, _, _, _) => va_X D.2.2.1 L xs s s.heap ∧ D.2.2.1 < s.heap.size
theorem jr_sld (hX : jj_Cx X D cc own nL ret nm rm tb) {S : Nat} {xs : Nat → Int32} (hxs : jj_XS X D S xs) {x : Int32} {j : Nat} (hj : x = nI j) (hN : j < S ∧ S < 2147483648) (hd : decode cc pc = .ok (.iaload, 1)) (kk : jj_J X D nL cs sl Q n K I P G (pc + 1) L (.int (xs j) :: rest)) : jj_J X D nL cs sl Q n K I P G pc L (.int x :: .ref 0 :: rest) := by
  obtain ⟨p, l, e, R, s, m, args, below, meth, c⟩ := X
  obtain ⟨hx, hb, -, -, hml, hown, -, -, hRR, hts, -, hi, hi2, hKK, hZ⟩ := hX
  obtain ⟨h1, h2⟩ := hxs
  subst hj
  intro H locs ls hz hK hS hl
  refine va_sld (A := jj_A D) (L := S) (xs := xs) hx hb h1 h2 (by show ¬ D.2.2.2 ≤ D.2.2.1; omega) hS (vp_in_nI hN.1 hN.2) hd ?_
  rw [nI_clamp (by omega)]
  exact kk H locs ls hz hK hS hl
theorem jr_slen (hX : jj_Cx X D cc own nL ret nm rm tb) {S : Nat} {xs : Nat → Int32} (hxs : jj_XS X D S xs) (hd : decode cc pc = .ok (.arraylength, 1)) (kk : jj_J X D nL cs sl Q n K I P G (pc + 1) L (.int (nI S) :: rest)) : jj_J X D nL cs sl Q n K I P G pc L (.ref 0 :: rest) := by
  obtain ⟨p, l, e, R, s, m, args, below, meth, c⟩ := X
  obtain ⟨hx, hb, -, -, hml, hown, -, -, hRR, hts, -, hi, hi2, hKK, hZ⟩ := hX
  obtain ⟨h1, h2⟩ := hxs
  intro H locs ls hz hK hS hl
  exact va_slen (A := jj_A D) (L := S) (xs := xs) hx hb h1 h2 (by show ¬ D.2.2.2 ≤ D.2.2.1; omega) hS hd (kk H locs ls hz hK hS hl)
theorem jj_rb {a b c d : Nat} (h1 : a ≤ b) (h2 : c ≤ d) : (Nat.ble a b && Nat.ble c d) = true := by
  rw [Nat.ble_eq.mpr h1, Nat.ble_eq.mpr h2]; rfl
theorem jj_RR {r : Option Value} {n0 : Nat} {K0 : jj_K} {I0 : jj_I} {P0 : jj_P} {G0 : jj_G} : jj_R r n0 K0 I0 P0 G0 = jj_RS (fun r1 J => r1 = r ∧ J = I0) n0 K0 P0 G0 := by
  funext r1 n1 K1 I1 P1 G1
  unfold jj_R jj_RS
  exact propext ⟨fun ⟨a, b, c, d, e, f⟩ => ⟨⟨a, d⟩, b, c, e, f⟩, fun ⟨⟨a, d⟩, b, c, e, f⟩ => ⟨a, b, c, d, e, f⟩⟩
end JLW
