/-! throws, new cells, copies -/
section JT
variable {X : jj_X} {D : jj_D} {cc : ByteArray} {own nm : String} {nL : Nat} {ret : Option FieldType} {rm : Room} {tb : List ExceptionTableEntry} {cs sl : Nat} {Q : State → Prop} {n : Nat} {K : jj_K} {I : jj_I} {P : jj_P} {G : jj_G} {pc : Nat} {L : List (Option Value)} {rest : List Value} {post : jj_post} {px : jj_px}
abbrev jj_sup : List String := ["java/lang/RuntimeException", "java/lang/Exception"]
def jj_T (ik is ic : Nat) (cls text : String) : Prop := Cond.classLink RX5 ik cls ∈ jj_W ∧ Cond.initialized cls ∈ jj_W ∧ (is, text) ∈ jj_strs ∧ Bundle.fit cls = true ∧ (∀ w ∈ vx_atS RX5 ic cls jj_sup, (goodWord w = true ∧ w ∈ lw_tbl) ∨ (w ∈ jj_trav ∧ w.onTables = true)) ∧ ∀ w ∈ Cond.classLink RX5 ik cls :: Cond.initialized cls :: vx_atS RX5 ic cls jj_sup, vx_ot w = true
theorem jj_sup_fit : ∀ n ∈ jj_sup, Bundle.fit n = true := by decide +kernel
theorem jj_thrown {s t : State} {H : Heap} {locs : List Loc} (hz : H.size + 1 = D.2.2.2 + n) (hK : jj_H D K n I P G H) (hS : va_S (jj_A D) s.heap H locs) (h1 : H.size ≤ t.heap.size) (h2 : ∀ q : Nat, q < H.size → t.heap[q]? = H[q]?) {E : String} (h : ∀ n1, n ≤ n1 → px E n1 K I P G) : jj_XC D px E s t := by
  refine ⟨⟨n + (t.heap.size - H.size), K, I, P, G, h _ (by omega), by omega, fun a kd ha => ?_⟩, ⟨Nat.le_trans hS.1 h1, fun q g1 g2 => ?_⟩⟩
  · have h3 := hK a kd ha
    exact ⟨by omega, h3.2.kept (h2 _ h3.2.lt)⟩
  · rw [h2 q (Nat.lt_of_lt_of_le g1 hS.1)]
    exact hS.2.1 q g1 g2
theorem jr_throwS (hX : jj_Cx X D cc RX5 nL ret nm rm []) (hSt : jj_St X D) {ik is ic : Nat} {cls text : String} (hT : jj_T ik is ic cls text) (d0 : decode cc pc = .ok (.new ik, 3)) (d3 : decode cc (pc + 3) = .ok (.dup, 1)) (d4 : decode cc (pc + 4) = .ok (.ldc is, 2)) (d6 : decode cc (pc + 6) = .ok (.invokespecial ic, 3)) (d9 : decode cc (pc + 9) = .ok (.athrow, 1))
    (hR : (Nat.ble 6 rm.frames && Nat.ble ((rest.map fun v => v.category).sum + 82) rm.locals) = true) (hf : (Nat.ble (cs + 1) rm.cells && Nat.ble (sl + 6) rm.slots) = true) (h : ∀ n1, n ≤ n1 → px cls n1 K I P G) : jj_J X D nL cs sl (jj_MQ X D rm post px) n K I P G pc L rest := by
  obtain ⟨p, l, e, R, s, m, args, below, meth, c⟩ := X
  obtain ⟨hx, hb, -, -, hml, hown, hlocks, hfl, hRR, hts, htb, hi, hi2, hKK, hZ⟩ := hX
  obtain ⟨t1, t2, t3, t4, t5, t6⟩ := hT
  subst hRR
  intro H locs ls hz hK hS hl
  obtain ⟨sa, hsa⟩ := hSt.1 _ t3
  obtain ⟨hR1, hR2⟩ := jj_b2 hR
  obtain ⟨hf1, hf2⟩ := jj_b2 hf
  exact vx_throwS (A := jj_A D) (names := jj_sup) hx hb hfl hown t4 jj_sup_fit (hts _ t1) (hts _ t2) hsa (fun w hw => by
    rcases t5 w hw with ⟨g1, g2⟩ | ⟨g1, g2⟩
    · exact hts _ (List.mem_filter.mpr ⟨g2, g1⟩)
    · exact va_Nw.use g2 (hSt.2.1 w g1)) t6 hZ.1 hZ.2.1 hS (hl.1.trans hml.symm) d0 d3 d4 d6 d9 (fun x hx => by rw [htb] at hx; cases hx) (by show 2 + 3 < _; omega) (by rw [jj_catsum]; show _ + (13 * (2 + 1) + 43) ≤ _; omega) hf1 hf2 hlocks
    (fun t hvm h1 h2 => jj_thrown hz hK hS h1 h2 h) hS.2.2 hf1 hf2
theorem jr_throwW (hX : jj_Cx X D cc RX5 nL ret nm rm []) (hSt : jj_St X D) {ik is ic : Nat} {cls text : String} (hT : jj_T ik is ic cls text) (d0 : decode cc pc = .ok (.new ik, 3)) (d3 : decode cc (pc + 3) = .ok (.dup, 1)) (d4 : decode cc (pc + 4) = .ok (.ldc_w is, 3)) (d6 : decode cc (pc + 7) = .ok (.invokespecial ic, 3)) (d9 : decode cc (pc + 10) = .ok (.athrow, 1))
    (hR : (Nat.ble 6 rm.frames && Nat.ble ((rest.map fun v => v.category).sum + 82) rm.locals) = true) (hf : (Nat.ble (cs + 1) rm.cells && Nat.ble (sl + 6) rm.slots) = true) (h : ∀ n1, n ≤ n1 → px cls n1 K I P G) : jj_J X D nL cs sl (jj_MQ X D rm post px) n K I P G pc L rest := by
  obtain ⟨p, l, e, R, s, m, args, below, meth, c⟩ := X
  obtain ⟨hx, hb, -, -, hml, hown, hlocks, hfl, hRR, hts, htb, hi, hi2, hKK, hZ⟩ := hX
  obtain ⟨t1, t2, t3, t4, t5, t6⟩ := hT
  subst hRR
  intro H locs ls hz hK hS hl
  obtain ⟨sa, hsa⟩ := hSt.1 _ t3
  obtain ⟨hR1, hR2⟩ := jj_b2 hR
  obtain ⟨hf1, hf2⟩ := jj_b2 hf
  exact vx_throwSW (A := jj_A D) (names := jj_sup) hx hb hfl hown t4 jj_sup_fit (hts _ t1) (hts _ t2) hsa (fun w hw => by
    rcases t5 w hw with ⟨g1, g2⟩ | ⟨g1, g2⟩
    · exact hts _ (List.mem_filter.mpr ⟨g2, g1⟩)
    · exact va_Nw.use g2 (hSt.2.1 w g1)) t6 hZ.1 hZ.2.1 hS (hl.1.trans hml.symm) d0 d3 d4 d6 d9 (fun x hx => by rw [htb] at hx; cases hx) (by show 2 + 3 < _; omega) (by rw [jj_catsum]; show _ + (13 * (2 + 1) + 43) ≤ _; omega) hf1 hf2 hlocks
    (fun t hvm h1 h2 => jj_thrown hz hK hS h1 h2 h) hS.2.2 hf1 hf2
/-- new C -/
def jj_NW (own : String) (idx ci : Nat) : Prop := ∃ (C : String) (T : u_T) (N : Nat) (ty : Nat → FieldType), vwCl[ci]? = some (C, T, N) ∧ jj_N ci = N ∧ ci < 10 ∧ (∀ w ∈ u_ws C T N, w ∈ jj_W) ∧ (∀ k, k < N → parseFieldDescriptor (T k).2.2.1 = some (ty k)) ∧ Cond.classLink own idx C ∈ jj_W ∧ Cond.instantiable C N ∈ jj_W ∧ Cond.initialized C ∈ jj_W ∧ ∀ k, k < N → defaultValue (ty k) = if jj_isR ci k then .null else .int 0
theorem jr_new (hX : jj_Cx X D cc own nL ret nm rm tb) {idx ci : Nat} (hN : jj_NW own idx ci) (hd : decode cc pc = .ok (.new idx, 3)) (hf : cs + 1 ≤ rm.cells ∧ sl + jj_N ci ≤ rm.slots) (kk : jj_J X D nL (cs + 1) (sl + jj_N ci) Q (n + 1) (jj_uK K n (ci, 0)) (jj_uR I n (fun _ => 0)) (jj_uR P n (fun _ => none)) G (pc + 3) L (.ref n :: rest)) : jj_J X D nL cs sl Q n K I P G pc L rest := by
  obtain ⟨p, l, e, R, s, m, args, below, meth, c⟩ := X
  obtain ⟨hx, hb, -, -, hml, hown, -, -, hRR, hts, -, hi, hi2, hKK, hZ⟩ := hX
  obtain ⟨C, T, N, ty, hc, hNN, hc10, hin, hty, w1, w2, w3, hdef⟩ := hN
  subst hRR
  intro H locs ls hz hK hS hl
  have hKn := hKK.1 ci _ hc
  have htop := jj_ad_top hz (Nat.le_trans hi2 hS.1)
  refine W.newcK hx hb hown (hts _ w1) (hts _ w2) (hts _ w3) rfl hd hf.1 (by rw [← hNN]; exact hf.2) hKn.2.1 rfl fun H1 kC hkC e1 z1 o1 => ?_
  rw [← hNN]
  have hk := kk H1 locs ls (by rw [z1]; omega) (jj_H_nw hK ?_ o1 (fun b kd hb => jj_ent_cg (jj_uR_ne hb) (jj_uR_ne hb) rfl kd)) ⟨Nat.le_trans hS.1 (by omega), fun y h1 h2 => (o1 y (Nat.lt_of_lt_of_le h1 hS.1)).trans (hS.2.1 y h1 h2), hS.2.2⟩ hl
  · rw [← htop]
    exact hk
  · rw [jj_ent_o hc10, htop]
    refine ⟨_, hc, (u_born ty hts hin hKn hkC e1 hty).to (fun j hj => ?_)⟩
    rw [hdef j hj, vp_V, List.getD_eq_getElem?_getD, jj_fs_at (by rw [hNN]; exact hj)]
    simp only [jj_val, jj_uR, if_true, jj_rf, Option.map_none, va_rf, Option.getD_some]
/-- a new row of ints, of longs -/
theorem jr_newI (hX : jj_Cx X D cc own nL ret nm rm tb) {x : Int32} {len : Nat} (hw : Cond.arrayClass .int ∈ jj_W) (hx0 : x = nI len) (hlen : len < 100000) (hd : decode cc pc = .ok (.newarray .int, 2)) (hf : cs + 1 ≤ rm.cells ∧ sl + len ≤ rm.slots) (kk : jj_J X D nL (cs + 1) (sl + len) Q (n + 1) (jj_uK K n (10, len)) (jj_uR I n (fun _ => 0)) P G (pc + 2) L (.ref n :: rest)) : jj_J X D nL cs sl Q n K I P G pc L (.int x :: rest) := by
  obtain ⟨p, l, e, R, s, m, args, below, meth, c⟩ := X
  obtain ⟨hx, hb, -, -, hml, hown, -, -, hRR, hts, -, hi, hi2, hKK, hZ⟩ := hX
  subst hRR
  subst hx0
  intro H locs ls hz hK hS hl
  have htop := jj_ad_top hz (Nat.le_trans hi2 hS.1)
  refine va_newaK hx hb (atype := .int) (hts _ hw) rfl hd rfl (nI_pos (by omega)) (nI_clamp (by omega)) (by show len * 4 ≤ _; omega) hf.1 hf.2 rfl fun H1 cA e1 z1 o1 hAr hNm => ?_
  have hcA : cA = D.2.1 10 := Option.some.inj (hNm.symm.trans (hKK.2 0 _ rfl).2)
  subst hcA
  have hk := kk H1 locs ls (by rw [z1]; omega) (jj_H_nw hK ?_ o1 (fun b kd hb => jj_ent_cg (jj_uR_ne hb) rfl rfl kd)) ⟨Nat.le_trans hS.1 (by omega), fun y h1 h2 => (o1 y (Nat.lt_of_lt_of_le h1 hS.1)).trans (hS.2.1 y h1 h2), hS.2.2⟩ hl
  · rw [← htop]
    exact hk
  · rw [jj_ent_a (by decide), htop]
    show H1[H.size]? = some (vp_cell _ (len, .inl (jj_uR I n (fun _ => 0) n)))
    rw [jj_uR_eq, vp_cell_i]
    exact e1
/-- a new row of objects of C, of rows of ints -/
theorem jr_newO (hX : jj_Cx X D cc own nL ret nm rm tb) (hSt : jj_St X D) {x : Int32} {len idx t : Nat} {C : String} (hw : Cond.classLink own idx C ∈ jj_W) (hw2 : Cond.arrayOver (.object C) ∈ jj_trav) (ht : 12 ≤ t ∧ (jj_tys D)[t - 10]? = some (D.2.1 t, .object C)) (hx0 : x = nI len) (hlen : len < 100000) (hd : decode cc pc = .ok (.anewarray idx, 3)) (hf : cs + 1 ≤ rm.cells ∧ sl + len ≤ rm.slots) (kk : jj_J X D nL (cs + 1) (sl + len) Q (n + 1) (jj_uK K n (t, len)) I (jj_uR P n (fun _ => none)) G (pc + 3) L (.ref n :: rest)) : jj_J X D nL cs sl Q n K I P G pc L (.int x :: rest) := by
  obtain ⟨p, l, e, R, s, m, args, below, meth, c⟩ := X
  obtain ⟨hx, hb, -, -, hml, hown, -, -, hRR, hts, -, hi, hi2, hKK, hZ⟩ := hX
  subst hRR
  subst hx0
  intro H locs ls hz hK hS hl
  have htop := jj_ad_top hz (Nat.le_trans hi2 hS.1)
  have hcl : (nI len).toNatClampNeg = len := nI_clamp (by omega)
  have hover : va_AO C s := hSt.2.1 _ hw2
  refine W.anew hx hb hown (hts _ hw) (va_AO.use hover) rfl hd rfl (nI_pos (by omega)) (by rw [hcl]; omega) hf.1 (by rw [hcl]; exact hf.2) fun cA kA comp f1 f2 f3 f4 => ?_
  rw [hcl]
  obtain ⟨kA2, comp2, -, -, -, r4⟩ := (hKK.2 (t - 10) _ ht.2).2
  have hcA : cA = D.2.1 t := Option.some.inj (f1.symm.trans r4)
  subst hcA
  generalize hH1 : H.push ({ cls := D.2.1 t, slots := Array.replicate len .null, vm := .none } : Cell) = H1
  have z1 : H1.size = H.size + 1 := by rw [← hH1, Array.size_push]
  have e1 : H1[H.size]? = some (arrV (D.2.1 t) len (fun _ => .null)) := by rw [← hH1, Array.getElem?_push_size, ← arrV_new]
  have o1 : ∀ q : Nat, q < H.size → H1[q]? = H[q]? := fun q hq => by rw [← hH1, Array.getElem?_push, if_neg (Nat.ne_of_lt hq)]
  have hk := kk H1 locs ls (by rw [z1]; omega) (jj_H_nw hK ?_ o1 (fun b kd hb => jj_ent_cg rfl (jj_uR_ne hb) rfl kd)) ⟨Nat.le_trans hS.1 (by omega), fun y h1 h2 => (o1 y (Nat.lt_of_lt_of_le h1 hS.1)).trans (hS.2.1 y h1 h2), hS.2.2⟩ hl
  · rw [← htop]
    exact hk
  · rw [jj_ent_a (by omega), htop]
    unfold jj_arr
    rw [if_neg (by omega), if_neg (by omega)]
    show H1[H.size]? = some (vp_cell _ (len, .inr (.inr (.inr (.inr (fun k => (jj_uR P n (fun _ => none) n k).map (jj_ad D)))))))
    rw [jj_uR_eq, vp_cell_q]
    exact e1
theorem jr_newII (hX : jj_Cx X D cc own nL ret nm rm tb) (hSt : jj_St X D) {x : Int32} {len idx : Nat} (hw : Cond.classLink own idx "[I" ∈ jj_W) (hx0 : x = nI len) (hlen : len < 100000) (hd : decode cc pc = .ok (.anewarray idx, 3)) (hf : cs + 1 ≤ rm.cells ∧ sl + len ≤ rm.slots) (kk : jj_J X D nL (cs + 1) (sl + len) Q (n + 1) (jj_uK K n (15, len)) I (jj_uR P n (fun _ => none)) G (pc + 3) L (.ref n :: rest)) : jj_J X D nL cs sl Q n K I P G pc L (.int x :: rest) := by
  obtain ⟨p, l, e, R, s, m, args, below, meth, c⟩ := X
  obtain ⟨hx, hb, -, -, hml, hown, -, -, hRR, hts, -, hi, hi2, hKK, hZ⟩ := hX
  subst hRR
  subst hx0
  intro H locs ls hz hK hS hl
  have htop := jj_ad_top hz (Nat.le_trans hi2 hS.1)
  have hcl : (nI len).toNatClampNeg = len := nI_clamp (by omega)
  have hover : (Cond.arrayOver (.array .int)).before args s = true := hSt.2.1 (.arrayOver (.array .int)) (by simp [jj_trav])
  refine W.anewA (t := .int) hx hb hown (hts _ hw) hover rfl hd rfl (nI_pos (by omega)) (by rw [hcl]; omega) hf.1 (by rw [hcl]; exact hf.2) fun cA kA comp f1 f2 f3 f4 => ?_
  rw [hcl]
  have r4 : s.vm.findClass ("[" ++ (FieldType.array .int).toString) = some (D.2.1 15) := (hKK.2 5 _ rfl).2
  have hcA : cA = D.2.1 15 := Option.some.inj (f1.symm.trans r4)
  subst hcA
  generalize hH1 : H.push ({ cls := D.2.1 15, slots := Array.replicate len .null, vm := .none } : Cell) = H1
  have z1 : H1.size = H.size + 1 := by rw [← hH1, Array.size_push]
  have e1 : H1[H.size]? = some (arrV (D.2.1 15) len (fun _ => .null)) := by rw [← hH1, Array.getElem?_push_size, ← arrV_new]
  have o1 : ∀ q : Nat, q < H.size → H1[q]? = H[q]? := fun q hq => by rw [← hH1, Array.getElem?_push, if_neg (Nat.ne_of_lt hq)]
  have hk := kk H1 locs ls (by rw [z1]; omega) (jj_H_nw hK ?_ o1 (fun b kd hb => jj_ent_cg rfl (jj_uR_ne hb) rfl kd)) ⟨Nat.le_trans hS.1 (by omega), fun y h1 h2 => (o1 y (Nat.lt_of_lt_of_le h1 hS.1)).trans (hS.2.1 y h1 h2), hS.2.2⟩ hl
  · rw [← htop]
    exact hk
  · rw [jj_ent_a (by omega), htop]
    show H1[H.size]? = some (vp_cell _ (len, .inr (.inr (.inr (.inr (fun k => (jj_uR P n (fun _ => none) n k).map (jj_ad D)))))))
    rw [jj_uR_eq, vp_cell_q]
    exact e1
/-- a store into a row of references -/
theorem jj_aast {x : Int32} {p : Program} {l : Launch} {e : Env} {R : Room} {s : State} {m : MethodId} {args : Array Value} {below : List Frame} {meth : Method} {c : Code} (hx : p.tables.exec = Jvm.exec) (hb : c.code = cc) (hi : D.2.2.1 < D.2.2.2) {a len t j q : Nat} (ht : 12 ≤ t) (hk : K a = some (t, len)) (h0 : 0 < a) (hj : x = nI j) (hN : j < len ∧ len < 2147483648) (hd : decode cc pc = .ok (.aastore, 1)) {H : Heap} {locs : List Loc} {ls : Array Slot} (hz : H.size + 1 = D.2.2.2 + n) (hK : jj_H D K n I P G H) (hS : va_S (jj_A D) s.heap H locs) {rst : List Value}
    {k kv kcomp : Class} {comp : ClassId} {ty : FieldType} (k1 : s.vm.classes[D.2.1 t]? = some k) (k2 : k.kind = .array comp ty) (href : ty.isReference = true) (k3 : s.vm.classes[comp]? = some kcomp) {cv : Cell} (hv : H[jj_ad D q]? = some cv) (hvo : ∀ z, cv.vm ≠ .statics z) (hkv : s.vm.classes[cv.cls]? = some kv) (has : s.vm.assignable cv.cls comp = true)
    (kk : ∀ (H1 : Heap) (locs1 : List Loc), H1.size + 1 = D.2.2.2 + n → jj_H D K n I (jj_u P a j (some q)) G H1 → va_S (jj_A D) s.heap H1 locs1 → W p l e R s m args below meth c H1 locs1 cs sl Q (F0 m (pc + 1) ls rst)) : W p l e R s m args below meth c H locs cs sl Q (F0 m pc ls (.ref (jj_ad D q) :: .int x :: .ref (jj_ad D a) :: rst)) := by
  subst hj
  have hat := (hK a _ hk).2
  rw [jj_ent_a (by omega), show jj_arr D I P G t len a = (len, .inr (.inr (.inr (.inr (fun k => (P a k).map (jj_ad D)))))) by
    unfold jj_arr; rw [if_neg (by omega), if_neg (by omega)]] at hat
  refine W.aast hx hb hat (fun q h => by cases h) (fun h => by cases h) k1 k2 href k3 ⟨nI_pos (by omega), by show _ < (arrV _ _ _).slots.size; rw [arrV_size, nI_clamp (by omega)]; exact hN.1⟩ hv hvo hkv has rfl rfl hd fun H1 e z oq => ?_
  rw [nI_clamp (by omega)] at e ⊢
  refine kk H1 _ (by rw [z]; exact hz) (jj_H_st hK hi (a := a) (fun kd hkd => ?_) oq (fun b kd hb => jj_ent_cg rfl (jj_u_ne hb) rfl kd)) (hS.put z oq (jj_ad_A h0))
  cases hk.symm.trans hkd
  rw [jj_ent_a (by omega)]
  unfold jj_arr
  rw [if_neg (by omega), if_neg (by omega)]
  show H1[jj_ad D a]? = some (vp_cell _ (len, .inr (.inr (.inr (.inr (fun k => (jj_u P a j (some q) a k).map (jj_ad D)))))))
  rw [e]
  show some ((vp_cell (D.2.1 t) (len, .inr (.inr (.inr (.inr (fun k => (P a k).map (jj_ad D))))))).setSlot j (.ref (jj_ad D q))) = _
  rw [vp_cell_q, vp_cell_q, arrV_store]
  congr 2
  funext i
  by_cases hq : i = j
  · subst hq
    simp [updV, jj_u, va_rf]
  · simp [updV, jj_u, hq]
theorem jr_aastO (hX : jj_Cx X D cc own nL ret nm rm tb) {x : Int32} {C : String} {a len t j q ci z : Nat} (ht : 12 ≤ t ∧ (jj_tys D)[t - 10]? = some (D.2.1 t, .object C)) (hk : K a = some (t, len)) (h0 : 0 < a) (hj : x = nI j) (hN : j < len ∧ len < 2147483648) (hq : K q = some (ci, z)) (hci : ∃ T N, vwCl[ci]? = some (C, T, N) ∧ ci < 10) (hd : decode cc pc = .ok (.aastore, 1)) (kk : jj_J X D nL cs sl Q n K I (jj_u P a j (some q)) G (pc + 1) L rest) : jj_J X D nL cs sl Q n K I P G pc L (.ref q :: .int x :: .ref a :: rest) := by
  obtain ⟨p, l, e, R, s, m, args, below, meth, c⟩ := X
  obtain ⟨hx, hb, -, -, hml, hown, -, -, hRR, hts, -, hi, hi2, hKK, hZ⟩ := hX
  obtain ⟨TT, NN, hc, hc10⟩ := hci
  intro H locs ls hz hK hS hl
  have hat := (hK q _ hq).2
  rw [jj_ent_o hc10] at hat
  obtain ⟨r', hr', cellV, g1, g2, g3, -⟩ := hat
  have hcls := (hKK.1 ci _ hc).2
  obtain ⟨kA, comp, k1, k2, k3, -⟩ := (hKK.2 (t - 10) _ ht.2).2
  have hcomp : comp = D.1.1 ci := Option.some.inj (k3.symm.trans hcls.1)
  subst hcomp
  obtain ⟨kC, hkC, -⟩ := hcls.2
  exact jj_aast hx hb hi ht.1 hk h0 hj hN hd hz hK hS k1 k2 rfl hkC g1 (fun q h => by rw [g3] at h; cases h) (by rw [g2]; exact hkC) (by rw [g2]; exact va_assign hcls) (fun H1 locs1 a1 a2 a3 => kk H1 locs1 ls a1 a2 a3 hl)
theorem jr_aastI (hX : jj_Cx X D cc own nL ret nm rm tb) (hSt : jj_St X D) {x : Int32} {a len j q z : Nat} (hk : K a = some (15, len)) (h0 : 0 < a) (hj : x = nI j) (hN : j < len ∧ len < 2147483648) (hq : K q = some (10, z)) (hd : decode cc pc = .ok (.aastore, 1)) (kk : jj_J X D nL cs sl Q n K I (jj_u P a j (some q)) G (pc + 1) L rest) : jj_J X D nL cs sl Q n K I P G pc L (.ref q :: .int x :: .ref a :: rest) := by
  obtain ⟨p, l, e, R, s, m, args, below, meth, c⟩ := X
  obtain ⟨hx, hb, -, -, hml, hown, -, -, hRR, hts, -, hi, hi2, hKK, hZ⟩ := hX
  intro H locs ls hz hK hS hl
  have hat := (hK q _ hq).2
  rw [jj_ent_a (by omega)] at hat
  have hat : H[jj_ad D q]? = some (vp_cell (D.2.1 10) (z, .inl (I q))) := hat
  obtain ⟨kA, k1, k2⟩ := hSt.2.2.2
  obtain ⟨-, kE, hkE, comp, hkind⟩ := (hKK.2 0 _ rfl).1 0 (fun _ => .null)
  have hkE : s.vm.classes[D.2.1 10]? = some kE := hkE
  exact jj_aast hx hb hi (by omega) hk h0 hj hN hd hz hK hS k1 k2 rfl hkE hat (fun q h => by cases h) hkE (by
    show s.vm.assignableAux (255 + 1) (D.2.1 10) (D.2.1 10) = true
    unfold Vm.assignableAux
    simp only [beq_self_eq_true, Bool.true_or]) (fun H1 locs1 a1 a2 a3 => kk H1 locs1 ls a1 a2 a3 hl)
/-- System.arraycopy over rows of ints -/
def jj_CP (own : String) (idx : Nat) : Prop := Cond.methodLink own idx arraycopyName ∈ jj_W ∧ Cond.native arraycopyName ∈ jj_W ∧ Cond.static arraycopyName ∈ jj_W ∧ Cond.initialized "java/lang/System" ∈ jj_W
theorem jr_copy (hX : jj_Cx X D cc own nL ret nm rm tb) {idx a0 a1 n0 n1 sp dp cn : Nat} {x y w : Int32} (hw : jj_CP own idx) (hk0 : K a0 = some (10, n0)) (hk1 : K a1 = some (10, n1)) (h0 : 0 < a1) (hx0 : x = nI sp) (hy0 : y = nI dp) (hw0 : w = nI cn) (h4 : sp + cn ≤ n0 ∧ dp + cn ≤ n1 ∧ n0 < 1000000 ∧ n1 < 1000000) (hd : decode cc pc = .ok (.invokestatic idx, 3)) (hR : (Nat.ble 1 rm.frames && Nat.ble ((rest.map fun v => v.category).sum + 18) rm.locals) = true)
    (kk : jj_J X D nL cs sl Q n K (jj_uR I a1 (va_cpy (I a0) (I a1) sp dp cn)) P G (pc + 3) L rest) : jj_J X D nL cs sl Q n K I P G pc L (.int w :: .int y :: .ref a1 :: .int x :: .ref a0 :: rest) := by
  obtain ⟨p, l, e, R, s, m, args, below, meth, c⟩ := X
  obtain ⟨hx, hb, -, -, hml, hown, -, -, hRR, hts, -, hi, hi2, hKK, hZ⟩ := hX
  obtain ⟨w1, w2, w3, w4⟩ := hw
  subst hRR
  subst hx0
  subst hy0
  subst hw0
  intro H locs ls hz hK hS hl
  obtain ⟨hR1, hR2⟩ := jj_b2 hR
  have hc0 := (hK a0 _ hk0).2
  have hc1 := (hK a1 _ hk1).2
  rw [jj_ent_a (by decide)] at hc0 hc1
  have hc0 : H[jj_ad D a0]? = some (vp_cell (D.2.1 10) (n0, .inl (I a0))) := hc0
  have hc1 : H[jj_ad D a1]? = some (vp_cell (D.2.1 10) (n1, .inl (I a1))) := hc1
  have tI : ∀ z : Nat, z < 1000000 → (nI z).toInt = (z : Int) := fun z hz => nI_toInt (by omega)
  have e0 : (nI sp).toNatClampNeg = sp := nI_clamp (by omega)
  have e1 : (nI dp).toNatClampNeg = dp := nI_clamp (by omega)
  have e2 : (nI cn).toNatClampNeg = cn := nI_clamp (by omega)
  intro T hT Y
  obtain ⟨-, k0, hkk0, cm0, hkd0⟩ := (hKK.2 0 _ rfl).1 n0 (fun j => .int (I a0 j))
  obtain ⟨-, k1, hkk1, cm1, hkd1⟩ := (hKK.2 0 _ rfl).1 n1 (fun j => .int (I a1 j))
  obtain ⟨vm', X', step⟩ := Y.arraycopy hx hown (hts _ w1) (hts _ w2) (hts _ w3) (hts _ w4) (src := jj_ad D a0) (dst := jj_ad D a1) (cs := vp_cell (D.2.1 10) (n0, .inl (I a0))) (cd := vp_cell (D.2.1 10) (n1, .inl (I a1))) (srcPos := nI sp) (destPos := nI dp) (n := nI cn) (by rw [hT]; exact hc0) (by rw [hT]; exact hc1)
    (fun _ h => by cases h) (fun _ h => by cases h) (fun h => by cases h) (fun h => by cases h) hkk0 hkk1 hkd0 hkd1 (by simp [refKind]) (nI_pos (by omega)) (nI_pos (by omega)) (nI_pos (by omega))
    (by rw [tI sp (by omega), tI cn (by omega)]; show ¬ _ > ((arrV (D.2.1 10) n0 (fun j => .int (I a0 j))).slots.size : Int); rw [arrV_size]; omega)
    (by rw [tI dp (by omega), tI cn (by omega)]; show ¬ _ > ((arrV (D.2.1 10) n1 (fun j => .int (I a1 j))).slots.size : Int); rw [arrV_size]; omega)
    (fun vm₁ _ i hi => by
      rw [e2] at hi
      rw [e0]
      have e : (vp_cell (D.2.1 10) (n0, .inl (I a0))).slots.getD (sp + i) .null = .int (I a0 (sp + i)) := by
        show (arrV (D.2.1 10) n0 (fun j => .int (I a0 j))).slots.getD _ _ = _
        rw [Array.getD_eq_getD_getElem?, arrV_read _ _ (by omega)]
        rfl
      refine ⟨?_, ?_⟩
      · rw [e]
        rfl
      · rw [e]
        exact trivial)
    (g := F0 m pc ls ((.int (nI cn) :: .int (nI dp) :: .ref a1 :: .int (nI sp) :: .ref a0 :: rest : List Value).map (jj_tr D))) rfl (by rw [hml]; exact hl.1) (rest := rest.map (jj_tr D)) rfl (by rw [hb]; exact hd) hR1 (by rw [jj_catsum]; show 2 * 0 + _ + (nativeFrameWords "java/lang/System" "arraycopy" 5 + 11) ≤ _; rw [show nativeFrameWords "java/lang/System" "arraycopy" 5 + 11 = 18 by decide +kernel]; omega)
  have e9 : copied (vp_cell (D.2.1 10) (n0, .inl (I a0))) (vp_cell (D.2.1 10) (n1, .inl (I a1))) (nI sp) (nI dp) (nI cn) = vp_cell (D.2.1 10) (n1, .inl (va_cpy (I a0) (I a1) sp dp cn)) := by
    have := va_copied (fun z => Value.int z) (D.2.1 10) (D.2.1 10) (I a0) (I a1) (n0 := n0) (n1 := n1) (sp := sp) (dp := dp) (n := cn) (by omega)
    unfold copied
    rw [e0, e1, e2]
    exact this
  rw [e9] at X' step
  have hl1 : jj_ad D a1 < H.size := (Array.getElem?_eq_some_iff.mp hc1).1
  have hheap : ((T.setVm vm').setCell (jj_ad D a1) (vp_cell (D.2.1 10) (n1, .inl (va_cpy (I a0) (I a1) sp dp cn)))).heap = H.setIfInBounds (jj_ad D a1) (vp_cell (D.2.1 10) (n1, .inl (va_cpy (I a0) (I a1) sp dp cn))) := by rw [← hT]; rfl
  have oq : ∀ q : Nat, q ≠ jj_ad D a1 → (H.setIfInBounds (jj_ad D a1) (vp_cell (D.2.1 10) (n1, .inl (va_cpy (I a0) (I a1) sp dp cn))))[q]? = H[q]? := fun q hq => by simp [Array.getElem?_setIfInBounds, Ne.symm hq]
  obtain ⟨t, a9, b9⟩ := kk _ _ ls (by simpa using hz) (jj_H_st hK hi (a := a1) (fun kd hkd => by
      cases hk1.symm.trans hkd
      rw [jj_ent_a (by decide)]
      show (H.setIfInBounds (jj_ad D a1) _)[jj_ad D a1]? = some (vp_cell _ (n1, .inl (jj_uR I a1 (va_cpy (I a0) (I a1) sp dp cn) a1)))
      rw [jj_uR_eq]
      simp [Array.getElem?_setIfInBounds, hl1]) oq (fun b kd hb => jj_ent_cg (jj_uR_ne hb) rfl rfl kd)) ⟨by simp; exact hS.1, fun q g1 g2 => by
      rw [oq q (fun e => g2 (by rw [e]; exact jj_ad_A h0))]
      exact hS.2.1 q g1 g2, fun q hq => by
      rcases List.mem_append.mp hq with h | h
      · exact hS.2.2 q h
      · obtain ⟨z, -, hz⟩ := List.mem_map.mp h
        rw [← hz]
        exact jj_ad_A h0⟩ hl _ hheap X'
  exact ⟨t, step t a9, b9⟩
/-- clone of a row of ints -/
def jj_CL (own : String) (idx : Nat) : Prop := Cond.methodLink own idx ⟨"[I", "clone", "()Ljava/lang/Object;"⟩ ∈ jj_W ∧ Cond.sameMethod "[I" "java/lang/Object" "clone" "()Ljava/lang/Object;" ∈ jj_W ∧ Cond.native ⟨"java/lang/Object", "clone", "()Ljava/lang/Object;"⟩ ∈ jj_W ∧ Cond.instanceMethod ⟨"java/lang/Object", "clone", "()Ljava/lang/Object;"⟩ ∈ jj_W ∧ Cond.selects "[I" ⟨"[I", "clone", "()Ljava/lang/Object;"⟩ ⟨"java/lang/Object", "clone", "()Ljava/lang/Object;"⟩ ∈ jj_W
theorem jr_cast (hX : jj_Cx X D cc own nL ret nm rm tb) {idx a len : Nat} (hw : Cond.classLink own idx "[I" ∈ jj_W) (hk : K a = some (10, len)) (hd : decode cc pc = .ok (.checkcast idx, 3)) (kk : jj_J X D nL cs sl Q n K I P G (pc + 3) L (.ref a :: rest)) : jj_J X D nL cs sl Q n K I P G pc L (.ref a :: rest) := by
  obtain ⟨p, l, e, R, s, m, args, below, meth, c⟩ := X
  obtain ⟨hx, hb, -, -, hml, hown, -, -, hRR, hts, -, hi, hi2, hKK, hZ⟩ := hX
  intro H locs ls hz hK hS hl
  have hat := (hK a _ hk).2
  rw [jj_ent_a (by decide)] at hat
  have hnm : s.vm.findClass "[I" = some (D.2.1 10) := (hKK.2 0 _ rfl).2
  exact va_castA hx hb hown (hts _ hw) (jj_va1 hat) 0 rfl hnm hd (kk H locs ls hz hK hS hl)
def jj_MM (own : String) (idx : Nat) (y : MethodName) (c : ByteArray) (nL : Nat) : Prop := Cond.methodLink own idx y ∈ jj_W ∧ Cond.static y ∈ jj_W ∧ Cond.initialized "java/lang/Math" ∈ jj_W ∧ Cond.code y c nL (some .int) ∈ jj_W
theorem jr_mmax (hX : jj_Cx X D cc own nL ret nm rm tb) {idx : Nat} {x y : Int32} (hw : jj_MM own idx Lib.Math.max.name Lib.Math.max.code 2) (hd : decode cc pc = .ok (.invokestatic idx, 3)) (hR : (Nat.ble 1 rm.frames && Nat.ble ((rest.map fun v => v.category).sum + 13) rm.locals) = true) (hf : cs ≤ rm.cells ∧ sl ≤ rm.slots) (kk : jj_J X D nL cs sl Q n K I P G (pc + 3) L (.int (if x < y then y else x) :: rest)) : jj_J X D nL cs sl Q n K I P G pc L (.int y :: .int x :: rest) := by
  obtain ⟨p, l, e, R, s, m, args, below, meth, c⟩ := X
  obtain ⟨hx, hb, -, -, hml, hown, -, -, hRR, hts, -, hi, hi2, hKK, hZ⟩ := hX
  obtain ⟨w1, w2, w3, w4⟩ := hw
  subst hRR
  intro H locs ls hz hK hS hl
  obtain ⟨hR1, hR2⟩ := jj_b2 hR
  exact va_mmax hx hb (hml.trans hl.1.symm) hown (hts _ w1) (hts _ w2) (hts _ w3) (hts _ w4) hR1 (by rw [jj_catsum]; exact hR2) hf.1 hf.2 hd (kk H locs ls hz hK hS hl)
theorem jr_mmin (hX : jj_Cx X D cc own nL ret nm rm tb) {idx : Nat} {x y : Int32} (hw : jj_MM own idx Lib.Math.min.name Lib.Math.min.code 2) (hd : decode cc pc = .ok (.invokestatic idx, 3)) (hR : (Nat.ble 1 rm.frames && Nat.ble ((rest.map fun v => v.category).sum + 13) rm.locals) = true) (hf : cs ≤ rm.cells ∧ sl ≤ rm.slots) (kk : jj_J X D nL cs sl Q n K I P G (pc + 3) L (.int (if y < x then y else x) :: rest)) : jj_J X D nL cs sl Q n K I P G pc L (.int y :: .int x :: rest) := by
  obtain ⟨p, l, e, R, s, m, args, below, meth, c⟩ := X
  obtain ⟨hx, hb, -, -, hml, hown, -, -, hRR, hts, -, hi, hi2, hKK, hZ⟩ := hX
  obtain ⟨w1, w2, w3, w4⟩ := hw
  subst hRR
  intro H locs ls hz hK hS hl
  obtain ⟨hR1, hR2⟩ := jj_b2 hR
  exact va_mmin hx hb (hml.trans hl.1.symm) hown (hts _ w1) (hts _ w2) (hts _ w3) (hts _ w4) hR1 (by rw [jj_catsum]; exact hR2) hf.1 hf.2 hd (kk H locs ls hz hK hS hl)
theorem jr_mabs (hX : jj_Cx X D cc own nL ret nm rm tb) {idx : Nat} {x y : Int32} (hw : jj_MM own idx Lib.Math.abs.name Lib.Math.abs.code 1) (hd : decode cc pc = .ok (.invokestatic idx, 3)) (hR : (Nat.ble 1 rm.frames && Nat.ble ((rest.map fun v => v.category).sum + 13) rm.locals) = true) (hf : cs ≤ rm.cells ∧ sl ≤ rm.slots) (kk : jj_J X D nL cs sl Q n K I P G (pc + 3) L (.int (if 0 ≤ x then x else 0 - x) :: rest)) : jj_J X D nL cs sl Q n K I P G pc L (.int x :: rest) := by
  obtain ⟨p, l, e, R, s, m, args, below, meth, c⟩ := X
  obtain ⟨hx, hb, -, -, hml, hown, -, -, hRR, hts, -, hi, hi2, hKK, hZ⟩ := hX
  obtain ⟨w1, w2, w3, w4⟩ := hw
  subst hRR
  intro H locs ls hz hK hS hl
  obtain ⟨hR1, hR2⟩ := jj_b2 hR
  exact va_mabs hx hb (hml.trans hl.1.symm) hown (hts _ w1) (hts _ w2) (hts _ w3) (hts _ w4) hR1 (by rw [jj_catsum]; exact hR2) hf.1 hf.2 hd (kk H locs ls hz hK hS hl)
theorem jr_ldc2 (hX : jj_Cx X D cc own nL ret nm rm tb) {idx : Nat} {v : Int64} (hw : Cond.constantLong own idx v ∈ jj_W) (hd : decode cc pc = .ok (.ldc2_w idx, 3)) (kk : jj_J X D nL cs sl Q n K I P G (pc + 3) L (.long v :: rest)) : jj_J X D nL cs sl Q n K I P G pc L rest := by
  obtain ⟨p, l, e, R, s, m, args, below, meth, c⟩ := X
  obtain ⟨hx, hb, -, -, hml, hown, -, -, hRR, hts, -⟩ := hX
  exact fun H locs ls hz hK hS hl => lv_ldc2 hx hb hown (hts _ hw) hd (kk H locs ls hz hK hS hl)
theorem jr_obj (hX : jj_Cx X D cc own nL ret nm rm tb) {idx a : Nat} (hw : Cond.methodLink own idx Lib.objectInit ∈ jj_W ∧ Cond.instanceMethod Lib.objectInit ∈ jj_W ∧ Cond.code Lib.objectInit ⟨#[0xb1]⟩ 1 none ∈ jj_W) (hd : decode cc pc = .ok (.invokespecial idx, 3)) (hR : (Nat.ble 1 rm.frames && Nat.ble ((rest.map fun v => v.category).sum + 12) rm.locals) = true) (kk : jj_J X D nL cs sl Q n K I P G (pc + 3) L rest) : jj_J X D nL cs sl Q n K I P G pc L (.ref a :: rest) := by
  obtain ⟨p, l, e, R, s, m, args, below, meth, c⟩ := X
  obtain ⟨hx, hb, -, -, hml, hown, -, -, hRR, hts, -, hi, hi2, hKK, hZ⟩ := hX
  subst hRR
  intro H locs ls hz hK hS hl
  obtain ⟨hR1, hR2⟩ := jj_b2 hR
  exact W.objInit hx hb hown (hts _ hw.1) (hts _ hw.2.1) (hts _ hw.2.2) rfl (hl.1.trans hml.symm) rfl hd hR1 (by rw [jj_catsum]; show 2 * 0 + _ + 12 ≤ _; omega) (kk H locs ls hz hK hS hl)
end JT
