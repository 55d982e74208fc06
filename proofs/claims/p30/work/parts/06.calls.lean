/-! contracts over the run's own memory, and calls of them -/
abbrev jj_post : Type := Option Value → Nat → jj_K → jj_I → jj_P → jj_G → Prop
abbrev jj_px : Type := String → Nat → jj_K → jj_I → jj_P → jj_G → Prop
def jj_Aft (D : jj_D) (n : Nat) (K : jj_K) (I : jj_I) (P : jj_P) (G : jj_G) (t : State) : Prop := t.heap.size + 1 = D.2.2.2 + n ∧ jj_H D K n I P G t.heap
def jj_Q (D : jj_D) (post : jj_post) : Array Value → State → Outcome → State → Prop := fun _ st o t =>
  (∃ (r : Option Value) (n : Nat) (K : jj_K) (I : jj_I) (P : jj_P) (G : jj_G), o = .returned (r.map (jj_tr D)) ∧ post r n K I P G ∧ jj_Aft D n K I P G t) ∧ va_F (jj_A D) st t
def jj_XC (D : jj_D) (px : jj_px) : String → State → State → Prop := fun E st t =>
  (∃ (n : Nat) (K : jj_K) (I : jj_I) (P : jj_P) (G : jj_G), px E n K I P G ∧ jj_Aft D n K I P G t) ∧ va_F (jj_A D) st t
def jj_strs : List (Nat × String) := [(117, "nothing is loaded"), (153, "the boat is sunk"), (178, "nobody lends to himself"), (203, "the debt is not open"), (282, "there is no such number"), (285, "the number is too small or too great"), (287, "the number is too small"), (289, "there are as many as there can be"), (291, "there is not so much"), (296, "the boat is in no harbour")]
def jj_trav : List Cond := [.methodLinkNest RX4 36 yX2_init RX5, .methodLinkNest RX4 37 yX0_init RX5, .methodLinkNest RX4 38 yX1_init RX5, .methodLinkNest RX0 48 yX5_sum RX5, .methodLinkNest RX3 62 yX5_iceBehind RX5, .methodLinkNest RX4 160 yX5_cellOf RX5, .methodLinkNest RX3 34 yX5_copyRow RX5, .methodLinkNest RX2 19 yX5_copyRow RX5, .methodLinkNest RX0 40 yX5_copyRow RX5, .castable "java/lang/IndexOutOfBoundsException" "java/lang/IndexOutOfBoundsException", .castable "java/lang/IllegalArgumentException" "java/lang/IllegalArgumentException", .castable "java/lang/IllegalStateException" "java/lang/IllegalStateException", .arrayOver (.object "IceHarbour$Boat"), .arrayOver (.object "IceHarbour$Debt"), .arrayOver (.object "IceHarbour$Merchant"), .arrayOver (.array .int), .declares ⟨"java/lang/RuntimeException", "<init>", "(Ljava/lang/String;)V"⟩, .declares ⟨"java/lang/Exception", "<init>", "(Ljava/lang/String;)V"⟩, .declares ⟨"java/lang/Throwable", "<init>", "(Ljava/lang/String;)V"⟩, .methodLinkNest RX7 54 yX6_init RL, .arrayOver (.array (.array .int)), .arrayOver (.object "IceHarbourLaw$Boat")]
def jj_nc : List (String × String) := []
/-- what the frames below hand on besides the good words -/
def jj_II (D : jj_D) (U : State) : Prop := ∃ kA : Class, U.vm.classes[D.2.1 15]? = some kA ∧ kA.kind = .array (D.2.1 10) (.array .int)
theorem jj_II.moved {D : jj_D} {u U : State} (hvm : u.vm.Alike U.vm) (h : jj_II D u) : jj_II D U := by
  obtain ⟨kA, h1, h2⟩ := h
  obtain ⟨k', hk', he⟩ := hvm.2.2 _ _ h1
  exact ⟨k', hk', by rw [he]; exact h2⟩
def jj_Str (D : jj_D) (U : State) : Prop := (∀ q ∈ jj_strs, ∃ sa, vk_R RX5 q.1 q.2 sa U) ∧ (∀ w ∈ jj_trav, va_Nw w U) ∧ (∀ q ∈ jj_nc, va_Nc q.1 q.2 U) ∧ jj_II D U
theorem jj_AO_warm {ty : FieldType} {s U : State} (hW : s.WarmedH U.vm) (h : va_Nw (.arrayOver ty) s) : va_Nw (.arrayOver ty) U := by
  show (Cond.arrayOver ty).before #[] (s.setVm U.vm) = true
  rw [Cond.arrayOver_setVmC hW.alike]
  exact h
theorem jj_trav_warm {s U : State} (hW : s.WarmedH U.vm) (h : ∀ w ∈ jj_trav, va_Nw w s) : ∀ w ∈ jj_trav, va_Nw w U := by
  intro w hw
  have h1 := h w hw
  simp only [jj_trav, List.mem_cons, List.not_mem_nil, or_false] at hw
  rcases hw with rfl | rfl | rfl | rfl | rfl | rfl | rfl | rfl | rfl | rfl | rfl | rfl | rfl | rfl | rfl | rfl | rfl | rfl | rfl | rfl | rfl | rfl
  · exact h1.warmM hW
  · exact h1.warmM hW
  · exact h1.warmM hW
  · exact h1.warmM hW
  · exact h1.warmM hW
  · exact h1.warmM hW
  · exact h1.warmM hW
  · exact h1.warmM hW
  · exact h1.warmM hW
  · exact h1.warmC hW
  · exact h1.warmC hW
  · exact h1.warmC hW
  · exact jj_AO_warm hW h1
  · exact jj_AO_warm hW h1
  · exact jj_AO_warm hW h1
  · exact jj_AO_warm hW h1
  · exact h1.warmD hW
  · exact h1.warmD hW
  · exact h1.warmD hW
  · exact h1.warmM hW
  · exact jj_AO_warm hW h1
  · exact jj_AO_warm hW h1
def jj_Bef (D : jj_D) (n : Nat) (K : jj_K) (I : jj_I) (P : jj_P) (G : jj_G) (U : State) : Prop := jj_Inn D n K I P G U ∧ jj_Str D U
def jj_Met (l : Launch) (D : jj_D) (y : MethodName) (ws : List Cond) (rm : Room) (av : List Value) (n : Nat) (K : jj_K) (I : jj_I) (P : jj_P) (G : jj_G) (post : jj_post) (px : jj_px) : Prop :=
  vx_Met l y ws rm (va_Pc (av.map (jj_tr D)) (jj_Bef D n K I P G)) (jj_Q D post) (jj_XC D px) rm.cells rm.slots (jj_A D)
def jj_MQ (X : jj_X) (D : jj_D) (rm : Room) (post : jj_post) (px : jj_px) : State → Prop := match X with
  | (_, _, _, _, s, _, args, below, _, _) => vx_MQ below (jj_Q D post) (jj_XC D px) args s rm.cells rm.slots (jj_A D)
def jj_St (X : jj_X) (D : jj_D) : Prop := match X with
  | (_, _, _, _, s, _, _, _, _, _) => jj_Str D s
/-- exactly one answer -/
def jj_R (r0 : Option Value) (n0 : Nat) (K0 : jj_K) (I0 : jj_I) (P0 : jj_P) (G0 : jj_G) : jj_post := fun r n K I P G => r = r0 ∧ n = n0 ∧ K = K0 ∧ I = I0 ∧ P = P0 ∧ G = G0
/-- a throw, all as it was -/
def jj_E (E0 : String) (n0 : Nat) (K0 : jj_K) (I0 : jj_I) (P0 : jj_P) (G0 : jj_G) : jj_px := fun E n K I P G => E = E0 ∧ n0 ≤ n ∧ K = K0 ∧ I = I0 ∧ P = P0 ∧ G = G0
def jj_noR : jj_post := fun _ _ _ _ _ _ => False
def jj_noX : jj_px := fun _ _ _ _ _ _ => False
def jj_ws (y : MethodName) (c : ByteArray) (nL : Nat) (ret : Option FieldType) : List Cond := Cond.code y c nL ret :: jj_W
def jj_args : List Value → List (Option Value)
  | [] => []
  | v :: vs => if v.category = 2 then some v :: none :: jj_args vs else some v :: jj_args vs
theorem jj_args_mem (D : jj_D) : ∀ (av : List Value) (o : Nat) (i : Nat) (v : Value), (jj_args av)[i]? = some (some v) → (o + i, jj_tr D v) ∈ lv_args o (av.map (jj_tr D))
  | [], o, i, v, h => by simp [jj_args] at h
  | w :: vs, o, i, v, h => by
    simp only [jj_args] at h
    simp only [List.map_cons, lv_args, jj_cat]
    by_cases hc : w.category = 2
    · rw [if_pos hc] at h ⊢
      match i, h with
      | 0, h => simp at h; subst h; simp
      | 1, h => simp at h
      | i + 2, h =>
        have h1 : (jj_args vs)[i]? = some (some v) := by simpa using h
        have := jj_args_mem D vs (o + 2) i v h1
        rw [show o + (i + 2) = o + 2 + i by omega]
        exact List.mem_cons_of_mem _ this
    · rw [if_neg hc] at h ⊢
      match i, h with
      | 0, h => simp at h; subst h; simp
      | i + 1, h =>
        have h1 : (jj_args vs)[i]? = some (some v) := by simpa using h
        have := jj_args_mem D vs (o + 1) i v h1
        rw [show o + (i + 1) = o + 1 + i by omega]
        exact List.mem_cons_of_mem _ this
theorem jj_Z_keep {D : jj_D} {s t : State} {H : Heap} {locs : List Loc} (hZ : jj_Z D s s.heap) (hS : va_S (jj_A D) s.heap H locs) (hvm : s.vm.Alike t.vm) : jj_Z D t H :=
  ⟨(hZ.1.moved hvm).kept (fun a h1 h2 => hS.2.1 a h1 h2), (hZ.2.1.moved hvm).kept (fun a h1 h2 => hS.2.1 a h1 h2), (hZ.2.2.moved hvm).kept hS⟩
theorem jj_Str_warm {D : jj_D} {s U : State} (hW : s.WarmedH U.vm) (h : jj_Str D s) : jj_Str D U := ⟨fun q hq => by
    obtain ⟨sa, h1⟩ := h.1 q hq
    exact ⟨sa, h1.warm hW⟩, jj_trav_warm hW h.2.1, fun q hq => (h.2.2.1 q hq).moved hW.alike, h.2.2.2.moved hW.alike⟩
theorem jj_fl {X : jj_X} {D : jj_D} {cc : ByteArray} {own : String} {nL : Nat} {ret : Option FieldType} {nm : String} {rm : Room} {tb : List ExceptionTableEntry} (hX : jj_Cx X D cc own nL ret nm rm tb) : X.2.1.stackTraces = false := by
  obtain ⟨p, l, e, R, s, m, args, below, meth, c⟩ := X
  exact hX.2.2.2.2.2.2.2.1
theorem vx_ofWF {l : Launch} {y : MethodName} {ws ws' : List Cond} {rm : Room} {Pc : Array Value → State → Prop} {Qc : Array Value → State → Outcome → State → Prop} {XC : String → State → State → Prop} {mc ms : Nat} {free : Addr → Prop} {cc : ByteArray} {maxL : Nat} {ret : Option FieldType}
    (hy : plainFor y = true) (hw : ws = Cond.code y cc maxL ret :: ws')
    (body : ∀ p e s m args below meth c s₁, BodyLoose p l y (headSpec ws rm) cc maxL ret e s m args below meth c s₁ → c.maxLocals = maxL → (∀ x ∈ c.exceptionTable.toList, False) → Pc args s →
      W p l e (headSpec ws rm).room s m args below meth c s.heap [] 0 0 (vx_MQ below Qc XC args s mc ms free) (entryFrame m args maxL)) : vx_Met l y ws rm Pc Qc XC mc ms free := by
  refine MetFree.of_bodySF (code := cc) (maxLocals := maxL) (ret := ret) hy ?_ ?_
  · intro args s m h hn
    obtain ⟨meth, c, h1, h2, h3, h4, h5, h6, -, -⟩ := Cond.code_spec hn (atoms_spec (ws := ws) h _ (by rw [hw]; exact List.mem_cons_self))
    exact ⟨meth, c, h1, h2, h3, h4, h5, h6⟩
  · intro p e s m args below meth c s₁ B hml hP _
    have hh0 : s₁.heap = s.heap := by rw [B.state]; rfl
    have ht : ∀ x ∈ c.exceptionTable.toList, False := by
      obtain ⟨meth9, c9, h1, h2, -, -, -, -, h7, -⟩ := Cond.code_spec B.named (atoms_spec (ws := ws) B.pre _ (by rw [hw]; exact List.mem_cons_self))
      cases Option.some.inj (h1.symm.trans B.method)
      cases Option.some.inj (h2.symm.trans (Stand.of_body B).code)
      intro x hx
      rw [Array.isEmpty_iff.mp h7] at hx
      cases hx
    obtain ⟨t, a1, o, b1, b2, b3⟩ := body p e s m args below meth c s₁ B hml ht hP s₁ hh0 (Stand.of_body B)
    exact ⟨t, o, a1, b1, b2, b3⟩
/-- a method's contract out of its walk -/
theorem jj_of {l : Launch} (hfl : l.stackTraces = false) {D : jj_D} {y : MethodName} {cc : ByteArray} {nL : Nat} {ret : Option FieldType} {rm : Room} {av : List Value} {n : Nat} {K : jj_K} {I : jj_I} {P : jj_P} {G : jj_G} {post : jj_post} {px : jj_px}
    (hy : plainFor y = true) (L : List (Option Value)) (hL : (jj_args av ++ List.replicate (nL - (jj_args av).length) none) = L) (hle : Nat.ble (lg_sl av).length nL = true)
    (body : ∀ X : jj_X, X.2.1 = l → jj_Cx X D cc y.cls nL ret y.name rm [] → jj_St X D → jj_J X D nL 0 0 (jj_MQ X D rm post px) n K I P G 0 L []) : jj_Met l D y (jj_ws y cc nL ret) rm av n K I P G post px := by
  refine vx_ofWF (cc := cc) (maxL := nL) (ret := ret) hy rfl ?_
  intro p e s m args below meth c s₁ B hml hout hv
  obtain ⟨rfl, ⟨⟨hi, hi2, hz, hKK, hK, hZ⟩, hstr⟩⟩ := hv
  have hts := atoms_spec (ws := jj_ws y cc nL ret) B.pre
  have hlen : ∀ vs : List Value, (lg_sl (vs.map (jj_tr D))).length = (lg_sl vs).length := by
    intro vs
    induction vs with
    | nil => rfl
    | cons v vs ih =>
      simp only [lg_sl] at ih ⊢
      simp only [List.map_cons, List.flatMap_cons, List.length_append, ih, jj_cat]
      split <;> rfl
  have hl := lv_entry (av.map (jj_tr D)) (n := nL) (by rw [hlen]; exact Nat.le_of_ble_eq_true hle)
  rw [lg_entry_eq]
  refine body (p, l, e, (headSpec (jj_ws y cc nL ret) rm).room, s, m, (av.map (jj_tr D)).toArray, below, meth, c) rfl ⟨B.exec, B.bytes, B.returns, (name_of_methodNamed B.named B.method).1, hml, findClass_of_methodNamed B.named, B.notSynchronized, hfl, rfl, fun w h => hts w (List.mem_cons_of_mem _ h), ?_, hi, hi2, hKK, hZ⟩ hstr s.heap [] _ hz hK va_S.rf ⟨hl.1, hl.2.1, fun q hq => hl.2.2 q ?_⟩
  · cases h : c.exceptionTable.toList with
    | nil => rfl
    | cons x xs => exact (hout x (by rw [h]; exact List.mem_cons_self)).elim
  · obtain ⟨v, h1, h2⟩ := jj_L_mem.mp hq
    rw [← hL] at h1
    by_cases hlt : q.1 < (jj_args av).length
    · rw [List.getElem?_append_left hlt] at h1
      have := jj_args_mem D av 0 q.1 v h1
      obtain ⟨i, w⟩ := q
      dsimp only at h2 this ⊢
      rw [h2]
      simpa using this
    · rw [List.getElem?_append_right (by omega)] at h1
      simp [List.getElem?_replicate] at h1
section JC
variable {X : jj_X} {D : jj_D} {cc : ByteArray} {own nm : String} {nL : Nat} {ret : Option FieldType} {rm : Room} {tb : List ExceptionTableEntry} {cs sl : Nat} {Q : State → Prop} {n : Nat} {K : jj_K} {I : jj_I} {P : jj_P} {G : jj_G} {pc : Nat} {L : List (Option Value)} {rest : List Value} {post : jj_post} {px : jj_px}
theorem jr_iret (hX : jj_Cx X D cc own nL (some .int) nm rm tb) {x : Int32} (hd : decode cc pc = .ok (.ireturn, 1)) (hc : Nat.ble cs rm.cells = true) (hs : Nat.ble sl rm.slots = true) (h : post (some (.int x)) n K I P G) : jj_J X D nL cs sl (jj_MQ X D rm post px) n K I P G pc L [.int x] := by
  obtain ⟨p, l, e, R, s, m, args, below, meth, c⟩ := X
  obtain ⟨hx, hb, hr, -, -, -, hlocks, -⟩ := hX
  intro H locs ls hz hK hS hl
  refine W.widen (Nat.le_of_ble_eq_true hc) (Nat.le_of_ble_eq_true hs) (vx_ret ?_)
  exact W.iret (v := x) hx hb hr (fun t ht hW => ⟨⟨some (.int x), n, K, I, P, G, rfl, h, by rw [ht]; exact hz, by rw [ht]; exact hK⟩, hS.F ht⟩) hS.2.2 hd hlocks
theorem jr_zret (hX : jj_Cx X D cc own nL (some .boolean) nm rm tb) {x : Int32} (hz1 : x = 0 ∨ x = 1) (hd : decode cc pc = .ok (.ireturn, 1)) (hc : Nat.ble cs rm.cells = true) (hs : Nat.ble sl rm.slots = true) (h : post (some (.int x)) n K I P G) : jj_J X D nL cs sl (jj_MQ X D rm post px) n K I P G pc L [.int x] := by
  obtain ⟨p, l, e, R, s, m, args, below, meth, c⟩ := X
  obtain ⟨hx, hb, hr, -, -, -, hlocks, -⟩ := hX
  intro H locs ls hz hK hS hl
  refine W.widen (Nat.le_of_ble_eq_true hc) (Nat.le_of_ble_eq_true hs) (vx_ret ?_)
  exact W.zret (v := x) hx hb hr (by rcases hz1 with rfl | rfl <;> rfl) (fun t ht hW => ⟨⟨some (.int x), n, K, I, P, G, rfl, h, by rw [ht]; exact hz, by rw [ht]; exact hK⟩, hS.F ht⟩) hS.2.2 hd hlocks
theorem jr_lret (hX : jj_Cx X D cc own nL (some .long) nm rm tb) {x : Int64} (hd : decode cc pc = .ok (.lreturn, 1)) (hc : Nat.ble cs rm.cells = true) (hs : Nat.ble sl rm.slots = true) (h : post (some (.long x)) n K I P G) : jj_J X D nL cs sl (jj_MQ X D rm post px) n K I P G pc L [.long x] := by
  obtain ⟨p, l, e, R, s, m, args, below, meth, c⟩ := X
  obtain ⟨hx, hb, hr, -, -, -, hlocks, -⟩ := hX
  intro H locs ls hz hK hS hl
  refine W.widen (Nat.le_of_ble_eq_true hc) (Nat.le_of_ble_eq_true hs) (vx_ret ?_)
  exact W.lret (v := x) hx hb hr (fun t ht hW => ⟨⟨some (.long x), n, K, I, P, G, rfl, h, by rw [ht]; exact hz, by rw [ht]; exact hK⟩, hS.F ht⟩) hS.2.2 hd hlocks
theorem jr_dret (hX : jj_Cx X D cc own nL (some .double) nm rm tb) {x : UInt64} (hd : decode cc pc = .ok (.dreturn, 1)) (hc : Nat.ble cs rm.cells = true) (hs : Nat.ble sl rm.slots = true) (h : post (some (.double x)) n K I P G) : jj_J X D nL cs sl (jj_MQ X D rm post px) n K I P G pc L [.double x] := by
  obtain ⟨p, l, e, R, s, m, args, below, meth, c⟩ := X
  obtain ⟨hx, hb, hr, -, -, -, hlocks, -⟩ := hX
  intro H locs ls hz hK hS hl
  refine W.widen (Nat.le_of_ble_eq_true hc) (Nat.le_of_ble_eq_true hs) (vx_ret ?_)
  exact W.dret (v := x) hx hb hr (fun t ht hW => ⟨⟨some (.double x), n, K, I, P, G, rfl, h, by rw [ht]; exact hz, by rw [ht]; exact hK⟩, hS.F ht⟩) hS.2.2 hd hlocks
theorem jr_aret {rt : FieldType} (hX : jj_Cx X D cc own nL (some rt) nm rm tb) (hrt : (∃ n, rt = .object n) ∨ ∃ t, rt = .array t) {x : Nat} (hd : decode cc pc = .ok (.areturn, 1)) (hc : Nat.ble cs rm.cells = true) (hs : Nat.ble sl rm.slots = true) (h : post (some (.ref x)) n K I P G) : jj_J X D nL cs sl (jj_MQ X D rm post px) n K I P G pc L [.ref x] := by
  obtain ⟨p, l, e, R, s, m, args, below, meth, c⟩ := X
  obtain ⟨hx, hb, hr, -, -, -, hlocks, -⟩ := hX
  intro H locs ls hz hK hS hl
  refine W.widen (Nat.le_of_ble_eq_true hc) (Nat.le_of_ble_eq_true hs) (vx_ret ?_)
  exact W.aret (v := .ref (jj_ad D x)) hx hb hr hrt (Or.inr ⟨_, rfl⟩) (fun t ht hW => ⟨⟨some (.ref x), n, K, I, P, G, rfl, h, by rw [ht]; exact hz, by rw [ht]; exact hK⟩, hS.F ht⟩) hS.2.2 hd hlocks
theorem jr_vret (hX : jj_Cx X D cc own nL none nm rm tb) (hd : decode cc pc = .ok (.return_, 1)) (hc : Nat.ble cs rm.cells = true) (hs : Nat.ble sl rm.slots = true) (h : post none n K I P G) : jj_J X D nL cs sl (jj_MQ X D rm post px) n K I P G pc L [] := by
  obtain ⟨p, l, e, R, s, m, args, below, meth, c⟩ := X
  obtain ⟨hx, hb, hr, -, -, -, hlocks, -⟩ := hX
  intro H locs ls hz hK hS hl
  refine W.widen (Nat.le_of_ble_eq_true hc) (Nat.le_of_ble_eq_true hs) (vx_ret ?_)
  exact W.vret hx hb hr (fun t ht hW => ⟨⟨none, n, K, I, P, G, rfl, h, by rw [ht]; exact hz, by rw [ht]; exact hK⟩, hS.F ht⟩) hS.2.2 hd hlocks
/-- what a call of y from 'own' at 'idx' links to -/
def jj_MS (own : String) (idx : Nat) (y : MethodName) (c : ByteArray) (nL : Nat) (ret : Option FieldType) (ar : Nat) : Prop :=
  Cond.methodLink own idx y ∈ jj_W ∧ Cond.static y ∈ jj_W ∧ Cond.initialized y.cls ∈ jj_W ∧ Cond.code y c nL ret ∈ jj_W ∧ y.cls ≠ "java/lang/invoke/MethodHandle" ∧ y.cls ≠ "java/lang/invoke/VarHandle" ∧ (parseMethodDescriptor y.desc).map (fun d => d.parameters.length) = some ar
def jj_MV (own : String) (idx : Nat) (y : MethodName) (c : ByteArray) (nL : Nat) (ret : Option FieldType) (ar : Nat) : Prop :=
  Cond.methodLink own idx y ∈ jj_W ∧ Cond.instanceMethod y ∈ jj_W ∧ Cond.selects y.cls y y ∈ jj_W ∧ Cond.initialized y.cls ∈ jj_W ∧ Cond.code y c nL ret ∈ jj_W ∧ y.cls ≠ "java/lang/invoke/MethodHandle" ∧ y.cls ≠ "java/lang/invoke/VarHandle" ∧ (parseMethodDescriptor y.desc).map (fun d => d.parameters.length) = some ar
def jj_MI (own : String) (idx : Nat) (y : MethodName) (c : ByteArray) (nL : Nat) (ar : Nat) : Prop :=
  Cond.methodLink own idx y ∈ jj_W ∧ Cond.instanceMethod y ∈ jj_W ∧ y.name = "<init>" ∧ Cond.initialized y.cls ∈ jj_W ∧ Cond.code y c nL none ∈ jj_W ∧ y.cls ≠ "java/lang/invoke/MethodHandle" ∧ y.cls ≠ "java/lang/invoke/VarHandle" ∧ (parseMethodDescriptor y.desc).map (fun d => d.parameters.length) = some ar
theorem jj_good {y : MethodName} {c : ByteArray} {nL : Nat} {ret : Option FieldType} (h : Cond.code y c nL ret ∈ jj_W) : GoodIn jj_W (jj_ws y c nL ret) := by
  intro w hw
  rcases List.mem_cons.mp hw with rfl | hw
  · exact ⟨h, jj_wsgood _ h⟩
  · exact ⟨hw, jj_wsgood _ hw⟩
theorem jj_blind {D : jj_D} {av : List Value} {n : Nat} {K : jj_K} {I : jj_I} {P : jj_P} {G : jj_G} : FrameBlind (va_Pc av (jj_Bef D n K I P G)) := fun a U g mk q => by
  obtain ⟨q0, ⟨⟨h1, h2, h3, h4, h5, h6⟩, h7⟩⟩ := q
  exact ⟨q0, ⟨⟨h1, h2, h3, va_K.moved (u := U) (U := U.calling g mk a) (Vm.Alike.refl U.vm) h4, h5, ⟨h6.1.moved (u := U) (U := U.calling g mk a) (Vm.Alike.refl U.vm), h6.2.1.moved (u := U) (U := U.calling g mk a) (Vm.Alike.refl U.vm), h6.2.2.moved (u := U) (U := U.calling g mk a) (Vm.Alike.refl U.vm)⟩⟩, ⟨fun q hq => by
    obtain ⟨sa, h8⟩ := h7.1 q hq
    exact ⟨sa, vk_R.same (u := U) (U := U.calling g mk a) rfl h8⟩, jj_trav_warm (s := U) (U := U.calling g mk a) (State.WarmedH.refl U) h7.2.1, fun q hq => va_Nc.moved (u := U) (U := U.calling g mk a) (Vm.Alike.refl U.vm) (h7.2.2.1 q hq), jj_II.moved (u := U) (U := U.calling g mk a) (Vm.Alike.refl U.vm) h7.2.2.2⟩⟩⟩
/-- a throw on its way out of the frame -/
def jj_JX (X : jj_X) (D : jj_D) (nL cs sl : Nat) (Q : State → Prop) (E : String) (n : Nat) (K : jj_K) (I : jj_I) (P : jj_P) (G : jj_G) (pc : Nat) (L : List (Option Value)) : Prop :=
  match X with
  | (p, l, e, R, s, m, args, below, meth, c) => ∀ (H : Heap) (locs : List Loc) (ls : Array Slot) (rst : List Value) (ce : Cell) (q : Addr), H.size + 1 = D.2.2.2 + n → jj_H D K n I P G H → va_S (jj_A D) s.heap H locs → lv_has ls nL (jj_L D L) → H[q]? = some ce → ce.vm = .none → s.vm.findClass E = some ce.cls →
    vx_W p l e R s m args below meth c H locs cs sl Q (F0 m pc ls rst) q
theorem jr_xout (hX : jj_Cx X D cc own nL ret nm rm []) {E : String} (hc : Nat.ble cs rm.cells = true) (hs : Nat.ble sl rm.slots = true) (h : px E n K I P G) : jj_JX X D nL cs sl (jj_MQ X D rm post px) E n K I P G pc L := by
  obtain ⟨p, l, e, R, s, m, args, below, meth, c⟩ := X
  obtain ⟨hx, hb, -, -, -, hown, hlocks, -, -, hts, htb, -⟩ := hX
  intro H locs ls rst ce q hz hK hS hl h1 h2 h3
  exact vx_out (fun x hx => by rw [htb] at hx; cases hx) hlocks h1 h2 h3 (fun t ht hvm => ⟨⟨n, K, I, P, G, h, by rw [ht]; exact hz, by rw [ht]; exact hK⟩, hS.F ht⟩) hS.2.2 (Nat.le_of_ble_eq_true hc) (Nat.le_of_ble_eq_true hs)
/-- a call as run: from the frame at pc to the next instruction, or to a throw -/
def jj_Run (X : jj_X) (D : jj_D) (nL cs sl n : Nat) (K : jj_K) (I : jj_I) (P : jj_P) (G : jj_G) (pc : Nat) (L : List (Option Value)) (st rest : List Value) (mc ms : Nat) (post1 : jj_post) (px1 : jj_px) : Prop :=
  match X with
  | (p, l, e, R, s, m, args, below, meth, c) => ∀ (H : Heap) (locs : List Loc) (ls : Array Slot), H.size + 1 = D.2.2.2 + n → jj_H D K n I P G H → va_S (jj_A D) s.heap H locs → lv_has ls nL (jj_L D L) →
    ∃ a : Array Value, vx_Run p l e R s m args below meth c H locs cs sl mc ms (F0 m pc ls (st.map (jj_tr D))) (rest.map (jj_tr D)) (jj_Q D post1 a) (jj_XC D px1) (jj_A D)
theorem jr_gen {st : List Value} {mc ms : Nat} {post1 : jj_post} {px1 : jj_px} (hr : jj_Run X D nL cs sl n K I P G pc L st rest mc ms post1 px1)
    (kx : ∀ (E : String) (n1 : Nat) (K1 : jj_K) (I1 : jj_I) (P1 : jj_P) (G1 : jj_G), px1 E n1 K1 I1 P1 G1 → jj_JX X D nL (cs + mc) (sl + ms) Q E n1 K1 I1 P1 G1 pc L)
    (kk : ∀ (r : Option Value) (n1 : Nat) (K1 : jj_K) (I1 : jj_I) (P1 : jj_P) (G1 : jj_G), post1 r n1 K1 I1 P1 G1 → jj_J X D nL (cs + mc) (sl + ms) Q n1 K1 I1 P1 G1 (pc + 3) L (r.toList ++ rest)) : jj_J X D nL cs sl Q n K I P G pc L st := by
  obtain ⟨p, l, e, R, s, m, args, below, meth, c⟩ := X
  intro H locs ls hz hK hS hl
  obtain ⟨a, hr⟩ := hr H locs ls hz hK hS hl
  have kx2 := fun E ce q9 n1 K1 I1 P1 G1 H1 locs1 hp h1 h2 h3 h4 h5 h6 => kx E n1 K1 I1 P1 G1 hp H1 locs1 ls (rest.map (jj_tr D)) ce q9 h1 h2 h3 hl h4 h5 h6
  intro T hT Y
  rcases hr T hT Y with ⟨v, st₀, t, T', L9, h0, X', hL, e1, e2, ⟨⟨r, n1, K1, I1, P1, G1, hv, hp, ha1, ha2⟩, hF⟩, st⟩ | ⟨q, st₀, t, T', L9, E, ce, h0, X', hL, e1, e2, ⟨⟨n1, K1, I1, P1, G1, hp, ha1, ha2⟩, hF⟩, hce, hcv, hcl, st⟩
  · cases hv
    obtain ⟨k1, k2, k3⟩ := vx_keep h0 e1 hS (fun _ _ h => h) (fun _ h => h) hL hF
    have := kk r n1 K1 I1 P1 G1 hp T'.heap (locs ++ L9) ls (by rw [e1]; exact ha1) (by rw [e1]; exact ha2) k3 hl T' rfl X'
    obtain ⟨t2, a1, b1⟩ := this
    refine ⟨t2, st t2 ?_, b1⟩
    rw [List.map_append] at a1
    cases r <;> exact a1
  · obtain ⟨k1, k2, k3⟩ := vx_keep h0 e1 hS (fun _ _ h => h) (fun _ h => h) hL hF
    obtain ⟨t2, a1, b1⟩ := kx2 E ce q n1 K1 I1 P1 G1 T'.heap (locs ++ L9) hp (by rw [e1]; exact ha1) (by rw [e1]; exact ha2) k3 (by rw [e1]; exact hce) hcv hcl T' rfl X'
    exact ⟨t2, Steps.trans st a1, b1⟩
theorem jr_ret {st : List Value} {mc ms : Nat} {v : Value} {n1 : Nat} {K1 : jj_K} {I1 : jj_I} {P1 : jj_P} {G1 : jj_G} (hr : jj_Run X D nL cs sl n K I P G pc L st rest mc ms (jj_R (some v) n1 K1 I1 P1 G1) jj_noX)
    (kk : jj_J X D nL (cs + mc) (sl + ms) Q n1 K1 I1 P1 G1 (pc + 3) L (v :: rest)) : jj_J X D nL cs sl Q n K I P G pc L st :=
  jr_gen hr (fun _ _ _ _ _ _ h => h.elim) (fun r n2 K2 I2 P2 G2 h => by obtain ⟨rfl, rfl, rfl, rfl, rfl, rfl⟩ := h; exact kk)
theorem jr_void {st : List Value} {mc ms : Nat} {n1 : Nat} {K1 : jj_K} {I1 : jj_I} {P1 : jj_P} {G1 : jj_G} (hr : jj_Run X D nL cs sl n K I P G pc L st rest mc ms (jj_R none n1 K1 I1 P1 G1) jj_noX)
    (kk : jj_J X D nL (cs + mc) (sl + ms) Q n1 K1 I1 P1 G1 (pc + 3) L rest) : jj_J X D nL cs sl Q n K I P G pc L st :=
  jr_gen hr (fun _ _ _ _ _ _ h => h.elim) (fun r n2 K2 I2 P2 G2 h => by obtain ⟨rfl, rfl, rfl, rfl, rfl, rfl⟩ := h; exact kk)
/-- a callee throws, and so does this method -/
theorem jr_thr (hX : jj_Cx X D cc own nL ret nm rm []) {st : List Value} {mc ms : Nat} {E : String} (hr : jj_Run X D nL cs sl n K I P G pc L st rest mc ms jj_noR (jj_E E n K I P G)) (hc : Nat.ble (cs + mc) rm.cells = true) (hs : Nat.ble (sl + ms) rm.slots = true) (h : ∀ n1, n ≤ n1 → px E n1 K I P G) : jj_J X D nL cs sl (jj_MQ X D rm post px) n K I P G pc L st :=
  jr_gen hr (fun E1 n1 K1 I1 P1 G1 h1 => by
    obtain ⟨rfl, hn, rfl, rfl, rfl, rfl⟩ := h1
    exact jr_xout hX hc hs (h n1 hn)) (fun _ _ _ _ _ _ h => h.elim)
theorem jj_b1 {a b : Nat} (h : Nat.ble a b = true) : a ≤ b := Nat.le_of_ble_eq_true h
theorem jj_b2 {a b c d : Nat} (h : (Nat.ble a b && Nat.ble c d) = true) : a ≤ b ∧ c ≤ d := ⟨Nat.le_of_ble_eq_true (Bool.and_eq_true_iff.mp h).1, Nat.le_of_ble_eq_true (Bool.and_eq_true_iff.mp h).2⟩
theorem jj_catsum (D : jj_D) (l : List Value) : ((l.map (jj_tr D)).map fun v => v.category).sum = (l.map fun v => v.category).sum := by
  rw [List.map_map]
  congr 1
  exact List.map_congr_left (fun v _ => jj_cat D v)
theorem jr_runS (hX : jj_Cx X D cc own nL ret nm rm tb) (hSt : jj_St X D) {idx ny ar : Nat} {y : MethodName} {cy : ByteArray} {rety : Option FieldType} (hm : jj_MS own idx y cy ny rety ar) {rmy : Room} {As st : List Value} {post1 : jj_post} {px1 : jj_px}
    (hM : jj_Met X.2.1 D y (jj_ws y cy ny rety) rmy As n K I P G post1 px1) (har : As.length = ar) (hst : st = As.reverse ++ rest) (hd : decode cc pc = .ok (.invokestatic idx, 3))
    (hR : (Nat.ble (rmy.frames + 1) rm.frames && Nat.ble (8 + (ny + 11) + rmy.locals) rm.locals) = true) (hf : cs + rmy.cells ≤ rm.cells ∧ sl + rmy.slots ≤ rm.slots) (hw : Nat.ble (rest.map fun v => v.category).sum 8 = true) : jj_Run X D nL cs sl n K I P G pc L st rest rmy.cells rmy.slots post1 px1 := by
  obtain ⟨p, l, e, R, s, m, args, below, meth, c⟩ := X
  obtain ⟨hx, hb, -, -, hml, hown, -, -, hRR, hts, -, hi, hi2, hKK, hZ⟩ := hX
  subst hRR
  subst hst
  intro H locs ls hz hK hS hl
  have hbef : ∀ U : State, U.heap = H → s.WarmedH U.vm → jj_Bef D n K I P G U := fun U hU hW => ⟨⟨hi, by rw [hU]; exact Nat.le_trans hi2 hS.1, by rw [hU]; exact hz, va_K.moved hW.alike hKK, by rw [hU]; exact hK, by rw [hU]; exact jj_Z_keep hZ hS hW.alike⟩, jj_Str_warm hW hSt⟩
  have hw2 : 2 * (F0 m pc ls ((As.reverse ++ rest).map (jj_tr D))).monitorRoom + ((rest.map (jj_tr D)).map fun v => v.category).sum ≤ 8 := lv_room (by rw [jj_catsum]; exact Nat.le_of_ble_eq_true hw)
  obtain ⟨hR1, hR2⟩ := jj_b2 hR
  obtain ⟨m1, m2, m3, m4, m5, m6, m7⟩ := hm
  refine ⟨_, vx_runS (nL := nL) (As := As.map (jj_tr D)) ⟨hx, hb, hml, hown, hts⟩ hM ⟨callB_of ar hts (jj_good m4) rfl rfl rfl (hts _ m3) (hts _ m1) ⟨m5, m6, m7⟩ ⟨hR1, hR2⟩, hts _ m2⟩ ⟨jj_blind, fun U hU hW => ⟨rfl, hbef U hU hW⟩⟩ rfl (by rw [List.length_map]; exact har) hl.1 ?_ hw2 hd hf⟩
  show (As.reverse ++ rest).map (jj_tr D) = _
  rw [List.map_append, List.map_reverse]
theorem jr_runV (hX : jj_Cx X D cc own nL ret nm rm tb) (hSt : jj_St X D) {idx ny ar : Nat} {y : MethodName} {cy : ByteArray} {rety : Option FieldType} (hm : jj_MV own idx y cy ny rety ar) {rmy : Room} {a ci z : Nat} {As st : List Value} {post1 : jj_post} {px1 : jj_px}
    (hM : jj_Met X.2.1 D y (jj_ws y cy ny rety) rmy (.ref a :: As) n K I P G post1 px1) (har : As.length = ar) (hst : st = As.reverse ++ .ref a :: rest) (hk : K a = some (ci, z)) (hci : ∃ T N, vwCl[ci]? = some (y.cls, T, N) ∧ ci < 10) (hd : decode cc pc = .ok (.invokevirtual idx, 3))
    (hR : (Nat.ble (rmy.frames + 1) rm.frames && Nat.ble (8 + (ny + 11) + rmy.locals) rm.locals) = true) (hf : cs + rmy.cells ≤ rm.cells ∧ sl + rmy.slots ≤ rm.slots) (hw : Nat.ble (rest.map fun v => v.category).sum 8 = true) : jj_Run X D nL cs sl n K I P G pc L st rest rmy.cells rmy.slots post1 px1 := by
  obtain ⟨p, l, e, R, s, m, args, below, meth, c⟩ := X
  obtain ⟨hx, hb, -, -, hml, hown, -, -, hRR, hts, -, hi, hi2, hKK, hZ⟩ := hX
  subst hRR
  subst hst
  intro H locs ls hz hK hS hl
  have hbef : ∀ U : State, U.heap = H → s.WarmedH U.vm → jj_Bef D n K I P G U := fun U hU hW => ⟨⟨hi, by rw [hU]; exact Nat.le_trans hi2 hS.1, by rw [hU]; exact hz, va_K.moved hW.alike hKK, by rw [hU]; exact hK, by rw [hU]; exact jj_Z_keep hZ hS hW.alike⟩, jj_Str_warm hW hSt⟩
  have hw2 : 2 * (F0 m pc ls ((As.reverse ++ Value.ref a :: rest).map (jj_tr D))).monitorRoom + ((rest.map (jj_tr D)).map fun v => v.category).sum ≤ 8 := lv_room (by rw [jj_catsum]; exact Nat.le_of_ble_eq_true hw)
  obtain ⟨hR1, hR2⟩ := jj_b2 hR
  obtain ⟨m1, m2, m3, m3b, m4, m5, m6, m7⟩ := hm
  obtain ⟨TT, NN, hc, hc10⟩ := hci
  have hat := (hK a _ hk).2
  rw [jj_ent_o hc10] at hat
  refine ⟨_, vx_runV (nL := nL) (C := y.cls) (b := jj_ad D a) (As := As.map (jj_tr D)) ⟨hx, hb, hml, hown, hts⟩ hM ⟨callB_of ar hts (jj_good m4) rfl rfl rfl (hts _ m3b) (hts _ m1) ⟨m5, m6, m7⟩ ⟨hR1, hR2⟩, hts _ m2, hts _ m3⟩ ⟨jj_blind, va_recv hKK (jj_va1 hat) (q := (y.cls, TT, NN)) hc (q0 := 0) rfl, fun U hU hW => ⟨rfl, hbef U hU hW⟩⟩ rfl (by rw [List.length_map]; exact har) hl.1 ?_ hw2 hd hf⟩
  show (As.reverse ++ Value.ref a :: rest).map (jj_tr D) = _
  rw [List.map_append, List.map_reverse]
  rfl
theorem jr_runI (hX : jj_Cx X D cc own nL ret nm rm tb) (hSt : jj_St X D) {idx ny ar : Nat} {y : MethodName} {cy : ByteArray} (hm : jj_MI own idx y cy ny ar) {rmy : Room} {a : Nat} {As st : List Value} {post1 : jj_post} {px1 : jj_px}
    (hM : jj_Met X.2.1 D y (jj_ws y cy ny none) rmy (.ref a :: As) n K I P G post1 px1) (har : As.length = ar) (hst : st = As.reverse ++ .ref a :: rest) (hd : decode cc pc = .ok (.invokespecial idx, 3))
    (hR : (Nat.ble (rmy.frames + 1) rm.frames && Nat.ble (8 + (ny + 11) + rmy.locals) rm.locals) = true) (hf : cs + rmy.cells ≤ rm.cells ∧ sl + rmy.slots ≤ rm.slots) (hw : Nat.ble (rest.map fun v => v.category).sum 8 = true) : jj_Run X D nL cs sl n K I P G pc L st rest rmy.cells rmy.slots post1 px1 := by
  obtain ⟨p, l, e, R, s, m, args, below, meth, c⟩ := X
  obtain ⟨hx, hb, -, -, hml, hown, -, -, hRR, hts, -, hi, hi2, hKK, hZ⟩ := hX
  subst hRR
  subst hst
  intro H locs ls hz hK hS hl
  have hbef : ∀ U : State, U.heap = H → s.WarmedH U.vm → jj_Bef D n K I P G U := fun U hU hW => ⟨⟨hi, by rw [hU]; exact Nat.le_trans hi2 hS.1, by rw [hU]; exact hz, va_K.moved hW.alike hKK, by rw [hU]; exact hK, by rw [hU]; exact jj_Z_keep hZ hS hW.alike⟩, jj_Str_warm hW hSt⟩
  have hw2 : 2 * (F0 m pc ls ((As.reverse ++ Value.ref a :: rest).map (jj_tr D))).monitorRoom + ((rest.map (jj_tr D)).map fun v => v.category).sum ≤ 8 := lv_room (by rw [jj_catsum]; exact Nat.le_of_ble_eq_true hw)
  obtain ⟨hR1, hR2⟩ := jj_b2 hR
  obtain ⟨m1, m2, m3, m3b, m4, m5, m6, m7⟩ := hm
  refine ⟨_, vx_runI (nL := nL) (b := jj_ad D a) (As := As.map (jj_tr D)) ⟨hx, hb, hml, hown, hts⟩ hM ⟨callB_of ar hts (jj_good m4) rfl rfl rfl (hts _ m3b) (hts _ m1) ⟨m5, m6, m7⟩ ⟨hR1, hR2⟩, m3, hts _ m2⟩ ⟨jj_blind, fun U hU hW => ⟨rfl, hbef U hU hW⟩⟩ rfl (by rw [List.length_map]; exact har) hl.1 ?_ hw2 hd hf⟩
  show (As.reverse ++ Value.ref a :: rest).map (jj_tr D) = _
  rw [List.map_append, List.map_reverse]
  rfl
def jj_MSN (own : String) (idx : Nat) (y : MethodName) (c : ByteArray) (nL : Nat) (ret : Option FieldType) (ar : Nat) : Prop :=
  Cond.methodLinkNest own idx y RX5 ∈ jj_trav ∧ Cond.static y ∈ jj_W ∧ Cond.initialized y.cls ∈ jj_W ∧ Cond.code y c nL ret ∈ jj_W ∧ y.cls ≠ "java/lang/invoke/MethodHandle" ∧ y.cls ≠ "java/lang/invoke/VarHandle" ∧ (parseMethodDescriptor y.desc).map (fun d => d.parameters.length) = some ar
def jj_MIN (own : String) (idx : Nat) (y : MethodName) (c : ByteArray) (nL : Nat) (ar : Nat) : Prop :=
  Cond.methodLinkNest own idx y (if own = RX7 then RL else RX5) ∈ jj_trav ∧ Cond.instanceMethod y ∈ jj_W ∧ y.name = "<init>" ∧ Cond.initialized y.cls ∈ jj_W ∧ Cond.code y c nL none ∈ jj_W ∧ y.cls ≠ "java/lang/invoke/MethodHandle" ∧ y.cls ≠ "java/lang/invoke/VarHandle" ∧ (parseMethodDescriptor y.desc).map (fun d => d.parameters.length) = some ar
theorem jr_runSN (hX : jj_Cx X D cc own nL ret nm rm tb) (hSt : jj_St X D) {idx ny ar : Nat} {y : MethodName} {cy : ByteArray} {rety : Option FieldType} (hm : jj_MSN own idx y cy ny rety ar) {rmy : Room} {As st : List Value} {post1 : jj_post} {px1 : jj_px}
    (hM : jj_Met X.2.1 D y (jj_ws y cy ny rety) rmy As n K I P G post1 px1) (har : As.length = ar) (hst : st = As.reverse ++ rest) (hd : decode cc pc = .ok (.invokestatic idx, 3))
    (hR : (Nat.ble (rmy.frames + 1) rm.frames && Nat.ble (8 + (ny + 11) + rmy.locals) rm.locals) = true) (hf : cs + rmy.cells ≤ rm.cells ∧ sl + rmy.slots ≤ rm.slots) (hw : Nat.ble (rest.map fun v => v.category).sum 8 = true) : jj_Run X D nL cs sl n K I P G pc L st rest rmy.cells rmy.slots post1 px1 := by
  obtain ⟨p, l, e, R, s, m, args, below, meth, c⟩ := X
  obtain ⟨hx, hb, -, -, hml, hown, -, -, hRR, hts, -, hi, hi2, hKK, hZ⟩ := hX
  subst hRR
  subst hst
  intro H locs ls hz hK hS hl
  have hbef : ∀ U : State, U.heap = H → s.WarmedH U.vm → jj_Bef D n K I P G U := fun U hU hW => ⟨⟨hi, by rw [hU]; exact Nat.le_trans hi2 hS.1, by rw [hU]; exact hz, va_K.moved hW.alike hKK, by rw [hU]; exact hK, by rw [hU]; exact jj_Z_keep hZ hS hW.alike⟩, jj_Str_warm hW hSt⟩
  have hw2 : 2 * (F0 m pc ls ((As.reverse ++ rest).map (jj_tr D))).monitorRoom + ((rest.map (jj_tr D)).map fun v => v.category).sum ≤ 8 := lv_room (by rw [jj_catsum]; exact Nat.le_of_ble_eq_true hw)
  obtain ⟨hR1, hR2⟩ := jj_b2 hR
  obtain ⟨m1, m2, m3, m4, m5, m6, m7⟩ := hm
  refine ⟨_, vx_runSN (nL := nL) (host := RX5) (As := As.map (jj_tr D)) ⟨hx, hb, hml, hown, hts⟩ hM ⟨va_cnB ar hts (jj_good m4) rfl rfl rfl (hSt.2.1 _ m1) (hts _ m3) ⟨m5, m6, m7⟩ ⟨hR1, hR2⟩, hts _ m2, trivial⟩ ⟨jj_blind, fun U hU hW => ⟨rfl, hbef U hU hW⟩⟩ rfl (by rw [List.length_map]; exact har) hl.1 ?_ hw2 hd hf⟩
  show (As.reverse ++ rest).map (jj_tr D) = _
  rw [List.map_append, List.map_reverse]
theorem jr_runIN (hX : jj_Cx X D cc own nL ret nm rm tb) (hSt : jj_St X D) {idx ny ar : Nat} {y : MethodName} {cy : ByteArray} (hm : jj_MIN own idx y cy ny ar) {rmy : Room} {a : Nat} {As st : List Value} {post1 : jj_post} {px1 : jj_px}
    (hM : jj_Met X.2.1 D y (jj_ws y cy ny none) rmy (.ref a :: As) n K I P G post1 px1) (har : As.length = ar) (hst : st = As.reverse ++ .ref a :: rest) (hd : decode cc pc = .ok (.invokespecial idx, 3))
    (hR : (Nat.ble (rmy.frames + 1) rm.frames && Nat.ble (8 + (ny + 11) + rmy.locals) rm.locals) = true) (hf : cs + rmy.cells ≤ rm.cells ∧ sl + rmy.slots ≤ rm.slots) (hw : Nat.ble (rest.map fun v => v.category).sum 8 = true) : jj_Run X D nL cs sl n K I P G pc L st rest rmy.cells rmy.slots post1 px1 := by
  obtain ⟨p, l, e, R, s, m, args, below, meth, c⟩ := X
  obtain ⟨hx, hb, -, -, hml, hown, -, -, hRR, hts, -, hi, hi2, hKK, hZ⟩ := hX
  subst hRR
  subst hst
  intro H locs ls hz hK hS hl
  have hbef : ∀ U : State, U.heap = H → s.WarmedH U.vm → jj_Bef D n K I P G U := fun U hU hW => ⟨⟨hi, by rw [hU]; exact Nat.le_trans hi2 hS.1, by rw [hU]; exact hz, va_K.moved hW.alike hKK, by rw [hU]; exact hK, by rw [hU]; exact jj_Z_keep hZ hS hW.alike⟩, jj_Str_warm hW hSt⟩
  have hw2 : 2 * (F0 m pc ls ((As.reverse ++ Value.ref a :: rest).map (jj_tr D))).monitorRoom + ((rest.map (jj_tr D)).map fun v => v.category).sum ≤ 8 := lv_room (by rw [jj_catsum]; exact Nat.le_of_ble_eq_true hw)
  obtain ⟨hR1, hR2⟩ := jj_b2 hR
  obtain ⟨m1, m2, m3, m3b, m4, m5, m6, m7⟩ := hm
  refine ⟨_, vx_runIN (nL := nL) (host := if own = RX7 then RL else RX5) (b := jj_ad D a) (As := As.map (jj_tr D)) ⟨hx, hb, hml, hown, hts⟩ hM ⟨va_cnB ar hts (jj_good m4) rfl rfl rfl (hSt.2.1 _ m1) (hts _ m3b) ⟨m5, m6, m7⟩ ⟨hR1, hR2⟩, m3, hts _ m2⟩ ⟨jj_blind, fun U hU hW => ⟨rfl, hbef U hU hW⟩⟩ rfl (by rw [List.length_map]; exact har) hl.1 ?_ hw2 hd hf⟩
  show (As.reverse ++ Value.ref a :: rest).map (jj_tr D) = _
  rw [List.map_append, List.map_reverse]
  rfl
end JC
