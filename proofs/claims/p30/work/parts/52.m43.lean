/-! new int[a][b]: the instruction's own loop, walked -/
def mnK (K : jj_K) (n a b : Nat) : jj_K := fun q => if q = n then some (15, a) else if n < q ∧ q ≤ n + a then some (10, b) else K q
def mnI (I : jj_I) (n a : Nat) : jj_I := fun q => if n < q ∧ q ≤ n + a then (fun _ => 0) else I q
def mnP (P : jj_P) (n a : Nat) : jj_P := fun q => if q = n then (fun k => if k < a then some (n + 1 + k) else none) else P q
/-- the rows' row, when i rows are in it; h is its address -/
def mn_o (c : ClassId) (a h i : Nat) : Cell := arrV c a (fun j => va_rf (if j < i then some (h + 1 + j) else none))
/-- the machine, when i rows are made -/
def mn_S (T : State) (cO cI : ClassId) (a b : Nat) : Nat → State
  | 0 => T.pushCell (mn_o cO a T.heap.size 0)
  | i + 1 => ((mn_S T cO cI a b i).pushCell (arrV cI b fun _ => .int 0)).setCell T.heap.size (mn_o cO a T.heap.size (i + 1))
theorem mn_o_set (c : ClassId) (a h i : Nat) : (mn_o c a h i).setSlot i (.ref (h + 1 + i)) = mn_o c a h (i + 1) := by
  unfold mn_o
  rw [arrV_store]
  refine congrArg (arrV c a) (funext fun j => ?_)
  unfold updV
  by_cases e : j = i
  · subst e
    rw [if_pos rfl, if_pos (by omega)]
    rfl
  · rw [if_neg e]
    dsimp only
    by_cases h1 : j < i
    · rw [if_pos h1, if_pos (by omega)]
    · rw [if_neg h1, if_neg (by omega)]
theorem mn_S_size (T : State) (cO cI : ClassId) (a b : Nat) : ∀ i, (mn_S T cO cI a b i).heap.size = T.heap.size + (1 + i)
  | 0 => by simp [mn_S]
  | i + 1 => by
    have := mn_S_size T cO cI a b i
    simp [mn_S, State.setCell, this]
    omega
theorem mn_lt (T : State) (cO cI : ClassId) (a b i : Nat) {q : Nat} (h : q < T.heap.size + (1 + i)) : q < (mn_S T cO cI a b i).heap.size := by
  rw [mn_S_size]
  exact h
theorem mn_S_vm (T : State) (cO cI : ClassId) (a b : Nat) : ∀ i, (mn_S T cO cI a b i).vm = T.vm
  | 0 => rfl
  | i + 1 => mn_S_vm T cO cI a b i
theorem mn_S_used (T : State) (cO cI : ClassId) (a b : Nat) : ∀ i, (mn_S T cO cI a b i).slotsUsed = T.slotsUsed + a + i * b
  | 0 => by
    have : (mn_o cO a T.heap.size 0).slots.size = a := arrV_size _ _ _
    simp [mn_S, this]
  | i + 1 => by
    have h1 := mn_S_used T cO cI a b i
    have h2 : (arrV cI b fun _ => Value.int 0).slots.size = b := arrV_size _ _ _
    rw [Nat.succ_mul]
    simp [mn_S, h1, h2]
    omega
theorem mn_S_top (T : State) (f : JFrame) (cO cI : ClassId) (a b : Nat) : ∀ i, mn_S (T.setTop f) cO cI a b i = (mn_S T cO cI a b i).setTop f
  | 0 => rfl
  | i + 1 => by
    show ((mn_S (T.setTop f) cO cI a b i).pushCell _).setCell _ _ = _
    rw [mn_S_top T f cO cI a b i]
    rfl
theorem mn_S_out (T : State) (cO cI : ClassId) (a b : Nat) : ∀ i, (mn_S T cO cI a b i).heap[T.heap.size]? = some (mn_o cO a T.heap.size i)
  | 0 => State.heap_pushCell_size _ _
  | i + 1 => State.heap_setCell_self (c := mn_o cO a T.heap.size i) (by
    rw [State.heap_pushCell_of_lt _ _ (mn_lt T cO cI a b i (q := T.heap.size) (by omega))]
    exact mn_S_out T cO cI a b i)
theorem mn_S_old (T : State) (cO cI : ClassId) (a b : Nat) {q : Nat} (hq : q < T.heap.size) : ∀ i, (mn_S T cO cI a b i).heap[q]? = T.heap[q]?
  | 0 => State.heap_pushCell_of_lt _ _ hq
  | i + 1 => by
    show (((mn_S T cO cI a b i).pushCell _).setCell T.heap.size _).heap[q]? = _
    rw [State.heap_setCell_other (show T.heap.size ≠ q by omega), State.heap_pushCell_of_lt _ _ (mn_lt T cO cI a b i (q := q) (by omega))]
    exact mn_S_old T cO cI a b hq i
theorem mn_S_row (T : State) (cO cI : ClassId) (a b : Nat) : ∀ i j, j < i → (mn_S T cO cI a b i).heap[T.heap.size + (1 + j)]? = some (arrV cI b fun _ => .int 0)
  | 0, _, h => absurd h (Nat.not_lt_zero _)
  | i + 1, j, h => by
    show (((mn_S T cO cI a b i).pushCell _).setCell T.heap.size _).heap[T.heap.size + (1 + j)]? = _
    rw [State.heap_setCell_other (show T.heap.size ≠ T.heap.size + (1 + j) by omega)]
    by_cases e : j = i
    · subst e
      rw [← mn_S_size T cO cI a b j]
      exact State.heap_pushCell_size _ _
    · rw [State.heap_pushCell_of_lt _ _ (mn_lt T cO cI a b i (q := T.heap.size + (1 + j)) (by omega))]
      exact mn_S_row T cO cI a b i j (by omega)
section MNS
variable {p : Program} {l : Launch} {e : Env} {R : Room} {s : State} {m : MethodId} {args : Array Value} {below : List Frame} {meth : Method} {c : Code} {T : State} {locs : List Loc} {cells slots : Nat}
theorem mn_S_stand (Y : Stand p l e R s m args below meth c T locs cells slots) (cO cI : ClassId) (a b : Nat) : ∀ i, Stand p l e R s m args below meth c (mn_S T cO cI a b i) locs (cells + (1 + i)) (slots + (a + i * b))
  | 0 => by
    have h := Y.pushed (mn_o cO a T.heap.size 0)
    rw [show (mn_o cO a T.heap.size 0).slots.size = a from arrV_size _ _ _] at h
    rw [Nat.zero_mul]
    exact h
  | i + 1 => by
    have h1 := (mn_S_stand Y cO cI a b i).pushed (arrV cI b fun _ => .int 0)
    have hc : ((mn_S T cO cI a b i).pushCell (arrV cI b fun _ => .int 0)).heap[T.heap.size]? = some (mn_o cO a T.heap.size i) := by
      rw [State.heap_pushCell_of_lt _ _ (mn_lt T cO cI a b i (q := T.heap.size) (by omega))]
      exact mn_S_out T cO cI a b i
    have h2 := h1.stored hc i (.ref (T.heap.size + 1 + i))
    rw [mn_o_set, show (arrV cI b fun _ => Value.int 0).slots.size = b from arrV_size _ _ _] at h2
    have h3 := h2.dropFresh (fun x hx => by rw [List.mem_singleton.mp hx]; exact Y.heapGrown)
    rw [Nat.succ_mul, show slots + (a + (i * b + b)) = slots + (a + i * b) + b by omega]
    exact h3
end MNS
/-- what the word says of the two array classes -/
theorem mn_overE {args : Array Value} {s : State} (h : (Cond.arrayOver (.array .int)).before args s = true) : ∃ cI cO k, s.vm.findClass "[I" = some cI ∧ s.vm.classes[cO]? = some k ∧ k.kind = .array cI (.array .int) ∧ s.vm.findClass "[[I" = some cO := by
  have e1 : (FieldType.array .int).toString = "[I" := by decide
  have e2 : "[" ++ (FieldType.array .int).toString = "[[I" := by decide
  simp only [Cond.before, Cond.holds, Cond.value, e1, beq_iff_eq] at h
  obtain ⟨cI, hI, h⟩ := Option.bind_eq_some_iff.mp h
  obtain ⟨c, hf, h⟩ := Option.bind_eq_some_iff.mp h
  obtain ⟨k, hk, h⟩ := Option.map_eq_some_iff.mp h
  obtain ⟨hlt, hp, -⟩ := Array.findIdx?_eq_some_iff_getElem.mp hf
  rw [(Array.getElem?_eq_some_iff.mp hk).2] at hp
  cases hkd : k.kind with
  | array q ty =>
    rw [hkd] at hp h
    simp at hp h
    exact ⟨cI, c, k, hI, hk, by rw [hkd, hp, h.1], h.2⟩
  | _ => rw [hkd] at h; simp at h
theorem mn_over {args : Array Value} {s : State} {cO cI : ClassId} (h : (Cond.arrayOver (.array .int)).before args s = true) (hO : s.vm.findClass "[[I" = some cO) (hI : s.vm.findClass "[I" = some cI) : ∃ k, s.vm.classes[cO]? = some k ∧ k.kind = .array cI (.array .int) := by
  obtain ⟨p, q, k, h1, h2, h3, h4⟩ := mn_overE h
  cases h1.symm.trans hI
  cases h4.symm.trans hO
  exact ⟨k, h2, h3⟩
section MNW
variable {E : CtlPost} {e : Env} {d : Bool} {acts : List Action} {s : State}
/-- one array of the machine's own: n ints or references, of a class that is an array of four bytes each -/
theorem mn_new {cA q : ClassId} {k : Class} {ty : FieldType} {n : Nat} {v : Value} (hk : s.vm.classes[cA]? = some k) (hkd : k.kind = .array q ty) (h4 : componentBytes ty = 4)
    (hL : ¬ n > e.platform.arrayLengthLimit) (hB : ¬ n * 4 > e.platform.maxHeapBytes) (hv : fits ty v = true) (h1 : s.heap.size < e.platform.maxCells) (h2 : s.slotsUsed + n ≤ e.platform.maxSlots) {Q : Addr → Pre}
    (hq : ∀ acts', Q s.heap.size d acts' (s.pushCell (arrV cA n fun _ => v))) : wp (Jvm.newArray cA n v) Q E e d acts s := by
  rw [← h4] at hB
  have hn : ¬ n > e.platform.maxSlots := by omega
  simp only [Jvm.newArray, Jvm.arrayFits, wp_bind', W.ask, W.ite, wp_pure', W.theClass, W.alloc, W.stop, hL, hk, hkd, hB, hn, if_false, Option.some.injEq, exists_eq_left', Array.size_replicate]
  refine ⟨h1, h2, fun i x hx => ?_, by rw [arrV_new]; exact hq _⟩
  rw [Array.getElem?_replicate] at hx
  by_cases hi : i < n
  · rw [if_pos hi] at hx
    cases hx
    simp [State.fitsSlot, State.slotType?, hk, hkd, hv]
  · rw [if_neg hi] at hx
    cases hx
theorem mn_make {cO cI q : ClassId} {k k2 : Class} {x y : Int32} {a b : Nat} (hx : x.toNatClampNeg = a) (hy : y.toNatClampNeg = b) (hx0 : ¬ x < 0) (hy0 : ¬ y < 0) (hk : s.vm.classes[cO]? = some k) (hkd : k.kind = .array cI (.array .int)) (hk2 : s.vm.classes[cI]? = some k2) (hkd2 : k2.kind = .array q .int)
    (hL : ¬ a > e.platform.arrayLengthLimit) (hB : ¬ a * 4 > e.platform.maxHeapBytes) (hL2 : ¬ b > e.platform.arrayLengthLimit) (hB2 : ¬ b * 4 > e.platform.maxHeapBytes)
    (h1 : s.heap.size + (1 + a) ≤ e.platform.maxCells) (h2 : s.slotsUsed + (a + a * b) ≤ e.platform.maxSlots) {Q : Addr → Pre}
    (hq : ∀ d' acts', Q s.heap.size d' acts' (mn_S s cO cI a b a)) : wp (multianewarray.make cO [x, y]) Q E e d acts s := by
  rw [multianewarray.make]
  simp only [wp_bind', wp_pure', W.ite, W.theClass, hx0, if_false, hk, hkd, Option.some.injEq, exists_eq_left', hx]
  refine mn_new hk hkd rfl hL hB rfl (by omega) (by omega) fun acts1 => ?_
  have hfd : [y].find? (· < 0) = none := by simp [hy0]
  simp only [hfd]
  rw [ite_self, wp_bind', Std.Legacy.Range.forIn_eq_forIn_range', show ([:a] : Std.Legacy.Range).size = a by simp [Std.Legacy.Range.size]]
  have e0 : (arrV cO a fun _ => Value.null) = mn_o cO a s.heap.size 0 := congrArg (arrV cO a) (funext fun j => by rw [if_neg (by omega)]; rfl)
  rw [e0]
  refine wp_forIn_inv (fun w t => ∃ i, i + w.length = a ∧ w = List.range' i w.length ∧ t = mn_S s cO cI a b i) _ _ ⟨0, by simp, by simp, rfl⟩ ?_ ?_
  · intro j w t d' acts' Q' hI hnx
    obtain ⟨i, hi, hw, rfl⟩ := hI
    rw [List.length_cons] at hi hw
    rw [List.range'_succ] at hw
    obtain ⟨rfl, hw2⟩ := List.cons.inj hw
    have hs := mn_S_size s cO cI a b j
    have hu := mn_S_used s cO cI a b j
    have hm : j * b + b ≤ a * b := by
      have := Nat.mul_le_mul_right b (show j + 1 ≤ a by omega)
      rw [Nat.succ_mul] at this
      exact this
    have kO : (mn_S s cO cI a b j).vm.classes[cO]? = some k := by rw [mn_S_vm]; exact hk
    have kI : (mn_S s cO cI a b j).vm.classes[cI]? = some k2 := by rw [mn_S_vm]; exact hk2
    simp only [wp_bind']
    rw [multianewarray.make]
    simp only [wp_bind', wp_pure', W.ite, W.theClass, hy0, if_false, kI, hkd2, Option.some.injEq, exists_eq_left', hy]
    refine mn_new (v := .int 0) kI hkd2 rfl hL2 hB2 rfl (by omega) (by omega) fun acts2 => ?_
    simp only [wp_bind', wp_pure', W.writeLoc]
    refine ⟨mn_o cO a s.heap.size j, by rw [State.heap_pushCell_of_lt _ _ (mn_lt s cO cI a b j (q := s.heap.size) (by omega))]; exact mn_S_out s cO cI a b j, (fun h => by cases h), (by show j < (arrV _ _ _).slots.size; rw [arrV_size]; omega), ?_, hnx _ _ _ ⟨j + 1, by omega, hw2, ?_⟩⟩
    · show State.fitsSlot _ cO .none j _ = true
      simp [State.fitsSlot, State.slotType?, kO, hkd, fits]
    · rw [hs, show s.heap.size + (1 + j) = s.heap.size + 1 + j by omega, mn_o_set]
      rfl
  · intro t d' acts' hI
    obtain ⟨i, hi, -, rfl⟩ := hI
    obtain rfl : i = a := hi
    simp only [wp_pure']
    exact hq _ _
end MNW
section MNT
variable {p : Program} {l : Launch} {e : Env} {R : Room} {s : State} {m : MethodId} {args : Array Value} {below : List Frame} {meth : Method} {c : Code} {T : State} {locs : List Loc} {cells slots : Nat}
theorem mn_step (Y : Stand p l e R s m args below meth c T locs cells slots) (hx : p.tables.exec = Jvm.exec) {own : String} {idx : Nat} (hown : s.vm.findClass own = some m.cls) (hw : (Cond.classLink own idx "[[I").before args s = true)
    (hover : (Cond.arrayOver (.array .int)).before args s = true) (hw2 : (Cond.arrayClass .int).before args s = true) {cO cI : ClassId} (fO : s.vm.findClass "[[I" = some cO) (fI : s.vm.findClass "[I" = some cI)
    {g : JFrame} (hg : g.method = m) (hd : decode c.code g.pc = .ok (.multianewarray idx 2, 4)) {x y : Int32} {a b : Nat} {rest : List Value} (hst : g.stack = .int y :: .int x :: rest) (hxa : x.toNatClampNeg = a) (hyb : y.toNatClampNeg = b) (hx0 : ¬ x < 0) (hy0 : ¬ y < 0) (hab : a < 1000 ∧ b < 1000)
    (hf : cells + (1 + a) ≤ R.cells ∧ slots + (a + a * b) ≤ R.slots) :
    ∃ vm1, Stand p l e R s m args below meth c (mn_S (T.setVm vm1) cO cI a b a) locs (cells + (1 + a)) (slots + (a + a * b)) ∧
      ∀ t, Steps p.tables e below ((mn_S (T.setVm vm1) cO cI a b a).setTop { g with pc := g.pc + 4, stack := .ref T.heap.size :: rest }) t → Steps p.tables e below (T.setTop g) t := by
  subst hg
  obtain ⟨k, hk, hkd⟩ := mn_over hover fO fI
  obtain ⟨c2, k2, q, g1, hk2, hkd2⟩ := Cond.arrayClass_spec hw2
  obtain rfl : c2 = cI := Option.some.inj (g1.symm.trans fI)
  have hmg : e.platform.magicAccessors = ({} : Platform).magicAccessors := by rw [Y.admits.platform]
  obtain ⟨c0, g3, hcl⟩ := Cond.classLink_spec hown hw e.platform hmg
  obtain rfl : c0 = cO := Option.some.inj (g3.symm.trans fO)
  obtain ⟨r1, r2, -⟩ := State.classEntry (e := e) Y.warmed hcl
  generalize T.vm.noted g.method.cls idx (.cls c0) = vm1 at r1 r2
  have Y1 := Y.noted r2
  obtain ⟨u1, u2⟩ := Y.roomAbove hf.1 hf.2
  have YF := mn_S_stand Y1 c0 c2 a b a
  refine ⟨vm1, YF, fun t ht => ?_⟩
  obtain ⟨k', hk', ek⟩ := r2.alike.2.2 _ _ hk
  obtain ⟨k2', hk2', ek2⟩ := r2.alike.2.2 _ _ hk2
  have L1 : e.platform.arrayLengthLimit ≥ 1000 := by rw [Launch.admits_arrayLengthLimit Y.admits]; exact Nat.le_of_ble_eq_true rfl
  have L2 : e.platform.maxHeapBytes ≥ 4000 := by rw [Launch.admits_maxHeapBytes Y.admits]; exact Nat.le_of_ble_eq_true rfl
  jvm_step Y.here [hx, hd]
  simp only [multianewarray.sem, wp_bind', W.resolveClassAt_links (State.method?_setTop g Y.here.top) r1]
  rw [W.popN, if_neg (by decide)]
  refine ⟨g, State.topJava?_setTop' (s := T.setVm vm1) g Y.here.top, [.int x, .int y], rest, rfl, hst, ?_⟩
  simp only [List.mapM_cons, List.mapM_nil, wp_bind', wp_pure']
  have e1 : ((T.setTop g).setVm vm1).setTop { g with stack := rest } = (T.setVm vm1).setTop { g with stack := rest } := State.setTop_setTop (T.setVm vm1) g _
  rw [e1]
  refine mn_make (s := (T.setVm vm1).setTop { g with stack := rest }) (k := k') (k2 := k2') (q := q) hxa hyb hx0 hy0 hk' (by rw [ek]; exact hkd) hk2' (by rw [ek2]; exact hkd2) (by omega) (by omega) (by omega) (by omega) u1 u2 fun d' acts' => ?_
  rw [mn_S_top]
  simp only [wp_bind', W.mark, W.pushRef, State.topJava?_setTop' _ YF.here.top, Option.some.injEq, exists_eq_left', State.setTop_setTop, State.heap_setTop]
  intro acts2
  simp [jvm, YF.here.top]
  exact ht
end MNT
section JMN
variable {X : jj_X} {D : jj_D} {cc : ByteArray} {own nm : String} {nL : Nat} {ret : Option FieldType} {rm : Room} {tb : List ExceptionTableEntry} {cs sl : Nat} {Q : State → Prop} {n : Nat} {K : jj_K} {I : jj_I} {P : jj_P} {G : jj_G} {pc : Nat} {L : List (Option Value)} {rest : List Value}
theorem jj_gn {n' : Nat} {st : List Value} (e : n = n') (kk : jj_J X D nL cs sl Q n' K I P G pc L st) : jj_J X D nL cs sl Q n K I P G pc L st := by rw [e]; exact kk
theorem jj_gs {sl' : Nat} {st : List Value} (e : sl = sl') (kk : jj_J X D nL cs sl' Q n K I P G pc L st) : jj_J X D nL cs sl Q n K I P G pc L st := by rw [e]; exact kk
theorem jj_gz {S : jj_K → jj_I → jj_P → Prop} {st : List Value} (h : S K I P) (kk : ∀ K I P, S K I P → jj_J X D nL cs sl Q n K I P G pc L st) : jj_J X D nL cs sl Q n K I P G pc L st := kk K I P h
theorem jr_relM {st : List Value} {mc ms : Nat} {post1 : jj_post} (hr : jj_Run X D nL cs sl n K I P G pc L st rest mc ms post1 jj_noX)
    (kk : ∀ r n1 K1 I1 P1 G1, post1 r n1 K1 I1 P1 G1 → jj_J X D nL (cs + mc) (sl + ms) Q n1 K1 I1 P1 G1 (pc + 3) L (r.toList ++ rest)) : jj_J X D nL cs sl Q n K I P G pc L st := jr_gen hr (fun _ _ _ _ _ _ h => h.elim) kk
theorem jr_mna (hX : jj_Cx X D cc own nL ret nm rm tb) (hSt : jj_St X D) {x y : Int32} {a b idx : Nat} (hw : Cond.classLink own idx "[[I" ∈ jj_W) (hw2 : Cond.arrayClass .int ∈ jj_W) (hx0 : x = nI a) (hy0 : y = nI b) (hab : a < 1000 ∧ b < 1000) (hd : decode cc pc = .ok (.multianewarray idx 2, 4)) (hf : cs + (1 + a) ≤ rm.cells ∧ sl + (a + a * b) ≤ rm.slots)
    (kk : jj_J X D nL (cs + 1 + a) (sl + a + a * b) Q (n + 1 + a) (mnK K n a b) (mnI I n a) (mnP P n a) G (pc + 4) L (.ref n :: rest)) : jj_J X D nL cs sl Q n K I P G pc L (.int y :: .int x :: rest) := by
  obtain ⟨p, l, e, R, s, m, args, below, meth, c⟩ := X
  obtain ⟨hx, hb, -, -, hml, hown, -, -, hRR, hts, -, hi, hi2, hKK, hZ⟩ := hX
  subst hRR
  subst hx0
  subst hy0
  intro H locs ls hz hK hS hl
  have htop := jj_ad_top hz (Nat.le_trans hi2 hS.1)
  have ca : (nI a).toNatClampNeg = a := nI_clamp (by omega)
  have cb : (nI b).toNatClampNeg = b := nI_clamp (by omega)
  have hover : (Cond.arrayOver (.array .int)).before args s = true := hSt.2.1 (.arrayOver (.array .int)) (by simp [jj_trav])
  intro T hT Y
  have fO : s.vm.findClass "[[I" = some (D.2.1 15) := (hKK.2 5 _ rfl).2
  have fI : s.vm.findClass "[I" = some (D.2.1 10) := (hKK.2 0 _ rfl).2
  obtain ⟨vm1, Y2, step⟩ := mn_step Y hx hown (hts _ hw) hover (hts _ hw2) fO fI (g := F0 m pc ls ((.int (nI b) :: .int (nI a) :: rest : List Value).map (jj_tr D))) rfl (by rw [hb]; exact hd) (rest := rest.map (jj_tr D)) rfl ca cb (nI_pos (by omega)) (nI_pos (by omega)) hab hf
  have hTh : (T.setVm vm1).heap = H := hT
  have hF := mn_S_size (T.setVm vm1) (D.2.1 15) (D.2.1 10) a b a
  have hOut := mn_S_out (T.setVm vm1) (D.2.1 15) (D.2.1 10) a b a
  have hold := fun (q : Nat) (h : q < (T.setVm vm1).heap.size) => mn_S_old (T.setVm vm1) (D.2.1 15) (D.2.1 10) a b h a
  have hrow := mn_S_row (T.setVm vm1) (D.2.1 15) (D.2.1 10) a b a
  rw [hTh] at hF hOut hold hrow
  generalize mn_S (T.setVm vm1) (D.2.1 15) (D.2.1 10) a b a = F at Y2 step hF hOut hold hrow
  have had : ∀ j, jj_ad D (n + j) = H.size + j := fun j => by
    obtain ⟨k, rfl⟩ : ∃ k, n = k + 1 := ⟨n - 1, by have := Nat.le_trans hi2 hS.1; omega⟩
    rw [show k + 1 + j = (k + j) + 1 by omega]
    show D.2.2.2 + (k + j) = H.size + j
    omega
  have hHn : jj_H D (mnK K n a b) (n + 1 + a) (mnI I n a) (mnP P n a) G F.heap := by
    intro q kd hq
    unfold mnK at hq
    by_cases e1 : q = n
    · subst e1
      rw [if_pos rfl] at hq
      cases hq
      refine ⟨by omega, ?_⟩
      rw [jj_ent_a (by decide), htop]
      show F.heap[H.size]? = some (vp_cell (D.2.1 15) (a, .inr (.inr (.inr (.inr (fun k => (mnP P q a q k).map (jj_ad D)))))))
      rw [hOut, vp_cell_q]
      refine congrArg (fun z => some (arrV (D.2.1 15) a z)) (funext fun j => ?_)
      unfold mnP
      rw [if_pos rfl]
      by_cases h : j < a
      · rw [if_pos h, if_pos h]
        show va_rf (some (H.size + 1 + j)) = va_rf (some (jj_ad D (q + 1 + j)))
        rw [show q + 1 + j = q + (1 + j) by omega, had, show H.size + 1 + j = H.size + (1 + j) by omega]
      · rw [if_neg h, if_neg h]; rfl
    · rw [if_neg e1] at hq
      by_cases e2 : n < q ∧ q ≤ n + a
      · rw [if_pos e2] at hq
        cases hq
        refine ⟨by omega, ?_⟩
        obtain ⟨j, rfl⟩ : ∃ j, q = n + (1 + j) := ⟨q - n - 1, by omega⟩
        rw [jj_ent_a (by decide), had]
        show F.heap[H.size + (1 + j)]? = some (vp_cell (D.2.1 10) (b, .inl (mnI I n a (n + (1 + j)))))
        rw [hrow j (by omega), show mnI I n a (n + (1 + j)) = fun _ => 0 from if_pos (by omega), vp_cell_i]
      · rw [if_neg e2] at hq
        have h1 := hK q kd hq
        refine ⟨by omega, ?_⟩
        rw [jj_ent_cg (I := I) (P := P) (G := G) (show mnI I n a q = I q from if_neg e2) (show mnP P n a q = P q from if_neg e1) rfl kd]
        exact h1.2.kept (hold _ h1.2.lt)
  rw [show cs + (1 + a) = cs + 1 + a by omega, show sl + (a + a * b) = sl + a + a * b by omega] at Y2
  obtain ⟨t, a9, b9⟩ := kk F.heap locs ls (by rw [hF]; omega) hHn ⟨by rw [hF]; exact Nat.le_trans hS.1 (by omega), fun q h1 h2 => (hold q (Nat.lt_of_lt_of_le h1 hS.1)).trans (hS.2.1 q h1 h2), hS.2.2⟩ hl F rfl Y2
  refine ⟨t, step t ?_, b9⟩
  rw [show List.map (jj_tr D) (Value.ref n :: rest) = Value.ref (jj_ad D n) :: List.map (jj_tr D) rest from rfl, htop] at a9
  rw [show T.heap.size = H.size by rw [hT]]
  exact a9
end JMN
