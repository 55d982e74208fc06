/-! new int[5][8][4]: rows of rows of rows -/
def mt_o (c : ClassId) (h i : Nat) : Cell := arrV c 5 (fun j => va_rf (if j < i then some (h + 1 + 9 * j) else none))
/-- the machine, when i rows of rows are made -/
def mt_S (T : State) (cT cO cI : ClassId) (w8 : Nat) : Nat → State
  | 0 => T.pushCell (mt_o cT T.heap.size 0)
  | i + 1 => (mn_S (mt_S T cT cO cI w8 i) cO cI w8 4 w8).setCell T.heap.size (mt_o cT T.heap.size (i + 1))
theorem mt_o_set (c : ClassId) (h i : Nat) : (mt_o c h i).setSlot i (.ref (h + 1 + 9 * i)) = mt_o c h (i + 1) := by
  unfold mt_o
  rw [arrV_store]
  refine congrArg (arrV c 5) (funext fun j => ?_)
  unfold updV
  by_cases e : j = i
  · subst e
    rw [if_pos rfl, if_pos (by omega)]
    rfl
  · rw [if_neg e]
    dsimp only
    by_cases h1 : j < i
    · rw [if_pos h1, if_pos (by omega)]
    · rw [if_neg h1, if_neg (by omega)]
theorem mt_S_size (T : State) (cT cO cI : ClassId) {w8 : Nat} (he : w8 = 8) : ∀ i, (mt_S T cT cO cI w8 i).heap.size = T.heap.size + (1 + 9 * i)
  | 0 => by simp [mt_S]
  | i + 1 => by
    have h1 := mt_S_size T cT cO cI he i
    have h2 := mn_S_size (mt_S T cT cO cI w8 i) cO cI w8 4 w8
    show ((mn_S (mt_S T cT cO cI w8 i) cO cI w8 4 w8).setCell T.heap.size _).heap.size = _
    simp [State.setCell, h2, h1]
    omega
theorem mt_S_vm (T : State) (cT cO cI : ClassId) {w8 : Nat} (he : w8 = 8) : ∀ i, (mt_S T cT cO cI w8 i).vm = T.vm
  | 0 => rfl
  | i + 1 => (mn_S_vm (mt_S T cT cO cI w8 i) cO cI w8 4 w8).trans (mt_S_vm T cT cO cI he i)
theorem mt_S_used (T : State) (cT cO cI : ClassId) {w8 : Nat} (he : w8 = 8) : ∀ i, (mt_S T cT cO cI w8 i).slotsUsed = T.slotsUsed + 5 + 40 * i
  | 0 => by
    have : (mt_o cT T.heap.size 0).slots.size = 5 := arrV_size _ _ _
    simp [mt_S, this]
  | i + 1 => by
    have h1 := mt_S_used T cT cO cI he i
    have h2 := mn_S_used (mt_S T cT cO cI w8 i) cO cI w8 4 w8
    show ((mn_S (mt_S T cT cO cI w8 i) cO cI w8 4 w8).setCell T.heap.size _).slotsUsed = _
    simp [h2, h1]
    omega
theorem mt_S_top (T : State) (f : JFrame) (cT cO cI : ClassId) (w8 : Nat) : ∀ i, mt_S (T.setTop f) cT cO cI w8 i = (mt_S T cT cO cI w8 i).setTop f
  | 0 => rfl
  | i + 1 => by
    show (mn_S (mt_S (T.setTop f) cT cO cI w8 i) cO cI w8 4 w8).setCell _ _ = _
    rw [mt_S_top T f cT cO cI w8 i, mn_S_top]
    rfl
theorem mt_lt (T : State) (cT cO cI : ClassId) {w8 : Nat} (he : w8 = 8) (i : Nat) {q : Nat} (h : q < T.heap.size + (1 + 9 * i)) : q < (mt_S T cT cO cI w8 i).heap.size := by
  rw [mt_S_size _ _ _ _ he]
  exact h
theorem mt_S_out (T : State) (cT cO cI : ClassId) {w8 : Nat} (he : w8 = 8) : ∀ i, (mt_S T cT cO cI w8 i).heap[T.heap.size]? = some (mt_o cT T.heap.size i)
  | 0 => State.heap_pushCell_size _ _
  | i + 1 => State.heap_setCell_self (c := mt_o cT T.heap.size i) (by
    rw [mn_S_old _ _ _ _ _ (mt_lt T cT cO cI he i (q := T.heap.size) (by omega))]
    exact mt_S_out T cT cO cI he i)
theorem mt_S_old (T : State) (cT cO cI : ClassId) {w8 : Nat} (he : w8 = 8) {q : Nat} (hq : q < T.heap.size) : ∀ i, (mt_S T cT cO cI w8 i).heap[q]? = T.heap[q]?
  | 0 => State.heap_pushCell_of_lt _ _ hq
  | i + 1 => by
    show ((mn_S (mt_S T cT cO cI w8 i) cO cI w8 4 w8).setCell T.heap.size _).heap[q]? = _
    rw [State.heap_setCell_other (show T.heap.size ≠ q by omega), mn_S_old _ _ _ _ _ (mt_lt T cT cO cI he i (q := q) (by omega))]
    exact mt_S_old T cT cO cI he hq i
theorem mt_S_mid (T : State) (cT cO cI : ClassId) {w8 : Nat} (he : w8 = 8) : ∀ i j, j < i → (mt_S T cT cO cI w8 i).heap[T.heap.size + (1 + 9 * j)]? = some (mn_o cO w8 (T.heap.size + (1 + 9 * j)) w8)
  | 0, _, h => absurd h (Nat.not_lt_zero _)
  | i + 1, j, h => by
    show ((mn_S (mt_S T cT cO cI w8 i) cO cI w8 4 w8).setCell T.heap.size _).heap[T.heap.size + (1 + 9 * j)]? = _
    rw [State.heap_setCell_other (show T.heap.size ≠ T.heap.size + (1 + 9 * j) by omega)]
    by_cases e : j = i
    · subst e
      have := mn_S_out (mt_S T cT cO cI w8 j) cO cI w8 4 w8
      rw [mt_S_size _ _ _ _ he] at this
      exact this
    · rw [mn_S_old _ _ _ _ _ (mt_lt T cT cO cI he i (q := T.heap.size + (1 + 9 * j)) (by omega))]
      exact mt_S_mid T cT cO cI he i j (by omega)
theorem mt_S_row (T : State) (cT cO cI : ClassId) {w8 : Nat} (he : w8 = 8) : ∀ i j k, j < i → k < 8 → (mt_S T cT cO cI w8 i).heap[T.heap.size + (1 + 9 * j) + (1 + k)]? = some (arrV cI 4 fun _ => .int 0)
  | 0, _, _, h, _ => absurd h (Nat.not_lt_zero _)
  | i + 1, j, k, h, hk => by
    show ((mn_S (mt_S T cT cO cI w8 i) cO cI w8 4 w8).setCell T.heap.size _).heap[T.heap.size + (1 + 9 * j) + (1 + k)]? = _
    rw [State.heap_setCell_other (show T.heap.size ≠ T.heap.size + (1 + 9 * j) + (1 + k) by omega)]
    by_cases e : j = i
    · subst e
      have := mn_S_row (mt_S T cT cO cI w8 j) cO cI w8 4 w8 k (by omega)
      rw [mt_S_size _ _ _ _ he] at this
      exact this
    · rw [mn_S_old _ _ _ _ _ (mt_lt T cT cO cI he i (q := T.heap.size + (1 + 9 * j) + (1 + k)) (by omega))]
      exact mt_S_row T cT cO cI he i j k (by omega) hk
section MTS
variable {p : Program} {l : Launch} {e : Env} {R : Room} {s : State} {m : MethodId} {args : Array Value} {below : List Frame} {meth : Method} {c : Code} {T : State} {locs : List Loc} {cells slots : Nat}
theorem mt_S_stand (Y : Stand p l e R s m args below meth c T locs cells slots) (cT cO cI : ClassId) {w8 : Nat} (he : w8 = 8) : ∀ i, Stand p l e R s m args below meth c (mt_S T cT cO cI w8 i) locs (cells + (1 + 9 * i)) (slots + (5 + 40 * i))
  | 0 => by
    have h := Y.pushed (mt_o cT T.heap.size 0)
    rw [show (mt_o cT T.heap.size 0).slots.size = 5 from arrV_size _ _ _] at h
    exact h
  | i + 1 => by
    have h1 := mn_S_stand (mt_S_stand Y cT cO cI he i) cO cI w8 4 w8
    have hc : (mn_S (mt_S T cT cO cI w8 i) cO cI w8 4 w8).heap[T.heap.size]? = some (mt_o cT T.heap.size i) := by
      rw [mn_S_old _ _ _ _ _ (mt_lt T cT cO cI he i (q := T.heap.size) (by omega))]
      exact mt_S_out T cT cO cI he i
    have h2 := h1.stored hc i (.ref (T.heap.size + 1 + 9 * i))
    rw [mt_o_set] at h2
    have h3 := h2.dropFresh (fun x hx => by rw [List.mem_singleton.mp hx]; exact Y.heapGrown)
    rw [show cells + (1 + 9 * (i + 1)) = cells + (1 + 9 * i) + (1 + w8) by omega, show slots + (5 + 40 * (i + 1)) = slots + (5 + 40 * i) + (w8 + w8 * 4) by omega]
    exact h3
end MTS
theorem mt_overE {args : Array Value} {s : State} (h : (Cond.arrayOver (.array (.array .int))).before args s = true) : ∃ cI cO k, s.vm.findClass "[[I" = some cI ∧ s.vm.classes[cO]? = some k ∧ k.kind = .array cI (.array (.array .int)) ∧ s.vm.findClass "[[[I" = some cO := by
  have e1 : (FieldType.array (.array .int)).toString = "[[I" := by decide
  have e2 : "[" ++ (FieldType.array (.array .int)).toString = "[[[I" := by decide
  simp only [Cond.before, Cond.holds, Cond.value, e1, beq_iff_eq] at h
  obtain ⟨cI, hI, h⟩ := Option.bind_eq_some_iff.mp h
  obtain ⟨c, hf, h⟩ := Option.bind_eq_some_iff.mp h
  obtain ⟨k, hk, h⟩ := Option.map_eq_some_iff.mp h
  obtain ⟨hlt, hp, -⟩ := Array.findIdx?_eq_some_iff_getElem.mp hf
  rw [(Array.getElem?_eq_some_iff.mp hk).2] at hp
  cases hkd : k.kind with
  | array q ty =>
    rw [hkd] at hp h
    simp at hp h
    exact ⟨cI, c, k, hI, hk, by rw [hkd, hp, h.1], h.2⟩
  | _ => rw [hkd] at h; simp at h
theorem mt_over {args : Array Value} {s : State} {cO cI : ClassId} (h : (Cond.arrayOver (.array (.array .int))).before args s = true) (hO : s.vm.findClass "[[[I" = some cO) (hI : s.vm.findClass "[[I" = some cI) : ∃ k, s.vm.classes[cO]? = some k ∧ k.kind = .array cI (.array (.array .int)) := by
  obtain ⟨p, q, k, h1, h2, h3, h4⟩ := mt_overE h
  cases h1.symm.trans hI
  cases h4.symm.trans hO
  exact ⟨k, h2, h3⟩
section MTW
variable {E : CtlPost} {e : Env} {d : Bool} {acts : List Action} {s : State}
theorem mt_make {w8 : Nat} (he : w8 = 8) {cT cO cI q : ClassId} {k0 k k2 : Class} {x y z : Int32} (hx : x.toNatClampNeg = 5) (hy : y.toNatClampNeg = w8) (hz : z.toNatClampNeg = 4) (hx0 : ¬ x < 0) (hy0 : ¬ y < 0) (hz0 : ¬ z < 0) (hk0 : s.vm.classes[cT]? = some k0) (hkd0 : k0.kind = .array cO (.array (.array .int))) (hk : s.vm.classes[cO]? = some k) (hkd : k.kind = .array cI (.array .int)) (hk2 : s.vm.classes[cI]? = some k2) (hkd2 : k2.kind = .array q .int)
    (hL : 1000 ≤ e.platform.arrayLengthLimit) (hB : 4000 ≤ e.platform.maxHeapBytes)
    (h1 : s.heap.size + 46 ≤ e.platform.maxCells) (h2 : s.slotsUsed + 205 ≤ e.platform.maxSlots) {Q : Addr → Pre}
    (hq : ∀ d' acts', Q s.heap.size d' acts' (mt_S s cT cO cI w8 5)) : wp (multianewarray.make cT [x, y, z]) Q E e d acts s := by
  rw [multianewarray.make]
  simp only [wp_bind', wp_pure', W.ite, W.theClass, hx0, if_false, hk0, hkd0, Option.some.injEq, exists_eq_left', hx]
  refine mn_new hk0 hkd0 rfl (by omega) (by omega) rfl (by omega) (by omega) fun acts1 => ?_
  have hfd : [y, z].find? (· < 0) = none := by simp [hy0, hz0]
  simp only [hfd]
  rw [ite_self, wp_bind', Std.Legacy.Range.forIn_eq_forIn_range', show ([:5] : Std.Legacy.Range).size = 5 by simp [Std.Legacy.Range.size]]
  have e0 : (arrV cT 5 fun _ => Value.null) = mt_o cT s.heap.size 0 := congrArg (arrV cT 5) (funext fun j => by rw [if_neg (by omega)]; rfl)
  rw [e0]
  refine wp_forIn_inv (fun w t => ∃ i, i + w.length = 5 ∧ w = List.range' i w.length ∧ t = mt_S s cT cO cI w8 i) _ _ ⟨0, by simp, by simp, rfl⟩ ?_ ?_
  · intro j w t d' acts' Q' hI hnx
    obtain ⟨i, hi, hw, rfl⟩ := hI
    rw [List.length_cons] at hi hw
    rw [List.range'_succ] at hw
    obtain ⟨rfl, hw2⟩ := List.cons.inj hw
    have hs := mt_S_size s cT cO cI he j
    have hu := mt_S_used s cT cO cI he j
    have kT : (mt_S s cT cO cI w8 j).vm.classes[cT]? = some k0 := by rw [mt_S_vm _ _ _ _ he]; exact hk0
    have kO : (mt_S s cT cO cI w8 j).vm.classes[cO]? = some k := by rw [mt_S_vm _ _ _ _ he]; exact hk
    have kI : (mt_S s cT cO cI w8 j).vm.classes[cI]? = some k2 := by rw [mt_S_vm _ _ _ _ he]; exact hk2
    simp only [wp_bind']
    refine mn_make (s := mt_S s cT cO cI w8 j) (k := k) (k2 := k2) (q := q) hy hz hy0 hz0 kO hkd kI hkd2 (by omega) (by omega) (by omega) (by omega) (by rw [hs]; omega) (by rw [hu]; omega) fun d2 acts2 => ?_
    simp only [wp_bind', wp_pure', W.writeLoc]
    refine ⟨mt_o cT s.heap.size j, by rw [mn_S_old _ _ _ _ _ (mt_lt s cT cO cI he j (q := s.heap.size) (by omega))]; exact mt_S_out s cT cO cI he j, (fun h => by cases h), (by show j < (arrV _ _ _).slots.size; rw [arrV_size]; omega), ?_, hnx _ _ _ ⟨j + 1, by omega, hw2, ?_⟩⟩
    · show State.fitsSlot _ cT .none j _ = true
      simp [State.fitsSlot, State.slotType?, mn_S_vm, kT, hkd0, fits]
    · rw [hs, show s.heap.size + (1 + 9 * j) = s.heap.size + 1 + 9 * j by omega, mt_o_set]
      rfl
  · intro t d' acts' hI
    obtain ⟨i, hi, -, rfl⟩ := hI
    obtain rfl : i = 5 := hi
    simp only [wp_pure']
    exact hq _ _
end MTW
section MTT
variable {p : Program} {l : Launch} {e : Env} {R : Room} {s : State} {m : MethodId} {args : Array Value} {below : List Frame} {meth : Method} {c : Code} {T : State} {locs : List Loc} {cells slots : Nat}
theorem mt_step {w8 : Nat} (he : w8 = 8) (Y : Stand p l e R s m args below meth c T locs cells slots) (hx : p.tables.exec = Jvm.exec) {own : String} {idx : Nat} (hown : s.vm.findClass own = some m.cls) (hw : (Cond.classLink own idx "[[[I").before args s = true)
    (hover3 : (Cond.arrayOver (.array (.array .int))).before args s = true) (hover : (Cond.arrayOver (.array .int)).before args s = true) (hw2 : (Cond.arrayClass .int).before args s = true) {cT cO cI : ClassId} (fT : s.vm.findClass "[[[I" = some cT) (fO : s.vm.findClass "[[I" = some cO) (fI : s.vm.findClass "[I" = some cI)
    {g : JFrame} (hg : g.method = m) (hd : decode c.code g.pc = .ok (.multianewarray idx 3, 4)) {x y z : Int32} {rest : List Value} (hst : g.stack = .int z :: .int y :: .int x :: rest) (hxa : x.toNatClampNeg = 5) (hyb : y.toNatClampNeg = w8) (hzc : z.toNatClampNeg = 4) (hx0 : ¬ x < 0) (hy0 : ¬ y < 0) (hz0 : ¬ z < 0)
    (hf : cells + 46 ≤ R.cells ∧ slots + 205 ≤ R.slots) :
    ∃ vm1, Stand p l e R s m args below meth c (mt_S (T.setVm vm1) cT cO cI w8 5) locs (cells + 46) (slots + 205) ∧
      ∀ t, Steps p.tables e below ((mt_S (T.setVm vm1) cT cO cI w8 5).setTop { g with pc := g.pc + 4, stack := .ref T.heap.size :: rest }) t → Steps p.tables e below (T.setTop g) t := by
  subst hg
  obtain ⟨k0, hk0, hkd0⟩ := mt_over hover3 fT fO
  obtain ⟨k, hk, hkd⟩ := mn_over hover fO fI
  obtain ⟨c2, k2, q, g1, hk2, hkd2⟩ := Cond.arrayClass_spec hw2
  obtain rfl : c2 = cI := Option.some.inj (g1.symm.trans fI)
  have hmg : e.platform.magicAccessors = ({} : Platform).magicAccessors := by rw [Y.admits.platform]
  obtain ⟨c0, g3, hcl⟩ := Cond.classLink_spec hown hw e.platform hmg
  obtain rfl : c0 = cT := Option.some.inj (g3.symm.trans fT)
  obtain ⟨r1, r2, -⟩ := State.classEntry (e := e) Y.warmed hcl
  generalize T.vm.noted g.method.cls idx (.cls c0) = vm1 at r1 r2
  have Y1 := Y.noted r2
  obtain ⟨u1, u2⟩ := Y.roomAbove hf.1 hf.2
  have YF := mt_S_stand Y1 c0 cO c2 he 5
  refine ⟨vm1, YF, fun t ht => ?_⟩
  obtain ⟨k0', hk0', ek0⟩ := r2.alike.2.2 _ _ hk0
  obtain ⟨k', hk', ek⟩ := r2.alike.2.2 _ _ hk
  obtain ⟨k2', hk2', ek2⟩ := r2.alike.2.2 _ _ hk2
  have L1 : e.platform.arrayLengthLimit ≥ 1000 := by rw [Launch.admits_arrayLengthLimit Y.admits]; exact Nat.le_of_ble_eq_true rfl
  have L2 : e.platform.maxHeapBytes ≥ 4000 := by rw [Launch.admits_maxHeapBytes Y.admits]; exact Nat.le_of_ble_eq_true rfl
  jvm_step Y.here [hx, hd]
  simp only [multianewarray.sem, wp_bind', W.resolveClassAt_links (State.method?_setTop g Y.here.top) r1]
  rw [W.popN, if_neg (by decide)]
  refine ⟨g, State.topJava?_setTop' (s := T.setVm vm1) g Y.here.top, [.int x, .int y, .int z], rest, rfl, hst, ?_⟩
  simp only [List.mapM_cons, List.mapM_nil, wp_bind', wp_pure']
  have e1 : ((T.setTop g).setVm vm1).setTop { g with stack := rest } = (T.setVm vm1).setTop { g with stack := rest } := State.setTop_setTop (T.setVm vm1) g _
  rw [e1]
  refine mt_make he (s := (T.setVm vm1).setTop { g with stack := rest }) (k0 := k0') (k := k') (k2 := k2') (q := q) hxa hyb hzc hx0 hy0 hz0 hk0' (by rw [ek0]; exact hkd0) hk' (by rw [ek]; exact hkd) hk2' (by rw [ek2]; exact hkd2) L1 L2 u1 u2 fun d' acts' => ?_
  rw [mt_S_top]
  simp only [wp_bind', W.mark, W.pushRef, State.topJava?_setTop' _ YF.here.top, Option.some.injEq, exists_eq_left', State.setTop_setTop, State.heap_setTop]
  intro acts2
  simp [jvm, YF.here.top]
  exact ht
end MTT
def mtK (K : jj_K) (n : Nat) : jj_K := fun q => if q = n then some (16, 5) else if n < q ∧ q ≤ n + 45 then (if (q - n - 1) % 9 = 0 then some (15, 8) else some (10, 4)) else K q
def mtI (I : jj_I) (n : Nat) : jj_I := fun q => if n < q ∧ q ≤ n + 45 then (fun _ => 0) else I q
def mtP (P : jj_P) (n : Nat) : jj_P := fun q => if q = n then (fun k => if k < 5 then some (n + 1 + 9 * k) else none) else if n < q ∧ q ≤ n + 45 then (fun k => if k < 8 then some (q + 1 + k) else none) else P q
section JMT
variable {X : jj_X} {D : jj_D} {cc : ByteArray} {own nm : String} {nL : Nat} {ret : Option FieldType} {rm : Room} {tb : List ExceptionTableEntry} {cs sl : Nat} {Q : State → Prop} {n : Nat} {K : jj_K} {I : jj_I} {P : jj_P} {G : jj_G} {pc : Nat} {L : List (Option Value)} {rest : List Value}
theorem jr_mt (hX : jj_Cx X D cc own nL ret nm rm tb) (hSt : jj_St X D) {idx : Nat} (hw : Cond.classLink own idx "[[[I" ∈ jj_W) (hw2 : Cond.arrayClass .int ∈ jj_W) (hd : decode cc pc = .ok (.multianewarray idx 3, 4)) (hf : cs + 46 ≤ rm.cells ∧ sl + 205 ≤ rm.slots)
    (kk : jj_J X D nL (cs + 46) (sl + 205) Q (n + 46) (mtK K n) (mtI I n) (mtP P n) G (pc + 4) L (.ref n :: rest)) : jj_J X D nL cs sl Q n K I P G pc L (.int 4 :: .int 8 :: .int 5 :: rest) := by
  obtain ⟨p, l, e, R, s, m, args, below, meth, c⟩ := X
  obtain ⟨hx, hb, -, -, hml, hown, -, -, hRR, hts, -, hi, hi2, hKK, hZ⟩ := hX
  subst hRR
  intro H locs ls hz hK hS hl
  have htop := jj_ad_top hz (Nat.le_trans hi2 hS.1)
  have hover : (Cond.arrayOver (.array .int)).before args s = true := hSt.2.1 (.arrayOver (.array .int)) (by simp [jj_trav])
  have hover3 : (Cond.arrayOver (.array (.array .int))).before args s = true := hSt.2.1 (.arrayOver (.array (.array .int))) (by simp [jj_trav])
  intro T hT Y
  have fT : s.vm.findClass "[[[I" = some (D.2.1 16) := (hKK.2 6 _ rfl).2
  have fO : s.vm.findClass "[[I" = some (D.2.1 15) := (hKK.2 5 _ rfl).2
  have fI : s.vm.findClass "[I" = some (D.2.1 10) := (hKK.2 0 _ rfl).2
  obtain ⟨w8, he⟩ : ∃ w8, w8 = 8 := ⟨8, rfl⟩
  obtain ⟨vm1, Y2, step⟩ := mt_step he Y hx hown (hts _ hw) hover3 hover (hts _ hw2) fT fO fI (g := F0 m pc ls ((.int 4 :: .int 8 :: .int 5 :: rest : List Value).map (jj_tr D))) rfl (by rw [hb]; exact hd) (rest := rest.map (jj_tr D)) rfl (by decide) (by rw [he]; decide) (by decide) (by decide) (by decide) (by decide) hf
  have hTh : (T.setVm vm1).heap = H := hT
  have hF := mt_S_size (T.setVm vm1) (D.2.1 16) (D.2.1 15) (D.2.1 10) he 5
  have hOut := mt_S_out (T.setVm vm1) (D.2.1 16) (D.2.1 15) (D.2.1 10) he 5
  have hold := fun (q : Nat) (h : q < (T.setVm vm1).heap.size) => mt_S_old (T.setVm vm1) (D.2.1 16) (D.2.1 15) (D.2.1 10) he h 5
  have hmid := mt_S_mid (T.setVm vm1) (D.2.1 16) (D.2.1 15) (D.2.1 10) he 5
  have hrow := mt_S_row (T.setVm vm1) (D.2.1 16) (D.2.1 15) (D.2.1 10) he 5
  rw [hTh] at hF hOut hold hrow hmid
  generalize mt_S (T.setVm vm1) (D.2.1 16) (D.2.1 15) (D.2.1 10) w8 5 = F at Y2 step hF hOut hold hrow hmid
  subst he
  have had : ∀ j, jj_ad D (n + j) = H.size + j := fun j => by
    obtain ⟨k, rfl⟩ : ∃ k, n = k + 1 := ⟨n - 1, by have := Nat.le_trans hi2 hS.1; omega⟩
    rw [show k + 1 + j = (k + j) + 1 by omega]
    show D.2.2.2 + (k + j) = H.size + j
    omega
  have hHn : jj_H D (mtK K n) (n + 46) (mtI I n) (mtP P n) G F.heap := by
    intro q kd hq
    unfold mtK at hq
    by_cases e1 : q = n
    · subst e1
      rw [if_pos rfl] at hq
      cases hq
      refine ⟨by omega, ?_⟩
      rw [jj_ent_a (by decide), htop]
      show F.heap[H.size]? = some (vp_cell (D.2.1 16) (5, .inr (.inr (.inr (.inr (fun k => (mtP P q q k).map (jj_ad D)))))))
      rw [hOut, vp_cell_q]
      refine congrArg (fun z => some (arrV (D.2.1 16) 5 z)) (funext fun j => ?_)
      unfold mtP
      rw [if_pos rfl]
      by_cases h : j < 5
      · rw [if_pos h, if_pos h]
        show va_rf (some (H.size + 1 + 9 * j)) = va_rf (some (jj_ad D (q + 1 + 9 * j)))
        rw [show q + 1 + 9 * j = q + (1 + 9 * j) by omega, had, show H.size + 1 + 9 * j = H.size + (1 + 9 * j) by omega]
      · rw [if_neg h, if_neg h]; rfl
    · rw [if_neg e1] at hq
      by_cases e2 : n < q ∧ q ≤ n + 45
      · rw [if_pos e2] at hq
        have hpq : mtP P n q = fun k => if k < 8 then some (q + 1 + k) else none := by unfold mtP; rw [if_neg e1, if_pos e2]
        have hiq : mtI I n q = fun _ => 0 := if_pos e2
        obtain ⟨j, hj⟩ : ∃ j, j = (q - n - 1) / 9 := ⟨_, rfl⟩
        have hj5 : j < 5 := by omega
        by_cases e3 : (q - n - 1) % 9 = 0
        · rw [if_pos e3] at hq
          cases hq
          obtain rfl : q = n + (1 + 9 * j) := by omega
          refine ⟨by omega, ?_⟩
          rw [jj_ent_a (by decide), had]
          show F.heap[H.size + (1 + 9 * j)]? = some (vp_cell (D.2.1 15) (8, .inr (.inr (.inr (.inr (fun k => (mtP P n (n + (1 + 9 * j)) k).map (jj_ad D)))))))
          rw [hmid j hj5, vp_cell_q, hpq]
          refine congrArg (fun z => some (arrV (D.2.1 15) 8 z)) (funext fun k => ?_)
          dsimp only
          by_cases h : k < 8
          · rw [if_pos h, if_pos h]
            show va_rf (some (H.size + (1 + 9 * j) + 1 + k)) = va_rf (some (jj_ad D (n + (1 + 9 * j) + 1 + k)))
            rw [show n + (1 + 9 * j) + 1 + k = n + (1 + 9 * j + 1 + k) by omega, had, show H.size + (1 + 9 * j) + 1 + k = H.size + (1 + 9 * j + 1 + k) by omega]
          · rw [if_neg h, if_neg h]; rfl
        · rw [if_neg e3] at hq
          cases hq
          obtain ⟨k, hk8, rfl⟩ : ∃ k, k < 8 ∧ q = n + ((1 + 9 * j) + (1 + k)) := ⟨(q - n - 1) % 9 - 1, by omega, by omega⟩
          refine ⟨by omega, ?_⟩
          rw [jj_ent_a (by decide), had]
          show F.heap[H.size + ((1 + 9 * j) + (1 + k))]? = some (vp_cell (D.2.1 10) (4, .inl (mtI I n (n + ((1 + 9 * j) + (1 + k))))))
          rw [hiq, vp_cell_i, ← Nat.add_assoc]
          exact hrow j k hj5 hk8
      · rw [if_neg e2] at hq
        have h1 := hK q kd hq
        refine ⟨by omega, ?_⟩
        rw [jj_ent_cg (I := I) (P := P) (G := G) (show mtI I n q = I q from if_neg e2) (show mtP P n q = P q by unfold mtP; rw [if_neg e1, if_neg e2]) rfl kd]
        exact h1.2.kept (hold _ h1.2.lt)
  obtain ⟨t, a9, b9⟩ := kk F.heap locs ls (by rw [hF]; omega) hHn ⟨by rw [hF]; exact Nat.le_trans hS.1 (by omega), fun q h1 h2 => (hold q (Nat.lt_of_lt_of_le h1 hS.1)).trans (hS.2.1 q h1 h2), hS.2.2⟩ hl F rfl Y2
  refine ⟨t, step t ?_, b9⟩
  rw [show List.map (jj_tr D) (Value.ref n :: rest) = Value.ref (jj_ad D n) :: List.map (jj_tr D) rest from rfl, htop] at a9
  rw [show T.heap.size = H.size by rw [hT]]
  exact a9
end JMT
