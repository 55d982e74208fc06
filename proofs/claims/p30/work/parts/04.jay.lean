/-! The run's own memory: addresses counted from the script (0) on, ints, references and longs apart -/
abbrev jj_X : Type := Program × Launch × Env × Room × State × MethodId × Array Value × List Frame × Method × Code
abbrev jj_D : Type := va_G × (Nat → ClassId) × Nat × Nat
abbrev jj_K : Type := Nat → Option (Nat × Nat)
abbrev jj_I : Type := Nat → Nat → Int32
abbrev jj_P : Type := Nat → Nat → Option Nat
abbrev jj_G : Type := Nat → Nat → Int64
def jj_ad (D : jj_D) : Nat → Nat
  | 0 => D.2.2.1
  | i + 1 => D.2.2.2 + i
def jj_tr (D : jj_D) : Value → Value
  | .ref a => .ref (jj_ad D a)
  | v => v
def jj_rf (D : jj_D) (r : Option Nat) : Value := va_rf (r.map (jj_ad D))
def jj_N : Nat → Nat
  | 0 => 9
  | 1 => 7
  | 2 => 2
  | 3 => 7
  | 4 => 7
  | 5 => 4
  | 6 => 9
  | 7 => 9
  | _ => 0
def jj_isR : Nat → Nat → Bool
  | 0, k => k == 8
  | 1, _ => false
  | 2, k => k == 1
  | 3, k => decide (2 ≤ k)
  | 4, k => k == 0 || decide (4 ≤ k)
  | 5, _ => true
  | 6, k => k == 8
  | 7, k => decide (k < 8)
  | _, _ => false
def jj_val (D : jj_D) (I : jj_I) (P : jj_P) (c a k : Nat) : Value := if jj_isR c k then jj_rf D (P a k) else .int (I a k)
def jj_fs (D : jj_D) (I : jj_I) (P : jj_P) (c a : Nat) : List Value := (List.range (jj_N c)).map (jj_val D I P c a)
def jj_arr (D : jj_D) (I : jj_I) (P : jj_P) (G : jj_G) (t len a : Nat) : vp_A :=
  if t = 10 then (len, .inl (I a)) else if t = 11 then (len, .inr (.inl (G a))) else (len, .inr (.inr (.inr (.inr (fun k => (P a k).map (jj_ad D))))))
def jj_ent (D : jj_D) (I : jj_I) (P : jj_P) (G : jj_G) (a : Nat) (kd : Nat × Nat) : va_E :=
  if kd.1 < 10 then .inr (kd.1, jj_fs D I P kd.1 a) else .inl (D.2.1 kd.1, jj_arr D I P G kd.1 kd.2 a)
def jj_A (D : jj_D) : Nat → Prop := fun q => D.2.2.2 ≤ q
def jj_tys (D : jj_D) : List (ClassId × FieldType) := [(D.2.1 10, .int), (D.2.1 11, .int), (D.2.1 12, .object "IceHarbour$Boat"), (D.2.1 13, .object "IceHarbour$Debt"), (D.2.1 14, .object "IceHarbour$Merchant"), (D.2.1 15, .array .int), (D.2.1 16, .array (.array .int)), (D.2.1 17, .object "IceHarbourLaw$Boat")]
def jj_H (D : jj_D) (K : jj_K) (n : Nat) (I : jj_I) (P : jj_P) (G : jj_G) (H : Heap) : Prop :=
  ∀ (a : Nat) (kd : Nat × Nat), K a = some kd → a < n ∧ va_at D.1 vwCl (jj_ad D a, jj_ent D I P G a kd) H
/-- the script, as any frame may read it -/
def jj_Sc (D : jj_D) (U : State) (H : Heap) : Prop := D.2.2.1 < D.2.2.2 ∧ ∃ L xs, L ≤ 1000000 ∧ va_X D.2.2.1 L xs U H
def jj_Z (D : jj_D) (U : State) (H : Heap) : Prop := vx_Zq Bundle.tN "UNASSIGNED_STACK" Bundle.steD (jj_A D) U H ∧ vx_Zq Bundle.tN "SUPPRESSED_SENTINEL" Bundle.listD (jj_A D) U H ∧ jj_Sc D U H
theorem jj_Sc.moved {D : jj_D} {u U : State} {H : Heap} (hvm : u.vm.Alike U.vm) (h : jj_Sc D u H) : jj_Sc D U H := by
  obtain ⟨h0, L, xs, h1, h2⟩ := h
  exact ⟨h0, L, xs, h1, h2.moved hvm⟩
theorem jj_Sc.kept {D : jj_D} {U : State} {H0 H : Heap} {locs : List Loc} (h : jj_Sc D U H0) (hS : va_S (jj_A D) H0 H locs) : jj_Sc D U H := by
  obtain ⟨h0, L, xs, h1, h2⟩ := h
  refine ⟨h0, L, xs, h1, h2.kept ?_⟩
  obtain ⟨scr, h3, -⟩ := h2
  exact hS.2.1 _ (Array.getElem?_eq_some_iff.mp h3).1 (by show ¬ D.2.2.2 ≤ D.2.2.1; omega)
def jj_Inn (D : jj_D) (n : Nat) (K : jj_K) (I : jj_I) (P : jj_P) (G : jj_G) (U : State) : Prop :=
  D.2.2.1 < D.2.2.2 ∧ D.2.2.2 ≤ U.heap.size ∧ U.heap.size + 1 = D.2.2.2 + n ∧ va_K D.1 vwCl (jj_tys D) U ∧ jj_H D K n I P G U.heap ∧ jj_Z D U U.heap
/-- memory written at one place -/
def jj_u {α : Type} (I : Nat → Nat → α) (a k : Nat) (v : α) : Nat → Nat → α := fun a' k' => if a' = a ∧ k' = k then v else I a' k'
def jj_uR {α : Type} (I : Nat → Nat → α) (a : Nat) (f : Nat → α) : Nat → Nat → α := fun a' k' => if a' = a then f k' else I a' k'
def jj_uK (K : jj_K) (a : Nat) (kd : Nat × Nat) : jj_K := fun a' => if a' = a then some kd else K a'
/-- the locals, by their slots -/
def jj_L (D : jj_D) (L : List (Option Value)) : List (Nat × Value) := (List.range L.length).filterMap (fun i => (L[i]?.join).map (fun v => (i, jj_tr D v)))
theorem jj_L_mem {D : jj_D} {L : List (Option Value)} {q : Nat × Value} : q ∈ jj_L D L ↔ ∃ v, L[q.1]? = some (some v) ∧ q.2 = jj_tr D v := by
  unfold jj_L
  rw [List.mem_filterMap]
  constructor
  · rintro ⟨i, hi, h⟩
    obtain ⟨v, hv, rfl⟩ := Option.map_eq_some_iff.mp h
    refine ⟨v, ?_, rfl⟩
    simpa [Option.join_eq_some_iff] using hv
  · rintro ⟨v, h1, h2⟩
    refine ⟨q.1, List.mem_range.mpr (List.getElem?_eq_some_iff.mp h1).1, ?_⟩
    rw [h1]
    obtain ⟨a, b⟩ := q
    simp only [Option.join_some, Option.map_some]
    rw [← h2]
theorem jj_has {D : jj_D} {ls : Array Slot} {nL : Nat} {L : List (Option Value)} (h : lv_has ls nL (jj_L D L)) {i : Nat} {v : Value} (hv : L[i]? = some (some v)) : ls[i]? = some (.val (jj_tr D v)) :=
  h.2.2 (i, jj_tr D v) (jj_L_mem.mpr ⟨v, hv, rfl⟩)
def jj_ok (L : List (Option Value)) : Nat → Bool
  | 0 => true
  | i + 1 => match L[i]? with
    | some (some v) => v.category != 2
    | _ => true
theorem jj_cat (D : jj_D) (v : Value) : (jj_tr D v).category = v.category := by cases v <;> rfl
theorem jj_st1 {D : jj_D} {ls : Array Slot} {nL i : Nat} {v : Value} {L : List (Option Value)} (hk : jj_ok L i = true)
    (h : lv_has ls nL ((i, jj_tr D v) :: (jj_L D L).filter (fun q => !(q.1 == i) && !(q.1 + 1 == i && q.2.category == 2)))) : lv_has ls nL (jj_L D (L.set i (some v))) := by
  refine ⟨h.1, h.2.1, fun q hq => h.2.2 q ?_⟩
  obtain ⟨w, h1, h2⟩ := jj_L_mem.mp hq
  obtain ⟨j, x⟩ := q
  dsimp only at h1 h2
  by_cases hj : j = i
  · subst hj
    rw [List.getElem?_set_self' ] at h1
    cases hL : L[j]? with
    | none => rw [hL] at h1; simp at h1
    | some z =>
      rw [hL] at h1
      simp at h1
      subst h1
      rw [h2]
      exact List.mem_cons_self
  · rw [List.getElem?_set_ne (Ne.symm hj)] at h1
    refine List.mem_cons_of_mem _ (List.mem_filter.mpr ⟨jj_L_mem.mpr ⟨w, h1, h2⟩, ?_⟩)
    have h3 : (j == i) = false := by simp [hj]
    by_cases h4 : j + 1 = i
    · subst h4
      simp only [jj_ok, h1] at hk
      have h5 : ¬ w.category = 2 := by simpa using hk
      simp [h2, jj_cat, h5]
    · simp [hj, h4]
theorem jj_st2 {D : jj_D} {ls : Array Slot} {nL i : Nat} {v : Value} {L : List (Option Value)} (hk : jj_ok L i = true)
    (h : lv_has ls nL ((i, jj_tr D v) :: (jj_L D L).filter (fun q => !(q.1 == i) && (!(q.1 == i + 1) && !(q.1 + 1 == i && q.2.category == 2))))) : lv_has ls nL (jj_L D ((L.set i (some v)).set (i + 1) none)) := by
  refine ⟨h.1, h.2.1, fun q hq => h.2.2 q ?_⟩
  obtain ⟨w, h1, h2⟩ := jj_L_mem.mp hq
  obtain ⟨j, x⟩ := q
  dsimp only at h1 h2
  by_cases hj1 : j = i + 1
  · subst hj1
    rw [List.getElem?_set_self'] at h1
    cases hL : (L.set i (some v))[i + 1]? with
    | none => rw [hL] at h1; simp at h1
    | some z => rw [hL] at h1; simp at h1
  · rw [List.getElem?_set_ne (Ne.symm hj1)] at h1
    by_cases hj : j = i
    · subst hj
      rw [List.getElem?_set_self'] at h1
      cases hL : L[j]? with
      | none => rw [hL] at h1; simp at h1
      | some z =>
        rw [hL] at h1
        simp at h1
        subst h1
        rw [h2]
        exact List.mem_cons_self
    · rw [List.getElem?_set_ne (Ne.symm hj)] at h1
      refine List.mem_cons_of_mem _ (List.mem_filter.mpr ⟨jj_L_mem.mpr ⟨w, h1, h2⟩, ?_⟩)
      by_cases h4 : j + 1 = i
      · subst h4
        simp only [jj_ok, h1] at hk
        have h5 : ¬ w.category = 2 := by simpa using hk
        simp [h2, jj_cat, h5]
        omega
      · simp [hj, h4, hj1]
/-- what a method's walk knows of its surroundings -/
def jj_Cx (X : jj_X) (D : jj_D) (cc : ByteArray) (own : String) (nL : Nat) (ret : Option FieldType) (nm : String) (rm : Room) (tb : List ExceptionTableEntry) : Prop :=
  match X with
  | (p, l, _, R, s, m, args, _, meth, c) => p.tables.exec = Jvm.exec ∧ c.code = cc ∧ meth.sig.returnType = ret ∧ meth.name = nm ∧ c.maxLocals = nL ∧ s.vm.findClass own = some m.cls ∧ meth.locks = false ∧ l.stackTraces = false ∧ R = rm ∧
    (∀ w ∈ jj_W, w.before args s = true) ∧ c.exceptionTable.toList = tb ∧ D.2.2.1 < D.2.2.2 ∧ D.2.2.2 ≤ s.heap.size ∧ va_K D.1 vwCl (jj_tys D) s ∧ jj_Z D s s.heap
def jj_J (X : jj_X) (D : jj_D) (nL cs sl : Nat) (Q : State → Prop) (n : Nat) (K : jj_K) (I : jj_I) (P : jj_P) (G : jj_G) (pc : Nat) (L : List (Option Value)) (st : List Value) : Prop :=
  match X with
  | (p, l, e, R, s, m, args, below, meth, c) => ∀ (H : Heap) (locs : List Loc) (ls : Array Slot), H.size + 1 = D.2.2.2 + n → jj_H D K n I P G H → va_S (jj_A D) s.heap H locs → lv_has ls nL (jj_L D L) →
    W p l e R s m args below meth c H locs cs sl Q (F0 m pc ls (st.map (jj_tr D)))
theorem jj_ad_inj {D : jj_D} (h : D.2.2.1 < D.2.2.2) : ∀ {a b : Nat}, jj_ad D a = jj_ad D b → a = b
  | 0, 0, _ => rfl
  | 0, b + 1, e => by simp only [jj_ad] at e; omega
  | a + 1, 0, e => by simp only [jj_ad] at e; omega
  | a + 1, b + 1, e => by simp only [jj_ad] at e; omega
theorem jj_ad_A {D : jj_D} {a : Nat} (h : 0 < a) : jj_A D (jj_ad D a) := by
  obtain ⟨b, rfl⟩ : ∃ b, a = b + 1 := ⟨a - 1, by omega⟩
  show D.2.2.2 ≤ D.2.2.2 + b
  omega
/-- behind a store in the cell a -/
theorem jj_H_st {D : jj_D} {K : jj_K} {n : Nat} {I I' : jj_I} {P P' : jj_P} {G G' : jj_G} {H H1 : Heap} (hK : jj_H D K n I P G H) (hi : D.2.2.1 < D.2.2.2) {a : Nat}
    (he : ∀ kd, K a = some kd → va_at D.1 vwCl (jj_ad D a, jj_ent D I' P' G' a kd) H1) (oq : ∀ q : Nat, q ≠ jj_ad D a → H1[q]? = H[q]?)
    (ho : ∀ (b : Nat) (kd : Nat × Nat), b ≠ a → jj_ent D I' P' G' b kd = jj_ent D I P G b kd) : jj_H D K n I' P' G' H1 := by
  intro b kd hb
  refine ⟨(hK b kd hb).1, ?_⟩
  by_cases h : b = a
  · subst h
    exact he kd hb
  · rw [ho b kd h]
    exact (hK b kd hb).2.kept (oq _ (fun e => h (jj_ad_inj hi e)))
/-- behind a new cell -/
theorem jj_H_nw {D : jj_D} {K : jj_K} {n : Nat} {I I' : jj_I} {P P' : jj_P} {G G' : jj_G} {H H1 : Heap} (hK : jj_H D K n I P G H) {kd0 : Nat × Nat}
    (he : va_at D.1 vwCl (jj_ad D n, jj_ent D I' P' G' n kd0) H1) (o1 : ∀ q : Nat, q < H.size → H1[q]? = H[q]?)
    (ho : ∀ (b : Nat) (kd : Nat × Nat), b ≠ n → jj_ent D I' P' G' b kd = jj_ent D I P G b kd) : jj_H D (jj_uK K n kd0) (n + 1) I' P' G' H1 := by
  intro b kd hb
  unfold jj_uK at hb
  by_cases h : b = n
  · subst h
    rw [if_pos rfl] at hb
    cases hb
    exact ⟨Nat.lt_succ_self _, he⟩
  · rw [if_neg h] at hb
    have h1 := hK b kd hb
    refine ⟨Nat.lt_succ_of_lt h1.1, ?_⟩
    rw [ho b kd h]
    exact h1.2.kept (o1 _ h1.2.lt)
theorem jj_ad_top {D : jj_D} {n : Nat} {H : Heap} (hz : H.size + 1 = D.2.2.2 + n) (h : D.2.2.2 ≤ H.size) : jj_ad D n = H.size := by
  obtain ⟨k, rfl⟩ : ∃ k, n = k + 1 := ⟨n - 1, by omega⟩
  show D.2.2.2 + k = H.size
  omega
theorem jj_ent_o {D : jj_D} {I : jj_I} {P : jj_P} {G : jj_G} {a c z : Nat} (h : c < 10) : jj_ent D I P G a (c, z) = .inr (c, jj_fs D I P c a) := if_pos h
theorem jj_ent_a {D : jj_D} {I : jj_I} {P : jj_P} {G : jj_G} {a t z : Nat} (h : 10 ≤ t) : jj_ent D I P G a (t, z) = .inl (D.2.1 t, jj_arr D I P G t z a) := if_neg (by show ¬ t < 10; omega)
theorem jj_ent_cg {D : jj_D} {I I' : jj_I} {P P' : jj_P} {G G' : jj_G} {b : Nat} (h1 : I' b = I b) (h2 : P' b = P b) (h3 : G' b = G b) (kd : Nat × Nat) : jj_ent D I' P' G' b kd = jj_ent D I P G b kd := by
  have hv : ∀ c, jj_val D I' P' c b = jj_val D I P c b := fun c => funext fun k => by simp only [jj_val, h1, h2]
  simp only [jj_ent, jj_fs, jj_arr, hv, h1, h2, h3]
theorem jj_u_ne {α : Type} {I : Nat → Nat → α} {a k b : Nat} {v : α} (h : b ≠ a) : jj_u I a k v b = I b := funext fun j => if_neg (fun e => h e.1)
theorem jj_u_eq {α : Type} {I : Nat → Nat → α} {a k : Nat} {v : α} : jj_u I a k v a k = v := if_pos ⟨rfl, rfl⟩
theorem jj_u_nk {α : Type} {I : Nat → Nat → α} {a k j : Nat} {v : α} (h : j ≠ k) : jj_u I a k v a j = I a j := if_neg (fun e => h e.2)
theorem jj_uR_ne {α : Type} {I : Nat → Nat → α} {a b : Nat} {f : Nat → α} (h : b ≠ a) : jj_uR I a f b = I b := funext fun j => if_neg h
theorem jj_uR_eq {α : Type} {I : Nat → Nat → α} {a : Nat} {f : Nat → α} : jj_uR I a f a = f := funext fun j => if_pos rfl
theorem jj_fs_at {D : jj_D} {I : jj_I} {P : jj_P} {c a k : Nat} (h : k < jj_N c) : (jj_fs D I P c a)[k]? = some (jj_val D I P c a k) := by
  simp [jj_fs, h]
theorem jj_fs_set {D : jj_D} {I I' : jj_I} {P P' : jj_P} {c a k : Nat} {v : Value} (h : jj_val D I' P' c a k = v) (ho : ∀ j, j ≠ k → jj_val D I' P' c a j = jj_val D I P c a j) : (jj_fs D I P c a).set k v = jj_fs D I' P' c a := by
  apply List.ext_getElem?
  intro j
  by_cases hj : j = k
  · subst hj
    rw [List.getElem?_set_self']
    by_cases hl : j < jj_N c
    · rw [jj_fs_at hl, jj_fs_at hl, h]; rfl
    · simp [jj_fs, hl]
  · rw [List.getElem?_set_ne (Ne.symm hj)]
    simp only [jj_fs, List.getElem?_map]
    by_cases hl : j < jj_N c
    · simp [hl, ho j hj]
    · simp [hl]
theorem jj_va1 {D : jj_D} {q : Nat × va_E} {H : Heap} (h : va_at D.1 vwCl q H) : va_P D.1 vwCl [q] H := by
  intro k x hk
  match k, hk with
  | 0, hk => cases hk; exact h
  | k + 1, hk => simp at hk
