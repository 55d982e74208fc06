section JR
variable {X : jj_X} {D : jj_D} {cc : ByteArray} {own nm : String} {nL : Nat} {ret : Option FieldType} {rm : Room} {tb : List ExceptionTableEntry} {cs sl : Nat} {Q : State → Prop} {n : Nat} {K : jj_K} {I : jj_I} {P : jj_P} {G : jj_G} {pc : Nat} {L : List (Option Value)} {rest : List Value}
theorem jr_iadd (hX : jj_Cx X D cc own nL ret nm rm tb) {x y : Int32} (hd : decode cc pc = .ok (.iadd, 1)) (k : jj_J X D nL cs sl Q n K I P G (pc + 1) L (.int (x + y) :: rest)) : jj_J X D nL cs sl Q n K I P G pc L (.int y :: .int x :: rest) := by
  obtain ⟨p, l, e, R, s, m, args, below, meth, c⟩ := X
  obtain ⟨hx, hb, -⟩ := hX
  exact fun H locs ls hz hK hS hl => lv_iadd hx hb hd (k H locs ls hz hK hS hl)
theorem jr_isub (hX : jj_Cx X D cc own nL ret nm rm tb) {x y : Int32} (hd : decode cc pc = .ok (.isub, 1)) (k : jj_J X D nL cs sl Q n K I P G (pc + 1) L (.int (x - y) :: rest)) : jj_J X D nL cs sl Q n K I P G pc L (.int y :: .int x :: rest) := by
  obtain ⟨p, l, e, R, s, m, args, below, meth, c⟩ := X
  obtain ⟨hx, hb, -⟩ := hX
  exact fun H locs ls hz hK hS hl => lv_isub hx hb hd (k H locs ls hz hK hS hl)
theorem jr_imul (hX : jj_Cx X D cc own nL ret nm rm tb) {x y : Int32} (hd : decode cc pc = .ok (.imul, 1)) (k : jj_J X D nL cs sl Q n K I P G (pc + 1) L (.int (x * y) :: rest)) : jj_J X D nL cs sl Q n K I P G pc L (.int y :: .int x :: rest) := by
  obtain ⟨p, l, e, R, s, m, args, below, meth, c⟩ := X
  obtain ⟨hx, hb, -⟩ := hX
  exact fun H locs ls hz hK hS hl => lv_imul hx hb hd (k H locs ls hz hK hS hl)
theorem jr_iand (hX : jj_Cx X D cc own nL ret nm rm tb) {x y : Int32} (hd : decode cc pc = .ok (.iand, 1)) (k : jj_J X D nL cs sl Q n K I P G (pc + 1) L (.int (x &&& y) :: rest)) : jj_J X D nL cs sl Q n K I P G pc L (.int y :: .int x :: rest) := by
  obtain ⟨p, l, e, R, s, m, args, below, meth, c⟩ := X
  obtain ⟨hx, hb, -⟩ := hX
  exact fun H locs ls hz hK hS hl => lv_iand hx hb hd (k H locs ls hz hK hS hl)
theorem jr_ixor (hX : jj_Cx X D cc own nL ret nm rm tb) {x y : Int32} (hd : decode cc pc = .ok (.ixor, 1)) (k : jj_J X D nL cs sl Q n K I P G (pc + 1) L (.int (x ^^^ y) :: rest)) : jj_J X D nL cs sl Q n K I P G pc L (.int y :: .int x :: rest) := by
  obtain ⟨p, l, e, R, s, m, args, below, meth, c⟩ := X
  obtain ⟨hx, hb, -⟩ := hX
  exact fun H locs ls hz hK hS hl => lv_ixor hx hb hd (k H locs ls hz hK hS hl)
theorem jr_idiv (hX : jj_Cx X D cc own nL ret nm rm tb) {x y : Int32} (hd : decode cc pc = .ok (.idiv, 1)) (hne : ¬ y = 0) (k : jj_J X D nL cs sl Q n K I P G (pc + 1) L (.int (x / y) :: rest)) : jj_J X D nL cs sl Q n K I P G pc L (.int y :: .int x :: rest) := by
  obtain ⟨p, l, e, R, s, m, args, below, meth, c⟩ := X
  obtain ⟨hx, hb, -⟩ := hX
  exact fun H locs ls hz hK hS hl => lv_idiv hx hb hd hne (k H locs ls hz hK hS hl)
theorem jr_irem (hX : jj_Cx X D cc own nL ret nm rm tb) {x y : Int32} (hd : decode cc pc = .ok (.irem, 1)) (hne : ¬ y = 0) (k : jj_J X D nL cs sl Q n K I P G (pc + 1) L (.int (x - x / y * y) :: rest)) : jj_J X D nL cs sl Q n K I P G pc L (.int y :: .int x :: rest) := by
  obtain ⟨p, l, e, R, s, m, args, below, meth, c⟩ := X
  obtain ⟨hx, hb, -⟩ := hX
  exact fun H locs ls hz hK hS hl => lv_irem hx hb hd hne (k H locs ls hz hK hS hl)
theorem jr_ineg (hX : jj_Cx X D cc own nL ret nm rm tb) {x : Int32} (hd : decode cc pc = .ok (.ineg, 1)) (k : jj_J X D nL cs sl Q n K I P G (pc + 1) L (.int (-x) :: rest)) : jj_J X D nL cs sl Q n K I P G pc L (.int x :: rest) := by
  obtain ⟨p, l, e, R, s, m, args, below, meth, c⟩ := X
  obtain ⟨hx, hb, -⟩ := hX
  exact fun H locs ls hz hK hS hl => lv_ineg hx hb hd (k H locs ls hz hK hS hl)
theorem jr_i2l (hX : jj_Cx X D cc own nL ret nm rm tb) {x : Int32} (hd : decode cc pc = .ok (.i2l, 1)) (k : jj_J X D nL cs sl Q n K I P G (pc + 1) L (.long x.toInt64 :: rest)) : jj_J X D nL cs sl Q n K I P G pc L (.int x :: rest) := by
  obtain ⟨p, l, e, R, s, m, args, below, meth, c⟩ := X
  obtain ⟨hx, hb, -⟩ := hX
  exact fun H locs ls hz hK hS hl => lv_i2l hx hb hd rfl (k H locs ls hz hK hS hl)
theorem jr_ladd (hX : jj_Cx X D cc own nL ret nm rm tb) {x y : Int64} (hd : decode cc pc = .ok (.ladd, 1)) (k : jj_J X D nL cs sl Q n K I P G (pc + 1) L (.long (x + y) :: rest)) : jj_J X D nL cs sl Q n K I P G pc L (.long y :: .long x :: rest) := by
  obtain ⟨p, l, e, R, s, m, args, below, meth, c⟩ := X
  obtain ⟨hx, hb, -⟩ := hX
  exact fun H locs ls hz hK hS hl => lv_ladd hx hb hd (k H locs ls hz hK hS hl)
theorem jr_lmul (hX : jj_Cx X D cc own nL ret nm rm tb) {x y : Int64} (hd : decode cc pc = .ok (.lmul, 1)) (k : jj_J X D nL cs sl Q n K I P G (pc + 1) L (.long (x * y) :: rest)) : jj_J X D nL cs sl Q n K I P G pc L (.long y :: .long x :: rest) := by
  obtain ⟨p, l, e, R, s, m, args, below, meth, c⟩ := X
  obtain ⟨hx, hb, -⟩ := hX
  exact fun H locs ls hz hK hS hl => lv_lmul hx hb hd (k H locs ls hz hK hS hl)
theorem jr_lcmp (hX : jj_Cx X D cc own nL ret nm rm tb) {x y : Int64} (hd : decode cc pc = .ok (.lcmp, 1)) (k : jj_J X D nL cs sl Q n K I P G (pc + 1) L (.int (lg_cmp x y) :: rest)) : jj_J X D nL cs sl Q n K I P G pc L (.long y :: .long x :: rest) := by
  obtain ⟨p, l, e, R, s, m, args, below, meth, c⟩ := X
  obtain ⟨hx, hb, -⟩ := hX
  exact fun H locs ls hz hK hS hl => W.lcmp hx hb hd (k H locs ls hz hK hS hl)
theorem jr_i2d (hX : jj_Cx X D cc own nL ret nm rm tb) {x : Int32} (hd : decode cc pc = .ok (.i2d, 1)) (k : jj_J X D nL cs sl Q n K I P G (pc + 1) L (.double (FP.i2d x) :: rest)) : jj_J X D nL cs sl Q n K I P G pc L (.int x :: rest) := by
  obtain ⟨p, l, e, R, s, m, args, below, meth, c⟩ := X
  obtain ⟨hx, hb, -⟩ := hX
  exact fun H locs ls hz hK hS hl => lv_i2d hx hb hd (k H locs ls hz hK hS hl)
theorem jr_ddiv (hX : jj_Cx X D cc own nL ret nm rm tb) {x y : UInt64} (hd : decode cc pc = .ok (.ddiv, 1)) (hne : vf_n64 (FP.ddiv x y)) (k : jj_J X D nL cs sl Q n K I P G (pc + 1) L (.double (FP.ddiv x y) :: rest)) : jj_J X D nL cs sl Q n K I P G pc L (.double y :: .double x :: rest) := by
  obtain ⟨p, l, e, R, s, m, args, below, meth, c⟩ := X
  obtain ⟨hx, hb, -⟩ := hX
  exact fun H locs ls hz hK hS hl => lv_ddiv hx hb hd hne (k H locs ls hz hK hS hl)
theorem jr_dcmp (hX : jj_Cx X D cc own nL ret nm rm tb) {x y : UInt64} {op : CmpOp} (hd : decode cc pc = .ok (.dcmp op, 1)) (k : jj_J X D nL cs sl Q n K I P G (pc + 1) L (.int (Op.cmpValue (FP.dcmp x y) op) :: rest)) : jj_J X D nL cs sl Q n K I P G pc L (.double y :: .double x :: rest) := by
  obtain ⟨p, l, e, R, s, m, args, below, meth, c⟩ := X
  obtain ⟨hx, hb, -⟩ := hX
  exact fun H locs ls hz hK hS hl => lv_dcmp hx hb hd (k H locs ls hz hK hS hl)
theorem jr_dconst0 (hX : jj_Cx X D cc own nL ret nm rm tb) (hd : decode cc pc = .ok (.dconst 0, 1)) (k : jj_J X D nL cs sl Q n K I P G (pc + 1) L (.double FP.dconst0 :: rest)) : jj_J X D nL cs sl Q n K I P G pc L (rest) := by
  obtain ⟨p, l, e, R, s, m, args, below, meth, c⟩ := X
  obtain ⟨hx, hb, -⟩ := hX
  exact fun H locs ls hz hK hS hl => lv_dconst0 hx hb hd (k H locs ls hz hK hS hl)
theorem jr_iconst (hX : jj_Cx X D cc own nL ret nm rm tb) {i : Int} {v : Int32} (hd : decode cc pc = .ok (.iconst i, 1)) (hv : Int32.ofInt i = v) (k : jj_J X D nL cs sl Q n K I P G (pc + 1) L (.int v :: rest)) : jj_J X D nL cs sl Q n K I P G pc L (rest) := by
  obtain ⟨p, l, e, R, s, m, args, below, meth, c⟩ := X
  obtain ⟨hx, hb, -⟩ := hX
  exact fun H locs ls hz hK hS hl => lv_iconst hx hb hd hv (k H locs ls hz hK hS hl)
theorem jr_bipush (hX : jj_Cx X D cc own nL ret nm rm tb) {i : Int} {v : Int32} (hd : decode cc pc = .ok (.bipush i, 2)) (hv : (Int8.ofInt i).toInt32 = v) (k : jj_J X D nL cs sl Q n K I P G (pc + 2) L (.int v :: rest)) : jj_J X D nL cs sl Q n K I P G pc L (rest) := by
  obtain ⟨p, l, e, R, s, m, args, below, meth, c⟩ := X
  obtain ⟨hx, hb, -⟩ := hX
  exact fun H locs ls hz hK hS hl => lv_bipush hx hb hd hv (k H locs ls hz hK hS hl)
theorem jr_sipush (hX : jj_Cx X D cc own nL ret nm rm tb) {i : Int} {v : Int32} (hd : decode cc pc = .ok (.sipush i, 3)) (hv : (Int16.ofInt i).toInt32 = v) (k : jj_J X D nL cs sl Q n K I P G (pc + 3) L (.int v :: rest)) : jj_J X D nL cs sl Q n K I P G pc L (rest) := by
  obtain ⟨p, l, e, R, s, m, args, below, meth, c⟩ := X
  obtain ⟨hx, hb, -⟩ := hX
  exact fun H locs ls hz hK hS hl => lv_sipush hx hb hd hv (k H locs ls hz hK hS hl)
theorem jr_dup (hX : jj_Cx X D cc own nL ret nm rm tb) {v : Value} (hd : decode cc pc = .ok (.dup, 1)) (hc : v.category = 1) (k : jj_J X D nL cs sl Q n K I P G (pc + 1) L (v :: v :: rest)) : jj_J X D nL cs sl Q n K I P G pc L (v :: rest) := by
  obtain ⟨p, l, e, R, s, m, args, below, meth, c⟩ := X
  obtain ⟨hx, hb, -⟩ := hX
  exact fun H locs ls hz hK hS hl => lv_dup hx hb hd (by rw [jj_cat]; exact hc) (k H locs ls hz hK hS hl)
theorem jr_dup2 (hX : jj_Cx X D cc own nL ret nm rm tb) {v w : Value} (hd : decode cc pc = .ok (.dup2, 1)) (hc : v.category = 1) (hc2 : w.category = 1) (k : jj_J X D nL cs sl Q n K I P G (pc + 1) L (v :: w :: v :: w :: rest)) : jj_J X D nL cs sl Q n K I P G pc L (v :: w :: rest) := by
  obtain ⟨p, l, e, R, s, m, args, below, meth, c⟩ := X
  obtain ⟨hx, hb, -⟩ := hX
  exact fun H locs ls hz hK hS hl => lv_dup2_11 hx hb hd (by rw [jj_cat]; exact hc) (by rw [jj_cat]; exact hc2) (k H locs ls hz hK hS hl)
theorem jr_pop (hX : jj_Cx X D cc own nL ret nm rm tb) {v : Value} (hd : decode cc pc = .ok (.pop, 1)) (hc : v.category = 1) (k : jj_J X D nL cs sl Q n K I P G (pc + 1) L (rest)) : jj_J X D nL cs sl Q n K I P G pc L (v :: rest) := by
  obtain ⟨p, l, e, R, s, m, args, below, meth, c⟩ := X
  obtain ⟨hx, hb, -⟩ := hX
  exact fun H locs ls hz hK hS hl => lv_pop hx hb hd (by rw [jj_cat]; exact hc) (k H locs ls hz hK hS hl)
theorem jr_iload (hX : jj_Cx X D cc own nL ret nm rm tb) {i : Nat} {x : Int32} (hd : decode cc pc = .ok (.iload i, 2)) (hL : L[i]? = some (some (.int x))) (k : jj_J X D nL cs sl Q n K I P G (pc + 2) L (.int x :: rest)) : jj_J X D nL cs sl Q n K I P G pc L (rest) := by
  obtain ⟨p, l, e, R, s, m, args, below, meth, c⟩ := X
  obtain ⟨hx, hb, -⟩ := hX
  exact fun H locs ls hz hK hS hl => lv_iload hx hb hd (jj_has hl hL) (k H locs ls hz hK hS hl)
theorem jr_iload_n (hX : jj_Cx X D cc own nL ret nm rm tb) {i : Fin 4} {x : Int32} (hd : decode cc pc = .ok (.iload_n i, 1)) (hL : L[(i : Nat)]? = some (some (.int x))) (k : jj_J X D nL cs sl Q n K I P G (pc + 1) L (.int x :: rest)) : jj_J X D nL cs sl Q n K I P G pc L (rest) := by
  obtain ⟨p, l, e, R, s, m, args, below, meth, c⟩ := X
  obtain ⟨hx, hb, -⟩ := hX
  exact fun H locs ls hz hK hS hl => lv_iload_n hx hb hd rfl (jj_has hl hL) (k H locs ls hz hK hS hl)
theorem jr_lload (hX : jj_Cx X D cc own nL ret nm rm tb) {i : Nat} {x : Int64} (hd : decode cc pc = .ok (.lload i, 2)) (hL : L[i]? = some (some (.long x))) (k : jj_J X D nL cs sl Q n K I P G (pc + 2) L (.long x :: rest)) : jj_J X D nL cs sl Q n K I P G pc L (rest) := by
  obtain ⟨p, l, e, R, s, m, args, below, meth, c⟩ := X
  obtain ⟨hx, hb, -⟩ := hX
  exact fun H locs ls hz hK hS hl => lv_lload hx hb hd (jj_has hl hL) (k H locs ls hz hK hS hl)
theorem jr_lload_n (hX : jj_Cx X D cc own nL ret nm rm tb) {i : Fin 4} {x : Int64} (hd : decode cc pc = .ok (.lload_n i, 1)) (hL : L[(i : Nat)]? = some (some (.long x))) (k : jj_J X D nL cs sl Q n K I P G (pc + 1) L (.long x :: rest)) : jj_J X D nL cs sl Q n K I P G pc L (rest) := by
  obtain ⟨p, l, e, R, s, m, args, below, meth, c⟩ := X
  obtain ⟨hx, hb, -⟩ := hX
  exact fun H locs ls hz hK hS hl => lv_lload_n hx hb hd rfl (jj_has hl hL) (k H locs ls hz hK hS hl)
theorem jr_aload (hX : jj_Cx X D cc own nL ret nm rm tb) {i : Nat} {x : Nat} (hd : decode cc pc = .ok (.aload i, 2)) (hL : L[i]? = some (some (.ref x))) (k : jj_J X D nL cs sl Q n K I P G (pc + 2) L (.ref x :: rest)) : jj_J X D nL cs sl Q n K I P G pc L (rest) := by
  obtain ⟨p, l, e, R, s, m, args, below, meth, c⟩ := X
  obtain ⟨hx, hb, -⟩ := hX
  exact fun H locs ls hz hK hS hl => lv_aload hx hb hd (jj_has hl hL) (k H locs ls hz hK hS hl)
theorem jr_aload_n (hX : jj_Cx X D cc own nL ret nm rm tb) {i : Fin 4} {x : Nat} (hd : decode cc pc = .ok (.aload_n i, 1)) (hL : L[(i : Nat)]? = some (some (.ref x))) (k : jj_J X D nL cs sl Q n K I P G (pc + 1) L (.ref x :: rest)) : jj_J X D nL cs sl Q n K I P G pc L (rest) := by
  obtain ⟨p, l, e, R, s, m, args, below, meth, c⟩ := X
  obtain ⟨hx, hb, -⟩ := hX
  exact fun H locs ls hz hK hS hl => lv_aload_n hx hb hd rfl (jj_has hl hL) (k H locs ls hz hK hS hl)
theorem jr_dload (hX : jj_Cx X D cc own nL ret nm rm tb) {i : Nat} {x : UInt64} (hd : decode cc pc = .ok (.dload i, 2)) (hL : L[i]? = some (some (.double x))) (k : jj_J X D nL cs sl Q n K I P G (pc + 2) L (.double x :: rest)) : jj_J X D nL cs sl Q n K I P G pc L (rest) := by
  obtain ⟨p, l, e, R, s, m, args, below, meth, c⟩ := X
  obtain ⟨hx, hb, -⟩ := hX
  exact fun H locs ls hz hK hS hl => lv_dload hx hb hd (jj_has hl hL) (k H locs ls hz hK hS hl)
theorem jr_dload_n (hX : jj_Cx X D cc own nL ret nm rm tb) {i : Fin 4} {x : UInt64} (hd : decode cc pc = .ok (.dload_n i, 1)) (hL : L[(i : Nat)]? = some (some (.double x))) (k : jj_J X D nL cs sl Q n K I P G (pc + 1) L (.double x :: rest)) : jj_J X D nL cs sl Q n K I P G pc L (rest) := by
  obtain ⟨p, l, e, R, s, m, args, below, meth, c⟩ := X
  obtain ⟨hx, hb, -⟩ := hX
  exact fun H locs ls hz hK hS hl => lv_dload_n hx hb hd rfl (jj_has hl hL) (k H locs ls hz hK hS hl)
theorem jr_istore (hX : jj_Cx X D cc own nL ret nm rm tb) {i : Nat} {x : Int32} (hd : decode cc pc = .ok (.istore i, 2)) (hk : (jj_ok L i && Nat.ble (i + 1) nL) = true) (k : jj_J X D nL cs sl Q n K I P G (pc + 2) (L.set i (some (.int x))) rest) : jj_J X D nL cs sl Q n K I P G pc L (.int x :: rest) := by
  obtain ⟨p, l, e, R, s, m, args, below, meth, c⟩ := X
  obtain ⟨hx, hb, -⟩ := hX
  have hk1 := (Bool.and_eq_true_iff.mp hk).1
  have hk2 := Nat.le_of_ble_eq_true (Bool.and_eq_true_iff.mp hk).2
  exact fun H locs ls hz hK hS hl => lv_istore hx hb hd hl (by omega) rfl (fun ls1 h1 => k H locs ls1 hz hK hS (jj_st1 (v := .int x) hk1 h1))
theorem jr_istore_n (hX : jj_Cx X D cc own nL ret nm rm tb) {i : Fin 4} {x : Int32} (hd : decode cc pc = .ok (.istore_n i, 1)) (hk : (jj_ok L (i : Nat) && Nat.ble ((i : Nat) + 1) nL) = true) (k : jj_J X D nL cs sl Q n K I P G (pc + 1) (L.set (i : Nat) (some (.int x))) rest) : jj_J X D nL cs sl Q n K I P G pc L (.int x :: rest) := by
  obtain ⟨p, l, e, R, s, m, args, below, meth, c⟩ := X
  obtain ⟨hx, hb, -⟩ := hX
  have hk1 := (Bool.and_eq_true_iff.mp hk).1
  have hk2 := Nat.le_of_ble_eq_true (Bool.and_eq_true_iff.mp hk).2
  exact fun H locs ls hz hK hS hl => lv_istore_n hx hb hd rfl hl (by omega) rfl (fun ls1 h1 => k H locs ls1 hz hK hS (jj_st1 (v := .int x) hk1 h1))
theorem jr_lstore (hX : jj_Cx X D cc own nL ret nm rm tb) {i : Nat} {x : Int64} (hd : decode cc pc = .ok (.lstore i, 2)) (hk : (jj_ok L i && Nat.ble (i + 2) nL) = true) (k : jj_J X D nL cs sl Q n K I P G (pc + 2) ((L.set i (some (.long x))).set (i + 1) none) rest) : jj_J X D nL cs sl Q n K I P G pc L (.long x :: rest) := by
  obtain ⟨p, l, e, R, s, m, args, below, meth, c⟩ := X
  obtain ⟨hx, hb, -⟩ := hX
  have hk1 := (Bool.and_eq_true_iff.mp hk).1
  have hk2 := Nat.le_of_ble_eq_true (Bool.and_eq_true_iff.mp hk).2
  exact fun H locs ls hz hK hS hl => lv_lstore hx hb hd hl (by omega) rfl (fun ls1 h1 => k H locs ls1 hz hK hS (jj_st2 (v := .long x) hk1 h1))
theorem jr_lstore_n (hX : jj_Cx X D cc own nL ret nm rm tb) {i : Fin 4} {x : Int64} (hd : decode cc pc = .ok (.lstore_n i, 1)) (hk : (jj_ok L (i : Nat) && Nat.ble ((i : Nat) + 2) nL) = true) (k : jj_J X D nL cs sl Q n K I P G (pc + 1) ((L.set (i : Nat) (some (.long x))).set ((i : Nat) + 1) none) rest) : jj_J X D nL cs sl Q n K I P G pc L (.long x :: rest) := by
  obtain ⟨p, l, e, R, s, m, args, below, meth, c⟩ := X
  obtain ⟨hx, hb, -⟩ := hX
  have hk1 := (Bool.and_eq_true_iff.mp hk).1
  have hk2 := Nat.le_of_ble_eq_true (Bool.and_eq_true_iff.mp hk).2
  exact fun H locs ls hz hK hS hl => lv_lstore_n hx hb hd rfl hl (by omega) rfl (fun ls1 h1 => k H locs ls1 hz hK hS (jj_st2 (v := .long x) hk1 h1))
theorem jr_astore (hX : jj_Cx X D cc own nL ret nm rm tb) {i : Nat} {x : Nat} (hd : decode cc pc = .ok (.astore i, 2)) (hk : (jj_ok L i && Nat.ble (i + 1) nL) = true) (k : jj_J X D nL cs sl Q n K I P G (pc + 2) (L.set i (some (.ref x))) rest) : jj_J X D nL cs sl Q n K I P G pc L (.ref x :: rest) := by
  obtain ⟨p, l, e, R, s, m, args, below, meth, c⟩ := X
  obtain ⟨hx, hb, -⟩ := hX
  have hk1 := (Bool.and_eq_true_iff.mp hk).1
  have hk2 := Nat.le_of_ble_eq_true (Bool.and_eq_true_iff.mp hk).2
  exact fun H locs ls hz hK hS hl => lv_astore hx hb hd hl (by omega) rfl (fun ls1 h1 => k H locs ls1 hz hK hS (jj_st1 (v := .ref x) hk1 h1))
theorem jr_astore_n (hX : jj_Cx X D cc own nL ret nm rm tb) {i : Fin 4} {x : Nat} (hd : decode cc pc = .ok (.astore_n i, 1)) (hk : (jj_ok L (i : Nat) && Nat.ble ((i : Nat) + 1) nL) = true) (k : jj_J X D nL cs sl Q n K I P G (pc + 1) (L.set (i : Nat) (some (.ref x))) rest) : jj_J X D nL cs sl Q n K I P G pc L (.ref x :: rest) := by
  obtain ⟨p, l, e, R, s, m, args, below, meth, c⟩ := X
  obtain ⟨hx, hb, -⟩ := hX
  have hk1 := (Bool.and_eq_true_iff.mp hk).1
  have hk2 := Nat.le_of_ble_eq_true (Bool.and_eq_true_iff.mp hk).2
  exact fun H locs ls hz hK hS hl => lv_astore_n hx hb hd rfl hl (by omega) rfl (fun ls1 h1 => k H locs ls1 hz hK hS (jj_st1 (v := .ref x) hk1 h1))
theorem jr_dstore (hX : jj_Cx X D cc own nL ret nm rm tb) {i : Nat} {x : UInt64} (hd : decode cc pc = .ok (.dstore i, 2)) (hk : (jj_ok L i && Nat.ble (i + 2) nL) = true) (k : jj_J X D nL cs sl Q n K I P G (pc + 2) ((L.set i (some (.double x))).set (i + 1) none) rest) : jj_J X D nL cs sl Q n K I P G pc L (.double x :: rest) := by
  obtain ⟨p, l, e, R, s, m, args, below, meth, c⟩ := X
  obtain ⟨hx, hb, -⟩ := hX
  have hk1 := (Bool.and_eq_true_iff.mp hk).1
  have hk2 := Nat.le_of_ble_eq_true (Bool.and_eq_true_iff.mp hk).2
  exact fun H locs ls hz hK hS hl => lv_dstore hx hb hd hl (by omega) rfl (fun ls1 h1 => k H locs ls1 hz hK hS (jj_st2 (v := .double x) hk1 h1))
theorem jr_dstore_n (hX : jj_Cx X D cc own nL ret nm rm tb) {i : Fin 4} {x : UInt64} (hd : decode cc pc = .ok (.dstore_n i, 1)) (hk : (jj_ok L (i : Nat) && Nat.ble ((i : Nat) + 2) nL) = true) (k : jj_J X D nL cs sl Q n K I P G (pc + 1) ((L.set (i : Nat) (some (.double x))).set ((i : Nat) + 1) none) rest) : jj_J X D nL cs sl Q n K I P G pc L (.double x :: rest) := by
  obtain ⟨p, l, e, R, s, m, args, below, meth, c⟩ := X
  obtain ⟨hx, hb, -⟩ := hX
  have hk1 := (Bool.and_eq_true_iff.mp hk).1
  have hk2 := Nat.le_of_ble_eq_true (Bool.and_eq_true_iff.mp hk).2
  exact fun H locs ls hz hK hS hl => lv_dstore_n hx hb hd rfl hl (by omega) rfl (fun ls1 h1 => k H locs ls1 hz hK hS (jj_st2 (v := .double x) hk1 h1))
theorem jr_iinc (hX : jj_Cx X D cc own nL ret nm rm tb) {i : Nat} {z : Int} {x v : Int32} (hd : decode cc pc = .ok (.iinc i z, 3)) (hL : L[i]? = some (some (.int x))) (hv : x + Int32.ofInt z = v) (hk : (jj_ok L i && Nat.ble (i + 1) nL) = true) (k : jj_J X D nL cs sl Q n K I P G (pc + 3) (L.set i (some (.int v))) rest) : jj_J X D nL cs sl Q n K I P G pc L rest := by
  obtain ⟨p, l, e, R, s, m, args, below, meth, c⟩ := X
  obtain ⟨hx, hb, -⟩ := hX
  have hk1 := (Bool.and_eq_true_iff.mp hk).1
  have hk2 := Nat.le_of_ble_eq_true (Bool.and_eq_true_iff.mp hk).2
  intro H locs ls hz hK hS hl
  obtain ⟨j, hj⟩ := List.getElem?_of_mem (jj_L_mem (D := D) (L := L) (q := (i, .int x)).mpr ⟨.int x, hL, rfl⟩)
  exact lv_iinc hx hb hd hl hj hv (by omega) rfl (fun ls1 h1 => k H locs ls1 hz hK hS (jj_st1 (v := .int v) hk1 h1))
theorem jr_if_eq (hX : jj_Cx X D cc own nL ret nm rm tb) {x : Int32} {off : Int} {tgt : Nat} (hd : decode cc pc = .ok (.ifCond .eq off, 3)) (ht : (pc : Int) + off = (tgt : Int)) (kt : x = 0 → jj_J X D nL cs sl Q n K I P G tgt L rest) (kf : ¬ x = 0 → jj_J X D nL cs sl Q n K I P G (pc + 3) L rest) : jj_J X D nL cs sl Q n K I P G pc L (.int x :: rest) := by
  obtain ⟨p, l, e, R, s, m, args, below, meth, c⟩ := X
  obtain ⟨hx, hb, -⟩ := hX
  exact fun H locs ls hz hK hS hl => lv_if_eq hx hb hd ht (fun q => kt q H locs ls hz hK hS hl) (fun q => kf q H locs ls hz hK hS hl)
theorem jr_if_ne (hX : jj_Cx X D cc own nL ret nm rm tb) {x : Int32} {off : Int} {tgt : Nat} (hd : decode cc pc = .ok (.ifCond .ne off, 3)) (ht : (pc : Int) + off = (tgt : Int)) (kt : ¬ x = 0 → jj_J X D nL cs sl Q n K I P G tgt L rest) (kf : x = 0 → jj_J X D nL cs sl Q n K I P G (pc + 3) L rest) : jj_J X D nL cs sl Q n K I P G pc L (.int x :: rest) := by
  obtain ⟨p, l, e, R, s, m, args, below, meth, c⟩ := X
  obtain ⟨hx, hb, -⟩ := hX
  exact fun H locs ls hz hK hS hl => lv_if_ne hx hb hd ht (fun q => kt q H locs ls hz hK hS hl) (fun q => kf q H locs ls hz hK hS hl)
theorem jr_if_lt (hX : jj_Cx X D cc own nL ret nm rm tb) {x : Int32} {off : Int} {tgt : Nat} (hd : decode cc pc = .ok (.ifCond .lt off, 3)) (ht : (pc : Int) + off = (tgt : Int)) (kt : x < 0 → jj_J X D nL cs sl Q n K I P G tgt L rest) (kf : ¬ x < 0 → jj_J X D nL cs sl Q n K I P G (pc + 3) L rest) : jj_J X D nL cs sl Q n K I P G pc L (.int x :: rest) := by
  obtain ⟨p, l, e, R, s, m, args, below, meth, c⟩ := X
  obtain ⟨hx, hb, -⟩ := hX
  exact fun H locs ls hz hK hS hl => lv_if_lt hx hb hd ht (fun q => kt q H locs ls hz hK hS hl) (fun q => kf q H locs ls hz hK hS hl)
theorem jr_if_ge (hX : jj_Cx X D cc own nL ret nm rm tb) {x : Int32} {off : Int} {tgt : Nat} (hd : decode cc pc = .ok (.ifCond .ge off, 3)) (ht : (pc : Int) + off = (tgt : Int)) (kt : 0 ≤ x → jj_J X D nL cs sl Q n K I P G tgt L rest) (kf : ¬ 0 ≤ x → jj_J X D nL cs sl Q n K I P G (pc + 3) L rest) : jj_J X D nL cs sl Q n K I P G pc L (.int x :: rest) := by
  obtain ⟨p, l, e, R, s, m, args, below, meth, c⟩ := X
  obtain ⟨hx, hb, -⟩ := hX
  exact fun H locs ls hz hK hS hl => lv_if_ge hx hb hd ht (fun q => kt q H locs ls hz hK hS hl) (fun q => kf q H locs ls hz hK hS hl)
theorem jr_if_gt (hX : jj_Cx X D cc own nL ret nm rm tb) {x : Int32} {off : Int} {tgt : Nat} (hd : decode cc pc = .ok (.ifCond .gt off, 3)) (ht : (pc : Int) + off = (tgt : Int)) (kt : 0 < x → jj_J X D nL cs sl Q n K I P G tgt L rest) (kf : ¬ 0 < x → jj_J X D nL cs sl Q n K I P G (pc + 3) L rest) : jj_J X D nL cs sl Q n K I P G pc L (.int x :: rest) := by
  obtain ⟨p, l, e, R, s, m, args, below, meth, c⟩ := X
  obtain ⟨hx, hb, -⟩ := hX
  exact fun H locs ls hz hK hS hl => lv_if_gt hx hb hd ht (fun q => kt q H locs ls hz hK hS hl) (fun q => kf q H locs ls hz hK hS hl)
theorem jr_if_le (hX : jj_Cx X D cc own nL ret nm rm tb) {x : Int32} {off : Int} {tgt : Nat} (hd : decode cc pc = .ok (.ifCond .le off, 3)) (ht : (pc : Int) + off = (tgt : Int)) (kt : x ≤ 0 → jj_J X D nL cs sl Q n K I P G tgt L rest) (kf : ¬ x ≤ 0 → jj_J X D nL cs sl Q n K I P G (pc + 3) L rest) : jj_J X D nL cs sl Q n K I P G pc L (.int x :: rest) := by
  obtain ⟨p, l, e, R, s, m, args, below, meth, c⟩ := X
  obtain ⟨hx, hb, -⟩ := hX
  exact fun H locs ls hz hK hS hl => lv_if_le hx hb hd ht (fun q => kt q H locs ls hz hK hS hl) (fun q => kf q H locs ls hz hK hS hl)
theorem jr_icmp_eq (hX : jj_Cx X D cc own nL ret nm rm tb) {x y : Int32} {off : Int} {tgt : Nat} (hd : decode cc pc = .ok (.if_icmp .eq off, 3)) (ht : (pc : Int) + off = (tgt : Int)) (kt : x = y → jj_J X D nL cs sl Q n K I P G tgt L rest) (kf : ¬ x = y → jj_J X D nL cs sl Q n K I P G (pc + 3) L rest) : jj_J X D nL cs sl Q n K I P G pc L (.int y :: .int x :: rest) := by
  obtain ⟨p, l, e, R, s, m, args, below, meth, c⟩ := X
  obtain ⟨hx, hb, -⟩ := hX
  exact fun H locs ls hz hK hS hl => lv_icmp_eq hx hb hd ht (fun q => kt q H locs ls hz hK hS hl) (fun q => kf q H locs ls hz hK hS hl)
theorem jr_icmp_ne (hX : jj_Cx X D cc own nL ret nm rm tb) {x y : Int32} {off : Int} {tgt : Nat} (hd : decode cc pc = .ok (.if_icmp .ne off, 3)) (ht : (pc : Int) + off = (tgt : Int)) (kt : ¬ x = y → jj_J X D nL cs sl Q n K I P G tgt L rest) (kf : x = y → jj_J X D nL cs sl Q n K I P G (pc + 3) L rest) : jj_J X D nL cs sl Q n K I P G pc L (.int y :: .int x :: rest) := by
  obtain ⟨p, l, e, R, s, m, args, below, meth, c⟩ := X
  obtain ⟨hx, hb, -⟩ := hX
  exact fun H locs ls hz hK hS hl => lv_icmp_ne hx hb hd ht (fun q => kt q H locs ls hz hK hS hl) (fun q => kf q H locs ls hz hK hS hl)
theorem jr_icmp_lt (hX : jj_Cx X D cc own nL ret nm rm tb) {x y : Int32} {off : Int} {tgt : Nat} (hd : decode cc pc = .ok (.if_icmp .lt off, 3)) (ht : (pc : Int) + off = (tgt : Int)) (kt : x < y → jj_J X D nL cs sl Q n K I P G tgt L rest) (kf : ¬ x < y → jj_J X D nL cs sl Q n K I P G (pc + 3) L rest) : jj_J X D nL cs sl Q n K I P G pc L (.int y :: .int x :: rest) := by
  obtain ⟨p, l, e, R, s, m, args, below, meth, c⟩ := X
  obtain ⟨hx, hb, -⟩ := hX
  exact fun H locs ls hz hK hS hl => lv_icmp_lt hx hb hd ht (fun q => kt q H locs ls hz hK hS hl) (fun q => kf q H locs ls hz hK hS hl)
theorem jr_icmp_ge (hX : jj_Cx X D cc own nL ret nm rm tb) {x y : Int32} {off : Int} {tgt : Nat} (hd : decode cc pc = .ok (.if_icmp .ge off, 3)) (ht : (pc : Int) + off = (tgt : Int)) (kt : y ≤ x → jj_J X D nL cs sl Q n K I P G tgt L rest) (kf : ¬ y ≤ x → jj_J X D nL cs sl Q n K I P G (pc + 3) L rest) : jj_J X D nL cs sl Q n K I P G pc L (.int y :: .int x :: rest) := by
  obtain ⟨p, l, e, R, s, m, args, below, meth, c⟩ := X
  obtain ⟨hx, hb, -⟩ := hX
  exact fun H locs ls hz hK hS hl => lv_icmp_ge hx hb hd ht (fun q => kt q H locs ls hz hK hS hl) (fun q => kf q H locs ls hz hK hS hl)
theorem jr_icmp_gt (hX : jj_Cx X D cc own nL ret nm rm tb) {x y : Int32} {off : Int} {tgt : Nat} (hd : decode cc pc = .ok (.if_icmp .gt off, 3)) (ht : (pc : Int) + off = (tgt : Int)) (kt : y < x → jj_J X D nL cs sl Q n K I P G tgt L rest) (kf : ¬ y < x → jj_J X D nL cs sl Q n K I P G (pc + 3) L rest) : jj_J X D nL cs sl Q n K I P G pc L (.int y :: .int x :: rest) := by
  obtain ⟨p, l, e, R, s, m, args, below, meth, c⟩ := X
  obtain ⟨hx, hb, -⟩ := hX
  exact fun H locs ls hz hK hS hl => lv_icmp_gt hx hb hd ht (fun q => kt q H locs ls hz hK hS hl) (fun q => kf q H locs ls hz hK hS hl)
theorem jr_icmp_le (hX : jj_Cx X D cc own nL ret nm rm tb) {x y : Int32} {off : Int} {tgt : Nat} (hd : decode cc pc = .ok (.if_icmp .le off, 3)) (ht : (pc : Int) + off = (tgt : Int)) (kt : x ≤ y → jj_J X D nL cs sl Q n K I P G tgt L rest) (kf : ¬ x ≤ y → jj_J X D nL cs sl Q n K I P G (pc + 3) L rest) : jj_J X D nL cs sl Q n K I P G pc L (.int y :: .int x :: rest) := by
  obtain ⟨p, l, e, R, s, m, args, below, meth, c⟩ := X
  obtain ⟨hx, hb, -⟩ := hX
  exact fun H locs ls hz hK hS hl => lv_icmp_le hx hb hd ht (fun q => kt q H locs ls hz hK hS hl) (fun q => kf q H locs ls hz hK hS hl)
theorem jr_goto (hX : jj_Cx X D cc own nL ret nm rm tb) {off : Int} {tgt : Nat} (hd : decode cc pc = .ok (.goto off, 3)) (ht : (pc : Int) + off = (tgt : Int)) (k : jj_J X D nL cs sl Q n K I P G tgt L rest) : jj_J X D nL cs sl Q n K I P G pc L rest := by
  obtain ⟨p, l, e, R, s, m, args, below, meth, c⟩ := X
  obtain ⟨hx, hb, -⟩ := hX
  exact fun H locs ls hz hK hS hl => lv_goto hx hb hd ht (k H locs ls hz hK hS hl)
theorem jr_tabIn (hX : jj_Cx X D cc own nL ret nm rm tb) {dflt lo hi : Int} {offs : Array Int} {len : Nat} {x : Int32} {off : Int} {tgt : Nat} (hd : decode cc pc = .ok (.tableswitch dflt lo hi offs, len)) (h1 : ¬ x.toInt < lo) (h2 : ¬ hi < x.toInt) (ho : offs[(x.toInt - lo).toNat]? = some off) (ht : (pc : Int) + off = (tgt : Int)) (k : jj_J X D nL cs sl Q n K I P G tgt L rest) : jj_J X D nL cs sl Q n K I P G pc L (.int x :: rest) := by
  obtain ⟨p, l, e, R, s, m, args, below, meth, c⟩ := X
  obtain ⟨hx, hb, -⟩ := hX
  exact fun H locs ls hz hK hS hl => lv_tableIn hx hb hd h1 h2 ho ht (k H locs ls hz hK hS hl)
theorem jr_tabOut (hX : jj_Cx X D cc own nL ret nm rm tb) {dflt lo hi : Int} {offs : Array Int} {len : Nat} {x : Int32} {tgt : Nat} (hd : decode cc pc = .ok (.tableswitch dflt lo hi offs, len)) (h1 : x.toInt < lo ∨ hi < x.toInt) (ht : (pc : Int) + dflt = (tgt : Int)) (k : jj_J X D nL cs sl Q n K I P G tgt L rest) : jj_J X D nL cs sl Q n K I P G pc L (.int x :: rest) := by
  obtain ⟨p, l, e, R, s, m, args, below, meth, c⟩ := X
  obtain ⟨hx, hb, -⟩ := hX
  exact fun H locs ls hz hK hS hl => lv_tableOut hx hb hd h1 ht (k H locs ls hz hK hS hl)
theorem jr_cg {pc1 : Nat} {L1 : List (Option Value)} {st st1 : List Value} {I1 : jj_I} (k : jj_J X D nL cs sl Q n K I1 P G pc1 L1 st1) (h1 : pc1 = pc) (h2 : L1 = L) (h3 : st1 = st) (h4 : I1 = I) : jj_J X D nL cs sl Q n K I P G pc L st := by
  subst h1; subst h2; subst h3; subst h4; exact k
theorem jr_widen {cs1 sl1 : Nat} {st : List Value} (h1 : cs ≤ cs1) (h2 : sl ≤ sl1) (k : jj_J X D nL cs1 sl1 Q n K I P G pc L st) : jj_J X D nL cs sl Q n K I P G pc L st := by
  obtain ⟨p, l, e, R, s, m, args, below, meth, c⟩ := X
  exact fun H locs ls hz hK hS hl => W.widen h1 h2 (k H locs ls hz hK hS hl)
theorem jr_forget {K1 : jj_K} {L1 : List (Option Value)} {st : List Value} (h1 : ∀ a kd, K1 a = some kd → K a = some kd) (h2 : ∀ (i : Nat) (v : Value), L1[i]? = some (some v) → L[i]? = some (some v)) (k : jj_J X D nL cs sl Q n K1 I P G pc L1 st) : jj_J X D nL cs sl Q n K I P G pc L st := by
  obtain ⟨p, l, e, R, s, m, args, below, meth, c⟩ := X
  exact fun H locs ls hz hK hS hl => k H locs ls hz (fun a kd h => hK a kd (h1 a kd h)) hS ⟨hl.1, hl.2.1, fun q hq => by
    obtain ⟨v, a1, a2⟩ := jj_L_mem.mp hq
    exact hl.2.2 q (jj_L_mem.mpr ⟨v, h2 _ _ a1, a2⟩)⟩
/-- a field that the class file of 'own' links at 'idx': class c, place k -/
def jj_F (own : String) (idx c k pm : Nat) : Prop := ∃ (C : String) (T : u_T) (N : Nat) (ty : Nat → FieldType), vwCl[c]? = some (C, T, N) ∧ jj_N c = N ∧ c < 10 ∧ k < N ∧ (∀ w ∈ u_ws C T N, w ∈ jj_W) ∧ Cond.fieldLink own idx (T k).1 (T k).2.1 (T k).2.2.1 ∈ jj_W ∧ (pm = 0 → (T k).2.2.2 = false) ∧
  (∀ k, k < N → parseFieldDescriptor (T k).2.2.1 = some (ty k)) ∧ (∀ a, a < N → ∀ b, b < N → a ≠ b → (T a).2.1 ≠ (T b).2.1) ∧ (jj_isR c k = false → ty k = .int) ∧ (jj_isR c k = true → (∃ n, ty k = .object n) ∨ ∃ t, ty k = .array t) ∧ (pm = 1 → (T k).2.2.2 = true ∧ (T k).1 = own)
theorem jr_getv (hX : jj_Cx X D cc own nL ret nm rm tb) {idx ci z k a : Nat} {pm : Nat} (hF : jj_F own idx ci k pm) (hk : K a = some (ci, z)) (hd : decode cc pc = .ok (.getfield idx, 3)) (H : Heap) (hK : jj_H D K n I P G H) : 
  match X with | (p, l, e, R, s, m, args, below, meth, c) => ∀ (locs : List Loc) (ls : Array Slot) (rst : List Value), W p l e R s m args below meth c H locs cs sl Q (F0 m (pc + 3) ls (jj_val D I P ci a k :: rst)) → W p l e R s m args below meth c H locs cs sl Q (F0 m pc ls (.ref (jj_ad D a) :: rst)) := by
  obtain ⟨p, l, e, R, s, m, args, below, meth, c⟩ := X
  obtain ⟨hx, hb, -, hnm, -, hown, -, -, -, hts, -, hi, hi2, hKK, -⟩ := hX
  obtain ⟨C, T, N, ty, hc, hNN, hc10, hkN, hin, hlink, hfin, hty, hnmT, htyi, htyr, hdecl⟩ := hF
  intro locs ls rst kk
  have hat := (hK a _ hk).2
  rw [jj_ent_o hc10] at hat
  exact va_get (D := D.1) (ci := ci) hx hb hts hin hown hKK (jj_va1 hat) 0 rfl hc k hkN (hts _ hlink) (fun _ h => h) (v := jj_val D I P ci a k) (jj_fs_at (by rw [hNN]; exact hkN)) hd kk
theorem jr_geti (hX : jj_Cx X D cc own nL ret nm rm tb) {idx ci z k a : Nat} {pm : Nat} (hF : jj_F own idx ci k pm) (hr : jj_isR ci k = false) (hk : K a = some (ci, z)) (hd : decode cc pc = .ok (.getfield idx, 3)) (kk : jj_J X D nL cs sl Q n K I P G (pc + 3) L (.int (I a k) :: rest)) : jj_J X D nL cs sl Q n K I P G pc L (.ref a :: rest) := by
  have h := fun H hK => jr_getv (cs := cs) (sl := sl) (Q := Q) (n := n) (I := I) (P := P) (G := G) hX hF hk hd H hK
  obtain ⟨p, l, e, R, s, m, args, below, meth, c⟩ := X
  intro H locs ls hz hK hS hl
  refine h H hK locs ls (rest.map (jj_tr D)) ?_
  have := kk H locs ls hz hK hS hl
  rw [show jj_val D I P ci a k = .int (I a k) by simp [jj_val, hr]]
  exact this
theorem jr_getr (hX : jj_Cx X D cc own nL ret nm rm tb) {idx ci z k a q : Nat} {pm : Nat} (hF : jj_F own idx ci k pm) (hr : jj_isR ci k = true) (hk : K a = some (ci, z)) (hq : P a k = some q) (hd : decode cc pc = .ok (.getfield idx, 3)) (kk : jj_J X D nL cs sl Q n K I P G (pc + 3) L (.ref q :: rest)) : jj_J X D nL cs sl Q n K I P G pc L (.ref a :: rest) := by
  have h := fun H hK => jr_getv (cs := cs) (sl := sl) (Q := Q) (n := n) (I := I) (P := P) (G := G) hX hF hk hd H hK
  obtain ⟨p, l, e, R, s, m, args, below, meth, c⟩ := X
  intro H locs ls hz hK hS hl
  refine h H hK locs ls (rest.map (jj_tr D)) ?_
  have := kk H locs ls hz hK hS hl
  rw [show jj_val D I P ci a k = .ref (jj_ad D q) by simp [jj_val, hr, jj_rf, hq, va_rf]]
  exact this
theorem jr_putv (hX : jj_Cx X D cc own nL ret nm rm tb) {idx ci z k a : Nat} (hF : jj_F own idx ci k 0) (hk : K a = some (ci, z)) (h0 : 0 < a) (hd : decode cc pc = .ok (.putfield idx, 3)) {v : Value} {I1 : jj_I} {P1 : jj_P} (hv : jj_val D I1 P1 ci a k = v) (hvt : ∀ ty : FieldType, (jj_isR ci k = false → ty = .int) → (jj_isR ci k = true → (∃ n, ty = .object n) ∨ ∃ t, ty = .array t) → narrow ty v = v ∧ fits ty v = true)
  (ho : ∀ j, j ≠ k → jj_val D I1 P1 ci a j = jj_val D I P ci a j) (ho2 : ∀ b, b ≠ a → I1 b = I b ∧ P1 b = P b) (H : Heap) (hz : H.size + 1 = D.2.2.2 + n) (hK : jj_H D K n I P G H) :
  match X with | (p, l, e, R, s, m, args, below, meth, c) => ∀ (locs : List Loc) (ls : Array Slot) (rst : List Value), va_S (jj_A D) s.heap H locs → (∀ (H1 : Heap) (locs1 : List Loc), H1.size + 1 = D.2.2.2 + n → jj_H D K n I1 P1 G H1 → va_S (jj_A D) s.heap H1 locs1 → W p l e R s m args below meth c H1 locs1 cs sl Q (F0 m (pc + 3) ls rst)) → W p l e R s m args below meth c H locs cs sl Q (F0 m pc ls (v :: .ref (jj_ad D a) :: rst)) := by
  obtain ⟨p, l, e, R, s, m, args, below, meth, c⟩ := X
  obtain ⟨hx, hb, -, hnm, -, hown, -, -, -, hts, -, hi, hi2, hKK, -⟩ := hX
  obtain ⟨C, T, N, ty, hc, hNN, hc10, hkN, hin, hlink, hfin, hty, hnmT, htyi, htyr, hdecl⟩ := hF
  intro locs ls rst hS0 kk
  have hat := (hK a _ hk).2
  rw [jj_ent_o hc10] at hat
  have hap := va_apart (own := own) hts hin ty hty hnmT hKK hc
  obtain ⟨r, h1, cell, q1, q2, q3, q4⟩ := hat
  have hr : r = (C, T, N) := Option.some.inj (h1.symm.trans hc)
  subst hr
  obtain ⟨hS', hfc, kC, hkC, hkind⟩ := hKK.1 ci _ hc
  obtain ⟨cf, kf, fi, f, hif, hsl⟩ := hS' k hkN
  have hlay := hts _ (hin _ (u_in_lay hkN))
  unfold u_lay at hlay
  rw [if_neg (by rw [hfin rfl]; decide)] at hlay
  have hst := (u_facts hfc hkC (u_lays hts hin hkN) hif).1
  obtain ⟨hnar, hfit⟩ := hvt (ty k) htyi htyr
  have h6 := u_store hfc hkC hkind hlay hif (hty k hkN) hnar hfit
  have hll : k < (jj_fs D I P ci a).length := by simp [jj_fs, hNN]; exact hkN
  refine W.putK hx hb (f := f) ⟨hown, hts _ hlink, ⟨_, _, _, hif⟩, hst⟩ (by rw [q2]; exact h6) q1 q3 (by rw [hsl]; exact k2_hasslot (q4 k hkN)) rfl rfl hd fun H' e1 e2 e3 => ?_
  rw [hsl] at e1 ⊢
  refine kk H' _ (by rw [e2]; exact hz) (jj_H_st hK hi (a := a) (fun kd hkd => ?_) e3 (fun b kd hb => jj_ent_cg (ho2 b hb).1 (ho2 b hb).2 rfl kd)) (hS0.put e2 e3 (jj_ad_A h0))
  cases hk.symm.trans hkd
  rw [jj_ent_o hc10, ← jj_fs_set hv ho]
  exact ⟨_, hc, t_OB.to (V := updV (vp_V (jj_fs D I P ci a)) k v) ⟨_, e1, q2, q3, t_set q4 hap hkN v⟩ (fun j _ => vp_updV_set hll v j)⟩
theorem jr_puti (hX : jj_Cx X D cc own nL ret nm rm tb) {idx ci z k a : Nat} {x : Int32} (hF : jj_F own idx ci k 0) (hr : jj_isR ci k = false) (hk : K a = some (ci, z)) (h0 : 0 < a) (hd : decode cc pc = .ok (.putfield idx, 3)) (kk : jj_J X D nL cs sl Q n K (jj_u I a k x) P G (pc + 3) L rest) : jj_J X D nL cs sl Q n K I P G pc L (.int x :: .ref a :: rest) := by
  have h := fun H hz hK => jr_putv (cs := cs) (sl := sl) (Q := Q) (n := n) (I := I) (P := P) (G := G) (v := .int x) (I1 := jj_u I a k x) (P1 := P) hX hF hk h0 hd (by simp [jj_val, hr, jj_u]) (fun ty h1 _ => by rw [h1 hr]; exact ⟨rfl, rfl⟩)
    (fun j hj => by simp [jj_val, jj_u, hj]) (fun b hb => ⟨jj_u_ne hb, rfl⟩) H hz hK
  obtain ⟨p, l, e, R, s, m, args, below, meth, c⟩ := X
  intro H locs ls hz hK hS hl
  exact h H hz hK locs ls (rest.map (jj_tr D)) hS (fun H1 locs1 hz1 hK1 hS1 => kk H1 locs1 ls hz1 hK1 hS1 hl)
theorem jr_putr (hX : jj_Cx X D cc own nL ret nm rm tb) {idx ci z k a q : Nat} (hF : jj_F own idx ci k 0) (hr : jj_isR ci k = true) (hk : K a = some (ci, z)) (h0 : 0 < a) (hd : decode cc pc = .ok (.putfield idx, 3)) (kk : jj_J X D nL cs sl Q n K I (jj_u P a k (some q)) G (pc + 3) L rest) : jj_J X D nL cs sl Q n K I P G pc L (.ref q :: .ref a :: rest) := by
  have h := fun H hz hK => jr_putv (cs := cs) (sl := sl) (Q := Q) (n := n) (I := I) (P := P) (G := G) (v := .ref (jj_ad D q)) (I1 := I) (P1 := jj_u P a k (some q)) hX hF hk h0 hd (by simp [jj_val, hr, jj_u, jj_rf, va_rf]) (fun ty _ h2 => by rcases h2 hr with ⟨n, rfl⟩ | ⟨t, rfl⟩ <;> exact ⟨rfl, rfl⟩)
    (fun j hj => by simp [jj_val, jj_u, hj]) (fun b hb => ⟨rfl, jj_u_ne hb⟩) H hz hK
  obtain ⟨p, l, e, R, s, m, args, below, meth, c⟩ := X
  intro H locs ls hz hK hS hl
  exact h H hz hK locs ls (rest.map (jj_tr D)) hS (fun H1 locs1 hz1 hK1 hS1 => kk H1 locs1 ls hz1 hK1 hS1 hl)
theorem jr_putF (hX : jj_Cx X D cc own nL ret nm rm tb) {idx ci z k a q : Nat} (hF : jj_F own idx ci k 1) (hini : nm = "<init>") (hr : jj_isR ci k = true) (hk : K a = some (ci, z)) (h0 : 0 < a) (hd : decode cc pc = .ok (.putfield idx, 3)) (kk : jj_J X D nL cs sl Q n K I (jj_u P a k (some q)) G (pc + 3) L rest) : jj_J X D nL cs sl Q n K I P G pc L (.ref q :: .ref a :: rest) := by
  obtain ⟨p, l, e, R, s, m, args, below, meth, c⟩ := X
  obtain ⟨hx, hb, -, hnm, -, hown, -, -, -, hts, -, hi, hi2, hKK, -⟩ := hX
  obtain ⟨C, T, N, ty, hc, hNN, hc10, hkN, hin, hlink, hfin, hty, hnmT, htyi, htyr, hdecl⟩ := hF
  intro H locs ls hz hK hS0 hl
  have hat := (hK a _ hk).2
  rw [jj_ent_o hc10] at hat
  have hap := va_apart (own := own) hts hin ty hty hnmT hKK hc
  obtain ⟨r, h1, cell, q1, q2, q3, q4⟩ := hat
  have hr0 : r = (C, T, N) := Option.some.inj (h1.symm.trans hc)
  subst hr0
  obtain ⟨hS', hfc, kC, hkC, hkind⟩ := hKK.1 ci _ hc
  obtain ⟨cf, kf, fi, f, hif, hsl⟩ := hS' k hkN
  have hlay := hts _ (hin _ (u_in_lay hkN))
  unfold u_lay at hlay
  rw [if_pos (hdecl rfl).1] at hlay
  have hst := (u_facts hfc hkC (u_lays hts hin hkN) hif).1
  have hcf : m.cls = cf := by
    obtain ⟨_, _, c', _, _, _, -, -, hf', -, -, -, hown2, -⟩ := Cond.laysFinal_spec hlay
    have e1 : c' = cf := by have := hif.symm.trans hf'; simp at this; exact this.1.symm
    rw [(hdecl rfl).2] at hown2
    rw [← e1]; exact Option.some.inj (hown.symm.trans hown2)
  have hnar : narrow (ty k) (.ref (jj_ad D q)) = .ref (jj_ad D q) ∧ fits (ty k) (.ref (jj_ad D q)) = true := by
    rcases htyr hr with ⟨n, h⟩ | ⟨t, h⟩ <;> rw [h] <;> exact ⟨rfl, rfl⟩
  have h6 := u_fits hfc hkC hkind (Or.inr hlay) hif (hty k hkN) hnar.1 hnar.2
  have hll : k < (jj_fs D I P ci a).length := by simp [jj_fs, hNN]; exact hkN
  refine W.putFinK hx hb hown (hts _ hlink) hif hst hcf (hnm.trans hini) (by rw [q2]; exact h6) q1 q3 (by rw [hsl]; exact k2_hasslot (q4 k hkN)) rfl rfl hd fun H' e1 e2 e3 => ?_
  rw [hsl] at e1 ⊢
  refine kk H' _ ls (by rw [e2]; exact hz) (jj_H_st hK hi (a := a) (fun kd hkd => ?_) e3 (fun b kd hb => jj_ent_cg rfl (jj_u_ne hb) rfl kd)) (hS0.put e2 e3 (jj_ad_A h0)) hl
  cases hk.symm.trans hkd
  rw [jj_ent_o hc10, ← jj_fs_set (I := I) (P := P) (k := k) (v := .ref (jj_ad D q)) (by simp [jj_val, hr, jj_u, jj_rf, va_rf]) (fun j hj => by simp [jj_val, jj_u, hj])]
  exact ⟨_, hc, t_OB.to (V := updV (vp_V (jj_fs D I P ci a)) k (.ref (jj_ad D q))) ⟨_, e1, q2, q3, t_set q4 hap hkN (.ref (jj_ad D q))⟩ (fun j _ => vp_updV_set hll (.ref (jj_ad D q)) j)⟩
theorem jr_alen (hX : jj_Cx X D cc own nL ret nm rm tb) {t len a : Nat} (ht : 10 ≤ t ∧ t ≤ 17) (hk : K a = some (t, len)) (hd : decode cc pc = .ok (.arraylength, 1)) (kk : jj_J X D nL cs sl Q n K I P G (pc + 1) L (.int (nI len) :: rest)) : jj_J X D nL cs sl Q n K I P G pc L (.ref a :: rest) := by
  obtain ⟨p, l, e, R, s, m, args, below, meth, c⟩ := X
  obtain ⟨hx, hb, -, -, -, hown, -, -, -, hts, -, hi, hi2, hKK, -⟩ := hX
  intro H locs ls hz hK hS hl
  have hat := (hK a _ hk).2
  rw [jj_ent_a ht.1] at hat
  obtain ⟨ty, hty⟩ : ∃ ty, (jj_tys D)[t - 10]? = some (D.2.1 t, ty) := by
    obtain rfl | rfl | rfl | rfl | rfl | rfl | rfl | rfl : t = 10 ∨ t = 11 ∨ t = 12 ∨ t = 13 ∨ t = 14 ∨ t = 15 ∨ t = 16 ∨ t = 17 := by omega
    all_goals exact ⟨_, rfl⟩
  exact va_alen hx hb hKK (jj_va1 hat) 0 (t - 10) rfl hty (v := nI len) (by
    unfold jj_arr
    split
    · rfl
    · split <;> rfl) hd (kk H locs ls hz hK hS hl)
theorem jr_iald (hX : jj_Cx X D cc own nL ret nm rm tb) {x : Int32} {j len a : Nat} (hk : K a = some (10, len)) (hj : x = nI j) (hN : j < len ∧ len < 2147483648) (hd : decode cc pc = .ok (.iaload, 1)) (kk : jj_J X D nL cs sl Q n K I P G (pc + 1) L (.int (I a j) :: rest)) : jj_J X D nL cs sl Q n K I P G pc L (.int x :: .ref a :: rest) := by
  obtain ⟨p, l, e, R, s, m, args, below, meth, c⟩ := X
  obtain ⟨hx, hb, -, -, -, hown, -, -, -, hts, -, hi, hi2, hKK, -⟩ := hX
  subst hj
  intro H locs ls hz hK hS hl
  have hat := (hK a _ hk).2
  rw [jj_ent_a (by decide)] at hat
  refine va_iald (n := len) (f := I a) hx hb hKK (jj_va1 hat) 0 0 rfl rfl (vp_in_nI hN.1 hN.2) hd ?_
  rw [nI_clamp (by omega)]
  exact kk H locs ls hz hK hS hl
theorem jr_iast (hX : jj_Cx X D cc own nL ret nm rm tb) {x y : Int32} {j len a : Nat} (hk : K a = some (10, len)) (h0 : 0 < a) (hj : x = nI j) (hN : j < len ∧ len < 2147483648) (hd : decode cc pc = .ok (.iastore, 1)) (kk : jj_J X D nL cs sl Q n K (jj_u I a j y) P G (pc + 1) L rest) : jj_J X D nL cs sl Q n K I P G pc L (.int y :: .int x :: .ref a :: rest) := by
  obtain ⟨p, l, e, R, s, m, args, below, meth, c⟩ := X
  obtain ⟨hx, hb, -, -, -, hown, -, -, -, hts, -, hi, hi2, hKK, -⟩ := hX
  subst hj
  intro H locs ls hz hK hS hl
  have hat := (hK a _ hk).2
  rw [jj_ent_a (by decide)] at hat
  have hin := vp_in_nI hN.1 hN.2
  refine W.iast hx hb hat ((hKK.2 0 _ rfl).1 len (fun j => .int (I a j))) (fun q => by cases q) (by show ¬ (nI j < 0 ∨ (arrV _ _ _).slots.size ≤ _); rw [arrV_size]; exact hin) rfl rfl hd fun H1 e z oq => ?_
  rw [nI_clamp (by omega)] at e ⊢
  refine kk H1 _ ls (by rw [z]; exact hz) (jj_H_st hK hi (a := a) (fun kd hkd => ?_) oq (fun b kd hb => jj_ent_cg (jj_u_ne hb) rfl rfl kd)) (hS.put z oq (jj_ad_A h0)) hl
  cases hk.symm.trans hkd
  rw [jj_ent_a (by decide)]
  show H1[jj_ad D a]? = some (vp_cell _ (len, .inl (jj_u I a j y a)))
  rw [e]
  show some ((vp_cell (D.2.1 10) (len, .inl (I a))).setSlot j (.int y)) = _
  rw [vp_cell_i, vp_cell_i, arrV_store]
  congr 2
  funext q
  by_cases hq : q = j
  · subst hq
    simp [updV, jj_u]
  · simp [updV, jj_u, hq]
theorem jr_aald (hX : jj_Cx X D cc own nL ret nm rm tb) {x : Int32} {j len a t q : Nat} (ht : 12 ≤ t ∧ t ≤ 17) (hk : K a = some (t, len)) (hj : x = nI j) (hN : j < len ∧ len < 2147483648) (hq : P a j = some q) (hd : decode cc pc = .ok (.aaload, 1)) (kk : jj_J X D nL cs sl Q n K I P G (pc + 1) L (.ref q :: rest)) : jj_J X D nL cs sl Q n K I P G pc L (.int x :: .ref a :: rest) := by
  obtain ⟨p, l, e, R, s, m, args, below, meth, c⟩ := X
  obtain ⟨hx, hb, -, -, -, hown, -, -, -, hts, -, hi, hi2, hKK, -⟩ := hX
  subst hj
  intro H locs ls hz hK hS hl
  have hat := (hK a _ hk).2
  obtain ⟨ty, hty, hre⟩ : ∃ ty, (jj_tys D)[t - 10]? = some (D.2.1 t, ty) ∧ ty.isReference = true := by
    obtain rfl | rfl | rfl | rfl | rfl | rfl : t = 12 ∨ t = 13 ∨ t = 14 ∨ t = 15 ∨ t = 16 ∨ t = 17 := by omega
    all_goals exact ⟨_, rfl, rfl⟩
  have hin := vp_in_nI hN.1 hN.2
  rw [jj_ent_a (by omega), show jj_arr D I P G t len a = (len, .inr (.inr (.inr (.inr (fun k => (P a k).map (jj_ad D)))))) by
    unfold jj_arr; rw [if_neg (by omega), if_neg (by omega)]] at hat
  refine W.aald (v := .ref (jj_ad D q)) (ty := ty) hx hb hat ((hKK.2 (t - 10) _ hty).1 len (fun k => va_rf ((P a k).map (jj_ad D)))) hre (fun q => by cases q) (by show ¬ (nI j < 0 ∨ (arrV _ _ _).slots.size ≤ _); rw [arrV_size]; exact hin) ?_ rfl rfl hd (kk H locs ls hz hK hS hl)
  show (arrV _ _ _).slots[_]? = _
  rw [nI_clamp (by omega), arrV_read _ _ hN.1]
  show some (va_rf ((P a j).map (jj_ad D))) = _
  rw [hq]
  rfl
end JR
