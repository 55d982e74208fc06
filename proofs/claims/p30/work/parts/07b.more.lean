/-! some more rows: shifts, constants, a reference that is there -/
section JU
variable {X : jj_X} {D : jj_D} {cc : ByteArray} {own nm : String} {nL : Nat} {ret : Option FieldType} {rm : Room} {tb : List ExceptionTableEntry} {cs sl : Nat} {Q : State → Prop} {n : Nat} {K : jj_K} {I : jj_I} {P : jj_P} {G : jj_G} {pc : Nat} {L : List (Option Value)} {rest : List Value}
theorem jr_ishr (hX : jj_Cx X D cc own nL ret nm rm tb) {x y : Int32} (hd : decode cc pc = .ok (.ishr, 1)) (k : jj_J X D nL cs sl Q n K I P G (pc + 1) L (.int (x >>> (y &&& 31)) :: rest)) : jj_J X D nL cs sl Q n K I P G pc L (.int y :: .int x :: rest) := by
  obtain ⟨p, l, e, R, s, m, args, below, meth, c⟩ := X
  obtain ⟨hx, hb, -⟩ := hX
  exact fun H locs ls hz hK hS hl => lv_ishr hx hb hd (k H locs ls hz hK hS hl)
theorem jr_ldc (hX : jj_Cx X D cc own nL ret nm rm tb) {idx : Nat} {v : Int32} (hw : Cond.constant own idx v ∈ jj_W) (hd : decode cc pc = .ok (.ldc idx, 2)) (kk : jj_J X D nL cs sl Q n K I P G (pc + 2) L (.int v :: rest)) : jj_J X D nL cs sl Q n K I P G pc L rest := by
  obtain ⟨p, l, e, R, s, m, args, below, meth, c⟩ := X
  obtain ⟨hx, hb, -, -, hml, hown, -, -, hRR, hts, -⟩ := hX
  exact fun H locs ls hz hK hS hl => lv_ldc hx hb hown (hts _ hw) hd (kk H locs ls hz hK hS hl)
theorem jr_ifnonnull (hX : jj_Cx X D cc own nL ret nm rm tb) {a : Nat} {off : Int} {tgt : Nat} (hd : decode cc pc = .ok (.ifnonnull off, 3)) (ht : (pc : Int) + off = (tgt : Int)) (k : jj_J X D nL cs sl Q n K I P G tgt L rest) : jj_J X D nL cs sl Q n K I P G pc L (.ref a :: rest) := by
  obtain ⟨p, l, e, R, s, m, args, below, meth, c⟩ := X
  obtain ⟨hx, hb, -⟩ := hX
  exact fun H locs ls hz hK hS hl => lv_ifnonnull hx hb hd ht (k H locs ls hz hK hS hl)
/-- the script's length, and its cells -/
theorem jr_script (hX : jj_Cx X D cc own nL ret nm rm tb) : ∃ S : Nat, S ≤ 1000000 ∧
    (∀ {cs sl : Nat} {Q : State → Prop} {n : Nat} {K : jj_K} {I : jj_I} {P : jj_P} {G : jj_G} {pc : Nat} {L : List (Option Value)} {rest : List Value}, decode cc pc = .ok (.arraylength, 1) → jj_J X D nL cs sl Q n K I P G (pc + 1) L (.int (nI S) :: rest) → jj_J X D nL cs sl Q n K I P G pc L (.ref 0 :: rest)) ∧
    ∀ {cs sl : Nat} {Q : State → Prop} {n : Nat} {K : jj_K} {I : jj_I} {P : jj_P} {G : jj_G} {pc : Nat} {L : List (Option Value)} {rest : List Value} {j : Nat}, j < S → decode cc pc = .ok (.iaload, 1) → (∀ v : Int32, jj_J X D nL cs sl Q n K I P G (pc + 1) L (.int v :: rest)) → jj_J X D nL cs sl Q n K I P G pc L (.int (nI j) :: .ref 0 :: rest) := by
  obtain ⟨p, l, e, R, s, m, args, below, meth, c⟩ := X
  obtain ⟨hx, hb, -, -, hml, hown, -, -, hRR, hts, -, hi, hi2, hKK, hZ⟩ := hX
  obtain ⟨h0, S, xs, h1, h2⟩ := hZ.2.2
  refine ⟨S, h1, fun hd kk => ?_, fun {cs sl Q n K I P G pc L rest j} hj hd kk => ?_⟩
  · intro H locs ls hz hK hS hl
    exact va_slen (A := jj_A D) (b := D.2.2.1) (L := S) (xs := xs) hx hb h2 (Nat.lt_of_lt_of_le hi hi2) (by show ¬ D.2.2.2 ≤ D.2.2.1; omega) hS hd (kk H locs ls hz hK hS hl)
  · intro H locs ls hz hK hS hl
    refine va_sld (A := jj_A D) (b := D.2.2.1) (L := S) (xs := xs) hx hb h2 (Nat.lt_of_lt_of_le hi hi2) (by show ¬ D.2.2.2 ≤ D.2.2.1; omega) hS (vp_in_nI hj (by omega)) hd ?_
    exact kk _ H locs ls hz hK hS hl
end JU
