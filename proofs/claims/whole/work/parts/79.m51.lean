/-! the start, as the walk wants it -/
set_option maxHeartbeats 4000000 in
set_option maxRecDepth 100000 in
theorem ls_str {A : Array Value} {s : State} (hts : ∀ w ∈ lw_tbl, w.before A s = true) {k : Nat} {tx : String} (hm : Cond.stringRef RX5 k tx ∈ lw_tbl) {cur : ClassId} (hcur : s.vm.findClass RX5 = some cur) : ∃ sa, vk_R RX5 k tx sa s := by
  have h0 : (Cond.stringRef RX5 k tx).before #[] s = true := hts _ hm
  obtain ⟨-, -, -, a, -, -, -, -, -, h⟩ := Cond.stringRef_spec (args := #[]) (first := s) (o := none) (idx := []) hcur h0
  exact ⟨a, vk_R.of h0 h⟩
set_option maxHeartbeats 4000000 in
set_option maxRecDepth 100000 in
theorem ls_trav {A : Array Value} {s : State} (hts : ∀ w ∈ lw_tbl, w.before A s = true) : ∀ w ∈ jj_trav, va_Nw w s := by
  intro w hw
  simp only [jj_trav, List.mem_cons, List.not_mem_nil, or_false] at hw
  rcases hw with rfl | rfl | rfl | rfl | rfl | rfl | rfl | rfl | rfl | rfl | rfl | rfl | rfl | rfl | rfl | rfl | rfl | rfl | rfl | rfl
  · exact va_Nw.of rfl (hts _ (List.mem_of_getElem? (i := 123) (by decide +kernel)))
  · exact va_Nw.of rfl (hts _ (List.mem_of_getElem? (i := 139) (by decide +kernel)))
  · exact va_Nw.of rfl (hts _ (List.mem_of_getElem? (i := 186) (by decide +kernel)))
  · exact va_Nw.of rfl (hts _ (List.mem_of_getElem? (i := 378) (by decide +kernel)))
  · exact va_Nw.of rfl (hts _ (List.mem_of_getElem? (i := 730) (by decide +kernel)))
  · exact va_Nw.of rfl (hts _ (List.mem_of_getElem? (i := 765) (by decide +kernel)))
  · exact va_Nw.of rfl (hts _ (List.mem_of_getElem? (i := 798) (by decide +kernel)))
  · exact va_Nw.of rfl (hts _ (List.mem_of_getElem? (i := 808) (by decide +kernel)))
  · exact va_Nw.of rfl (hts _ (List.mem_of_getElem? (i := 813) (by decide +kernel)))
  · exact va_Nw.of rfl (hts _ (List.mem_of_getElem? (i := 408) (by decide +kernel)))
  · exact va_Nw.of rfl (hts _ (List.mem_of_getElem? (i := 479) (by decide +kernel)))
  · exact va_Nw.of rfl (hts _ (List.mem_of_getElem? (i := 506) (by decide +kernel)))
  · exact va_Nw.of rfl (hts _ (List.mem_of_getElem? (i := 1109) (by decide +kernel)))
  · exact (hts (.arrayOver (.object "IceHarbour$Boat")) (List.mem_of_getElem? (i := 119) (by decide +kernel)))
  · exact (hts (.arrayOver (.object "IceHarbour$Debt")) (List.mem_of_getElem? (i := 121) (by decide +kernel)))
  · exact (hts (.arrayOver (.object "IceHarbour$Merchant")) (List.mem_of_getElem? (i := 117) (by decide +kernel)))
  · exact (hts (.arrayOver (.array .int)) (List.mem_of_getElem? (i := 256) (by decide +kernel)))
  · exact va_Nw.of rfl (hts _ (List.mem_of_getElem? (i := 410) (by decide +kernel)))
  · exact va_Nw.of rfl (hts _ (List.mem_of_getElem? (i := 412) (by decide +kernel)))
  · exact va_Nw.of rfl (hts _ (List.mem_of_getElem? (i := 414) (by decide +kernel)))
set_option maxHeartbeats 4000000 in
set_option maxRecDepth 100000 in
theorem ls_nc {A : Array Value} {s : State} (hgv : (Jvm.Cond.and given_1 narrow_1).before A s = true) : ∀ q ∈ jj_nc, va_Nc q.1 q.2 s := by
  have hf := flat_of_before _ hgv
  intro q hq
  simp only [jj_nc, List.mem_cons, List.not_mem_nil, or_false] at hq
  rcases hq with rfl | rfl | rfl | rfl | rfl | rfl
  · exact va_Nc.of (hf _ (by decide +kernel))
  · exact va_Nc.of (hf _ (by decide +kernel))
  · exact va_Nc.of (hf _ (by decide +kernel))
  · exact va_Nc.of (hf _ (by decide +kernel))
  · exact va_Nc.of (hf _ (by decide +kernel))
  · exact va_Nc.of (hf _ (by decide +kernel))
set_option maxHeartbeats 4000000 in
set_option maxRecDepth 100000 in
theorem ls_all {A : Array Value} {s : State} {b : Nat} (hb : b < s.heap.size) (hts : ∀ w ∈ lw_tbl, w.before A s = true) (hgv : (Jvm.Cond.and given_1 narrow_1).before A s = true) : ∃ D : jj_D, D.2.2 = (b, s.heap.size) ∧ va_K D.1 vwCl (jj_tys D) s ∧ jj_Z (jj_A D) s s.heap ∧ jj_Str D s := by
  obtain ⟨c0, i0, k0⟩ := u_known (C := RX0) (T := TX0) (N := 9) (n := 9) hts (fun w hw => jj_Wtbl (ku_0 w hw)) (hts (.instantiable RX0 9) (List.mem_of_getElem? (i := 138) (by decide +kernel)))
  obtain ⟨c1, i1, k1⟩ := u_known (C := RX1) (T := TX1) (N := 7) (n := 7) hts (fun w hw => jj_Wtbl (ku_1 w hw)) (hts (.instantiable RX1 7) (List.mem_of_getElem? (i := 185) (by decide +kernel)))
  obtain ⟨c2, i2, k2⟩ := u_known (C := RX2) (T := TX2) (N := 2) (n := 2) hts (fun w hw => jj_Wtbl (ku_2 w hw)) (hts (.instantiable RX2 2) (List.mem_of_getElem? (i := 122) (by decide +kernel)))
  obtain ⟨c3, i3, k3⟩ := u_known (C := RX3) (T := TX3) (N := 7) (n := 7) hts (fun w hw => jj_Wtbl (ku_3 w hw)) (hts (.instantiable RX3 7) (List.mem_of_getElem? (i := 77) (by decide +kernel)))
  obtain ⟨c4, i4, k4⟩ := u_known (C := RX4) (T := TX4) (N := 7) (n := 7) hts (fun w hw => jj_Wtbl (ku_4 w hw)) (hts (.instantiable RX4 7) (List.mem_of_getElem? (i := 71) (by decide +kernel)))
  obtain ⟨c5, i5, k5⟩ := u_known (C := RX5) (T := TX5) (N := 4) (n := 4) hts (fun w hw => jj_Wtbl (ku_5 w hw)) (hts (.instantiable RX5 4) (List.mem_of_getElem? (i := 63) (by decide +kernel)))
  obtain ⟨c6, i6, k6⟩ := u_known (C := RX6) (T := TX6) (N := 15) (n := 15) hts (fun w hw => jj_Wtbl (ku_6 w hw)) (hts (.instantiable RX6 15) (List.mem_of_getElem? (i := 857) (by decide +kernel)))
  obtain ⟨a10, q10, p10, f10, g10, r10⟩ := Cond.arrayClass_spec (o := none) (idx := []) (hts (.arrayClass .int) (List.mem_of_getElem? (i := 115) (by decide +kernel)))
  obtain ⟨a11, q11, p11, f11, g11, r11⟩ := Cond.arrayClass_spec (o := none) (idx := []) (hts (.arrayClass .long) (List.mem_of_getElem? (i := 1153) (by decide +kernel)))
  obtain ⟨p12, a12, q12, e12, -, g12, r12, f12⟩ := Cond.arrayOver_spec (o := none) (idx := []) (hts (.arrayOver (.object "IceHarbour$Boat")) (List.mem_of_getElem? (i := 119) (by decide +kernel)))
  obtain ⟨p13, a13, q13, e13, -, g13, r13, f13⟩ := Cond.arrayOver_spec (o := none) (idx := []) (hts (.arrayOver (.object "IceHarbour$Debt")) (List.mem_of_getElem? (i := 121) (by decide +kernel)))
  obtain ⟨p14, a14, q14, e14, -, g14, r14, f14⟩ := Cond.arrayOver_spec (o := none) (idx := []) (hts (.arrayOver (.object "IceHarbour$Merchant")) (List.mem_of_getElem? (i := 117) (by decide +kernel)))
  obtain ⟨p15, a15, q15, e15, g15, r15, f15⟩ := mn_overE (hts (.arrayOver (.array .int)) (List.mem_of_getElem? (i := 256) (by decide +kernel)))
  have h15 : a10 = p15 := Option.some.inj (f10.symm.trans e15)
  subst h15
  refine ⟨((fun k => if k = 0 then c0 else if k = 1 then c1 else if k = 2 then c2 else if k = 3 then c3 else if k = 4 then c4 else if k = 5 then c5 else c6, fun k => if k = 0 then i0 else if k = 1 then i1 else if k = 2 then i2 else if k = 3 then i3 else if k = 4 then i4 else if k = 5 then i5 else i6), fun k => if k = 10 then a10 else if k = 11 then a11 else if k = 12 then a12 else if k = 13 then a13 else if k = 14 then a14 else a15, b, s.heap.size), rfl, ⟨?_, ?_⟩, ⟨?_, ?_⟩, ?_⟩
  · intro k q hq
    match k, hq with
    | 0, hq => cases hq; exact k0
    | 1, hq => cases hq; exact k1
    | 2, hq => cases hq; exact k2
    | 3, hq => cases hq; exact k3
    | 4, hq => cases hq; exact k4
    | 5, hq => cases hq; exact k5
    | 6, hq => cases hq; exact k6
    | k + 7, hq => simp [vwCl] at hq
  · intro k q hq
    match k, hq with
    | 0, hq => cases hq; exact ⟨fun _ _ => ⟨fun _ h => (by cases h), q10, g10, p10, r10⟩, f10⟩
    | 1, hq => cases hq; exact ⟨fun _ _ => ⟨fun _ h => (by cases h), q11, g11, p11, r11⟩, f11⟩
    | 2, hq => cases hq; exact ⟨fun _ _ => ⟨fun _ h => (by cases h), q12, g12, p12, r12⟩, ⟨q12, p12, g12, r12, e12, f12⟩⟩
    | 3, hq => cases hq; exact ⟨fun _ _ => ⟨fun _ h => (by cases h), q13, g13, p13, r13⟩, ⟨q13, p13, g13, r13, e13, f13⟩⟩
    | 4, hq => cases hq; exact ⟨fun _ _ => ⟨fun _ h => (by cases h), q14, g14, p14, r14⟩, ⟨q14, p14, g14, r14, e14, f14⟩⟩
    | 5, hq => cases hq; exact ⟨fun _ _ => ⟨fun _ h => (by cases h), q15, g15, _, r15⟩, f15⟩
    | k + 6, hq => simp [jj_tys] at hq
  · exact vx_Zqof (hts _ (List.mem_of_getElem? (i := 433) (by decide +kernel))) (hts _ (List.mem_of_getElem? (i := 53) (by decide +kernel))) (flat_of_before _ hgv _ (by decide +kernel)) (fun a ha => Nat.not_le.mpr ha)
  · exact vx_Zqof (hts _ (List.mem_of_getElem? (i := 435) (by decide +kernel))) (hts _ (List.mem_of_getElem? (i := 53) (by decide +kernel))) (flat_of_before _ hgv _ (by decide +kernel)) (fun a ha => Nat.not_le.mpr ha)
  · refine ⟨?_, ls_trav hts, ls_nc hgv, ⟨q15, g15, r15⟩⟩
    have hcur : s.vm.findClass RX5 = some c5 := k5.2.1
    intro q hq
    simp only [jj_strs, List.mem_cons, List.not_mem_nil, or_false] at hq
    rcases hq with rfl | rfl | rfl | rfl | rfl | rfl | rfl | rfl | rfl | rfl
    · exact ls_str hts (List.mem_of_getElem? (i := 622) (by decide +kernel)) hcur
    · exact ls_str hts (List.mem_of_getElem? (i := 641) (by decide +kernel)) hcur
    · exact ls_str hts (List.mem_of_getElem? (i := 684) (by decide +kernel)) hcur
    · exact ls_str hts (List.mem_of_getElem? (i := 700) (by decide +kernel)) hcur
    · exact ls_str hts (List.mem_of_getElem? (i := 447) (by decide +kernel)) hcur
    · exact ls_str hts (List.mem_of_getElem? (i := 486) (by decide +kernel)) hcur
    · exact ls_str hts (List.mem_of_getElem? (i := 581) (by decide +kernel)) hcur
    · exact ls_str hts (List.mem_of_getElem? (i := 513) (by decide +kernel)) hcur
    · exact ls_str hts (List.mem_of_getElem? (i := 585) (by decide +kernel)) hcur
    · exact ls_str hts (List.mem_of_getElem? (i := 630) (by decide +kernel)) hcur
