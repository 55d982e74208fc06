/-! the start, as the walk wants it -/
set_option maxHeartbeats 4000000 in
set_option maxRecDepth 100000 in
theorem ls_str {A : Array Value} {s : State} (hts : ∀ w ∈ lw_tbl, w.before A s = true) {k : Nat} {tx : String} (hm : Cond.stringRef RX5 k tx ∈ lw_tbl) {cur : ClassId} (hcur : s.vm.findClass RX5 = some cur) : ∃ sa, vk_R RX5 k tx sa s := by
  have h0 : (Cond.stringRef RX5 k tx).before #[] s = true := hts _ hm
  obtain ⟨-, -, -, a, -, -, -, -, -, h⟩ := Cond.stringRef_spec (args := #[]) (first := s) (o := none) (idx := []) hcur h0
  exact ⟨a, vk_R.of h0 h⟩
set_option maxHeartbeats 4000000 in
set_option maxRecDepth 100000 in
theorem ls_trav {A : Array Value} {s : State} (hts : ∀ w ∈ lw_tbl, w.before A s = true) : ∀ w ∈ jj_trav, va_Nw w s := by
  intro w hw
  simp only [jj_trav, List.mem_cons, List.not_mem_nil, or_false] at hw
  rcases hw with rfl | rfl | rfl | rfl | rfl | rfl | rfl | rfl | rfl | rfl | rfl | rfl | rfl | rfl | rfl | rfl | rfl | rfl | rfl | rfl | rfl | rfl
  · exact va_Nw.of rfl (hts _ (List.mem_of_getElem? (i := 89) (by decide +kernel)))
  · exact va_Nw.of rfl (hts _ (List.mem_of_getElem? (i := 105) (by decide +kernel)))
  · exact va_Nw.of rfl (hts _ (List.mem_of_getElem? (i := 152) (by decide +kernel)))
  · exact va_Nw.of rfl (hts _ (List.mem_of_getElem? (i := 396) (by decide +kernel)))
  · exact va_Nw.of rfl (hts _ (List.mem_of_getElem? (i := 458) (by decide +kernel)))
  · exact va_Nw.of rfl (hts _ (List.mem_of_getElem? (i := 500) (by decide +kernel)))
  · exact va_Nw.of rfl (hts _ (List.mem_of_getElem? (i := 545) (by decide +kernel)))
  · exact va_Nw.of rfl (hts _ (List.mem_of_getElem? (i := 555) (by decide +kernel)))
  · exact va_Nw.of rfl (hts _ (List.mem_of_getElem? (i := 560) (by decide +kernel)))
  · exact va_Nw.of rfl (hts _ (List.mem_of_getElem? (i := 249) (by decide +kernel)))
  · exact va_Nw.of rfl (hts _ (List.mem_of_getElem? (i := 425) (by decide +kernel)))
  · exact va_Nw.of rfl (hts _ (List.mem_of_getElem? (i := 692) (by decide +kernel)))
  · exact (hts (.arrayOver (.object "IceHarbour$Boat")) (List.mem_of_getElem? (i := 85) (by decide +kernel)))
  · exact (hts (.arrayOver (.object "IceHarbour$Debt")) (List.mem_of_getElem? (i := 87) (by decide +kernel)))
  · exact (hts (.arrayOver (.object "IceHarbour$Merchant")) (List.mem_of_getElem? (i := 83) (by decide +kernel)))
  · exact (hts (.arrayOver (.array .int)) (List.mem_of_getElem? (i := 222) (by decide +kernel)))
  · exact va_Nw.of rfl (hts _ (List.mem_of_getElem? (i := 251) (by decide +kernel)))
  · exact va_Nw.of rfl (hts _ (List.mem_of_getElem? (i := 253) (by decide +kernel)))
  · exact va_Nw.of rfl (hts _ (List.mem_of_getElem? (i := 255) (by decide +kernel)))
  · exact va_Nw.of rfl (hts _ (List.mem_of_getElem? (i := 734) (by decide +kernel)))
  · exact (hts (.arrayOver (.array (.array .int))) (List.mem_of_getElem? (i := 640) (by decide +kernel)))
  · exact (hts (.arrayOver (.object "IceHarbourLaw$Boat")) (List.mem_of_getElem? (i := 642) (by decide +kernel)))
theorem ls_nc {s : State} : ∀ q ∈ jj_nc, va_Nc q.1 q.2 s := fun q hq => absurd hq List.not_mem_nil
set_option maxHeartbeats 4000000 in
set_option maxRecDepth 100000 in
theorem ls_all {A : Array Value} {s : State} {b L : Nat} {xs : Nat → Int32} (hb : b < s.heap.size) (hL : L ≤ 1000000) (hx : va_X b L xs s s.heap) (hts : ∀ w ∈ lw_tbl, w.before A s = true) (hgv : (Jvm.Cond.and given_1 narrow_1).before A s = true) : ∃ D : jj_D, D.2.2 = (b, s.heap.size) ∧ va_K D.1 vwCl (jj_tys D) s ∧ jj_Z D s s.heap ∧ jj_Str D s := by
  obtain ⟨c0, i0, k0⟩ := u_known (C := RX0) (T := TX0) (N := 9) (n := 9) hts (fun w hw => jj_Wtbl (ku_0 w hw)) (hts (.instantiable RX0 9) (List.mem_of_getElem? (i := 104) (by decide +kernel)))
  obtain ⟨c1, i1, k1⟩ := u_known (C := RX1) (T := TX1) (N := 7) (n := 7) hts (fun w hw => jj_Wtbl (ku_1 w hw)) (hts (.instantiable RX1 7) (List.mem_of_getElem? (i := 151) (by decide +kernel)))
  obtain ⟨c2, i2, k2⟩ := u_known (C := RX2) (T := TX2) (N := 2) (n := 2) hts (fun w hw => jj_Wtbl (ku_2 w hw)) (hts (.instantiable RX2 2) (List.mem_of_getElem? (i := 88) (by decide +kernel)))
  obtain ⟨c3, i3, k3⟩ := u_known (C := RX3) (T := TX3) (N := 7) (n := 7) hts (fun w hw => jj_Wtbl (ku_3 w hw)) (hts (.instantiable RX3 7) (List.mem_of_getElem? (i := 43) (by decide +kernel)))
  obtain ⟨c4, i4, k4⟩ := u_known (C := RX4) (T := TX4) (N := 7) (n := 7) hts (fun w hw => jj_Wtbl (ku_4 w hw)) (hts (.instantiable RX4 7) (List.mem_of_getElem? (i := 37) (by decide +kernel)))
  obtain ⟨c5, i5, k5⟩ := u_known (C := RX5) (T := TX5) (N := 4) (n := 4) hts (fun w hw => jj_Wtbl (ku_5 w hw)) (hts (.instantiable RX5 4) (List.mem_of_getElem? (i := 29) (by decide +kernel)))
  obtain ⟨c6, i6, k6⟩ := u_known (C := RX6) (T := TX6) (N := 9) (n := 9) hts (fun w hw => jj_Wtbl (ku_6 w hw)) (hts (.instantiable RX6 9) (List.mem_of_getElem? (i := 733) (by decide +kernel)))
  obtain ⟨c7, i7, k7⟩ := u_known (C := RX7) (T := TX7) (N := 9) (n := 9) hts (fun w hw => jj_Wtbl (ku_7 w hw)) (hts (.instantiable RX7 9) (List.mem_of_getElem? (i := 589) (by decide +kernel)))
  obtain ⟨a10, q10, p10, f10, g10, r10⟩ := Cond.arrayClass_spec (o := none) (idx := []) (hts (.arrayClass .int) (List.mem_of_getElem? (i := 81) (by decide +kernel)))
  obtain ⟨p12, a12, q12, e12, -, g12, r12, f12⟩ := Cond.arrayOver_spec (o := none) (idx := []) (hts (.arrayOver (.object "IceHarbour$Boat")) (List.mem_of_getElem? (i := 85) (by decide +kernel)))
  obtain ⟨p13, a13, q13, e13, -, g13, r13, f13⟩ := Cond.arrayOver_spec (o := none) (idx := []) (hts (.arrayOver (.object "IceHarbour$Debt")) (List.mem_of_getElem? (i := 87) (by decide +kernel)))
  obtain ⟨p14, a14, q14, e14, -, g14, r14, f14⟩ := Cond.arrayOver_spec (o := none) (idx := []) (hts (.arrayOver (.object "IceHarbour$Merchant")) (List.mem_of_getElem? (i := 83) (by decide +kernel)))
  obtain ⟨p17, a17, q17, e17, -, g17, r17, f17⟩ := Cond.arrayOver_spec (o := none) (idx := []) (hts (.arrayOver (.object "IceHarbourLaw$Boat")) (List.mem_of_getElem? (i := 642) (by decide +kernel)))
  obtain ⟨p15, a15, q15, e15, g15, r15, f15⟩ := mn_overE (hts (.arrayOver (.array .int)) (List.mem_of_getElem? (i := 222) (by decide +kernel)))
  obtain ⟨p16, a16, q16, e16, g16, r16, f16⟩ := mt_overE (hts (.arrayOver (.array (.array .int))) (List.mem_of_getElem? (i := 640) (by decide +kernel)))
  have h15 : a10 = p15 := Option.some.inj (f10.symm.trans e15)
  subst h15
  refine ⟨((fun k => if k = 0 then c0 else if k = 1 then c1 else if k = 2 then c2 else if k = 3 then c3 else if k = 4 then c4 else if k = 5 then c5 else if k = 6 then c6 else c7, fun k => if k = 0 then i0 else if k = 1 then i1 else if k = 2 then i2 else if k = 3 then i3 else if k = 4 then i4 else if k = 5 then i5 else if k = 6 then i6 else i7), fun k => if k = 10 then a10 else if k = 11 then a10 else if k = 12 then a12 else if k = 13 then a13 else if k = 14 then a14 else if k = 15 then a15 else if k = 16 then a16 else a17, b, s.heap.size), rfl, ⟨?_, ?_⟩, ⟨?_, ?_, ⟨hb, L, xs, hL, hx⟩⟩, ?_⟩
  · intro k q hq
    match k, hq with
    | 0, hq => cases hq; exact k0
    | 1, hq => cases hq; exact k1
    | 2, hq => cases hq; exact k2
    | 3, hq => cases hq; exact k3
    | 4, hq => cases hq; exact k4
    | 5, hq => cases hq; exact k5
    | 6, hq => cases hq; exact k6
    | 7, hq => cases hq; exact k7
    | k + 8, hq => simp [vwCl] at hq
  · intro k q hq
    match k, hq with
    | 0, hq => cases hq; exact ⟨fun _ _ => ⟨fun _ h => (by cases h), q10, g10, p10, r10⟩, f10⟩
    | 1, hq => cases hq; exact ⟨fun _ _ => ⟨fun _ h => (by cases h), q10, g10, p10, r10⟩, f10⟩
    | 2, hq => cases hq; exact ⟨fun _ _ => ⟨fun _ h => (by cases h), q12, g12, p12, r12⟩, ⟨q12, p12, g12, r12, e12, f12⟩⟩
    | 3, hq => cases hq; exact ⟨fun _ _ => ⟨fun _ h => (by cases h), q13, g13, p13, r13⟩, ⟨q13, p13, g13, r13, e13, f13⟩⟩
    | 4, hq => cases hq; exact ⟨fun _ _ => ⟨fun _ h => (by cases h), q14, g14, p14, r14⟩, ⟨q14, p14, g14, r14, e14, f14⟩⟩
    | 5, hq => cases hq; exact ⟨fun _ _ => ⟨fun _ h => (by cases h), q15, g15, _, r15⟩, f15⟩
    | 6, hq => cases hq; exact ⟨fun _ _ => ⟨fun _ h => (by cases h), q16, g16, _, r16⟩, f16⟩
    | 7, hq => cases hq; exact ⟨fun _ _ => ⟨fun _ h => (by cases h), q17, g17, p17, r17⟩, ⟨q17, p17, g17, r17, e17, f17⟩⟩
    | k + 8, hq => simp [jj_tys] at hq
  · exact vx_Zqof (hts _ (List.mem_of_getElem? (i := 274) (by decide +kernel))) (hts _ (List.mem_of_getElem? (i := 18) (by decide +kernel))) (flat_of_before _ hgv _ (by decide +kernel)) (fun a ha => Nat.not_le.mpr ha)
  · exact vx_Zqof (hts _ (List.mem_of_getElem? (i := 276) (by decide +kernel))) (hts _ (List.mem_of_getElem? (i := 18) (by decide +kernel))) (flat_of_before _ hgv _ (by decide +kernel)) (fun a ha => Nat.not_le.mpr ha)
  · refine ⟨?_, ls_trav hts, ls_nc, ⟨q15, g15, r15⟩⟩
    have hcur : s.vm.findClass RX5 = some c5 := k5.2.1
    intro q hq
    simp only [jj_strs, List.mem_cons, List.not_mem_nil, or_false] at hq
    rcases hq with rfl | rfl | rfl | rfl | rfl | rfl | rfl | rfl | rfl | rfl
    · exact ls_str hts (List.mem_of_getElem? (i := 801) (by decide +kernel)) hcur
    · exact ls_str hts (List.mem_of_getElem? (i := 814) (by decide +kernel)) hcur
    · exact ls_str hts (List.mem_of_getElem? (i := 849) (by decide +kernel)) hcur
    · exact ls_str hts (List.mem_of_getElem? (i := 843) (by decide +kernel)) hcur
    · exact ls_str hts (List.mem_of_getElem? (i := 288) (by decide +kernel)) hcur
    · exact ls_str hts (List.mem_of_getElem? (i := 432) (by decide +kernel)) hcur
    · exact ls_str hts (List.mem_of_getElem? (i := 790) (by decide +kernel)) hcur
    · exact ls_str hts (List.mem_of_getElem? (i := 699) (by decide +kernel)) hcur
    · exact ls_str hts (List.mem_of_getElem? (i := 794) (by decide +kernel)) hcur
    · exact ls_str hts (List.mem_of_getElem? (i := 806) (by decide +kernel)) hcur
