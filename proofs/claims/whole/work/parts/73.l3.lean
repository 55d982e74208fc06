/-! class and model beside each other, for one call -/
theorem jj_mono {l : Launch} {D : jj_D} {y : MethodName} {ws : List Cond} {rm : Room} {av : List Value} {n : Nat} {K : jj_K} {I : jj_I} {P : jj_P} {G : jj_G} {post post' : jj_post} {px : jj_px} (h : jj_Met l D y ws rm av n K I P G post px)
    (hp : ∀ r n1 K1 I1 P1 G1, post r n1 K1 I1 P1 G1 → post' r n1 K1 I1 P1 G1) : jj_Met l D y ws rm av n K I P G post' px := by
  refine MetFree.mono h (fun _ _ q => q) (fun _ _ _ _ _ q => q) (fun a s o t _ q => ?_)
  rcases q with ⟨⟨⟨r, n1, K1, I1, P1, G1, e1, e2, e3⟩, e4⟩, e5⟩ | q
  · exact Or.inl ⟨⟨⟨r, n1, K1, I1, P1, G1, e1, hp _ _ _ _ _ _ e2, e3⟩, e4⟩, e5⟩
  · exact Or.inr q
theorem jj_toRS {l : Launch} {D : jj_D} {y : MethodName} {ws : List Cond} {rm : Room} {av : List Value} {n n0 : Nat} {K K0 : jj_K} {I I1 : jj_I} {P P0 : jj_P} {G G0 : jj_G} {r0 : Option Value} {px : jj_px} (h : jj_Met l D y ws rm av n K I P G (jj_R r0 n0 K0 I1 P0 G0) px) : jj_Met l D y ws rm av n K I P G (jj_RS (fun r J => r = r0 ∧ J = I1) n0 K0 P0 G0) px := by
  rw [← jj_RR]
  exact h
/-- what holds between two calls -/
def li (t : Nat) (I : jj_I) : Prop := ∃ H M B N, tn_c t H M B N I ∧ ml 0 H M B N I I ∧ mz M I I
def w_mb (rm : Room) : Prop := rm.frames ≤ 8 ∧ rm.locals ≤ 132 ∧ rm.cells ≤ 15 ∧ rm.slots ≤ 558
abbrev w_RM : Room := { frames := 9, cells := 1, slots := 6, locals := 160 }
def lj (l : Launch) (D : jj_D) (K : jj_K) (P : jj_P) (t : Nat) (I : jj_I) (yw : MethodName) (ww : List Cond) (aw : List Value) (ym : MethodName) (wm : List Cond) (am : List Value) : Prop :=
  ∃ (c : Int32) (S : Int32 → jj_I → Prop),
    (∀ n G, 162 ≤ n → jj_Met l D yw ww w_RM aw n K I P G (fun r n1 K1 I1 P1 G1 => r = some (.int c) ∧ n ≤ n1 ∧ K1 = K ∧ P1 = P ∧ ∃ v, S v I1 ∧ (c = 0 → G1 161 0 = v.toInt64)) jj_noX) ∧
    ∀ v J, S v J → ∀ n G, 162 ≤ n → ∃ rm, w_mb rm ∧ jj_Met l D ym wm rm am n K J P G (fun r n1 K1 I1 P1 G1 => (∃ u : Int32, r = some (.int u) ∧ (c = 0 → u = v)) ∧ n ≤ n1 ∧ K1 = K ∧ P1 = P ∧ G1 = G ∧ I1 150 0 = c ∧ li (t + 1) I1) jj_noX
section LJ
variable {l : Launch} {D : jj_D} {K : jj_K} {P : jj_P} {t H M B N : Nat} {I C J : jj_I} {yw ym : MethodName} {ww wm : List Cond} {aw am : List Value}
theorem tc_eq (h : tn_c t H M B N C) (ho : ∀ a, a < 72 → J a = C a) : tn_c t H M B N J := by
  obtain ⟨hs, hk, ⟨d, d1, d2⟩, hg, hb⟩ := h
  have z := sf_Z hs
  have oB : ∀ b, b < 10 → J (aB 0 b) = C (aB 0 b) := fun b hb => ho _ (by simp only [aB]; omega)
  have oD : ∀ b, b < 30 → J (aD 0 b) = C (aD 0 b) := fun b hb => ho _ (by simp only [aD]; omega)
  have oC : ∀ b, b < 10 → J (aBc 0 b) = C (aBc 0 b) := fun b hb => ho _ (by simp only [aBc]; omega)
  have oM : ∀ b, b < 5 → J (aM 0 b) = C (aM 0 b) := fun b hb => ho _ (by simp only [aM]; omega)
  have oS : ∀ b, b < 5 → J (aMt 0 b) = C (aMt 0 b) := fun b hb => ho _ (by simp only [aMt]; omega)
  exact ⟨sf_cg hs (by rw [ho (aR 0) (by decide)]) (ho (aW 0) (by decide)) oB oD, sk_cg hk z (ho (aLd 0) (by decide)) oB oD, ⟨d, d1, by rw [ho (aR 0) (by decide)]; exact d2⟩,
    tg_cg hg (fun k _ => by rw [ho (aPr 0) (by decide)]) (fun m hm => by rw [oM m hm]) oS oC (fun d hd => by rw [oD d (by have := z.2.2; omega)]), tb_cg hb oB z.2.1 oC (ho (aBe 0) (by decide))⟩
theorem tc_S (h : tn_c t H M B N C) (ht : t + 1 ≤ 512) : tn_c (t + 1) H M B N C := tc_cg h ht (fun _ _ _ _ => rfl)
theorem li_mk (h : tn_c t H M B N C) (hm : ml 0 H M B N C J) (hz : mz M C J) (ho : ∀ a, a < 72 → J a = C a) : li t J :=
  ⟨H, M, B, N, tc_eq h ho, ml_cg (fun a _ h2 => ho a (by omega)) (fun _ _ _ => ⟨fun _ => ⟨rfl, rfl, rfl, rfl⟩, fun _ => rfl⟩) (sf_Z h.1) hm, fun m h1 h2 => ⟨(hz m h1 h2).1, fun k hk => ⟨((hz m h1 h2).2 k hk).1, by rw [ho _ (by simp only [aMt]; omega)]; exact ((hz m h1 h2).2 k hk).2⟩⟩⟩
/-- the same rows beside a memory that differs under 72 alone -/
theorem ml_of (z : mlZ M B N) (hm : ml 0 H M B N I I) (ho : ∀ a, 150 ≤ a → J a = I a) : ml 0 H M B N I J :=
  ml_cg (fun _ _ _ => rfl) (fun a h1 _ => ⟨fun _ => by rw [ho a h1]; exact ⟨rfl, rfl, rfl, rfl⟩, fun _ => ho a h1⟩) z hm
theorem mz_of (hz : mz M I I) (ho : ∀ a, 150 ≤ a → J a = I a) : mz M I J := fun m h1 h2 => by
  rw [ho 156 (by decide), ho 157 (by decide)]
  exact hz m h1 h2
theorem lj_x (c : Int32) (hc : ¬ c = 0) (hI : li t I) (ht : t + 1 ≤ 512) (hw : ∀ n G, 162 ≤ n → jj_Met l D yw ww w_RM aw n K I P G (w_x c n K I P G) jj_noX)
    (hmo : ∀ n G, 162 ≤ n → ∃ rm r0, w_mb rm ∧ jj_Met l D ym wm rm am n K I P G (jj_R (some (.int r0)) n K (jj_u (jj_u I 150 0 0) 150 0 c) P G) jj_noX) : lj l D K P t I yw ww aw ym wm am := by
  refine ⟨c, fun _ J => J = I, fun n G hn => jj_mono (hw n G hn) (fun r n1 K1 I1 P1 G1 h => ?_), fun v J hJ n G hn => ?_⟩
  · obtain ⟨e1, e2, e3, e4, e5, e6⟩ := h
    exact ⟨e1, e2, e3, e5, 0, e4, fun q => absurd q hc⟩
  · subst hJ
    obtain ⟨rm, r0, h1, h2⟩ := hmo n G hn
    refine ⟨rm, h1, jj_mono h2 (fun r n1 K1 I1 P1 G1 h => ?_)⟩
    obtain ⟨e1, e2, e3, e4, e5, e6⟩ := h
    refine ⟨⟨r0, e1, fun q => absurd q hc⟩, by omega, e3, e5, e6, by rw [e4, jj_u_eq], ?_⟩
    obtain ⟨H, M, B, N, hc1, hm, hz⟩ := hI
    have z := sf_Z hc1.1
    have eo : ∀ a, a ≠ 150 → I1 a = J a := fun a ha => by rw [e4, jj_u_ne ha, jj_u_ne ha]
    refine li_mk (tc_S hc1 ht) ?_ ?_ (fun a ha => eo a (by omega))
    · refine ml_cg (fun _ _ _ => rfl) (fun a h1 h2 => ⟨fun q => ?_, fun q => eo a q⟩) z hm
      subst q
      rw [e4, jj_u_nk (by decide), jj_u_nk (by decide), jj_u_nk (by decide), jj_u_nk (by decide), jj_u_nk (by decide), jj_u_nk (by decide), jj_u_nk (by decide), jj_u_nk (by decide)]
      exact ⟨rfl, rfl, rfl, rfl⟩
    · intro m h1 h2
      rw [eo 156 (by decide), eo 157 (by decide)]
      exact hz m h1 h2
theorem lj_ok (S : Option Value → jj_I → Prop) (hw : ∀ n G, 162 ≤ n → jj_Met l D yw ww w_RM aw n K I P G (w_ok S n K P G) jj_noX)
    (hmo : ∀ v J, S (some (.int v)) J → ∀ n G, 162 ≤ n → ∃ rm n2 C2 H2 M2 B2 N2, w_mb rm ∧ n ≤ n2 ∧ tn_c (t + 1) H2 M2 B2 N2 C2 ∧ (∀ a, a < 72 → J a = C2 a) ∧ jj_Met l D ym wm rm am n K J P G (jj_RS (fun r J2 => r = some (.int v) ∧ J2 150 0 = 0 ∧ ml 0 H2 M2 B2 N2 C2 J2 ∧ mz M2 C2 J2 ∧ ∀ a, offN a → J2 a = J a) n2 K P G) jj_noX) : lj l D K P t I yw ww aw ym wm am := by
  refine ⟨0, fun v J => S (some (.int v)) J, fun n G hn => jj_mono (hw n G hn) (fun r n1 K1 I1 P1 G1 h => ?_), fun v J hJ n G hn => ?_⟩
  · obtain ⟨e1, e2, e3, e4, v, e5, e6⟩ := h
    exact ⟨e1, by omega, e3, e4, v, e5, fun _ => by rw [e6, jj_u_eq]⟩
  · obtain ⟨rm, n2, C2, H2, M2, B2, N2, h1, h2, h3, h4, h5⟩ := hmo v J hJ n G hn
    refine ⟨rm, h1, jj_mono h5 (fun r n1 K1 I1 P1 G1 h => ?_)⟩
    obtain ⟨⟨e1, e2, e3, e4, e5⟩, e6, e7, e8, e9⟩ := h
    exact ⟨⟨v, e1, fun _ => rfl⟩, by omega, e7, e8, e9, e2, li_mk h3 e3 e4 (fun a ha => (e5 a (by unfold offN; omega)).trans (h4 a ha))⟩
theorem tn_ix {a : Int32} {b : Nat} (h : ¬ (a < 0 ∨ nI b ≤ a)) (hb : b < 2 ^ 31) : ∃ j, j < b ∧ a = nI j := by
  obtain ⟨j, hj, rfl⟩ := nI_of (x := a) (fun z => h (Or.inl z))
  refine ⟨j, Nat.not_le.mp (fun q => h (Or.inr ((nI_leI hb hj).mpr q))), rfl⟩
theorem tn_nr {y lo hi : Int32} (h : ¬ (y < lo ∨ hi < y)) : lo ≤ y ∧ y ≤ hi := ⟨Int32.not_lt.mp (fun q => h (Or.inl q)), Int32.not_lt.mp (fun q => h (Or.inr q))⟩
theorem tn_iv {u v : Int32} (h : some (Value.int u) = some (Value.int v)) : u = v := by
  cases h
  rfl
/-- a sunk boat is advised nothing -/
theorem av_0 {hl : Nat → Int32} : ∀ {n : Nat}, (∀ k, k < n → hl k = 0) → f_av hl n = (-1, 0)
  | 0, _ => rfl
  | n + 1, h => by
    show (if (f_av hl n).2 < hl n then (nI n, hl n) else f_av hl n) = (-1, 0)
    rw [av_0 (fun k hk => h k (by omega)), h n (by omega), if_neg (by decide)]
theorem hl_s {b d y g : Nat} (h : tn_c t H M B N C) (hb : b < B) (h3 : C (aB 0 b) 3 = 3) : f_hl H M B N b d y g C = 0 := by
  obtain ⟨hs, hk, -, -, hn⟩ := h
  obtain ⟨z1, z2, z3⟩ := sf_Z hs
  have e0 : f_hb0 M B N b g C = jj_u (f_cpW M B N C) (aB 1 b) 6 (nI g) := by
    unfold f_hb0
    exact bg_n (fun q => by
      rw [jj_u_nk (by decide), cp_B z1 z3 z2 hb (by decide), h3] at q
      exact absurd q.1 (by decide))
  have e3 : f_hb0 M B N b g C (aB 1 b) 3 = 3 := by rw [e0, jj_u_nk (by decide), cp_B z1 z3 z2 hb (by decide), h3]
  have e1 : f_hb0 M B N b g C (aB 1 b) 1 = 0 := by rw [e0, jj_u_nk (by decide), cp_B z1 z3 z2 hb (by decide)]; exact (hn.1 b hb).1.1 h3
  unfold f_hl
  cases y with
  | zero => exact e1
  | succ y =>
    show (if f_hb0 M B N b g C (aB 1 b) 3 = 3 then f_hb0 M B N b g C else _) (aB 1 b) 1 = 0
    rw [if_pos e3]
    exact e1
theorem av_eq {b d y : Nat} {Js : Nat → jj_I} (h : tn_c t H M B N C) (hd : C (aR 0) 0 = nI d) (hb : b < B) (hJs : ∀ k a, offT a → Js k a = C a) : f_av (fun j => f_hl H M B N b d y j (Js j)) H = f_av (fun g => m_hl H M B N b d y g (Js g)) H := f_av_cg (fun g hg => by
  have hJ : tn_c t H M B N (Js g) := tc_eq h (fun a ha => hJs g a (by unfold offT; omega))
  have hdJ : Js g (aR 0) 0 = nI d := by rw [hJs g (aR 0) (by unfold offT; decide)]; exact hd
  exact hl_eq hJ.1 hJ.2.1 (tc_E hJ) hdJ hb hg (tc_30 hJ hdJ hb hg))
end LJ
