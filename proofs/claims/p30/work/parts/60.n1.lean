/-! numbers: sums of whole numbers, goods and coins -/
def tn_ts (f : Nat → Nat) : Nat → Nat
  | 0 => 0
  | k + 1 => tn_ts f k + f k
theorem tn_cg {f g : Nat → Nat} : ∀ {n : Nat}, (∀ k, k < n → g k = f k) → tn_ts g n = tn_ts f n
  | 0, _ => rfl
  | n + 1, h => by
    show tn_ts g n + g n = tn_ts f n + f n
    rw [tn_cg (fun k hk => h k (by omega)), h n (by omega)]
theorem tn_up {f g : Nat → Nat} {j : Nat} : ∀ {n : Nat}, j < n → (∀ k, k < n → k ≠ j → g k = f k) → tn_ts g n + f j = tn_ts f n + g j
  | n + 1, hj, h => by
    show tn_ts g n + g n + f j = tn_ts f n + f n + g j
    by_cases e : j = n
    · subst e
      rw [tn_cg (f := f) (g := g) (fun k hk => h k (by omega) (by omega))]
      omega
    · have := tn_up (f := f) (g := g) (j := j) (n := n) (by omega) (fun k hk => h k (by omega))
      rw [h n (by omega) (by omega)]
      omega
theorem tn_le {f : Nat → Nat} {j : Nat} : ∀ {n : Nat}, j < n → f j ≤ tn_ts f n
  | n + 1, hj => by
    show f j ≤ tn_ts f n + f n
    by_cases e : j = n
    · subst e; omega
    · have := tn_le (f := f) (j := j) (n := n) (by omega)
      omega
theorem tn_mono {f g : Nat → Nat} : ∀ {n : Nat}, (∀ k, k < n → f k ≤ g k) → tn_ts f n ≤ tn_ts g n
  | 0, _ => Nat.le_refl _
  | n + 1, h => Nat.add_le_add (tn_mono (fun k hk => h k (by omega))) (h n (by omega))
theorem tn_zero {f : Nat → Nat} : ∀ {n : Nat}, (∀ k, k < n → f k = 0) → tn_ts f n = 0
  | 0, _ => rfl
  | n + 1, h => by
    show tn_ts f n + f n = 0
    rw [tn_zero (fun k hk => h k (by omega)), h n (by omega)]
theorem tn_sm {f : Nat → Int32} {g : Nat → Nat} : ∀ {n : Nat}, (∀ k, k < n → f k = nI (g k)) → sm f n = nI (tn_ts g n)
  | 0, _ => by rw [show tn_ts g 0 = 0 from rfl, nI_0]; rfl
  | n + 1, h => by
    show sm f n + f n = nI (tn_ts g n + g n)
    rw [tn_sm (fun k hk => h k (by omega)), h n (by omega), nI_add]
theorem tn_bnd {f : Nat → Nat} {c : Nat} : ∀ {n : Nat}, (∀ k, k < n → f k ≤ c) → tn_ts f n ≤ c * n
  | 0, _ => Nat.zero_le _
  | n + 1, h => by
    show tn_ts f n + f n ≤ c * (n + 1)
    have h1 := tn_bnd (f := f) (n := n) (fun k hk => h k (by omega))
    have h2 := h n (by omega)
    rw [Nat.mul_succ]
    omega
theorem nI_sb {a b : Nat} (h : b ≤ a) : nI a - nI b = nI (a - b) := by
  rw [show nI a = nI (a - b) + nI b from by rw [nI_add, Nat.sub_add_cancel h], Int32.add_sub_cancel]
theorem nI_ml (a b : Nat) : nI a * nI b = nI (a * b) := (Int32.ofNat_mul a b).symm
theorem nI_nn {n : Nat} (h : n < 2 ^ 31) : nI n = nI (nv (nI n)) := by rw [nv_nI h]
/-- all goods at harbours, on boats; all coins -/
def tn_S (w : Nat) (C : jj_I) : Nat := tn_ts (fun m => tn_ts (fun k => nv (C (aMt w m) k)) 32) 5
def tn_K (w : Nat) (C : jj_I) : Nat := tn_ts (fun b => tn_ts (fun g => nv (C (aBc w b) g)) 4) 10
def tn_C (w : Nat) (C : jj_I) : Nat := tn_ts (fun m => nv (C (aM w m) 0)) 5
section TN
variable {w t t' N : Nat} {C J : jj_I}
theorem tS_cg (h : ∀ m, m < 5 → J (aMt w m) = C (aMt w m)) : tn_S w J = tn_S w C := tn_cg (fun m hm => by rw [h m hm])
theorem tK_cg (h : ∀ b, b < 10 → J (aBc w b) = C (aBc w b)) : tn_K w J = tn_K w C := tn_cg (fun m hm => by rw [h m hm])
theorem tC_cg (h : ∀ m, m < 5 → J (aM w m) 0 = C (aM w m) 0) : tn_C w J = tn_C w C := tn_cg (fun m hm => by rw [h m hm])
theorem tS_u {m k v : Nat} (hm : m < 5) (hk : k < 32) (hv : v < 2 ^ 31) : tn_S w (jj_u C (aMt w m) k (nI v)) + nv (C (aMt w m) k) = tn_S w C + v := by
  have h1 := tn_up (f := fun k => nv (C (aMt w m) k)) (g := fun q => nv (jj_u C (aMt w m) k (nI v) (aMt w m) q)) (j := k) (n := 32) hk (fun q _ hq => by rw [jj_u_nk hq])
  have h2 := tn_up (f := fun m => tn_ts (fun k => nv (C (aMt w m) k)) 32) (g := fun p => tn_ts (fun q => nv (jj_u C (aMt w m) k (nI v) (aMt w p) q)) 32) (j := m) (n := 5) hm (fun p _ hp => by rw [jj_u_ne (by simp only [aMt]; omega)])
  rw [jj_u_eq, nv_nI hv] at h1
  unfold tn_S
  omega
theorem tK_u {b g v : Nat} (hb : b < 10) (hg : g < 4) (hv : v < 2 ^ 31) : tn_K w (jj_u C (aBc w b) g (nI v)) + nv (C (aBc w b) g) = tn_K w C + v := by
  have h1 := tn_up (f := fun k => nv (C (aBc w b) k)) (g := fun q => nv (jj_u C (aBc w b) g (nI v) (aBc w b) q)) (j := g) (n := 4) hg (fun q _ hq => by rw [jj_u_nk hq])
  have h2 := tn_up (f := fun m => tn_ts (fun k => nv (C (aBc w m) k)) 4) (g := fun p => tn_ts (fun q => nv (jj_u C (aBc w b) g (nI v) (aBc w p) q)) 4) (j := b) (n := 10) hb (fun p _ hp => by rw [jj_u_ne (by simp only [aBc]; omega)])
  rw [jj_u_eq, nv_nI hv] at h1
  unfold tn_K
  omega
theorem tC_u {m v : Nat} (hm : m < 5) (hv : v < 2 ^ 31) : tn_C w (jj_u C (aM w m) 0 (nI v)) + nv (C (aM w m) 0) = tn_C w C + v := by
  have h2 := tn_up (f := fun m => nv (C (aM w m) 0)) (g := fun p => nv (jj_u C (aM w m) 0 (nI v) (aM w p) 0)) (j := m) (n := 5) hm (fun p _ hp => by rw [jj_u_ne (by simp only [aM]; omega)])
  rw [jj_u_eq, nv_nI hv] at h2
  unfold tn_C
  omega
/-- goods, coins, prices and debts are numbers that never wrap -/
def tn_g (w t N : Nat) (C : jj_I) : Prop := t ≤ 512 ∧ (∀ k, k < 32 → ∃ p, p ≤ 50 ∧ C (aPr w) k = nI p) ∧ (∀ m, m < 5 → C (aM w m) 0 = nI (nv (C (aM w m) 0))) ∧ (∀ m, m < 5 → ∀ k, k < 32 → C (aMt w m) k = nI (nv (C (aMt w m) k))) ∧
  (∀ b, b < 10 → ∀ g, g < 4 → C (aBc w b) g = nI (nv (C (aBc w b) g))) ∧ (∀ d, d < N → ∃ q, q ≤ 60000 ∧ C (aD w d) 4 = nI q) ∧ tn_C w C + 50 * (tn_S w C + tn_K w C) ≤ 5000 * t
theorem tg_t (h : tn_g w t N C) (h1 : t ≤ t') (h2 : t' ≤ 512) : tn_g w t' N C := by
  obtain ⟨a0, a1, a2, a3, a4, a5, a6⟩ := h
  exact ⟨h2, a1, a2, a3, a4, a5, by omega⟩
theorem tg_cg (h : tn_g w t N C) (e1 : ∀ k, k < 32 → J (aPr w) k = C (aPr w) k) (e2 : ∀ m, m < 5 → J (aM w m) 0 = C (aM w m) 0) (e3 : ∀ m, m < 5 → J (aMt w m) = C (aMt w m)) (e4 : ∀ b, b < 10 → J (aBc w b) = C (aBc w b)) (e5 : ∀ d, d < N → J (aD w d) 4 = C (aD w d) 4) : tn_g w t N J := by
  obtain ⟨a0, a1, a2, a3, a4, a5, a6⟩ := h
  refine ⟨a0, fun k hk => ?_, fun m hm => ?_, fun m hm k hk => ?_, fun b hb g hg => ?_, fun d hd => ?_, ?_⟩
  · rw [e1 k hk]; exact a1 k hk
  · rw [e2 m hm]; exact a2 m hm
  · rw [e3 m hm]; exact a3 m hm k hk
  · rw [e4 b hb]; exact a4 b hb g hg
  · rw [e5 d hd]; exact a5 d hd
  · rw [tS_cg e3, tK_cg e4, tC_cg e2]; exact a6
/-- all that is not one of these cells may change -/
theorem tg_at (h : tn_g w t N C) {a : Nat} (ho : ∀ x, x ≠ a → J x = C x) (e1 : a ≠ aPr w) (e2 : ∀ m, m < 5 → a ≠ aM w m) (e3 : ∀ m, m < 5 → a ≠ aMt w m) (e4 : ∀ b, b < 10 → a ≠ aBc w b) (e5 : ∀ d, d < N → a ≠ aD w d) : tn_g w t N J :=
  tg_cg h (fun k _ => by rw [ho _ (Ne.symm e1)]) (fun m hm => by rw [ho _ (Ne.symm (e2 m hm))]) (fun m hm => ho _ (Ne.symm (e3 m hm))) (fun b hb => ho _ (Ne.symm (e4 b hb))) (fun d hd => by rw [ho _ (Ne.symm (e5 d hd))])
theorem tg_S (h : tn_g w t N C) {m k : Nat} (hm : m < 5) (hk : k < 32) : nv (C (aMt w m) k) ≤ tn_S w C ∧ tn_S w C ≤ 51200 := by
  obtain ⟨a0, a1, a2, a3, a4, a5, a6⟩ := h
  have h1 : nv (C (aMt w m) k) ≤ tn_ts (fun k => nv (C (aMt w m) k)) 32 := tn_le (f := fun k => nv (C (aMt w m) k)) hk
  have h2 : tn_ts (fun k => nv (C (aMt w m) k)) 32 ≤ tn_S w C := tn_le (f := fun m => tn_ts (fun k => nv (C (aMt w m) k)) 32) hm
  exact ⟨by omega, by omega⟩
theorem tg_C (h : tn_g w t N C) {m : Nat} (hm : m < 5) : nv (C (aM w m) 0) ≤ tn_C w C ∧ tn_C w C ≤ 2560000 := by
  obtain ⟨a0, a1, a2, a3, a4, a5, a6⟩ := h
  have h1 : nv (C (aM w m) 0) ≤ tn_C w C := tn_le (f := fun m => nv (C (aM w m) 0)) hm
  exact ⟨h1, by omega⟩
theorem tg_coin (h : tn_g w t N C) {m v : Nat} {x : Int32} (hm : m < 5) (hx : x = nI v) (ht : t' ≤ 512) (hv : tn_C w C + v + 50 * (tn_S w C + tn_K w C) ≤ 5000 * t' + nv (C (aM w m) 0)) : tn_g w t' N (jj_u C (aM w m) 0 x) := by
  subst hx
  have hb := tg_C h hm
  obtain ⟨a0, a1, a2, a3, a4, a5, a6⟩ := h
  have hv2 : v < 2 ^ 31 := by omega
  have hu := tC_u (w := w) (C := C) hm hv2
  refine ⟨ht, fun k hk => ?_, fun p hp => ?_, fun p hp k hk => ?_, fun b hb g hg => ?_, fun d hd => ?_, ?_⟩
  · rw [jj_u_ne (by simp only [aPr, aM]; omega)]; exact a1 k hk
  · by_cases e : p = m
    · subst e; rw [jj_u_eq]; exact nI_nn hv2
    · rw [jj_u_ne (by simp only [aM]; omega)]; exact a2 p hp
  · rw [jj_u_ne (by simp only [aMt, aM]; omega)]; exact a3 p hp k hk
  · rw [jj_u_ne (by simp only [aBc, aM]; omega)]; exact a4 b hb g hg
  · rw [jj_u_ne (by simp only [aD, aM]; omega)]; exact a5 d hd
  · rw [tS_cg (C := C) (fun p _ => jj_u_ne (by simp only [aMt, aM]; omega)), tK_cg (C := C) (fun p _ => jj_u_ne (by simp only [aBc, aM]; omega))]
    omega
theorem tg_stock (h : tn_g w t N C) {m k v : Nat} {x : Int32} (hm : m < 5) (hk : k < 32) (hx : x = nI v) (ht : t' ≤ 512) (hv : tn_C w C + 50 * (tn_S w C + tn_K w C + v) ≤ 5000 * t' + 50 * nv (C (aMt w m) k)) : tn_g w t' N (jj_u C (aMt w m) k x) := by
  subst hx
  have hb := tg_S h hm hk
  obtain ⟨a0, a1, a2, a3, a4, a5, a6⟩ := h
  have hv2 : v < 2 ^ 31 := by omega
  have hu := tS_u (w := w) (C := C) hm hk hv2
  refine ⟨ht, fun k hk => ?_, fun p hp => ?_, fun p hp q hq => ?_, fun b hb g hg => ?_, fun d hd => ?_, ?_⟩
  · rw [jj_u_ne (by simp only [aPr, aMt]; omega)]; exact a1 _ hk
  · rw [jj_u_ne (by simp only [aMt, aM]; omega)]; exact a2 p hp
  · by_cases e : p = m
    · subst e
      by_cases e2 : q = k
      · subst e2; rw [jj_u_eq]; exact nI_nn hv2
      · rw [jj_u_nk e2]; exact a3 p hp q hq
    · rw [jj_u_ne (by simp only [aMt]; omega)]; exact a3 p hp q hq
  · rw [jj_u_ne (by simp only [aBc, aMt]; omega)]; exact a4 b hb g hg
  · rw [jj_u_ne (by simp only [aD, aMt]; omega)]; exact a5 d hd
  · rw [tC_cg (C := C) (fun p _ => by rw [jj_u_ne (by simp only [aMt, aM]; omega)]), tK_cg (C := C) (fun p _ => jj_u_ne (by simp only [aBc, aMt]; omega))]
    omega
theorem tg_cargo (h : tn_g w t N C) {b g v : Nat} {x : Int32} (hb : b < 10) (hg : g < 4) (hx : x = nI v) (ht : t' ≤ 512) (hv : tn_C w C + 50 * (tn_S w C + tn_K w C + v) ≤ 5000 * t' + 50 * nv (C (aBc w b) g)) : tn_g w t' N (jj_u C (aBc w b) g x) := by
  subst hx
  have hKb : nv (C (aBc w b) g) ≤ tn_K w C := by
    have h1 : nv (C (aBc w b) g) ≤ tn_ts (fun k => nv (C (aBc w b) k)) 4 := tn_le (f := fun k => nv (C (aBc w b) k)) hg
    have h2 : tn_ts (fun k => nv (C (aBc w b) k)) 4 ≤ tn_K w C := tn_le (f := fun m => tn_ts (fun k => nv (C (aBc w m) k)) 4) hb
    omega
  obtain ⟨a0, a1, a2, a3, a4, a5, a6⟩ := h
  have hv2 : v < 2 ^ 31 := by omega
  have hu := tK_u (w := w) (C := C) hb hg hv2
  refine ⟨ht, fun k hk => ?_, fun p hp => ?_, fun p hp q hq => ?_, fun p hp q hq => ?_, fun d hd => ?_, ?_⟩
  · rw [jj_u_ne (by simp only [aPr, aBc]; omega)]; exact a1 k hk
  · rw [jj_u_ne (by simp only [aBc, aM]; omega)]; exact a2 p hp
  · rw [jj_u_ne (by simp only [aBc, aMt]; omega)]; exact a3 p hp q hq
  · by_cases e : p = b
    · subst e
      by_cases e2 : q = g
      · subst e2; rw [jj_u_eq]; exact nI_nn hv2
      · rw [jj_u_nk e2]; exact a4 p hp q hq
    · rw [jj_u_ne (by simp only [aBc]; omega)]; exact a4 p hp q hq
  · rw [jj_u_ne (by simp only [aD, aBc]; omega)]; exact a5 d hd
  · rw [tC_cg (C := C) (fun p _ => by rw [jj_u_ne (by simp only [aBc, aM]; omega)]), tS_cg (C := C) (fun p _ => jj_u_ne (by simp only [aBc, aMt]; omega))]
    omega
/-- goods go from one to another -/
theorem tg_hd (h : tn_g w t N C) {a b c q : Nat} {m : Int32} (ha : a < 5) (hb : b < 5) (hc : c < 32) (hm : m = nI q) (hq : q ≤ nv (C (aMt w a) c)) : tn_g w t N (f_hd w a b c m C) := by
  subst hm
  have hS := tg_S h ha hc
  have e1 : C (aMt w a) c - nI q = nI (nv (C (aMt w a) c) - q) := by
    rw [h.2.2.2.1 a ha c hc, nI_sb hq, nv_nI (by omega)]
  unfold f_hd
  dsimp only
  rw [e1]
  have hu := tS_u (w := w) (C := C) (m := a) (k := c) (v := nv (C (aMt w a) c) - q) ha hc (by omega)
  have a0 := h.1
  have a6 := h.2.2.2.2.2.2
  have h1 : tn_g w t N (jj_u C (aMt w a) c (nI (nv (C (aMt w a) c) - q))) := tg_stock h ha hc rfl a0 (by omega)
  have hc2 := tC_cg (w := w) (C := C) (J := jj_u C (aMt w a) c (nI (nv (C (aMt w a) c) - q))) (fun p _ => by rw [jj_u_ne (by simp only [aMt, aM]; omega)])
  have hk2 := tK_cg (w := w) (C := C) (J := jj_u C (aMt w a) c (nI (nv (C (aMt w a) c) - q))) (fun p _ => jj_u_ne (by simp only [aBc, aMt]; omega))
  generalize jj_u C (aMt w a) c (nI (nv (C (aMt w a) c) - q)) = J at h1 hu hc2 hk2 ⊢
  have hS2 := tg_S h1 hb hc
  refine tg_stock (v := nv (J (aMt w b) c) + q) h1 hb hc ?_ a0 (by omega)
  rw [h1.2.2.2.1 b hb c hc, nI_add, nv_nI (by omega)]
end TN
