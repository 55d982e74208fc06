def aW (w : Nat) : Nat := 2 + 70 * w
def aR (w : Nat) : Nat := 3 + 70 * w
def aWm (w : Nat) : Nat := 4 + 70 * w
def aLd (w : Nat) : Nat := 5 + 70 * w
def aIc (w : Nat) : Nat := 6 + 70 * w
def aBe (w : Nat) : Nat := 7 + 70 * w
def aPr (w : Nat) : Nat := 8 + 70 * w
def aMs (w : Nat) : Nat := 9 + 70 * w
def aBs (w : Nat) : Nat := 10 + 70 * w
def aDs (w : Nat) : Nat := 11 + 70 * w
def aM (w k : Nat) : Nat := 12 + 70 * w + 2 * k
def aMt (w k : Nat) : Nat := 13 + 70 * w + 2 * k
def aB (w k : Nat) : Nat := 22 + 70 * w + 2 * k
def aBc (w k : Nat) : Nat := 23 + 70 * w + 2 * k
def aD (w k : Nat) : Nat := 42 + 70 * w + k
def aAh (i : Nat) : Nat := 143 + i
def ly_Kw (o : Nat) : Nat × Nat :=
  if o = 0 then (4, 0) else if o = 1 then (3, 0) else if o = 2 then (10, 40) else if o = 3 then (10, 7) else if o = 4 then (10, 7) else if o = 5 then (10, 8) else if o = 6 then (10, 32)
  else if o = 7 then (14, 5) else if o = 8 then (12, 10) else if o = 9 then (13, 30) else if o < 20 then (if o % 2 = 0 then (2, 0) else (10, 32)) else if o < 40 then (if o % 2 = 0 then (0, 0) else (10, 4)) else (1, 0)
/-- the kinds of the cells that stay (the script's and the answers' apart) -/
def ly_K0 (a : Nat) : Option (Nat × Nat) :=
  if a = 1 then some (5, 0) else if 2 ≤ a ∧ a < 72 then some (ly_Kw (a - 2)) else if 72 ≤ a ∧ a < 142 then some (ly_Kw (a - 72)) else if a = 142 then some (15, 7) else if 143 ≤ a ∧ a < 150 then some (10, 187) else none
def ly_Pw (w o k : Nat) : Option Nat :=
  if o = 0 then (if k = 0 then some (aR w) else if k = 4 then some (aMs w) else if k = 5 then some (aBs w) else if k = 6 then some (aDs w) else none)
  else if o = 1 then (if k = 2 then some (aWm w) else if k = 3 then some (aLd w) else if k = 4 then some (aIc w) else if k = 5 then some (aBe w) else if k = 6 then some (aPr w) else none)
  else if o = 7 then (if k < 5 then some (aM w k) else none) else if o = 8 then (if k < 10 then some (aB w k) else none) else if o = 9 then (if k < 30 then some (aD w k) else none)
  else if o < 20 then (if o % 2 = 0 then (if 10 ≤ o ∧ k = 1 then some (o + 3 + 70 * w) else none) else none)
  else if o < 40 then (if o % 2 = 0 then (if k = 8 then some (o + 3 + 70 * w) else none) else none) else none
def ly_P0 (a k : Nat) : Option Nat :=
  if a = 1 then (if k = 0 then some (aW 0) else if k = 1 then some (aR 0) else if k = 2 then some (aW 1) else if k = 3 then some 142 else none)
  else if 2 ≤ a ∧ a < 72 then ly_Pw 0 (a - 2) k else if 72 ≤ a ∧ a < 142 then ly_Pw 1 (a - 72) k else if a = 142 then (if k < 7 then some (aAh k) else none) else none
/-- all that stays is where it was made -/
def ly (K : jj_K) (P : jj_P) : Prop := (∀ a kd, ly_K0 a = some kd → K a = some kd) ∧ ∀ a k q, ly_P0 a k = some q → P a k = some q
section LY
variable {K : jj_K} {P : jj_P} {w k : Nat}
theorem ly_kW (h : ly K P) (hw : w < 2) : K (aW w) = some (4, 0) := h.1 _ _ ((by decide +kernel : ∀ w, w < 2 → ly_K0 (aW w) = some (4, 0)) w hw)
theorem ly_kR (h : ly K P) (hw : w < 2) : K (aR w) = some (3, 0) := h.1 _ _ ((by decide +kernel : ∀ w, w < 2 → ly_K0 (aR w) = some (3, 0)) w hw)
theorem ly_kWm (h : ly K P) (hw : w < 2) : K (aWm w) = some (10, 40) := h.1 _ _ ((by decide +kernel : ∀ w, w < 2 → ly_K0 (aWm w) = some (10, 40)) w hw)
theorem ly_kLd (h : ly K P) (hw : w < 2) : K (aLd w) = some (10, 7) := h.1 _ _ ((by decide +kernel : ∀ w, w < 2 → ly_K0 (aLd w) = some (10, 7)) w hw)
theorem ly_kIc (h : ly K P) (hw : w < 2) : K (aIc w) = some (10, 7) := h.1 _ _ ((by decide +kernel : ∀ w, w < 2 → ly_K0 (aIc w) = some (10, 7)) w hw)
theorem ly_kBe (h : ly K P) (hw : w < 2) : K (aBe w) = some (10, 8) := h.1 _ _ ((by decide +kernel : ∀ w, w < 2 → ly_K0 (aBe w) = some (10, 8)) w hw)
theorem ly_kPr (h : ly K P) (hw : w < 2) : K (aPr w) = some (10, 32) := h.1 _ _ ((by decide +kernel : ∀ w, w < 2 → ly_K0 (aPr w) = some (10, 32)) w hw)
theorem ly_kMs (h : ly K P) (hw : w < 2) : K (aMs w) = some (14, 5) := h.1 _ _ ((by decide +kernel : ∀ w, w < 2 → ly_K0 (aMs w) = some (14, 5)) w hw)
theorem ly_kBs (h : ly K P) (hw : w < 2) : K (aBs w) = some (12, 10) := h.1 _ _ ((by decide +kernel : ∀ w, w < 2 → ly_K0 (aBs w) = some (12, 10)) w hw)
theorem ly_kDs (h : ly K P) (hw : w < 2) : K (aDs w) = some (13, 30) := h.1 _ _ ((by decide +kernel : ∀ w, w < 2 → ly_K0 (aDs w) = some (13, 30)) w hw)
theorem ly_kM (h : ly K P) (hw : w < 2) (hk : k < 5) : K (aM w k) = some (2, 0) := h.1 _ _ ((by decide +kernel : ∀ w, w < 2 → ∀ k, k < 5 → ly_K0 (aM w k) = some (2, 0)) w hw k hk)
theorem ly_kMt (h : ly K P) (hw : w < 2) (hk : k < 5) : K (aMt w k) = some (10, 32) := h.1 _ _ ((by decide +kernel : ∀ w, w < 2 → ∀ k, k < 5 → ly_K0 (aMt w k) = some (10, 32)) w hw k hk)
theorem ly_kB (h : ly K P) (hw : w < 2) (hk : k < 10) : K (aB w k) = some (0, 0) := h.1 _ _ ((by decide +kernel : ∀ w, w < 2 → ∀ k, k < 10 → ly_K0 (aB w k) = some (0, 0)) w hw k hk)
theorem ly_kBc (h : ly K P) (hw : w < 2) (hk : k < 10) : K (aBc w k) = some (10, 4) := h.1 _ _ ((by decide +kernel : ∀ w, w < 2 → ∀ k, k < 10 → ly_K0 (aBc w k) = some (10, 4)) w hw k hk)
theorem ly_kD (h : ly K P) (hw : w < 2) (hk : k < 30) : K (aD w k) = some (1, 0) := h.1 _ _ ((by decide +kernel : ∀ w, w < 2 → ∀ k, k < 30 → ly_K0 (aD w k) = some (1, 0)) w hw k hk)
theorem ly_kA (h : ly K P) : K 142 = some (15, 7) := h.1 _ _ (by decide +kernel)
theorem ly_kAh (h : ly K P) (hk : k < 7) : K (aAh k) = some (10, 187) := h.1 _ _ ((by decide +kernel : ∀ k, k < 7 → ly_K0 (aAh k) = some (10, 187)) k hk)
theorem ly_kI (h : ly K P) : K 1 = some (5, 0) := h.1 _ _ (by decide +kernel)
theorem ly_p4_0 (h : ly K P) (hw : w < 2) : P (aW w) 0 = some (aR w) := h.2 _ _ _ ((by decide +kernel : ∀ w, w < 2 → ly_P0 (aW w) 0 = some (aR w)) w hw)
theorem ly_p4_4 (h : ly K P) (hw : w < 2) : P (aW w) 4 = some (aMs w) := h.2 _ _ _ ((by decide +kernel : ∀ w, w < 2 → ly_P0 (aW w) 4 = some (aMs w)) w hw)
theorem ly_p4_5 (h : ly K P) (hw : w < 2) : P (aW w) 5 = some (aBs w) := h.2 _ _ _ ((by decide +kernel : ∀ w, w < 2 → ly_P0 (aW w) 5 = some (aBs w)) w hw)
theorem ly_p4_6 (h : ly K P) (hw : w < 2) : P (aW w) 6 = some (aDs w) := h.2 _ _ _ ((by decide +kernel : ∀ w, w < 2 → ly_P0 (aW w) 6 = some (aDs w)) w hw)
theorem ly_p3_2 (h : ly K P) (hw : w < 2) : P (aR w) 2 = some (aWm w) := h.2 _ _ _ ((by decide +kernel : ∀ w, w < 2 → ly_P0 (aR w) 2 = some (aWm w)) w hw)
theorem ly_p3_3 (h : ly K P) (hw : w < 2) : P (aR w) 3 = some (aLd w) := h.2 _ _ _ ((by decide +kernel : ∀ w, w < 2 → ly_P0 (aR w) 3 = some (aLd w)) w hw)
theorem ly_p3_4 (h : ly K P) (hw : w < 2) : P (aR w) 4 = some (aIc w) := h.2 _ _ _ ((by decide +kernel : ∀ w, w < 2 → ly_P0 (aR w) 4 = some (aIc w)) w hw)
theorem ly_p3_5 (h : ly K P) (hw : w < 2) : P (aR w) 5 = some (aBe w) := h.2 _ _ _ ((by decide +kernel : ∀ w, w < 2 → ly_P0 (aR w) 5 = some (aBe w)) w hw)
theorem ly_p3_6 (h : ly K P) (hw : w < 2) : P (aR w) 6 = some (aPr w) := h.2 _ _ _ ((by decide +kernel : ∀ w, w < 2 → ly_P0 (aR w) 6 = some (aPr w)) w hw)
theorem ly_p2_1 (h : ly K P) (hw : w < 2) (hk : k < 5) : P (aM w k) 1 = some (aMt w k) := h.2 _ _ _ ((by decide +kernel : ∀ w, w < 2 → ∀ k, k < 5 → ly_P0 (aM w k) 1 = some (aMt w k)) w hw k hk)
theorem ly_p0_8 (h : ly K P) (hw : w < 2) (hk : k < 10) : P (aB w k) 8 = some (aBc w k) := h.2 _ _ _ ((by decide +kernel : ∀ w, w < 2 → ∀ k, k < 10 → ly_P0 (aB w k) 8 = some (aBc w k)) w hw k hk)
theorem ly_qMs (h : ly K P) (hw : w < 2) (hk : k < 5) : P (aMs w) k = some (aM w k) := h.2 _ _ _ ((by decide +kernel : ∀ w, w < 2 → ∀ k, k < 5 → ly_P0 (aMs w) k = some (aM w k)) w hw k hk)
theorem ly_qBs (h : ly K P) (hw : w < 2) (hk : k < 10) : P (aBs w) k = some (aB w k) := h.2 _ _ _ ((by decide +kernel : ∀ w, w < 2 → ∀ k, k < 10 → ly_P0 (aBs w) k = some (aB w k)) w hw k hk)
theorem ly_qDs (h : ly K P) (hw : w < 2) (hk : k < 30) : P (aDs w) k = some (aD w k) := h.2 _ _ _ ((by decide +kernel : ∀ w, w < 2 → ∀ k, k < 30 → ly_P0 (aDs w) k = some (aD w k)) w hw k hk)
theorem ly_qA (h : ly K P) (hk : k < 7) : P 142 k = some (aAh k) := h.2 _ _ _ ((by decide +kernel : ∀ k, k < 7 → ly_P0 142 k = some (aAh k)) k hk)
theorem ly_p5_0 (h : ly K P) : P 1 0 = some (aW 0) := h.2 _ _ _ (by decide +kernel)
theorem ly_p5_1 (h : ly K P) : P 1 1 = some (aR 0) := h.2 _ _ _ (by decide +kernel)
theorem ly_p5_2 (h : ly K P) : P 1 2 = some (aW 1) := h.2 _ _ _ (by decide +kernel)
theorem ly_p5_3 (h : ly K P) : P 1 3 = some 142 := h.2 _ _ _ (by decide +kernel)
end LY
theorem aPos : (∀ w, 0 < aW w) ∧ (∀ w, 0 < aR w) ∧ (∀ w k, 0 < aM w k) ∧ (∀ w k, 0 < aB w k) ∧ ∀ w k, 0 < aD w k := by
  refine ⟨fun w => ?_, fun w => ?_, fun w k => ?_, fun w k => ?_, fun w k => ?_⟩ <;> simp only [aW, aR, aM, aB, aD] <;> omega
theorem aW_0 {w : Nat} : 0 < aW w := by unfold aW; omega
theorem aR_0 {w : Nat} : 0 < aR w := by unfold aR; omega
theorem aM_0 {w k : Nat} : 0 < aM w k := by unfold aM; omega
theorem aB_0 {w k : Nat} : 0 < aB w k := by unfold aB; omega
theorem aD_0 {w k : Nat} : 0 < aD w k := by unfold aD; omega
theorem aWm_0 {w : Nat} : 0 < aWm w := by unfold aWm; omega
theorem aLd_0 {w : Nat} : 0 < aLd w := by unfold aLd; omega
theorem aIc_0 {w : Nat} : 0 < aIc w := by unfold aIc; omega
theorem aBe_0 {w : Nat} : 0 < aBe w := by unfold aBe; omega
theorem aPr_0 {w : Nat} : 0 < aPr w := by unfold aPr; omega
theorem aMt_0 {w k : Nat} : 0 < aMt w k := by unfold aMt; omega
theorem aBc_0 {w k : Nat} : 0 < aBc w k := by unfold aBc; omega
theorem aAh_0 {k : Nat} : 0 < aAh k := by unfold aAh; omega
/-- a whole number that an int tells -/
def nv (x : Int32) : Nat := x.toNatClampNeg
def nn (x : Int32) (n : Nat) : Prop := x = nI (nv x) ∧ nv x < n
theorem nv_nI {n : Nat} (h : n < 2 ^ 31) : nv (nI n) = n := nI_clamp h
theorem nn_nI {n N : Nat} (h : n < N) (hN : N ≤ 2 ^ 31) : nn (nI n) N := by
  unfold nn
  rw [nv_nI (by omega)]
  exact ⟨rfl, h⟩
theorem jj_inc (k : Nat) : nI k + Int32.ofInt 1 = nI (k + 1) := by rw [← nI_1]; rfl
theorem jj_inc1 (x : Int32) : x + Int32.ofInt 1 = x + 1 := rfl
theorem jj_dec1 (x : Int32) : x + Int32.ofInt (-1) = x - 1 := by rw [Int32.sub_eq_add_neg]; rfl
/-- a loop that counts up -/
theorem jj_for (N : Nat) (Wf : Nat → Prop) (h0 : Wf N) (hs : ∀ k, k < N → Wf (k + 1) → Wf k) : ∀ k, k ≤ N → Wf k := by
  have key : ∀ j k, k + j = N → Wf k := by
    intro j
    induction j with
    | zero => intro k hk; rw [show k = N by omega]; exact h0
    | succ j ih => intro k hk; exact hs k (by omega) (ih (k + 1) (by omega))
  intro k hk
  exact key (N - k) k (by omega)
def sm (f : Nat → Int32) : Nat → Int32
  | 0 => 0
  | k + 1 => sm f k + f k
theorem sm_congr {f g : Nat → Int32} : ∀ {n : Nat}, (∀ k, k < n → f k = g k) → sm f n = sm g n
  | 0, _ => rfl
  | n + 1, h => by
    show sm f n + f n = sm g n + g n
    rw [sm_congr (fun k hk => h k (by omega)), h n (by omega)]
theorem sm_1 {f : Nat → Int32} {k : Nat} {x : Int32} (h : f k = x) : sm f (k + 1) = sm f k + x := by rw [← h]; rfl
theorem sm_0 {f : Nat → Int32} {k : Nat} (h : f k = 0) : sm f (k + 1) = sm f k := by rw [sm_1 h, Int32.add_zero]
/-- n steps over a memory -/
def it {α : Type} (f : Nat → α → α) (x : α) : Nat → α
  | 0 => x
  | k + 1 => f k (it f x k)
theorem jj_ri {x r : Int32} (h : x = r) : some (Value.int x) = some (Value.int r) := by rw [h]
