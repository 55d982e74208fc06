/-- an answer and a memory that are so -/
def jj_RS (S : Option Value → jj_I → Prop) (n0 : Nat) (K0 : jj_K) (P0 : jj_P) (G0 : jj_G) : jj_post := fun r n K I P G => S r I ∧ n = n0 ∧ K = K0 ∧ P = P0 ∧ G = G0
section JRS
variable {X : jj_X} {D : jj_D} {cs sl nL : Nat} {Q : State → Prop} {n : Nat} {K : jj_K} {I : jj_I} {P : jj_P} {G : jj_G} {pc : Nat} {L : List (Option Value)} {rest : List Value}
theorem jr_rel {st : List Value} {mc ms : Nat} {S : Option Value → jj_I → Prop} {n1 : Nat} {K1 : jj_K} {P1 : jj_P} {G1 : jj_G} (hr : jj_Run X D nL cs sl n K I P G pc L st rest mc ms (jj_RS S n1 K1 P1 G1) jj_noX)
    (kk : ∀ r I1, S r I1 → jj_J X D nL (cs + mc) (sl + ms) Q n1 K1 I1 P1 G1 (pc + 3) L (r.toList ++ rest)) : jj_J X D nL cs sl Q n K I P G pc L st :=
  jr_gen hr (fun _ _ _ _ _ _ h => h.elim) (fun r n2 K2 I2 P2 G2 h => by obtain ⟨h1, rfl, rfl, rfl, rfl⟩ := h; exact kk r I2 h1)
end JRS
theorem it_pick {f : Nat → jj_I → jj_I} {I : jj_I} {x k : Nat} : ∀ {N : Nat}, k < N → (∀ j J, j < N → j ≠ k → f j J x = J x) → it f I N x = f k (it f I k) x
  | N + 1, hk, h => by
    by_cases e : k = N
    · subst e; rfl
    · show f N (it f I N) x = _
      rw [h N _ (Nat.lt_succ_self _) (fun q => e q.symm)]
      exact it_pick (by omega) (fun j J hj => h j J (by omega))
def f_fs (g : Nat → Option Int32) : Nat → Nat → Int32
  | 0, _ => -1
  | m + 1, k => match g k with
    | some r => r
    | none => f_fs g m (k + 1)
theorem f_fs_s {g : Nat → Option Int32} {m k : Nat} {r : Int32} (h : g k = some r) : f_fs g (m + 1) k = r := by simp only [f_fs, h]
theorem f_fs_n {g : Nat → Option Int32} {m k : Nat} (h : g k = none) : f_fs g (m + 1) k = f_fs g m (k + 1) := by simp only [f_fs, h]
theorem f_fs_cg {g h : Nat → Option Int32} : ∀ (m k : Nat), (∀ j, k ≤ j → j < k + m → g j = h j) → f_fs g m k = f_fs h m k
  | 0, _, _ => rfl
  | m + 1, k, e => by
    simp only [f_fs, e k (Nat.le_refl _) (by omega), f_fs_cg m (k + 1) (fun j h1 h2 => e j (by omega) (by omega))]
def lx (d : Int64) (f : Nat → Int32) : Nat → Int64
  | 0 => d
  | k + 1 => lx d f k * 31 + (f k).toInt64
theorem lx_cg {d : Int64} {f g : Nat → Int32} : ∀ {n : Nat}, (∀ k, k < n → f k = g k) → lx d f n = lx d g n
  | 0, _ => rfl
  | n + 1, h => by
    show lx d f n * 31 + (f n).toInt64 = lx d g n * 31 + (g n).toInt64
    rw [lx_cg (f := f) (g := g) (n := n) (fun k hk => h k (by omega)), h n (by omega)]
theorem it_cg {α : Type} {f g : Nat → α → α} {x : α} : ∀ {n : Nat}, (∀ k y, k < n → f k y = g k y) → it f x n = it g x n
  | 0, _ => rfl
  | n + 1, h => by
    show f n (it f x n) = g n (it g x n)
    rw [it_cg (f := f) (g := g) (n := n) (fun k y hk => h k y (by omega)), h n _ (Nat.lt_succ_self _)]
