/-! PURE PART: numbers, loops, memory -/
theorem lI (n : Nat) : (OfNat.ofNat n : Int32) = nI n := rfl
theorem inB_nI {i n : Nat} (hi : i < 2 ^ 31) : inB (nI i) n = decide (i < n) := by
  unfold inB
  rw [nI_clamp hi]
  by_cases h : i < n
  · rw [decide_eq_true h]
    exact decide_eq_true (fun q => q.elim (nI_pos hi) (fun q => by omega))
  · rw [decide_eq_false h]
    exact decide_eq_false (fun q => q (Or.inr (by omega)))
theorem inB_t {i n : Nat} (h : i < n) (hn : n < 2 ^ 31) : inB (nI i) n = true := by rw [inB_nI (by omega)]; exact decide_eq_true h
theorem gd_t {α : Type} {b : Bool} {x : Option α} (h : b = true) : gd b x = x := by unfold gd; rw [if_pos h]
theorem b1_some {α β : Type} (x : α) (f : α → Option β) : b1 (some x) f = f x := rfl
theorem b2_some {α β : Type} (x : α) (ρ : Mm) (f : α → Mm → Option β) : b2 (some (x, ρ)) f = f x ρ := rfl
theorem bnd_eq {α β : Type} (x : α) (f : α → Option β) : bnd x f = f x := rfl
theorem cl_nI {i : Nat} (h : i < 2 ^ 31) : (nI i).toNatClampNeg = i := nI_clamp h
theorem sI_1 (σ : Mm) (k j a b : Nat) (v : Int32) : (sI σ k j v).1 a b = if a = k ∧ b = j then v else σ.1 a b := rfl
theorem sI_2 (σ : Mm) (k j a b : Nat) (v : Int32) : (sI σ k j v).2 a b = σ.2 a b := rfl
theorem sJ_1 (σ : Mm) (k j a b : Nat) (v : Int64) : (sJ σ k j v).1 a b = σ.1 a b := rfl
theorem sJ_2 (σ : Mm) (k j a b : Nat) (v : Int64) : (sJ σ k j v).2 a b = if a = k ∧ b = j then v else σ.2 a b := rfl
/-- N steps of g -/
def itN {α : Type} (g : Nat → α → α) : Nat → α → α
  | 0, a => a
  | n + 1, a => g n (itN g n a)
/-- a loop that counts up to N -/
theorem itL {α ρ : Type} (F : Nat → Int32 → α → Option ρ) (K : α → Option ρ) (g : Nat → α → α) (N : Nat) (P : Nat → α → Prop) {a : α} (h0 : P 0 a)
    (hs : ∀ n i a, i < N → P i a → F (n + 1) (nI i) a = F n (nI (i + 1)) (g i a) ∧ P (i + 1) (g i a)) (hk : ∀ n a, P N a → F (n + 1) (nI N) a = K a) (n : Nat) (hn : N < n) :
    F n (nI 0) a = K (itN g N a) ∧ P N (itN g N a) := by
  have key : ∀ j, j ≤ N → F n (nI 0) a = F (n - j) (nI j) (itN g j a) ∧ P j (itN g j a) := by
    intro j
    induction j with
    | zero => intro _; exact ⟨rfl, h0⟩
    | succ j ih =>
      intro hj
      obtain ⟨e, hp⟩ := ih (by omega)
      obtain ⟨e2, hp2⟩ := hs (n - (j + 1)) j (itN g j a) (by omega) hp
      refine ⟨?_, hp2⟩
      rw [e, show n - j = n - (j + 1) + 1 by omega, e2]
      rfl
  obtain ⟨e, hp⟩ := key N (Nat.le_refl _)
  refine ⟨?_, hp⟩
  rw [e, show n - N = n - N - 1 + 1 by omega]
  exact hk _ _ hp
theorem le_nI {a b : Nat} (ha : a < 2 ^ 31) (hb : b < 2 ^ 31) : (nI a ≤ nI b) = (a ≤ b) := propext (nI_leI ha hb)
theorem lt_nI {a b : Nat} (ha : a < 2 ^ 31) (hb : b < 2 ^ 31) : (nI a < nI b) = (a < b) := propext (nI_ltI ha hb)
theorem eq_nI {a b : Nat} (ha : a < 2 ^ 31) (hb : b < 2 ^ 31) : (nI a = nI b) = (a = b) := propext (nI_eq ha hb)
theorem ng_nI {a : Nat} (ha : a < 2 ^ 31) : (nI a < 0) = False := eq_false (nI_pos ha)
theorem c16 : cRef 16 1 = 17 := rfl
theorem c18 : cRef 18 1 = 19 := rfl
theorem c21 : cRef 21 1 = 22 := rfl
theorem c24 : cRef 24 1 = 25 := rfl
theorem c32 : cRef 32 1 = 33 := rfl
theorem c34 : cRef 34 1 = 35 := rfl
theorem b01 {p : Prop} [Decidable p] : ((if p then (0 : Int32) else 1) = 0) = p := by
  by_cases h : p <;> simp [h]
theorem b10 {p : Prop} [Decidable p] : ((if p then (1 : Int32) else 0) = 0) = ¬ p := by
  by_cases h : p <;> simp [h]
theorem toldOf_eq (σ : Mm) (k i : Nat) (hi : i < 5) : f_X1_toldOf σ k (nI i) = some (σ.1 (cRef k 1) i) := by
  simp (disch := omega) only [f_X1_toldOf, lI, le_nI, lt_nI, Nat.not_lt_zero, Nat.not_le.mpr hi, if_false, gd_t (inB_t hi (by omega)), cl_nI]
theorem isLet_eq (σ : Mm) (k i : Nat) (hi : i < 5) : f_X1_isLet σ k (nI i) = some (if σ.1 (cRef k 1) i = 0 then 0 else 1) := by
  unfold f_X1_isLet
  rw [toldOf_eq σ k i hi, b1_some]
  split <;> rfl
def lets (f : Nat → Int32) (N : Nat) : Int32 := itN (fun i a => a ||| if f i = 0 then 0 else jshl 1 (nI i)) N 0
theorem everyoneLet_eq (σ : Mm) (k : Nat) : f_X1_everyoneLet σ k = some (lets (σ.1 (cRef k 1)) 5) := by
  unfold f_X1_everyoneLet
  refine (itL (fun n i a => f_X1_everyoneLet_p4 σ k n a i) some _ 5 (fun _ _ => True) trivial ?_ ?_ FU (by decide)).1
  · intro n i a hi _
    refine ⟨?_, trivial⟩
    simp (disch := omega) only [f_X1_everyoneLet_p4, isLet_eq, b1_some, b01, lI 5, lI 1, le_nI, nI_add, Nat.not_le.mpr hi, if_false]
    split <;> rfl
  · intro n a _
    simp (disch := omega) only [f_X1_everyoneLet_p4, lI 5, le_nI, Nat.le_refl, if_true]
