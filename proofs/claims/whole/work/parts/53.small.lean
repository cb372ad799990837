/-! small functions of class and reference -/
theorem ifc {α : Type} {p q : Prop} [Decidable p] [Decidable q] {a b : α} (h : p = q) : (if p then a else b) = if q then a else b := by
  by_cases hp : p
  · rw [if_pos hp, if_pos (h ▸ hp)]
  · rw [if_neg hp, if_neg (fun hq => hp (h ▸ hq))]
theorem lcm_lt (x y : Int64) : (lg_cmp x y < 0) = (x < y) := by
  unfold lg_cmp
  by_cases h1 : y < x
  · rw [if_pos h1]; exact propext ⟨fun h => absurd h (by decide), fun h => absurd h1 (by rw [Int64.lt_iff_toInt_lt] at *; omega)⟩
  · rw [if_neg h1]
    by_cases h2 : x = y
    · rw [if_pos h2]; exact propext ⟨fun h => absurd h (by decide), fun h => absurd h (by rw [h2, Int64.lt_iff_toInt_lt]; omega)⟩
    · rw [if_neg h2]; exact propext ⟨fun _ => by rw [Int64.lt_iff_toInt_lt] at *; have : x.toInt ≠ y.toInt := fun e => h2 (Int64.toInt_inj.mp e); omega, fun _ => by decide⟩
theorem lcm_gt (x y : Int64) : (0 < lg_cmp x y) = (y < x) := by
  unfold lg_cmp
  by_cases h1 : y < x
  · rw [if_pos h1]; exact propext ⟨fun _ => h1, fun _ => by decide⟩
  · rw [if_neg h1]
    by_cases h2 : x = y
    · rw [if_pos h2]; exact propext ⟨fun h => absurd h (by decide), fun h => absurd h h1⟩
    · rw [if_neg h2]; exact propext ⟨fun h => absurd h (by decide), fun h => absurd h h1⟩
theorem lcm_eq (x y : Int64) : (lg_cmp x y = 0) = (x = y) := by
  unfold lg_cmp
  by_cases h1 : y < x
  · rw [if_pos h1]; exact propext ⟨fun h => absurd h (by decide), fun h => absurd h1 (by rw [h, Int64.lt_iff_toInt_lt]; omega)⟩
  · rw [if_neg h1]
    by_cases h2 : x = y
    · rw [if_pos h2]; exact propext ⟨fun _ => h2, fun _ => rfl⟩
    · rw [if_neg h2]; exact propext ⟨fun h => absurd h (by decide), fun h => absurd h h2⟩
theorem lcm_ge (x y : Int64) : (0 ≤ lg_cmp x y) = ¬ (x < y) := by
  rw [← lcm_lt]
  exact propext ⟨fun h h2 => by rw [Int32.le_iff_toInt_le] at h; rw [Int32.lt_iff_toInt_lt] at h2; omega, fun h => by rw [Int32.le_iff_toInt_le]; rw [Int32.lt_iff_toInt_lt] at h; omega⟩
theorem i64_lt (x y : Int32) : (x.toInt64 < y.toInt64) = (x < y) := by
  rw [Int64.lt_iff_toInt_lt, Int32.lt_iff_toInt_lt, Int32.toInt_toInt64, Int32.toInt_toInt64]
theorem in_eq (σ : Mm) (a b c : Int64) : f_X10_in σ a b c = some (if ¬ a < b ∧ ¬ c < a then 1 else 0) := by
  unfold f_X10_in
  simp only [lcm_lt, lcm_gt]
  by_cases h1 : a < b <;> by_cases h2 : c < a <;> simp [h1, h2]
theorem lL (n : Nat) : (OfNat.ofNat n : Int64) = lN n := rfl
theorem inr_iff {x : Int32} {lo hi : Nat} (h1 : lo < 2 ^ 31) (h2 : hi < 2 ^ 31) : (¬ x.toInt64 < (lN lo) ∧ ¬ (lN hi) < x.toInt64) = (¬ x < nI lo ∧ ¬ nI hi < x) := by
  rw [← nI_l h1, ← nI_l h2, i64_lt, i64_lt]
/-- a number that is one of n -/
def ok (x : Int32) (n : Nat) : Prop := ¬ x < 0 ∧ x < nI n
theorem okx {x : Int32} {n : Nat} (hn : n < 2 ^ 31) (h : ok x n) : ∃ j, j < n ∧ x = nI j := by
  obtain ⟨j, hj, rfl⟩ := nI_of h.1
  exact ⟨j, (nI_ltI hj hn).mp h.2, rfl⟩
theorem ok_nI {j n : Nat} (hn : n < 2 ^ 31) (h : j < n) : ok (nI j) n := ⟨nI_pos (by omega), nI_lt h hn⟩
theorem lt_succ (x : Int32) {n : Nat} (hn : n < 2 ^ 30) : (¬ x < 0 ∧ ¬ nI n < x) = ok x (n + 1) := by
  unfold ok
  rw [Int32.lt_iff_toInt_lt, Int32.lt_iff_toInt_lt, Int32.lt_iff_toInt_lt, nI_toInt (by omega), nI_toInt (by omega)]
  exact propext ⟨fun h => ⟨h.1, by omega⟩, fun h => ⟨h.1, by omega⟩⟩
theorem in_ok (σ : Mm) (x : Int32) (n : Nat) (hn : n < 2 ^ 30) : f_X10_in σ x.toInt64 (0 : Int64) (lN n) = some (if ¬ x < 0 ∧ ¬ nI n < x then 1 else 0) := by
  rw [in_eq, lL 0]
  simp only [inr_iff (x := x) (show (0 : Nat) < 2 ^ 31 by decide) (show n < 2 ^ 31 by omega)]
  rfl
theorem in_bell (σ : Mm) (x : Int32) (n : Nat) (hn : n < 2 ^ 30) : f_X10_in σ x.toInt64 (0 : Int64) ((nI n - 1).toInt64) = some (if ¬ x < 0 ∧ x < nI n then 1 else 0) := by
  rw [in_eq]
  have e0 : (0 : Int64) = (0 : Int32).toInt64 := by decide
  rw [e0]
  simp only [i64_lt]
  have e : (¬ nI n - 1 < x) = (x < nI n) := by
    rw [Int32.lt_iff_toInt_lt, Int32.lt_iff_toInt_lt, lI 1, pk_sub_toInt (by omega) (by decide), nI_toInt (by omega)]
    exact propext (by omega)
  simp only [e]
theorem one1 {p : Prop} [Decidable p] : ((if p then (1 : Int32) else 0) &&& 1) = if p then 1 else 0 := by by_cases h : p <;> simp [h]
theorem hasBidder_eq {σ : Mm} {n : Nat} (h : σ.1 3 1 = nI n) (x : Int32) : f_X8_hasBidder σ x = some (if ¬ x < 0 ∧ x < nI n then 1 else 0) := by
  unfold f_X8_hasBidder
  rw [h]
  have e : (nI n ≤ x) = ¬ (x < nI n) := by rw [Int32.le_iff_toInt_le, Int32.lt_iff_toInt_lt]; exact propext (by omega)
  simp only [e]
  by_cases h1 : x < 0 <;> by_cases h2 : x < nI n <;> simp [h1, h2]
theorem hasBell_eq {σ : Mm} {n : Nat} (h : σ.1 3 0 = nI n) (x : Int32) : f_X8_hasBell σ x = some (if ¬ x < 0 ∧ x < nI n then 1 else 0) := by
  unfold f_X8_hasBell
  rw [h]
  have e : (nI n ≤ x) = ¬ (x < nI n) := by rw [Int32.le_iff_toInt_le, Int32.lt_iff_toInt_lt]; exact propext (by omega)
  simp only [e]
  by_cases h1 : x < 0 <;> by_cases h2 : x < nI n <;> simp [h1, h2]
theorem isSecond_eq (σ : Mm) (x : Int32) : f_X9_isSecond σ x = some (if ¬ x < 0 ∧ x < nI 10 then 1 else 0) := by
  unfold f_X9_isSecond
  have e : ((10 : Int32) ≤ x) = ¬ (x < nI 10) := by rw [lI 10, Int32.le_iff_toInt_le, Int32.lt_iff_toInt_lt]; exact propext (by omega)
  simp only [e]
  by_cases h1 : x < 0 <;> by_cases h2 : x < nI 10 <;> simp [h1, h2]
theorem isBidder_eq {σ : Mm} {n : Nat} (h : σ.1 46 1 = nI n) (hn : n ≤ 5) (x : Int32) : f_X10_isBidder σ x = some (if ¬ x < 0 ∧ x < nI n then 1 else 0) := by
  unfold f_X10_isBidder
  rw [h, in_bell σ x n (by omega), b1_some, gd_t]
  exact decide_eq_true one1
theorem isBell_eq {σ : Mm} {n : Nat} (h : σ.1 46 0 = nI n) (hn : n ≤ 3) (x : Int32) : f_X10_isBell σ x = some (if ¬ x < 0 ∧ x < nI n then 1 else 0) := by
  unfold f_X10_isBell
  rw [h, in_bell σ x n (by omega), b1_some, gd_t]
  exact decide_eq_true one1
theorem in_sec (σ : Mm) (x : Int32) : f_X10_in σ x.toInt64 (0 : Int64) (9 : Int64) = some (if ¬ x < 0 ∧ x < nI 10 then 1 else 0) := by
  rw [lL 9, in_ok σ x 9 (by decide)]
  exact congrArg some (ifc (lt_succ x (n := 9) (by decide)))
theorem gt_iff (x : Int32) (n : Nat) : (x ≤ nI n) = ¬ (nI n < x) := by rw [Int32.le_iff_toInt_le, Int32.lt_iff_toInt_lt]; exact propext (by omega)
theorem letterAt_eq {σ : Mm} {t : Tx} (h : XTx σ t) (ht : t.1 ≤ 48) (x : Int32) : f_X7_letterAt σ x = some (if ¬ x < nI t.1 then -9 else if x < 0 then -9 else σ.1 2 x.toNatClampNeg) := by
  unfold f_X7_letterAt
  rw [h.1]
  have e : (nI t.1 ≤ x) = ¬ (x < nI t.1) := by rw [Int32.le_iff_toInt_le, Int32.lt_iff_toInt_lt]; exact propext (by omega)
  simp only [e]
  by_cases h1 : x < nI t.1
  · rw [if_neg (by simp [h1]), if_neg (by simp [h1])]
    unfold f_X9_at
    by_cases h2 : x < 0
    · rw [if_pos h2, if_pos h2]; rfl
    · rw [if_neg h2, if_neg h2]
      obtain ⟨j, hj, rfl⟩ := nI_of h2
      have h3 : j < t.1 := (nI_ltI hj (by omega)).mp h1
      have hc : cLen 2 = 48 := rfl
      rw [hc, show (Int32.ofNat 48) = nI 48 from rfl, if_neg (nI_ge (by omega) (by decide)), gd_t (inB_t (by omega) (by decide)), b1_some]
  · rw [if_pos (by simp [h1]), if_pos (by simp [h1])]
/-- promise 2 -/
theorem op_write {σ : Mm} (hI : INV σ) : ∀ a : Int32, ∃ v τ ρ, f_X9_write a σ = some (v, τ) ∧ f_X10_write a τ = some (v, ρ) ∧ INV ρ := by
  intro a
  obtain ⟨⟨t, S⟩, hw, hX, hM⟩ := hI
  have x1 : XTx σ t := hX.1
  have xr := hX.2
  have m1 : MTx σ t := hM.1
  have ht : t.1 ≤ 48 := hw.1
  unfold f_X9_write f_X10_write
  rw [lL 255]
  by_cases h1 : ¬ a < 0 ∧ ¬ nI 255 < a
  · have e1 : f_X10_in = f_X10_in := rfl
    by_cases h2 : t.1 = 48
    · refine ⟨-4, σ, σ, ?_, ?_, ⟨(t, S), hw, hX, hM⟩⟩
      · rw [if_neg h1.1, lI 255, if_pos (by rw [gt_iff]; exact h1.2)]
        unfold f_X7_append
        rw [x1.1, h2, if_neg (nI_pos (by decide)), lI 48, if_neg (nI_nlt (Nat.le_refl _) (by decide)), b2_some]
      · rw [in_ok σ a 255 (by decide), if_pos h1, b1_some, if_neg (by decide), m1.1, h2, lI 48, if_pos rfl]
    · have hlt : t.1 < 48 := by omega
      let t' : Tx := (t.1 + 1, fun i => if i = t.1 then a else t.2 i)
      have hX' : XI (sI (sI σ 2 t.1 a) 1 1 (nI (t.1 + 1))) (t', S) := by
        refine ⟨⟨by simp [sI_1, t'], fun i hi => ?_⟩, ?_⟩
        · show (sI (sI σ 2 t.1 a) 1 1 (nI (t.1 + 1))).1 2 i = if i = t.1 then a else t.2 i
          simp only [sI_1]
          by_cases hi2 : i = t.1
          · simp [hi2]
          · simp only [hi2, and_false, if_false]
            rw [if_neg (by omega)]
            exact x1.2 i (by have : i < t.1 + 1 := hi; omega)
        · have g : ∀ k, k ≠ 1 → k ≠ 2 → (sI (sI σ 2 t.1 a) 1 1 (nI (t.1 + 1))).1 k = σ.1 k := fun k h1 h2 => by rw [(sI_ne h1).1, (sI_ne h2).1]
          obtain ⟨a2, a3, a4, a5, a6, a7, a8⟩ := xr
          exact ⟨a2.of (fun k h1 h2 => g k (by omega) (by omega)) rfl, a3.of (g 17 (by decide) (by decide)), a4.of (g 26 (by decide) (by decide)) (g 27 (by decide) (by decide)) (g 28 (by decide) (by decide)), a5.of (g 36 (by decide) (by decide)) (g 37 (by decide) (by decide)) (g 38 (by decide) (by decide)), a6, a7.of (g 20 (by decide) (by decide)) (g 22 (by decide) (by decide)), a8.of (g 23 (by decide) (by decide)) (g 25 (by decide) (by decide))⟩
      have hHi : Hi σ (sI (sI σ 2 t.1 a) 1 1 (nI (t.1 + 1))) := ((Hi.rf σ).sI (by decide)).sI (by decide)
      generalize hτ : sI (sI σ 2 t.1 a) 1 1 (nI (t.1 + 1)) = τ at hX' hHi
      have hMτ := hM.hi hHi
      have n1 : MTx τ t := hMτ.1
      have nr := hMτ.2
      refine ⟨nI (t.1 + 1), τ, sI (sI τ 53 t.1 a) 46 9 (nI (t.1 + 1)), ?_, ?_, (t', S), ?_, hX'.of (((Lo.rf τ).sI (by decide)).sI (by decide)).X, ?_⟩
      · rw [if_neg h1.1, lI 255, if_pos (by rw [gt_iff]; exact h1.2)]
        unfold f_X7_append
        rw [x1.1, if_neg (nI_pos (by omega)), lI 48, if_pos (nI_lt hlt (by decide)), gd_t (inB_t hlt (by decide)), bnd_eq, cl_nI (by omega), lI 1]
        have e9 : (sI σ 2 t.1 a).1 1 1 = nI t.1 := by rw [sI_1, if_neg (by omega)]; exact x1.1
        rw [e9, nI_add, hτ, b2_some, ← hτ]
        simp [sI_1]
      · rw [in_ok τ a 255 (by decide), if_pos h1, b1_some, if_neg (by decide), n1.1, lI 48, if_neg (fun e => h2 ((nI_eq (by have : t.1 ≤ 48 := ht; omega) (by decide)).mp e)), gd_t (inB_t hlt (by decide)), bnd_eq, cl_nI (by have : t.1 ≤ 48 := ht; omega), lI 1]
        have e9 : (sI τ 53 t.1 a).1 46 9 = nI t.1 := by rw [sI_1, if_neg (by omega)]; exact n1.1
        rw [e9, nI_add]
        simp [sI_1]
      · exact ⟨hlt, hw.2⟩
      · refine ⟨⟨by simp [sI_1, t'], fun i hi => ?_⟩, ?_⟩
        · show (sI (sI τ 53 t.1 a) 46 9 (nI (t.1 + 1))).1 53 i = if i = t.1 then a else t.2 i
          simp only [sI_1]
          by_cases hi2 : i = t.1
          · simp [hi2]
          · simp only [hi2, and_false, if_false]
            rw [if_neg (by omega)]
            exact n1.2 i (by have : i < t.1 + 1 := hi; omega)
        · have g : ∀ k, k ≠ 46 → k ≠ 53 → (sI (sI τ 53 t.1 a) 46 9 (nI (t.1 + 1))).1 k = τ.1 k := fun k h1 h2 => by rw [(sI_ne h1).1, (sI_ne h2).1]
          have q : ∀ j, j ≠ 9 → (sI (sI τ 53 t.1 a) 46 9 (nI (t.1 + 1))).1 46 j = τ.1 46 j := fun j hj => by rw [sI_1, if_neg (by omega), sI_1, if_neg (by omega)]
          obtain ⟨a2, a3, a4, a5, a6, a7, a8⟩ := nr
          exact ⟨a2.of (q 0 (by decide)) (q 1 (by decide)) (g 47 (by decide) (by decide)) (g 48 (by decide) (by decide)) (g 49 (by decide) (by decide)), a3.of (g 52 (by decide) (by decide)), a4.of (q 14 (by decide)) (q 15 (by decide)) (g 54 (by decide) (by decide)), a5.of (q 38 (by decide)) (g 71 (by decide) (by decide)) (g 72 (by decide) (by decide)), a6, a7.of (g 73 (by decide) (by decide)) (g 74 (by decide) (by decide)), a8.of (g 73 (by decide) (by decide)) (g 74 (by decide) (by decide))⟩
  · refine ⟨-2, σ, σ, ?_, ?_, ⟨(t, S), hw, hX, hM⟩⟩
    · by_cases h2 : a < 0
      · rw [if_pos h2]
      · rw [if_neg h2, lI 255, if_neg (by rw [gt_iff]; intro h3; exact h1 ⟨h2, h3⟩)]
    · rw [in_ok σ a 255 (by decide), if_neg h1, b1_some, if_pos rfl]
