/-! bits of small numbers -/
theorem and_nI (a b : Nat) : nI a &&& nI b = nI (a &&& b) := by
  apply Int32.toBitVec_inj.1
  show BitVec.ofNat 32 a &&& BitVec.ofNat 32 b = BitVec.ofNat 32 (a &&& b)
  apply BitVec.eq_of_getLsbD_eq
  intro i hi
  simp [hi]
theorem or_nI (a b : Nat) : nI a ||| nI b = nI (a ||| b) := by
  apply Int32.toBitVec_inj.1
  show BitVec.ofNat 32 a ||| BitVec.ofNat 32 b = BitVec.ofNat 32 (a ||| b)
  apply BitVec.eq_of_getLsbD_eq
  intro i hi
  simp [hi]
theorem and_lN (a b : Nat) : lN a &&& lN b = lN (a &&& b) := by
  apply Int64.toBitVec_inj.1
  show BitVec.ofNat 64 a &&& BitVec.ofNat 64 b = BitVec.ofNat 64 (a &&& b)
  apply BitVec.eq_of_getLsbD_eq
  intro i hi
  simp [hi]
theorem or_lN (a b : Nat) : lN a ||| lN b = lN (a ||| b) := by
  apply Int64.toBitVec_inj.1
  show BitVec.ofNat 64 a ||| BitVec.ofNat 64 b = BitVec.ofNat 64 (a ||| b)
  apply BitVec.eq_of_getLsbD_eq
  intro i hi
  simp [hi]
theorem sh_l : ∀ n, n < 32 → ((nI n &&& 31).toBitVec.smod 32).toNat = n := by decide +kernel
theorem sh_u : ∀ n, n < 32 → (((nI n).toUInt32 &&& Int32.toUInt32 31).toBitVec % 32).toNat = n := by decide +kernel
theorem shl_nI (a : Nat) {k : Nat} (hk : k < 32) : jshl (nI a) (nI k) = nI (a * 2 ^ k) := by
  unfold jshl
  apply Int32.toBitVec_inj.1
  rw [Int32.toBitVec_shiftLeft]
  show BitVec.ofNat 32 a <<< ((nI k &&& 31).toBitVec.smod 32).toNat = BitVec.ofNat 32 (a * 2 ^ k)
  rw [sh_l k hk]
  apply BitVec.eq_of_toNat_eq
  rw [BitVec.toNat_shiftLeft, BitVec.toNat_ofNat, BitVec.toNat_ofNat, Nat.shiftLeft_eq, Nat.mul_mod, Nat.mod_mod, ← Nat.mul_mod]
theorem ushr_nI {a k : Nat} (ha : a < 2 ^ 32) (hk : k < 32) : jushr (nI a) (nI k) = nI (a / 2 ^ k) := pk_ushrN ha (nI k) k (sh_u k hk)
theorem shr_nI {a k : Nat} (ha : a < 2 ^ 31) (hk : k < 32) : jshr (nI a) (nI k) = nI (a / 2 ^ k) := pk_shrN ha (nI k &&& 31) k (sh_l k hk)
theorem lsh_c : ∀ k, k < 64 → ((nI k).toInt64 &&& 63) = lN k := by decide +kernel
theorem lsh_s : ∀ k, k < 64 → (BitVec.ofNat 64 k).smod 64 = BitVec.ofNat 64 k := by decide +kernel
theorem shl_lN (n : Nat) {k : Nat} (hk : k < 64) : jlshl (lN n) (nI k) = lN (n * 2 ^ k) := by
  unfold jlshl
  rw [lsh_c k hk]
  apply Int64.toBitVec_inj.1
  rw [Int64.toBitVec_shiftLeft]
  show BitVec.ofNat 64 n <<< ((BitVec.ofNat 64 k).smod 64) = BitVec.ofNat 64 (n * 2 ^ k)
  rw [lsh_s k hk]
  apply BitVec.eq_of_toNat_eq
  rw [BitVec.shiftLeft_eq', BitVec.toNat_shiftLeft, BitVec.toNat_ofNat, BitVec.toNat_ofNat, BitVec.toNat_ofNat, Nat.mod_eq_of_lt (show k < 2 ^ 64 by omega), Nat.shiftLeft_eq, Nat.mul_mod, Nat.mod_mod, ← Nat.mul_mod]
theorem and1 (a : Nat) : nI a &&& 1 = nI (a % 2) := by
  rw [lI 1, and_nI, show (1 : Nat) = 2 ^ 1 - 1 from rfl, Nat.and_two_pow_sub_one_eq_mod]
theorem tb (a k : Nat) : (a / 2 ^ k % 2 = 1) = (a.testBit k = true) := by
  rw [Nat.testBit_eq_decide_div_mod_eq]; simp
theorem has_u {a k : Nat} (ha : a < 2 ^ 31) (hk : k < 32) : ((jushr (nI a) (nI k) &&& 1) = 1) = (a.testBit k = true) := by
  rw [ushr_nI (by omega) hk, and1, lI 1, eq_nI (by omega) (by omega), tb]
theorem has_s {a k : Nat} (ha : a < 2 ^ 31) (hk : k < 32) : ((jshr (nI a) (nI k) &&& 1) = 1) = (a.testBit k = true) := by
  rw [shr_nI ha hk, and1, lI 1, eq_nI (by omega) (by omega), tb]
theorem bit_u {a k : Nat} (ha : a < 2 ^ 31) (hk : k < 32) : (jushr (nI a) (nI k) &&& 1) = nI (if a.testBit k then 1 else 0) := by
  rw [ushr_nI (by omega) hk, and1]
  congr 1
  by_cases h : a.testBit k
  · rw [if_pos h, tb]; exact h
  · rw [if_neg h]
    have := tb a k
    have h2 : ¬ (a / 2 ^ k % 2 = 1) := by rw [this]; exact h
    omega
theorem bit_s {a k : Nat} (ha : a < 2 ^ 31) (hk : k < 32) : (jshr (nI a) (nI k) &&& 1) = nI (if a.testBit k then 1 else 0) := by
  rw [shr_nI ha hk, and1]
  congr 1
  by_cases h : a.testBit k
  · rw [if_pos h, tb]; exact h
  · rw [if_neg h]
    have := tb a k
    have h2 : ¬ (a / 2 ^ k % 2 = 1) := by rw [this]; exact h
    omega
theorem or_lt {a b k : Nat} (ha : a < 2 ^ k) (hb : b < 2 ^ k) : a ||| b < 2 ^ k := Nat.or_lt_two_pow ha hb
/-- f 0 or .. or f (n - 1) -/
def orN (f : Nat → Nat) : Nat → Nat
  | 0 => 0
  | n + 1 => orN f n ||| f n
def suN (f : Nat → Nat) : Nat → Nat
  | 0 => 0
  | n + 1 => suN f n + f n
theorem orN_lt {f : Nat → Nat} {k : Nat} : ∀ {n : Nat}, (∀ i, i < n → f i < 2 ^ k) → orN f n < 2 ^ k
  | 0, _ => Nat.two_pow_pos k
  | n + 1, h => or_lt (orN_lt (fun i hi => h i (by omega))) (h n (by omega))
theorem orN_tb {f : Nat → Nat} {k : Nat} : ∀ {n : Nat}, (orN f n).testBit k = true ↔ ∃ i, i < n ∧ (f i).testBit k = true
  | 0 => by simp [orN]
  | n + 1 => by
    rw [orN, Nat.testBit_or, Bool.or_eq_true, orN_tb]
    constructor
    · rintro (⟨i, hi, h⟩ | h)
      · exact ⟨i, by omega, h⟩
      · exact ⟨n, by omega, h⟩
    · rintro ⟨i, hi, h⟩
      rcases Nat.lt_or_ge i n with q | q
      · exact Or.inl ⟨i, q, h⟩
      · rw [show i = n by omega] at h
        exact Or.inr h
theorem orN_cong {f g : Nat → Nat} : ∀ {n : Nat}, (∀ i, i < n → f i = g i) → orN f n = orN g n
  | 0, _ => rfl
  | n + 1, h => by rw [orN, orN, orN_cong (fun i hi => h i (by omega)), h n (by omega)]
theorem orN_0 {f : Nat → Nat} : ∀ {n : Nat}, (∀ i, i < n → f i = 0) → orN f n = 0
  | 0, _ => rfl
  | n + 1, h => by rw [orN, orN_0 (fun i hi => h i (by omega)), h n (by omega)]; rfl
theorem orN_ext {f : Nat → Nat} {n : Nat} : ∀ {m : Nat}, n ≤ m → (∀ i, n ≤ i → i < m → f i = 0) → orN f m = orN f n
  | 0, h, _ => by rw [show n = 0 by omega]
  | m + 1, h, h0 => by
    rcases Nat.lt_or_ge m n with q | q
    · rw [show n = m + 1 by omega]
    · rw [orN, orN_ext q (fun i h1 h2 => h0 i h1 (by omega)), h0 m q (by omega), Nat.or_zero]
theorem suN_cong {f g : Nat → Nat} : ∀ {n : Nat}, (∀ i, i < n → f i = g i) → suN f n = suN g n
  | 0, _ => rfl
  | n + 1, h => by rw [suN, suN, suN_cong (fun i hi => h i (by omega)), h n (by omega)]
theorem suN_ext {f : Nat → Nat} {n : Nat} : ∀ {m : Nat}, n ≤ m → (∀ i, n ≤ i → i < m → f i = 0) → suN f m = suN f n
  | 0, h, _ => by rw [show n = 0 by omega]
  | m + 1, h, h0 => by
    rcases Nat.lt_or_ge m n with q | q
    · rw [show n = m + 1 by omega]
    · rw [suN, suN_ext q (fun i h1 h2 => h0 i h1 (by omega)), h0 m q (by omega), Nat.add_zero]
theorem suN_le {f : Nat → Nat} {c : Nat} : ∀ {n : Nat}, (∀ i, i < n → f i ≤ c) → suN f n ≤ n * c
  | 0, _ => by simp [suN]
  | n + 1, h => by
    have := suN_le (f := f) (c := c) (n := n) (fun i hi => h i (by omega))
    have h2 := h n (by omega)
    rw [suN, Nat.succ_mul]; omega
/-- bits laid one by one, as a loop does -/
theorem it_or {f : Nat → Nat} {g : Nat → Int32 → Int32} (h : ∀ i a, g i a = a ||| nI (f i)) : ∀ N : Nat, itN g N 0 = nI (orN f N)
  | 0 => rfl
  | N + 1 => by rw [itN, it_or h N, h, or_nI]; rfl
theorem it_su {f : Nat → Nat} {g : Nat → Int32 → Int32} (h : ∀ i a, g i a = a + nI (f i)) : ∀ N : Nat, itN g N 0 = nI (suN f N)
  | 0 => rfl
  | N + 1 => by rw [itN, it_su h N, h, nI_add]; rfl
theorem it_cong {α : Type} {g h : Nat → α → α} : ∀ {N : Nat} {a : α}, (∀ i a, i < N → g i a = h i a) → itN g N a = itN h N a
  | 0, _, _ => rfl
  | N + 1, a, e => by rw [itN, itN, it_cong (fun i a hi => e i a (by omega)), e N _ (by omega)]
theorem pow_lt {a b : Nat} (h : a < b) : 2 ^ a < 2 ^ b := Nat.pow_lt_pow_right (by decide) h
