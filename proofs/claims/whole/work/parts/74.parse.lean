/-! the text: what is read of it, where it is at fault -/
def fv (t : Tx) (i : Nat) : Nat := (t.2 i - 48).toNatClampNeg
def inR (t : Tx) (i lo hi : Nat) : Bool := decide (i < t.1) && decide (¬ (t.2 i - 48) < nI lo ∧ ¬ nI hi < (t.2 i - 48))
theorem inR_ok {t : Tx} {i lo hi : Nat} (hl : lo < 2 ^ 30) (hh : hi < 2 ^ 30) (h : inR t i lo hi = true) : i < t.1 ∧ t.2 i - 48 = nI (fv t i) ∧ lo ≤ fv t i ∧ fv t i ≤ hi := by
  unfold inR at h
  rw [Bool.and_eq_true, decide_eq_true_eq, decide_eq_true_eq] at h
  obtain ⟨h1, h2, h3⟩ := h
  have h0 : ¬ (t.2 i - 48) < 0 := by
    intro z
    have e := nI_toInt (n := lo) (by omega)
    have e0 : (0 : Int32).toInt = 0 := by decide
    rw [Int32.lt_iff_toInt_lt] at h2 z
    omega
  obtain ⟨j, hj, e⟩ := nI_of h0
  have ef : fv t i = j := by unfold fv; rw [e, cl_nI hj]
  rw [ef, e]
  rw [e] at h2 h3
  refine ⟨h1, rfl, ?_, ?_⟩
  · rw [lt_nI hj (by omega)] at h2; omega
  · rw [lt_nI (by omega) hj] at h3; omega
def loK (c : Int32) (k bf : Nat) : Nat := if c = 66 then (if k = 1 then 1 else 0) else if c = 80 then (if k = 5 then bf else if k = 2 then 1 else if k = 6 then 1 else 0) else (if k = 2 then bf else if k = 3 then 1 else 0)
def hiK (c : Int32) (k nb : Nat) : Nat := if c = 66 then (if k = 1 then 3 else 2) else if c = 80 then (if k = 1 then nb - 1 else if k = 2 then 3 else if k = 3 then 3 else 9) else 9
def szK (c : Int32) : Nat := if c = 66 then 3 else if c = 80 then 7 else if c = 81 then 4 else 1
def okK (t : Tx) (c : Int32) (nb p k : Nat) : Bool := inR t (p + k) (loK c k (fv t (p + k - 1))) (hiK c k nb)
def ff (q : Nat → Bool) : Nat → Nat → Nat
  | 0, k => k
  | j + 1, k => if q k = true then ff q j (k + 1) else k
def mayT (c : Int32) (nb nd : Nat) : Bool := decide ((c = 66 ∧ nb < 3) ∨ (c = 80 ∧ 0 < nb ∧ nd < 5) ∨ (c = 81 ∧ nd < 5))
def upN (f : Nat → Nat) (k v : Nat) : Nat → Nat := fun j => if j = k then v else f j
/-- a bell, a bidder more -/
def addB (T : Tw) (r d : Nat) : Tw := (tNb T + 1, upN (tR T) (tNb T) r, upN (tM T) (tNb T) d, tNd T, tB T, tN T, tG T, tF T, tU T, tW T)
def addD (T : Tw) (b n g f u w : Nat) : Tw := (tNb T, tR T, tM T, tNd T + 1, upN (tB T) (tNd T) b, upN (tN T) (tNd T) n, upN (tG T) (tNd T) g, upN (tF T) (tNd T) f, upN (tU T) (tNd T) u, upN (tW T) (tNd T) w)
def addP (t : Tx) (p : Nat) (c : Int32) (T : Tw) : Tw := if c = 66 then addB T (fv t (p + 1)) (fv t (p + 2)) else if c = 80 then addD T (fv t (p + 1)) (fv t (p + 2)) (fv t (p + 3)) (fv t (p + 4)) (fv t (p + 5)) (fv t (p + 6)) else addD T 0 0 0 (fv t (p + 1)) (fv t (p + 2)) (fv t (p + 3))
def fkK (t : Tx) (c : Int32) (nb p : Nat) : Nat := ff (okK t c nb p) (szK c - 1) 1
def pa (t : Tx) : Nat → Nat → Tw → Sum Nat Tw
  | 0, _, T => Sum.inr T
  | m + 1, p, T => if t.1 ≤ p then Sum.inr T else if mayT (t.2 p) (tNb T) (tNd T) = true then (if fkK t (t.2 p) (tNb T) p = szK (t.2 p) then pa t m (p + szK (t.2 p)) (addP t p (t.2 p) T) else Sum.inl (p + fkK t (t.2 p) (tNb T) p)) else Sum.inl p
def eR (r : Sum Nat Tw) : Int32 := match r with
  | Sum.inl j => nI j
  | Sum.inr _ => -9
theorem szK_pos (c : Int32) : 1 ≤ szK c ∧ szK c ≤ 7 := by unfold szK; split <;> (try split) <;> (try split) <;> omega
theorem ff_le {q : Nat → Bool} : ∀ (j k : Nat), k ≤ ff q j k ∧ ff q j k ≤ k + j
  | 0, k => ⟨Nat.le_refl _, Nat.le_refl _⟩
  | j + 1, k => by
    rw [ff]
    split
    · have := ff_le (q := q) j (k + 1); omega
    · omega
theorem ff_all {q : Nat → Bool} : ∀ (j k : Nat), ff q j k = k + j → ∀ i, k ≤ i → i < k + j → q i = true
  | 0, k, _, i, h1, h2 => by omega
  | j + 1, k, h, i, h1, h2 => by
    rw [ff] at h
    by_cases c : q k = true
    · rw [if_pos c] at h
      rcases Nat.lt_or_ge k i with z | z
      · exact ff_all j (k + 1) (by omega) i z (by omega)
      · rw [show i = k by omega]; exact c
    · rw [if_neg c] at h; omega
/-- T stays a tower -/
theorem WT_addB {T : Tw} (hw : WT T) {r d : Nat} (hn : tNb T < 3) (hr : 1 ≤ r ∧ r ≤ 3) (hd : d ≤ 2) : WT (addB T r d) := by
  obtain ⟨w1, w2, w3, w4⟩ := hw
  refine ⟨hn, w2, fun b hb => ?_, fun k hk => ?_⟩
  · have hb' : b < tNb T + 1 := hb
    show 1 ≤ upN (tR T) (tNb T) r b ∧ upN (tR T) (tNb T) r b ≤ 3 ∧ upN (tM T) (tNb T) d b ≤ 2
    unfold upN
    by_cases c : b = tNb T
    · rw [if_pos c, if_pos c]; exact ⟨hr.1, hr.2, hd⟩
    · rw [if_neg c, if_neg c]; exact w3 b (by omega)
  · obtain ⟨a1, a2, a3, a4, a5, a6, a7, a8⟩ := w4 k hk
    exact ⟨a1, a2, a3, a4, a5, a6, fun z => Nat.lt_succ_of_lt (a7 z), a8⟩
theorem WT_addD {T : Tw} (hw : WT T) {b n g f u w : Nat} (hd : tNd T < 5) (hn : n ≤ 3) (hg : g ≤ 3) (hf : f ≤ u) (hu : u ≤ 9) (hw1 : 1 ≤ w) (hw2 : w ≤ 9) (hb : n ≠ 0 → b < tNb T) (hq : n = 0 → g = 0) : WT (addD T b n g f u w) := by
  obtain ⟨w1, w2, w3, w4⟩ := hw
  refine ⟨w1, hd, w3, fun k hk => ?_⟩
  have hk' : k < tNd T + 1 := hk
  show upN (tN T) (tNd T) n k ≤ 3 ∧ upN (tG T) (tNd T) g k ≤ 3 ∧ upN (tF T) (tNd T) f k ≤ upN (tU T) (tNd T) u k ∧ upN (tU T) (tNd T) u k ≤ 9 ∧ 1 ≤ upN (tW T) (tNd T) w k ∧ upN (tW T) (tNd T) w k ≤ 9 ∧ (upN (tN T) (tNd T) n k ≠ 0 → upN (tB T) (tNd T) b k < tNb T) ∧ (upN (tN T) (tNd T) n k = 0 → upN (tG T) (tNd T) g k = 0)
  unfold upN
  by_cases c : k = tNd T
  · rw [if_pos c, if_pos c, if_pos c, if_pos c, if_pos c, if_pos c]
    exact ⟨hn, hg, hf, hu, hw1, hw2, hb, hq⟩
  · rw [if_neg c, if_neg c, if_neg c, if_neg c, if_neg c, if_neg c]
    exact w4 k (by omega)
theorem mayT_iff {c : Int32} {nb nd : Nat} : mayT c nb nd = true ↔ (c = 66 ∧ nb < 3) ∨ (c = 80 ∧ 0 < nb ∧ nd < 5) ∨ (c = 81 ∧ nd < 5) := by unfold mayT; exact decide_eq_true_iff
theorem c8066 : ¬ ((80 : Int32) = 66) := by decide
theorem c8166 : ¬ ((81 : Int32) = 66) := by decide
theorem c8180 : ¬ ((81 : Int32) = 80) := by decide
theorem inR_hi {t : Tx} {c : Int32} {nb p k : Nat} (hnb : nb ≤ 3) (hk : k < 7) (hb : loK c k (fv t (p + k - 1)) < 2 ^ 30) (h : okK t c nb p k = true) : p + k < t.1 ∧ t.2 (p + k) - 48 = nI (fv t (p + k)) ∧ loK c k (fv t (p + k - 1)) ≤ fv t (p + k) ∧ fv t (p + k) ≤ hiK c k nb := inR_ok hb (by unfold hiK; split <;> (try split) <;> (try split) <;> (try split) <;> (try split) <;> omega) h
theorem hiK_le (c : Int32) (k nb : Nat) (h : nb ≤ 3) : hiK c k nb ≤ 9 := by unfold hiK; split <;> (try split) <;> (try split) <;> (try split) <;> (try split) <;> omega
/-- figures that were fit are at most 9 -/
theorem ok_v {t : Tx} {c : Int32} {nb p k : Nat} (hnb : nb ≤ 3) (h : okK t c nb p k = true) : p + k < t.1 ∧ t.2 (p + k) - 48 = nI (fv t (p + k)) ∧ fv t (p + k) ≤ hiK c k nb := by
  unfold okK inR at h
  have hh := hiK_le c k nb hnb
  rw [Bool.and_eq_true, decide_eq_true_eq, decide_eq_true_eq] at h
  obtain ⟨h1, h2, h3⟩ := h
  have hlo : ¬ (t.2 (p + k) - 48) < 0 ∨ (t.2 (p + k) - 48) < 0 := Classical.em _ |>.symm
  rcases hlo with h0 | h0
  · obtain ⟨j, hj, e⟩ := nI_of h0
    have ef : fv t (p + k) = j := by unfold fv; rw [e, cl_nI hj]
    rw [ef, e]
    rw [e, lt_nI (by omega) hj] at h3
    exact ⟨h1, rfl, by omega⟩
  · exfalso
    by_cases hb : loK c k (fv t (p + k - 1)) < 2 ^ 31
    · have e := nI_toInt hb
      rw [Int32.lt_iff_toInt_lt] at h2 h0
      have e0 : (0 : Int32).toInt = 0 := by decide
      omega
    · have hfv : ∀ i, fv t i < 2 ^ 31 := fun i => by
        unfold fv
        have := Int32.toInt_lt (t.2 i - 48)
        unfold Int32.toNatClampNeg
        omega
      have h9 := hfv (p + k - 1)
      have : loK c k (fv t (p + k - 1)) ≤ fv t (p + k - 1) ∨ loK c k (fv t (p + k - 1)) ≤ 1 := by
        unfold loK
        split <;> (try split) <;> (try split) <;> (try split) <;> (try split) <;> omega
      omega
