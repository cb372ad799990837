/-! masks of seconds -/
theorem and_nz (a b : Nat) : (a &&& b ≠ 0) ↔ ∃ j, a.testBit j = true ∧ b.testBit j = true := by
  constructor
  · intro h
    obtain ⟨j, hj⟩ := Nat.exists_testBit_of_ne_zero h
    rw [Nat.testBit_and, Bool.and_eq_true] at hj
    exact ⟨j, hj⟩
  · rintro ⟨j, h1, h2⟩ h
    have : (a &&& b).testBit j = true := by rw [Nat.testBit_and, h1, h2]; rfl
    rw [h] at this
    simp at this
theorem mul_tb (a i j : Nat) : (a * 2 ^ i).testBit j = (decide (i ≤ j) && a.testBit (j - i)) := by
  rw [← Nat.shiftLeft_eq, Nat.testBit_shiftLeft]
theorem spN_tb (a m x : Nat) : (spN a m).testBit x = decide (a ≤ x ∧ x < a + m) := by
  unfold spN
  rw [mul_tb, Nat.testBit_two_pow_sub_one]
  by_cases h1 : a ≤ x <;> by_cases h2 : x - a < m
  · rw [decide_eq_true h1, decide_eq_true h2, decide_eq_true ⟨h1, by omega⟩]; rfl
  · rw [decide_eq_true h1, decide_eq_false h2, decide_eq_false (by omega)]; rfl
  · rw [decide_eq_false h1, decide_eq_false (p := a ≤ x ∧ x < a + m) (by omega)]; rfl
  · rw [decide_eq_false h1, decide_eq_false (p := a ≤ x ∧ x < a + m) (by omega)]; rfl
theorem spN_lt {a m k : Nat} (h : a + m ≤ k) : spN a m < 2 ^ k := by
  unfold spN
  have h1 : (2 ^ m - 1) * 2 ^ a < 2 ^ m * 2 ^ a := Nat.mul_lt_mul_of_pos_right (by have := Nat.two_pow_pos m; omega) (Nat.two_pow_pos a)
  rw [← Nat.pow_add] at h1
  exact Nat.lt_of_lt_of_le h1 (Nat.pow_le_pow_right (by decide) (by omega))
theorem may_q {T : Tw} {k s : Nat} (hq : tN T k = 0) : may T k s = true ↔ s = tF T k := by unfold may; rw [if_pos hq]; simp
theorem may_p {T : Tw} {k s : Nat} (hq : tN T k ≠ 0) : may T k s = true ↔ ¬ (1 < tN T k ∧ tG T k < kM T k) ∧ tF T k ≤ s ∧ stA T k s (tN T k - 1) + kR T k ≤ tU T k + 1 := by unfold may; rw [if_neg hq]; exact decide_eq_true_iff
theorem stA_le {T : Tw} {k s i n : Nat} (h : i ≤ n) : stA T k s i ≤ stA T k s n := by
  unfold stA
  have := Nat.mul_le_mul_right (kR T k + tG T k) h
  omega
theorem may_in {T : Tw} {k s i : Nat} (hw : WT T) (hk : k < tNd T) (hq : tN T k ≠ 0) (h : may T k s = true) (hi : i < tN T k) : stA T k s i + kR T k ≤ 10 := by
  have h1 := ((may_p hq).mp h).2.2
  have h2 := (hw.2.2.2 k hk).2.2.2.1
  have h3 := stA_le (T := T) (k := k) (s := s) (show i ≤ tN T k - 1 by omega)
  omega
theorem may_lt {T : Tw} {k s : Nat} (hw : WT T) (hk : k < tNd T) (h : may T k s = true) : s < 10 := by
  by_cases hq : tN T k = 0
  · have := (may_q hq).mp h
    have h2 := hw.2.2.2 k hk
    omega
  · have h1 := may_in (i := 0) hw hk hq h (by omega)
    have h2 := hw.2.2.2 k hk
    have h3 := (hw.2.2.1 (tB T k) (h2.2.2.2.2.2.2.1 hq)).1
    unfold stA kR at h1
    omega
theorem ringS_lt {T : Tw} {k s : Nat} (hw : WT T) (hk : k < tNd T) (hq : tN T k ≠ 0) (h : may T k s = true) : ringS T k s < 2 ^ 10 :=
  orN_lt fun i hi => spN_lt (may_in hw hk hq h hi)
theorem kM_le {T : Tw} {k : Nat} (hw : WT T) (hk : k < tNd T) (hq : tN T k ≠ 0) : kM T k ≤ 2 ∧ 1 ≤ kR T k ∧ kR T k ≤ 3 := by
  have h := hw.2.2.1 (tB T k) ((hw.2.2.2 k hk).2.2.2.2.2.2.1 hq)
  exact ⟨h.2.2, h.1, h.2.1⟩
theorem takeS_lt {T : Tw} {k s : Nat} (hw : WT T) (hk : k < tNd T) (hq : tN T k ≠ 0) (h : may T k s = true) : takeS T k s < 2 ^ 12 :=
  orN_lt fun i hi => spN_lt (by have h1 := may_in hw hk hq h hi; have h2 := kM_le hw hk hq; omega)
theorem wantS_lt {T : Tw} {k : Nat} (hw : WT T) (hk : k < tNd T) : wantS T k < 2 ^ 10 :=
  spN_lt (by have h := hw.2.2.2 k hk; omega)
theorem tB_lt {T : Tw} {k : Nat} (hw : WT T) (hk : k < tNd T) (hq : tN T k ≠ 0) : tB T k < 3 := by
  have h1 := (hw.2.2.2 k hk).2.2.2.2.2.2.1 hq
  have h2 := hw.1
  omega
theorem eb_tb {w : Nat} (hw : w < 2 ^ 10) (j : Nat) : (w * 1049601).testBit j = if j < 10 then w.testBit j else if j < 20 then w.testBit (j - 10) else w.testBit (j - 20) := by
  have e : w * 1049601 = 2 ^ 10 * (2 ^ 10 * w + w) + w := by omega
  rw [e, Nat.testBit_two_pow_mul_add _ hw]
  split
  · rfl
  · rw [Nat.testBit_two_pow_mul_add _ hw]
    split
    · rw [if_pos (by omega)]
    · rw [if_neg (by omega)]; congr 1
theorem lt_tb {a n j : Nat} (h : a < 2 ^ n) (hj : a.testBit j = true) : j < n := by
  rcases Nat.lt_or_ge j n with q | q
  · exact q
  · rw [Nat.testBit_lt_two_pow (Nat.lt_of_lt_of_le h (Nat.pow_le_pow_right (by decide) q))] at hj
    cases hj
theorem rw_nz {r w b : Nat} (hr : r < 2 ^ 10) (hw : w < 2 ^ 10) (hb : b < 3) : (r * 2 ^ (10 * b) &&& w * 1049601 ≠ 0) ↔ (r &&& w ≠ 0) := by
  rw [and_nz, and_nz]
  constructor
  · rintro ⟨j, h1, h2⟩
    rw [mul_tb, Bool.and_eq_true, decide_eq_true_eq] at h1
    have h3 := lt_tb hr h1.2
    refine ⟨j - 10 * b, h1.2, ?_⟩
    rw [eb_tb hw] at h2
    rcases (show b = 0 ∨ b = 1 ∨ b = 2 by omega) with rfl | rfl | rfl
    · rw [if_pos (by omega)] at h2; simpa using h2
    · rw [if_neg (by omega), if_pos (by omega)] at h2; exact h2
    · rw [if_neg (by omega), if_neg (by omega)] at h2; exact h2
  · rintro ⟨j, h1, h2⟩
    have h3 := lt_tb hr h1
    refine ⟨j + 10 * b, ?_, ?_⟩
    · rw [mul_tb, Bool.and_eq_true, decide_eq_true_eq]
      exact ⟨by omega, by rw [show j + 10 * b - 10 * b = j by omega]; exact h1⟩
    · rw [eb_tb hw]
      rcases (show b = 0 ∨ b = 1 ∨ b = 2 by omega) with rfl | rfl | rfl
      · rw [if_pos (by omega)]; simpa using h2
      · rw [if_neg (by omega), if_pos (by omega), show j + 10 * 1 - 10 = j by omega]; exact h2
      · rw [if_neg (by omega), if_neg (by omega), show j + 10 * 2 - 20 = j by omega]; exact h2
theorem tt_nz {a c x y : Nat} (ha : a < 2 ^ 12) (hc : c < 2 ^ 12) : (a * 2 ^ (12 * x) &&& c * 2 ^ (12 * y) ≠ 0) ↔ (x = y ∧ a &&& c ≠ 0) := by
  rw [and_nz, and_nz]
  constructor
  · rintro ⟨j, h1, h2⟩
    rw [mul_tb, Bool.and_eq_true, decide_eq_true_eq] at h1 h2
    have h3 := lt_tb ha h1.2
    have h4 := lt_tb hc h2.2
    have e : x = y := by omega
    subst e
    exact ⟨rfl, j - 12 * x, h1.2, h2.2⟩
  · rintro ⟨rfl, j, h1, h2⟩
    refine ⟨j + 12 * x, ?_, ?_⟩
    · rw [mul_tb, Bool.and_eq_true, decide_eq_true_eq, show j + 12 * x - 12 * x = j by omega]; exact ⟨by omega, h1⟩
    · rw [mul_tb, Bool.and_eq_true, decide_eq_true_eq, show j + 12 * x - 12 * x = j by omega]; exact ⟨by omega, h2⟩
theorem ringX_p {T : Tw} {k s : Nat} (hk : k < tNd T) (hq : tN T k ≠ 0) (h : may T k s = true) : ringX T k s = ringS T k s * 2 ^ (10 * tB T k) := by unfold ringX; rw [if_pos ⟨hk, hq, h⟩]
theorem takeX_p {T : Tw} {k s : Nat} (hk : k < tNd T) (hq : tN T k ≠ 0) (h : may T k s = true) : takeX T k s = takeS T k s * 2 ^ (12 * tB T k) := by unfold takeX; rw [if_pos ⟨hk, hq, h⟩]
theorem ringX_q {T : Tw} {k s : Nat} (hq : tN T k = 0) : ringX T k s = 0 := by unfold ringX; rw [if_neg (fun h => h.2.1 hq)]
theorem takeX_q {T : Tw} {k s : Nat} (hq : tN T k = 0) : takeX T k s = 0 := by unfold takeX; rw [if_neg (fun h => h.2.1 hq)]
theorem wantX_q {T : Tw} {k : Nat} (hk : k < tNd T) (hq : tN T k = 0) : wantX T k = wantS T k * 1049601 := by unfold wantX; rw [if_pos ⟨hk, hq⟩]
theorem wantX_p {T : Tw} {k : Nat} (hq : tN T k ≠ 0) : wantX T k = 0 := by unfold wantX; rw [if_neg (fun h => hq h.2)]
theorem mul_lt2 {a n b : Nat} (h : a < 2 ^ n) : a * 2 ^ b < 2 ^ (n + b) := by rw [Nat.pow_add]; exact Nat.mul_lt_mul_of_pos_right h (Nat.two_pow_pos b)
theorem ringX_lt {T : Tw} (hw : WT T) (k s : Nat) : ringX T k s < 2 ^ 30 := by
  unfold ringX
  split
  · next h =>
    have h1 := mul_lt2 (b := 10 * tB T k) (ringS_lt hw h.1 h.2.1 h.2.2)
    have h2 := tB_lt hw h.1 h.2.1
    exact Nat.lt_of_lt_of_le h1 (Nat.pow_le_pow_right (by decide) (by omega))
  · decide
theorem takeX_lt {T : Tw} (hw : WT T) (k s : Nat) : takeX T k s < 2 ^ 36 := by
  unfold takeX
  split
  · next h =>
    have h1 := mul_lt2 (b := 12 * tB T k) (takeS_lt hw h.1 h.2.1 h.2.2)
    have h2 := tB_lt hw h.1 h.2.1
    exact Nat.lt_of_lt_of_le h1 (Nat.pow_le_pow_right (by decide) (by omega))
  · decide
theorem wantX_lt {T : Tw} (hw : WT T) (k : Nat) : wantX T k < 2 ^ 30 := by
  unfold wantX
  split
  · next h =>
    have h1 := wantS_lt hw h.1
    omega
  · decide
theorem begX_lt (T : Tw) (k : Nat) : begX T k < 2 ^ 10 := by
  unfold begX
  split
  · exact orN_lt fun s hs => by
      split
      · exact pow_lt hs
      · decide
  · decide
theorem pow_tb (a j : Nat) : (2 ^ a).testBit j = decide (a = j) := Nat.testBit_two_pow
theorem begX_tb {T : Tw} {k s : Nat} (hk : k < tNd T) (hs : s < 10) : (begX T k).testBit s = may T k s := by
  unfold begX
  rw [if_pos hk]
  apply Bool.eq_iff_iff.mpr
  rw [orN_tb]
  constructor
  · rintro ⟨i, hi, h⟩
    split at h
    · next hm =>
      rw [pow_tb, decide_eq_true_eq] at h
      rw [← h]; exact hm
    · simp at h
  · intro h
    exact ⟨s, hs, by rw [if_pos h, pow_tb]; simp⟩
theorem begX_no {T : Tw} {k : Nat} (hk : ¬ k < tNd T) : begX T k = 0 := by unfold begX; rw [if_neg hk]
/-- the class's look at a clash is the reference's -/
theorem claX {T : Tw} (hw : WT T) {k s o u : Nat} (hk : k < tNd T) (ho : o < tNd T) (h1 : may T k s = true) (h2 : may T o u = true) :
    (takeX T k s &&& takeX T o u ≠ 0 ∨ ringX T k s &&& wantX T o ≠ 0 ∨ ringX T o u &&& wantX T k ≠ 0) ↔ cla T k s o u = true := by
  unfold cla
  by_cases q1 : tN T k = 0 <;> by_cases q2 : tN T o = 0
  · rw [if_pos ⟨q1, q2⟩, takeX_q q1, ringX_q q1, ringX_q q2]
    simp
  · rw [if_neg (fun h => q2 h.2), if_neg (fun h => h.1 q1), takeX_q q1, ringX_q q1, ringX_p ho q2 h2, wantX_q hk q1, wantX_p q2, rw_nz (ringS_lt hw ho q2 h2) (wantS_lt hw hk) (tB_lt hw ho q2)]
    unfold secS
    rw [if_pos q1, if_neg q2, Nat.and_comm (wantS T k)]
    simp
  · rw [if_neg (fun h => q1 h.1), if_neg (fun h => h.2 q2), takeX_q q2, ringX_q q2, ringX_p hk q1 h1, wantX_q ho q2, wantX_p q1, rw_nz (ringS_lt hw hk q1 h1) (wantS_lt hw ho) (tB_lt hw hk q1)]
    unfold secS
    rw [if_neg q1, if_pos q2]
    simp
  · rw [if_neg (fun h => q1 h.1), if_pos ⟨q1, q2⟩, takeX_p hk q1 h1, takeX_p ho q2 h2, wantX_p q1, wantX_p q2, tt_nz (takeS_lt hw hk q1 h1) (takeS_lt hw ho q2 h2)]
    simp
theorem cla_sym {T : Tw} {k s o u : Nat} : cla T k s o u = cla T o u k s := by
  unfold cla
  by_cases q1 : tN T k = 0 <;> by_cases q2 : tN T o = 0
  · rw [if_pos ⟨q1, q2⟩, if_pos ⟨q2, q1⟩]
  · rw [if_neg (fun h => q2 h.2), if_neg (fun h => h.1 q1), if_neg (fun h => q2 h.1), if_neg (fun h => h.2 q1), Nat.and_comm]
  · rw [if_neg (fun h => q1 h.1), if_neg (fun h => h.2 q2), if_neg (fun h => q1 h.2), if_neg (fun h => h.1 q2), Nat.and_comm]
  · rw [if_neg (fun h => q1 h.1), if_pos ⟨q1, q2⟩, if_neg (fun h => q1 h.2), if_pos ⟨q2, q1⟩, Nat.and_comm]
    congr 1
    exact propext ⟨fun h => ⟨h.1.symm, h.2⟩, fun h => ⟨h.1.symm, h.2⟩⟩
