/-! sealed -/
def allN (q : Nat → Bool) : Nat → Bool
  | 0 => true
  | n + 1 => allN q n && q n
def G1 (a y z : Nat) : Int32 := if z < y then 0 else nI a - nI z
def G2 (b x z : Nat) : Int32 := if z ≤ x then 0 else nI b - nI z
def rsQ (a b x y z : Nat) : Bool := decide (G1 a y z ≤ G1 a y x) && decide (G2 b x z ≤ G2 b x y)
theorem xG1 (σ : Mm) {a z y : Nat} (hz : z < 10) (hy : y < 10) : f_X9_gainOfOne σ (nI a) (nI z) (nI y) = some (G1 a y z) := by
  unfold f_X9_gainOfOne G1
  simp only [lt_nI (show z < 2 ^ 31 by omega) (show y < 2 ^ 31 by omega)]
  split <;> rfl
theorem xG2 (σ : Mm) {b z x : Nat} (hz : z < 10) (hx : x < 10) : f_X9_gainOfOther σ (nI b) (nI x) (nI z) = some (G2 b x z) := by
  unfold f_X9_gainOfOther G2
  simp only [le_nI (show z < 2 ^ 31 by omega) (show x < 2 ^ 31 by omega)]
  split <;> rfl
theorem mG1 (σ : Mm) {a z y : Nat} (hz : z < 10) (hy : y < 10) : f_X10_gain σ (nI a) (nI z) (nI y) 1 = some (G1 a y z) := by
  unfold f_X10_gain G1
  simp only [lt_nI (show y < 2 ^ 31 by omega) (show z < 2 ^ 31 by omega), eq_nI (show z < 2 ^ 31 by omega) (show y < 2 ^ 31 by omega)]
  by_cases c1 : y < z
  · rw [if_pos c1, if_neg (by omega)]
  · rw [if_neg c1]
    by_cases c2 : z = y
    · rw [if_pos c2, if_neg n10, if_neg (by omega)]
    · rw [if_neg c2, if_pos (by omega)]
theorem mG2 (σ : Mm) {b z x : Nat} (hz : z < 10) (hx : x < 10) : f_X10_gain σ (nI b) (nI z) (nI x) 0 = some (G2 b x z) := by
  unfold f_X10_gain G2
  simp only [lt_nI (show x < 2 ^ 31 by omega) (show z < 2 ^ 31 by omega), eq_nI (show z < 2 ^ 31 by omega) (show x < 2 ^ 31 by omega)]
  by_cases c1 : x < z
  · rw [if_pos c1, if_neg (by omega)]
  · rw [if_neg c1, if_pos (show z ≤ x by omega)]
    by_cases c2 : z = x
    · rw [if_pos c2, if_pos trivial]
    · rw [if_neg c2]
theorem i32_nlt (x y : Int32) : (x < y) = ¬ (y ≤ x) := by rw [Int32.lt_iff_toInt_lt, Int32.le_iff_toInt_le]; exact propext (by omega)
theorem xRests (σ : Mm) {a b x y : Nat} (hx : x < 10) (hy : y < 10) : f_X9_rests σ (nI a) (nI b) (nI x) (nI y) = some (if allN (rsQ a b x y) 10 = true then 1 else 0) := by
  unfold f_X9_rests
  have key : ∀ j, j ≤ 10 → allN (rsQ a b x y) j = true → ∀ fu, f_X9_rests_p3 σ (fu + 10) (nI a) (nI b) (nI x) (nI y) (nI 0) = f_X9_rests_p3 σ (fu + 10 - j) (nI a) (nI b) (nI x) (nI y) (nI j) := by
    intro j
    induction j with
    | zero => intro _ _ fu; rfl
    | succ j ih =>
      intro hj ha fu
      rw [allN, Bool.and_eq_true] at ha
      rw [ih (by omega) ha.1, show fu + 10 - j = fu + 10 - (j + 1) + 1 by omega, f_X9_rests_p3, lI 9, if_neg (nI_nlt (by omega) (by decide)), xG1 σ (by omega) hy, b1_some, xG1 σ hx hy, b1_some, xG2 σ (by omega) hx, b1_some, xG2 σ hy hx, b1_some]
      have h2 := ha.2
      unfold rsQ at h2
      rw [Bool.and_eq_true, decide_eq_true_eq, decide_eq_true_eq] at h2
      rw [if_pos h2.1, if_pos h2.2, lI 1, nI_add]
  have bad : ∀ j, j < 10 → rsQ a b x y j = false → ∀ fu, f_X9_rests_p3 σ (fu + 1) (nI a) (nI b) (nI x) (nI y) (nI j) = some 0 := by
    intro j hj hq fu
    rw [f_X9_rests_p3, lI 9, if_neg (nI_nlt (by omega) (by decide)), xG1 σ (by omega) hy, b1_some, xG1 σ hx hy, b1_some, xG2 σ (by omega) hx, b1_some, xG2 σ hy hx, b1_some]
    by_cases c1 : G1 a y j ≤ G1 a y x
    · rw [if_pos c1, if_neg]
      intro c2
      unfold rsQ at hq
      rw [decide_eq_true c1, decide_eq_true c2] at hq
      cases hq
    · rw [if_neg c1]
  have hF : FU = 999999980 + 10 + 10 := rfl
  by_cases c : allN (rsQ a b x y) 10 = true
  · rw [if_pos c, hF]
    have := key 10 (by decide) c (999999980 + 10)
    refine this.trans ?_
    rw [show 999999980 + 10 + 10 - 10 = 999999989 + 1 by decide, f_X9_rests_p3, lI 9, if_pos (by decide)]
  · rw [if_neg c, hF]
    have : ∃ j, j < 10 ∧ allN (rsQ a b x y) j = true ∧ rsQ a b x y j = false := by
      have gen : ∀ N, allN (rsQ a b x y) N ≠ true → ∃ j, j < N ∧ allN (rsQ a b x y) j = true ∧ rsQ a b x y j = false := by
        intro N
        induction N with
        | zero => intro h; exact absurd rfl h
        | succ N ih =>
          intro h
          by_cases c2 : allN (rsQ a b x y) N = true
          · refine ⟨N, by omega, c2, ?_⟩
            rw [allN, c2, Bool.true_and] at h
            simpa using h
          · obtain ⟨j, h1, h2⟩ := ih c2
            exact ⟨j, by omega, h2⟩
      exact gen 10 c
    obtain ⟨j, h1, h2, h3⟩ := this
    refine (key j (by omega) h2 (999999980 + 10)).trans ?_
    rw [show 999999980 + 10 + 10 - j = (999999980 + 10 + 10 - j - 1) + 1 by omega]
    exact bad j h1 h3 _
def sG (a b p : Nat) (s : Int32 × Int32) : Int32 × Int32 := if allN (rsQ a b (p / 10) (p % 10)) 10 = true then (s.1 + 1, if s.2 = -9 then nI p else s.2) else s
def sSt (a b p : Nat) : Int32 × Int32 := itN (sG a b) p (0, -9)
theorem xSealed (σ : Mm) {a b : Nat} (ha : a < 10) (hb : b < 10) (c : Int32) : f_X9_sealed_p36 σ (f_X9_sealed_p102 σ) FU (nI a) (nI b) c 0 (-9) 0 = f_X9_sealed_p102 σ c (sSt a b 100).1 (sSt a b 100).2 := by
  have key := itL (fun n i (s : Int32 × Int32) => f_X9_sealed_p36 σ (f_X9_sealed_p102 σ) n (nI a) (nI b) c s.1 s.2 i) (fun s => f_X9_sealed_p102 σ c s.1 s.2) (fun i s => itN (fun y => sG a b (10 * i + y)) 10 s) 10 (fun i s => s = sSt a b (10 * i)) (a := (0, -9)) rfl ?_ ?_ FU (by decide)
  · have k1 : f_X9_sealed_p36 σ (f_X9_sealed_p102 σ) FU (nI a) (nI b) c 0 (-9) (nI 0) = _ := key.1
    rw [key.2] at k1
    exact k1
  · intro n i s hi hp
    refine ⟨?_, ?_⟩
    · show f_X9_sealed_p36 σ (f_X9_sealed_p102 σ) (n + 1) (nI a) (nI b) c s.1 s.2 (nI i) = _
      rw [f_X9_sealed_p36, lI 9, if_neg (nI_nlt (by omega) (by decide))]
      have q := (itL (fun m j (s : Int32 × Int32) => f_X9_sealed_p46 σ (f_X9_sealed_p96 σ (f_X9_sealed_p36 σ (f_X9_sealed_p102 σ) n) (f_X9_sealed_p102 σ)) m (nI a) (nI b) c s.1 s.2 (nI i) j) (fun s => f_X9_sealed_p96 σ (f_X9_sealed_p36 σ (f_X9_sealed_p102 σ) n) (f_X9_sealed_p102 σ) (nI a) (nI b) c s.1 s.2 (nI i)) (fun y => sG a b (10 * i + y)) 10 (fun _ _ => True) (a := s) trivial ?_ ?_ FU (by decide)).1
      · refine q.trans ?_
        unfold f_X9_sealed_p96
        rw [lI 1, nI_add]
      · intro m j s hj _
        refine ⟨?_, trivial⟩
        show f_X9_sealed_p46 σ _ (m + 1) (nI a) (nI b) c s.1 s.2 (nI i) (nI j) = _
        rw [f_X9_sealed_p46, if_neg (show ¬ (9 : Int32) < nI j from nI_nlt (a := 9) (by omega) (by decide)), xRests σ hi hj, b1_some, lI 10, mul_nI, nI_add, lI 1, nI_add]
        simp only [sG, show (10 * i + j) / 10 = i by omega, show (10 * i + j) % 10 = j by omega]
        by_cases q : allN (rsQ a b i j) 10 = true
        · simp only [if_pos q]
          rw [if_neg (by decide)]
          by_cases q2 : s.2 = -9
          · rw [if_pos q2, if_pos q2, lI 1]
          · rw [if_neg q2, if_neg q2, lI 1]
        · simp only [if_neg q]
          rw [if_pos trivial]
      · intro m s _
        show f_X9_sealed_p46 σ _ (m + 1) (nI a) (nI b) c s.1 s.2 (nI i) (nI 10) = _
        rw [f_X9_sealed_p46, lI 9, if_pos (by decide)]
    · rw [hp]
      unfold sSt
      have gen : ∀ m, itN (fun y => sG a b (10 * i + y)) m (itN (sG a b) (10 * i) (0, -9)) = itN (sG a b) (10 * i + m) (0, -9) := by
        intro m
        induction m with
        | zero => rfl
        | succ m ih => rw [itN, ih]; rfl
      rw [gen 10, show 10 * (i + 1) = 10 * i + 10 by omega]
  · intro n s _
    show f_X9_sealed_p36 σ (f_X9_sealed_p102 σ) (n + 1) (nI a) (nI b) c s.1 s.2 (nI 10) = _
    rw [f_X9_sealed_p36, lI 9, if_pos (by decide)]
theorem mRest (σ : Mm) (ke : Int32 → Int32 → Int32 → Int32 → Int32 → Int32 → Int32 → Option Int32) {a b x y : Nat} (hx : x < 10) (hy : y < 10) (c s1 s2 p : Int32) : f_X10_sealed_p74 σ ke FU (nI a) (nI b) c s1 s2 p (nI x) (nI y) 1 0 = ke (nI a) (nI b) c s1 s2 p (if allN (rsQ a b x y) 10 = true then 1 else 0) := by
  have key := itL (fun m z (r : Int32) => f_X10_sealed_p74 σ ke m (nI a) (nI b) c s1 s2 p (nI x) (nI y) r z) (fun r => ke (nI a) (nI b) c s1 s2 p r) (fun z r => if r = 0 then 0 else if rsQ a b x y z = true then 1 else 0) 10 (fun z r => r = if allN (rsQ a b x y) z = true then 1 else 0) (a := (1 : Int32)) rfl ?_ ?_ FU (by decide)
  · have k1 : f_X10_sealed_p74 σ ke FU (nI a) (nI b) c s1 s2 p (nI x) (nI y) 1 (nI 0) = _ := key.1
    rw [key.2] at k1
    exact k1
  · intro m z r hz hp
    refine ⟨?_, ?_⟩
    · show f_X10_sealed_p74 σ ke (m + 1) (nI a) (nI b) c s1 s2 p (nI x) (nI y) r (nI z) = _
      rw [f_X10_sealed_p74, lI 10, if_neg (nI_ge hz (by decide))]
      by_cases q : r = 0
      · rw [if_pos q, if_pos q, lI 1, nI_add]
      · rw [if_neg q, if_neg q, mG1 σ hz hy, b1_some, mG1 σ hx hy, b1_some, mG2 σ hz hx, b1_some, mG2 σ hy hx, b1_some, lI 1, nI_add]
        simp only [i32_nlt]
        by_cases c1 : G1 a y z ≤ G1 a y x
        · rw [if_neg (fun k => k c1)]
          by_cases c2 : G2 b x z ≤ G2 b x y
          · rw [if_neg (fun k => k c2), if_pos (by unfold rsQ; rw [decide_eq_true c1, decide_eq_true c2]; rfl)]
          · rw [if_pos c2, if_neg (by unfold rsQ; rw [decide_eq_false c2, Bool.and_false]; decide)]
        · rw [if_pos c1, if_neg (by unfold rsQ; rw [decide_eq_false c1, Bool.false_and]; decide)]
    · rw [hp, allN]
      by_cases q : allN (rsQ a b x y) z = true
      · rw [if_pos q, if_neg n10, q, Bool.true_and]
      · rw [if_neg q, if_pos rfl, if_neg]
        intro k
        rw [Bool.and_eq_true] at k
        exact q k.1
  · intro m r _
    show f_X10_sealed_p74 σ ke (m + 1) (nI a) (nI b) c s1 s2 p (nI x) (nI y) r (nI 10) = _
    rw [f_X10_sealed_p74, lI 10, if_pos (nI_le (Nat.le_refl _) (by decide))]
theorem mSealed (σ : Mm) {a b : Nat} (ha : a < 10) (hb : b < 10) (c : Int32) : f_X10_sealed_p47 σ (f_X10_sealed_p181 σ) FU (nI a) (nI b) c 0 (-9) 0 = f_X10_sealed_p181 σ c (sSt a b 100).1 (sSt a b 100).2 := by
  have key := itL (fun n i (s : Int32 × Int32) => f_X10_sealed_p47 σ (f_X10_sealed_p181 σ) n (nI a) (nI b) c s.1 s.2 i) (fun s => f_X10_sealed_p181 σ c s.1 s.2) (sG a b) 100 (fun i s => s = sSt a b i ∧ ∃ m, m ≤ i ∧ s.1 = nI m ∧ (m = 0 ↔ s.2 = -9)) (a := (0, -9)) ⟨rfl, 0, Nat.le_refl _, rfl, by simp⟩ ?_ ?_ FU (by decide)
  · have k1 : f_X10_sealed_p47 σ (f_X10_sealed_p181 σ) FU (nI a) (nI b) c 0 (-9) (nI 0) = _ := key.1
    rw [key.2.1] at k1
    exact k1
  · intro n i s hi hp
    obtain ⟨hp1, m, hm1, hm2, hm3⟩ := hp
    refine ⟨?_, ?_, ?_⟩
    · show f_X10_sealed_p47 σ (f_X10_sealed_p181 σ) (n + 1) (nI a) (nI b) c s.1 s.2 (nI i) = _
      rw [f_X10_sealed_p47, lI 100, if_neg (nI_ge hi (by decide)), lI 10, div_nI (by omega) (by decide) (by decide), jrem_nI (by omega) (by decide) (by decide), mRest σ _ (by omega) (by omega)]
      unfold f_X10_sealed_p141
      simp only [sG]
      by_cases q : allN (rsQ a b (i / 10) (i % 10)) 10 = true
      · simp only [if_pos q]
        rw [if_neg n10]
        have hz : (s.1 = 0) = (s.2 = -9) := by rw [hm2, nI_0iff (by omega)]; exact propext hm3
        by_cases q2 : s.2 = -9
        · rw [if_pos (hz ▸ q2), if_pos q2]
          unfold f_X10_sealed_p158
          rw [if_neg n10, lI 1, nI_add]
        · rw [if_neg (by rw [hz]; exact q2), if_neg q2]
          unfold f_X10_sealed_p156 f_X10_sealed_p158
          rw [if_neg n10, lI 1, nI_add]
      · simp only [if_neg q]
        unfold f_X10_sealed_p156 f_X10_sealed_p158
        rw [if_pos trivial, if_pos rfl, Int32.add_zero, lI 1, nI_add]
    · rw [hp1]; rfl
    · simp only [sG]
      by_cases q : allN (rsQ a b (i / 10) (i % 10)) 10 = true
      · simp only [if_pos q]
        refine ⟨m + 1, by omega, by rw [hm2, lI 1, nI_add], ?_⟩
        by_cases q2 : s.2 = -9
        · rw [if_pos q2, ne9 (by omega)]; simp
        · rw [if_neg q2]; simp [q2]
      · simp only [if_neg q]
        exact ⟨m, by omega, hm2, hm3⟩
  · intro n s _
    show f_X10_sealed_p47 σ (f_X10_sealed_p181 σ) (n + 1) (nI a) (nI b) c s.1 s.2 (nI 100) = _
    rw [f_X10_sealed_p47, lI 100, if_pos (nI_le (Nat.le_refl _) (by decide))]
theorem isBid_eq (σ : Mm) (x : Int32) : f_X9_isBid σ x = some (if ¬ x < 0 ∧ x < nI 10 then 1 else 0) := by
  unfold f_X9_isBid
  have e : (x < nI 10) = ¬ nI 9 < x := by
    rw [Int32.lt_iff_toInt_lt, Int32.lt_iff_toInt_lt, nI_toInt (by omega), nI_toInt (by omega)]
    exact propext (by omega)
  simp only [e]
  by_cases h1 : x < 0 <;> by_cases h2 : nI 9 < x <;> simp [lI 9, h1, h2]
theorem op_sealed {σ : Mm} (hI : INV σ) : ∀ a b c : Int32, ∃ v, f_X9_sealed σ a b c = some v ∧ f_X10_sealed σ a b c = some v ∧ INV σ := by
  intro a b c
  unfold f_X9_sealed f_X10_sealed
  rw [isBid_eq, in_sec, b1_some, b1_some, isBid_eq, in_sec, b1_some, b1_some, in_slot, b1_some]
  by_cases h1 : ¬ a < 0 ∧ a < nI 10
  · rw [if_pos h1, if_neg n10, if_neg n10]
    by_cases h2 : ¬ b < 0 ∧ b < nI 10
    · rw [if_pos h2, if_neg n10, if_neg n10]
      obtain ⟨i, hi, rfl⟩ := okx (by decide) h1
      obtain ⟨j, hj, rfl⟩ := okx (by decide) h2
      rw [xSealed σ hi hj, mSealed σ hi hj]
      by_cases h3 : c = 0 ∨ c = 1
      · rw [if_pos h3, if_neg n10]
        have hb1 : ¬ c < 0 := by rcases h3 with rfl | rfl <;> decide
        have hb2 : c ≤ 1 := by rcases h3 with rfl | rfl <;> decide
        rw [if_neg hb1, if_pos hb2]
        unfold f_X9_sealed_p102 f_X10_sealed_p181
        obtain ⟨v, hv⟩ : ∃ v, (if c = 0 then some (sSt i j 100).1 else some (sSt i j 100).2) = some v := ex_if (fun _ => ex_s _) fun _ => ex_s _
        exact ⟨v, hv, hv, hI⟩
      · rw [if_neg h3, if_pos (show (0 : Int32) = 0 from rfl)]
        by_cases hb1 : c < 0
        · rw [if_pos hb1]; exact ⟨_, rfl, rfl, hI⟩
        · rw [if_neg hb1, if_neg]
          · exact ⟨_, rfl, rfl, hI⟩
          · intro hb2
            have : ok c 2 := ⟨hb1, by
              rw [Int32.le_iff_toInt_le] at hb2
              rw [Int32.lt_iff_toInt_lt]
              have e1 : (1 : Int32).toInt = 1 := by decide
              have e2 : (nI 2).toInt = 2 := by decide
              omega⟩
            obtain ⟨k, hk, rfl⟩ := okx (by decide) this
            exact h3 (slot_or hk)
    · rw [if_neg h2, if_pos rfl, if_pos rfl]
      exact ⟨_, rfl, rfl, hI⟩
  · rw [if_neg h1, if_pos rfl, if_pos rfl]
    exact ⟨_, rfl, rfl, hI⟩
