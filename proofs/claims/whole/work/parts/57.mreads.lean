/-! what the reference reads of tower and day -/
theorem mQuiet {σ : Mm} {T : Tw} (h : MTw σ T) (hw : WT T) {k : Nat} (hk : k < tNd T) : f_X10_isQuiet σ (nI k) = some (if tN T k = 0 then 1 else 0) := by
  have h5 := hw.2.1
  unfold f_X10_isQuiet
  rw [lI 6, mul_nI, gd_t (inB_t (by omega) (by decide)), cl_nI (by omega), (h.2.2.2 k hk).1, eB]
  by_cases c : tN T k = 0
  · rw [if_pos c, if_pos rfl, if_pos c]
  · have := tB_lt hw hk c
    rw [if_neg c, if_neg (by rw [ne9 (by omega)]; exact id), if_neg c]
theorem mStroke {σ : Mm} {T : Tw} (h : MTw σ T) (hw : WT T) {k : Nat} (hk : k < tNd T) (hq : tN T k ≠ 0) (s i : Nat) : f_X10_strokeAt σ (nI k) (nI s) (nI i) = some (nI (stA T k s i)) := by
  have h5 := hw.2.1
  have h3 := hw.1
  have hb := (hw.2.2.2 k hk).2.2.2.2.2.2.1 hq
  obtain ⟨e0, e1, e2, e3, e4, e5⟩ := h.2.2.2 k hk
  unfold f_X10_strokeAt stA kR
  rw [eB, if_neg hq] at e0
  rw [lI 6, lI 2, mul_nI, nI_add, gd_t (inB_t (by omega) (by decide)), cl_nI (show 6 * k < 2 ^ 31 by omega), e0, gd_t (inB_t (by omega) (by decide)), gd_t (inB_t (by omega) (by decide)), cl_nI (show 6 * k + 2 < 2 ^ 31 by omega), cl_nI (show tB T k < 2 ^ 31 by omega), e2, (h.2.2.1 _ hb).1, nI_add, mul_nI, nI_add]
theorem ile (a b : Nat) (ha : a < 2 ^ 31) (hb : b < 2 ^ 31) : (nI a ≤ nI b) = (a ≤ b) := le_nI ha hb
theorem stA_b {T : Tw} (hw : WT T) {k s i : Nat} (hk : k < tNd T) (hq : tN T k ≠ 0) (hs : s < 10) (hi : i ≤ 3) : stA T k s i ≤ 27 := by
  have h1 := kM_le hw hk hq
  have h2 := (hw.2.2.2 k hk).2.1
  unfold stA
  have : i * (kR T k + tG T k) ≤ 3 * 6 := Nat.mul_le_mul hi (by omega)
  omega
theorem mMay {σ : Mm} {T : Tw} (h : MTw σ T) (hw : WT T) {k s : Nat} (hk : k < tNd T) (hs : s < 10) : f_X10_mayBegin σ (nI k) (nI s) = some (if may T k s = true then 1 else 0) := by
  have h5 := hw.2.1
  have h3 := hw.1
  obtain ⟨e0, e1, e2, e3, e4, e5⟩ := h.2.2.2 k hk
  obtain ⟨w1, w2, w3, w4, w5, w6, w7, w8⟩ := hw.2.2.2 k hk
  unfold f_X10_mayBegin
  rw [mQuiet h hw hk, b1_some]
  by_cases c : tN T k = 0
  · rw [if_pos c, if_neg (by decide), lI 6, lI 3, mul_nI, nI_add, gd_t (inB_t (by omega) (by decide)), cl_nI (by omega), e3]
    simp only [eq_nI (show s < 2 ^ 31 by omega) (show tF T k < 2 ^ 31 by omega), may_q c]
    split <;> rfl
  · have hb := w7 c
    rw [eB, if_neg c] at e0
    have hm := hw.2.2.1 _ hb
    have g30 : ∀ j, j < 6 → inB (nI (6 * k + j)) 30 = true := fun j hj => inB_t (by omega) (by decide)
    have g3 : inB (nI (tB T k)) 3 = true := inB_t (by omega) (by decide)
    have p79 : ∀ z : Int32, f_X10_mayBegin_p79 σ (nI k) (nI s) (nI (tN T k)) z = some (if z = 0 ∧ tF T k ≤ s ∧ stA T k s (tN T k - 1) + kR T k ≤ tU T k + 1 then 1 else 0) := by
      intro z
      unfold f_X10_mayBegin_p79
      by_cases hz : z = 0
      · have hst := stA_b (i := tN T k - 1) hw hk c hs (by omega)
        have hkr := kM_le hw hk c
        rw [if_pos hz, lI 6, lI 3, lI 1, lI 4, mul_nI, nI_add, gd_t (g30 3 (by decide)), cl_nI (by omega), e3, pk_sub (by omega), mStroke h hw hk c, b1_some, gd_t (show inB (nI (6 * k)) 30 = true from g30 0 (by decide)), cl_nI (show 6 * k < 2 ^ 31 by omega), e0, gd_t g3, nI_add, gd_t (g30 4 (by decide)), cl_nI (show 6 * k + 4 < 2 ^ 31 by omega), e4, cl_nI (show tB T k < 2 ^ 31 by omega), (h.2.2.1 _ hb).1, nI_add, pk_sub (by unfold kR at hkr; omega)]
        simp only [lt_nI (show s < 2 ^ 31 by omega) (show tF T k < 2 ^ 31 by omega), lt_nI (show tU T k < 2 ^ 31 by omega) (show stA T k s (tN T k - 1) + tR T (tB T k) - 1 < 2 ^ 31 by unfold kR at hkr; omega)]
        by_cases q1 : s < tF T k
        · rw [if_pos q1, if_neg (by omega)]
        · rw [if_neg q1]
          unfold kR at hkr ⊢
          by_cases q2 : tU T k < stA T k s (tN T k - 1) + tR T (tB T k) - 1
          · rw [if_pos q2, if_neg (by omega)]
          · rw [if_neg q2, if_pos ⟨hz, by omega, by omega⟩]
      · rw [if_neg hz, if_neg (fun q => hz q.1)]
    rw [if_neg c, if_pos rfl, lI 6, lI 1, lI 2, mul_nI, nI_add, gd_t (g30 1 (by decide)), cl_nI (show 6 * k + 1 < 2 ^ 31 by omega), e1, bnd_eq, nI_add, gd_t (g30 2 (by decide)), gd_t (show inB (nI (6 * k)) 30 = true from g30 0 (by decide)), cl_nI (show 6 * k < 2 ^ 31 by omega), cl_nI (show 6 * k + 2 < 2 ^ 31 by omega), e0, e2, gd_t g3, cl_nI (show tB T k < 2 ^ 31 by omega), (h.2.2.1 _ hb).2]
    unfold f_X10_mayBegin_p78
    rw [p79, p79]
    simp only [le_nI (show tN T k < 2 ^ 31 by omega) (show 1 < 2 ^ 31 by decide), le_nI (show tM T (tB T k) < 2 ^ 31 by omega) (show tG T k < 2 ^ 31 by omega), may_p c]
    unfold kM
    by_cases q1 : tN T k ≤ 1
    · rw [if_pos q1]
      refine congrArg some (ifc (propext ⟨fun q => ⟨by omega, q.2⟩, fun q => ⟨by trivial, q.2⟩⟩))
    · rw [if_neg q1]
      by_cases q2 : tM T (tB T k) ≤ tG T k
      · rw [if_pos q2]
        refine congrArg some (ifc (propext ⟨fun q => ⟨by omega, q.2⟩, fun q => ⟨by trivial, q.2⟩⟩))
      · rw [if_neg q2, if_neg (fun q => absurd q.1 (by decide)), if_neg (fun q => q.1 ⟨by omega, by omega⟩)]
theorem mSpan (σ : Mm) {a m : Nat} (ha : a < 32) (hm : m < 32) : f_X10_span σ (nI a) (nI m) = some (nI (spN a m)) := by
  unfold f_X10_span spN
  rw [lI 1, shl_nI 1 hm, Nat.one_mul, pk_sub (Nat.two_pow_pos m), shl_nI _ ha]
theorem mSecs {σ : Mm} {T : Tw} (h : MTw σ T) (hw : WT T) {k s : Nat} (hk : k < tNd T) (hs : s < 10) (z : Int32) : f_X10_seconds σ (nI k) (nI s) z = some (nI (if tN T k = 0 then wantS T k else if z = 0 then ringS T k s else takeS T k s)) := by
  have h5 := hw.2.1
  have h3 := hw.1
  obtain ⟨e0, e1, e2, e3, e4, e5⟩ := h.2.2.2 k hk
  obtain ⟨w1, w2, w3, w4, w5, w6, w7, w8⟩ := hw.2.2.2 k hk
  have g30 : ∀ j, j < 6 → inB (nI (6 * k + j)) 30 = true := fun j hj => inB_t (by omega) (by decide)
  unfold f_X10_seconds
  rw [mQuiet h hw hk, b1_some]
  by_cases c : tN T k = 0
  · rw [if_pos c, if_neg (by decide), if_pos c, lI 6, lI 3, lI 4, lI 1, mul_nI, nI_add, nI_add, gd_t (g30 3 (by decide)), gd_t (g30 4 (by decide)), gd_t (g30 3 (by decide)), cl_nI (show 6 * k + 3 < 2 ^ 31 by omega), cl_nI (show 6 * k + 4 < 2 ^ 31 by omega), e3, e4, pk_sub w3, nI_add, mSpan σ (by omega) (by omega), b1_some, wantS, show tU T k - tF T k + 1 = tU T k + 1 - tF T k by omega]
  · have hb := w7 c
    rw [eB, if_neg c] at e0
    have g3 : inB (nI (tB T k)) 3 = true := inB_t (by omega) (by decide)
    have hkr := kM_le hw hk c
    rw [if_neg c, if_pos rfl, if_neg c, lI 6, mul_nI, gd_t (show inB (nI (6 * k)) 30 = true from g30 0 (by decide)), cl_nI (show 6 * k < 2 ^ 31 by omega), e0]
    have ef : (if z = 0 then ringS T k s else takeS T k s) = orN (fun i => spN (stA T k s i) (kR T k + if z = 0 then 0 else kM T k)) (tN T k) := by
      by_cases hz : z = 0
      · rw [if_pos hz, if_pos hz]; rfl
      · rw [if_neg hz, if_neg hz]; rfl
    rw [ef, ← it_or (f := fun i => spN (stA T k s i) (kR T k + if z = 0 then 0 else kM T k)) (fun _ _ => rfl) (tN T k)]
    refine (itL (fun n i a => f_X10_seconds_p65 σ n (nI k) (nI s) z (nI (tB T k)) a i) some _ (tN T k) (fun _ _ => True) trivial ?_ ?_ FU (by have : FU = 1000000000 := rfl; omega)).1
    · intro n i a hi _
      refine ⟨?_, trivial⟩
      have hst := stA_b (i := i) hw hk c hs (by omega)
      simp only [f_X10_seconds_p65]
      rw [lI 6, lI 1, mul_nI, nI_add, gd_t (g30 1 (by decide)), cl_nI (show 6 * k + 1 < 2 ^ 31 by omega), e1, if_neg (nI_ge hi (by omega)), mStroke h hw hk c, b1_some, gd_t g3, gd_t g3, cl_nI (show tB T k < 2 ^ 31 by omega), (h.2.2.1 _ hb).1, (h.2.2.1 _ hb).2, Int32.add_zero, nI_add, nI_add]
      by_cases hz : z = 0
      · simp only [if_pos hz]
        rw [mSpan σ (by omega) (by unfold kR at hkr; omega), b1_some]; rfl
      · simp only [if_neg hz]
        rw [mSpan σ (by omega) (by unfold kR kM at hkr; omega), b1_some]; rfl
    · intro n a _
      simp only [f_X10_seconds_p65]
      rw [lI 6, lI 1, mul_nI, nI_add, gd_t (g30 1 (by decide)), cl_nI (show 6 * k + 1 < 2 ^ 31 by omega), e1, if_pos (nI_le (Nat.le_refl _) (by omega))]
theorem ringS_lt31 {T : Tw} (hw : WT T) {k s : Nat} (hk : k < tNd T) (hm : may T k s = true) : secS T k s < 2 ^ 12 ∧ (tN T k ≠ 0 → takeS T k s < 2 ^ 12) := by
  refine ⟨?_, fun c => takeS_lt hw hk c hm⟩
  unfold secS
  split
  · have := wantS_lt hw hk; omega
  · next c => have := ringS_lt hw hk c hm; omega
theorem eB_eq {T : Tw} (hw : WT T) {k o : Nat} (hk : k < tNd T) (ho : o < tNd T) (q1 : tN T k ≠ 0) (q2 : tN T o ≠ 0) : (eB T k = eB T o) = (tB T k = tB T o) := by
  have := tB_lt hw hk q1
  have := tB_lt hw ho q2
  unfold eB
  rw [if_neg q1, if_neg q2, eq_nI (by omega) (by omega)]
theorem mClash {σ : Mm} {T : Tw} (h : MTw σ T) (hw : WT T) {k s o u : Nat} (hk : k < tNd T) (ho : o < tNd T) (h1 : may T k s = true) (h2 : may T o u = true) : f_X10_clash σ (nI k) (nI s) (nI o) (nI u) = some (if cla T k s o u = true then 1 else 0) := by
  have h5 := hw.2.1
  have s1 := may_lt hw hk h1
  have s2 := may_lt hw ho h2
  have b1 := ringS_lt31 hw hk h1
  have b2 := ringS_lt31 hw ho h2
  have g30 : ∀ k, k < 5 → inB (nI (6 * k)) 30 = true := fun j hj => inB_t (by omega) (by decide)
  have p80 : f_X10_clash_p80 σ (nI k) (nI s) (nI o) (nI u) = some (if secS T k s &&& secS T o u ≠ 0 then 1 else 0) := by
    unfold f_X10_clash_p80
    rw [mSecs h hw hk s1, b1_some, mSecs h hw ho s2, b1_some, and_nI]
    simp only [if_true]
    have e1 : (if tN T k = 0 then wantS T k else ringS T k s) = secS T k s := rfl
    have e2 : (if tN T o = 0 then wantS T o else ringS T o u) = secS T o u := rfl
    have b3 := and_lt (b := secS T o u) b1.1
    rw [e1, e2]
    simp only [nI_0iff (n := secS T k s &&& secS T o u) (by omega)]
    by_cases c : secS T k s &&& secS T o u = 0
    · rw [if_pos c, if_neg (fun q => q c)]
    · rw [if_neg c, if_pos c]
  have p18 : ¬ (tN T k = 0 ∧ tN T o = 0) → f_X10_clash_p18 σ (nI k) (nI s) (nI o) (nI u) = some (if cla T k s o u = true then 1 else 0) := by
    intro hc
    unfold f_X10_clash_p18 cla
    rw [mQuiet h hw hk, b1_some, mQuiet h hw ho, b1_some, if_neg hc]
    by_cases q1 : tN T k = 0
    · rw [if_pos q1, if_neg (by decide), p80, if_neg (show ¬ (tN T k ≠ 0 ∧ tN T o ≠ 0) from fun q => q.1 q1)]
      simp
    · by_cases q2 : tN T o = 0
      · rw [if_neg q1, if_pos rfl, if_pos q2, if_neg (by decide), p80, if_neg (show ¬ (tN T k ≠ 0 ∧ tN T o ≠ 0) from fun q => q.2 q2)]
        simp
      · rw [if_neg q1, if_pos rfl, if_neg q2, if_pos rfl, if_pos (show tN T k ≠ 0 ∧ tN T o ≠ 0 from ⟨q1, q2⟩), lI 6, mul_nI, mul_nI, gd_t (g30 k (by omega)), gd_t (g30 o (by omega)), cl_nI (show 6 * k < 2 ^ 31 by omega), cl_nI (show 6 * o < 2 ^ 31 by omega), (h.2.2.2 k hk).1, (h.2.2.2 o ho).1, mSecs h hw hk s1, b1_some, mSecs h hw ho s2, b1_some, and_nI, if_neg q1, if_neg q2, if_neg (show ¬ ((1 : Int32) = 0) by decide), if_neg (show ¬ ((1 : Int32) = 0) by decide)]
        have b3 := and_lt (b := takeS T o u) (b1.2 q1)
        simp only [eB_eq hw hk ho q1 q2, nI_0iff (n := takeS T k s &&& takeS T o u) (by omega)]
        by_cases c1 : tB T k = tB T o
        · by_cases c2 : takeS T k s &&& takeS T o u = 0
          · rw [if_pos c1, if_pos c2, if_neg (by simp [c2])]
          · rw [if_pos c1, if_neg c2, if_pos (by simp [c1, c2])]
        · rw [if_neg c1, if_neg (by simp [c1])]
  unfold f_X10_clash
  rw [mQuiet h hw hk, b1_some, mQuiet h hw ho, b1_some]
  by_cases q1 : tN T k = 0
  · by_cases q2 : tN T o = 0
    · rw [if_pos q1, if_neg (by decide), if_pos q2, if_neg (by decide), if_neg]
      unfold cla
      rw [if_pos ⟨q1, q2⟩]
      decide
    · rw [if_pos q1, if_neg (by decide), if_neg q2, if_pos rfl, p18 (fun q => q2 q.2)]
  · rw [if_neg q1, if_pos rfl, p18 (fun q => q1 q.1)]
theorem eD_0 {v : Nat} (h : v ≤ 10) : (eD v = -9) = (v = 0) := by
  unfold eD
  by_cases c : v = 0
  · rw [if_pos c]; simp [c]
  · rw [if_neg c, ne9 (by omega)]; simp [c]
theorem mClashes {σ : Mm} {T : Tw} (h : MTw σ T) (hw : WT T) {D : Dy} (hd : MD σ D) (hD : OD T D) {k s : Nat} (hk : k < tNd T) (h1 : may T k s = true) : f_X10_clashesOf σ (nI k) (nI s) = some (nI (claM T D k s)) := by
  have h5 := hw.2.1
  have e : claM T D k s = orN (fun o => if o ≠ k ∧ D o ≠ 0 ∧ cla T k s o (D o - 1) = true then 2 ^ o else 0) (tNd T) := orN_ext h5 (fun i h1 _ => by
    rw [if_neg]
    intro q
    exact absurd (hD i q.2.1).1 (by omega))
  unfold f_X10_clashesOf
  rw [e, ← it_or (f := fun o => if o ≠ k ∧ D o ≠ 0 ∧ cla T k s o (D o - 1) = true then 2 ^ o else 0) (fun _ _ => rfl) (tNd T)]
  refine (itL (fun n i a => f_X10_clashesOf_p5 σ n (nI k) (nI s) a i) some _ (tNd T) (fun _ _ => True) trivial ?_ ?_ FU (by have : FU = 1000000000 := rfl; omega)).1
  · intro n i a hi _
    refine ⟨?_, trivial⟩
    have hle := hD.le i
    simp (disch := omega) only [f_X10_clashesOf_p5, h.2.1, lI 1, le_nI, Nat.not_le.mpr hi, if_false, eq_nI, nI_add, gd_t (inB_t (show i < 5 by omega) (by decide)), cl_nI, hd i (by omega), eD_0, Int32.or_zero]
    by_cases c1 : i = k
    · rw [if_pos c1, if_neg (fun q => q.1 c1), nI0, Int32.or_zero]
    · rw [if_neg c1]
      by_cases c2 : D i = 0
      · rw [if_pos c2, if_neg (fun q => q.2.1 c2), nI0, Int32.or_zero]
      · rw [if_neg c2, eD, if_neg c2, mClash h hw hk (hD i c2).1 h1 (hD i c2).2.2, b1_some]
        by_cases c3 : cla T k s i (D i - 1) = true
        · rw [if_pos c3, if_neg (by decide), if_pos ⟨c1, c2, c3⟩, shl_nI 1 (by omega), Nat.one_mul]
        · rw [if_neg c3, if_pos rfl, if_neg (fun q => c3 q.2.2), nI0, Int32.or_zero]
  · intro n a _
    simp (disch := omega) only [f_X10_clashesOf_p5, h.2.1, le_nI, Nat.le_refl, if_true]
theorem mCan {σ : Mm} {T : Tw} (h : MTw σ T) (hw : WT T) {D : Dy} (hd : MD σ D) (hD : OD T D) {k s : Nat} (hk : k < tNd T) (hs : s < 10) : f_X10_canBe σ (nI k) (nI s) = some (if can T D k s = true then 1 else 0) := by
  unfold f_X10_canBe can
  rw [mMay h hw hk hs, b1_some]
  by_cases h1 : may T k s = true
  · have := claM_lt T D k s
    rw [if_pos h1, if_neg (by decide), mClashes h hw hd hD hk h1, b1_some]
    simp only [nI_0iff (n := claM T D k s) (by omega), h1, Bool.true_and, decide_eq_true_eq]
    split <;> rfl
  · rw [if_neg h1, if_pos rfl, if_neg]
    simp [h1]
theorem mHas (σ : Mm) {m k : Nat} (hm : m < 2 ^ 31) (hk : k < 32) : f_X10_has σ (nI m) (nI k) = some (if m.testBit k = true then 1 else 0) := by
  unfold f_X10_has
  simp only [has_s hm hk]
  split <;> rfl
theorem mCoins {σ : Mm} {T : Tw} (h : MTw σ T) (hw : WT T) {m : Nat} (hm : m < 2 ^ 31) : f_X10_coinsOf σ (nI m) = some (nI (worM T m)) := by
  have h5 := hw.2.1
  unfold f_X10_coinsOf worM
  rw [← it_su (f := fun k => if m.testBit k then tW T k else 0) (fun _ _ => rfl) (tNd T)]
  refine (itL (fun n i a => f_X10_coinsOf_p4 σ n (nI m) a i) some _ (tNd T) (fun _ _ => True) trivial ?_ ?_ FU (by have : FU = 1000000000 := rfl; omega)).1
  · intro n i a hi _
    refine ⟨?_, trivial⟩
    simp (disch := omega) only [f_X10_coinsOf_p4, h.2.1, lI 1, lI 6, lI 5, mul_nI, le_nI, Nat.not_le.mpr hi, if_false, nI_add, gd_t (inB_t (show 6 * i + 5 < 30 by omega) (by decide)), cl_nI, mHas, b1_some, bnd_eq, Int32.add_zero, (h.2.2.2 i hi).2.2.2.2.2]
    by_cases c : m.testBit i = true
    · rw [if_pos c, if_neg (by decide), if_pos c]
    · rw [if_neg c, if_pos rfl, if_neg c, nI0, Int32.add_zero]
  · intro n a _
    simp (disch := omega) only [f_X10_coinsOf_p4, h.2.1, le_nI, Nat.le_refl, if_true]
theorem mLets {σ : Mm} {T : Tw} (h : MTw σ T) (hw : WT T) {D : Dy} (hd : MD σ D) (hD : OD T D) : f_X10_letNow σ = some (nI (letM D)) := by
  have h5 := hw.2.1
  have e : letM D = orN (fun k => if D k = 0 then 0 else 2 ^ k) (tNd T) := orN_ext hw.2.1 (fun i h1 _ => by
    by_cases c : D i = 0
    · rw [if_pos c]
    · exact absurd (hD i c).1 (by omega))
  unfold f_X10_letNow
  rw [e, ← it_or (f := fun k => if D k = 0 then 0 else 2 ^ k) (fun _ _ => rfl) (tNd T)]
  refine (itL (fun n i a => f_X10_letNow_p4 σ n a i) some _ (tNd T) (fun _ _ => True) trivial ?_ ?_ FU (by have : FU = 1000000000 := rfl; omega)).1
  · intro n i a hi _
    refine ⟨?_, trivial⟩
    have hle := hD.le i
    simp (disch := omega) only [f_X10_letNow_p4, h.2.1, lI 1, le_nI, Nat.not_le.mpr hi, if_false, nI_add, gd_t (inB_t (show i < 5 by omega) (by decide)), cl_nI, hd i (by omega), eD_0, Int32.or_zero]
    by_cases c : D i = 0
    · rw [if_pos c, if_pos c, nI0, Int32.or_zero]
    · rw [if_neg c, if_neg c, shl_nI 1 (by omega), Nat.one_mul]
  · intro n a _
    simp (disch := omega) only [f_X10_letNow_p4, h.2.1, le_nI, Nat.le_refl, if_true]
