/-! what class and reference read of tower and day -/
theorem ne9 {n : Nat} (h : n < 2 ^ 31) : (nI n = -9) = False := by
  refine eq_false (fun e => ?_)
  have h1 := congrArg Int32.toInt e
  rw [nI_toInt h] at h1
  have h2 : (-9 : Int32).toInt = -9 := by decide
  omega
theorem mul_nI (a b : Nat) : nI a * nI b = nI (a * b) := pk_mul a b
theorem nI0 : nI 0 = 0 := rfl
theorem xMay {σ : Mm} {T : Tw} (h : XTw σ T) {k s : Nat} (hk : k < 5) (hs : s < 10) : f_X8_mayBegin σ (nI k) (nI s) = some (if (begX T k).testBit s = true then 1 else 0) := by
  unfold f_X8_mayBegin
  rw [if_neg (nI_pos (by omega)), lI 5, if_neg (nI_ge hk (by decide)), if_neg (nI_pos (by omega)), lI 10, if_neg (nI_ge hs (by decide)), gd_t (inB_t hk (by decide)), cl_nI (by omega), (h.2.2.2.2 k hk).1]
  have hb := begX_lt T k
  simp only [has_u (a := begX T k) (k := s) (by omega) (by omega)]
  split <;> rfl
theorem xMay_t {σ : Mm} {T : Tw} (h : XTw σ T) (hw : WT T) {k s : Nat} (hk : k < tNd T) (hs : s < 10) : f_X8_mayBegin σ (nI k) (nI s) = some (if may T k s = true then 1 else 0) := by
  rw [xMay h (by have := hw.2.1; omega) hs, begX_tb hk hs]
theorem xMay_0 {σ : Mm} {T : Tw} (h : XTw σ T) {k s : Nat} (hk : ¬ k < tNd T) (hk9 : k < 100) (hs : s < 10) : f_X8_mayBegin σ (nI k) (nI s) = some 0 := by
  by_cases h5 : k < 5
  · rw [xMay h h5 hs, begX_no hk]; simp
  · unfold f_X8_mayBegin
    rw [if_neg (nI_pos (by omega)), lI 5, if_pos (nI_le (by omega) (by omega))]
theorem xTakes {σ : Mm} {T : Tw} (h : XTw σ T) {k s : Nat} (hk : k < 5) (hs : s < 10) : f_X8_takes σ (nI k) (nI s) = some (lN (takeX T k s)) := by
  unfold f_X8_takes f_X8_takes_p24
  rw [if_neg (nI_pos (by omega)), lI 5, if_neg (nI_ge hk (by decide)), if_neg (nI_pos (by omega)), lI 10, if_neg (nI_ge hs (by decide)), if_neg (by decide), mul_nI, nI_add, gd_t (inB_t (by omega) (by decide)), cl_nI (by omega), ((h.2.2.2.2 k hk).2.2 s hs).2]
theorem xRing {σ : Mm} {T : Tw} (h : XTw σ T) {k s : Nat} (hk : k < 5) (hs : s < 10) : f_X8_ringing σ (nI k) (nI s) = some (nI (ringX T k s)) := by
  unfold f_X8_ringing f_X8_ringing_p24
  rw [if_neg (nI_pos (by omega)), lI 5, if_neg (nI_ge hk (by decide)), if_neg (nI_pos (by omega)), lI 10, if_neg (nI_ge hs (by decide)), if_neg (by decide), mul_nI, nI_add, gd_t (inB_t (by omega) (by decide)), cl_nI (by omega), ((h.2.2.2.2 k hk).2.2 s hs).1]
theorem xWants {σ : Mm} {T : Tw} (h : XTw σ T) {k : Nat} (hk : k < 5) : f_X8_wants σ (nI k) = some (nI (wantX T k)) := by
  unfold f_X8_wants
  rw [if_neg (nI_pos (by omega)), lI 5, if_neg (nI_ge hk (by decide)), gd_t (inB_t hk (by decide)), cl_nI (by omega), (h.2.2.2.2 k hk).2.1]
theorem nI_0iff {n : Nat} (h : n < 2 ^ 31) : (nI n = 0) = (n = 0) := by rw [lI 0, eq_nI h (by decide)]
theorem lN_0iff {n : Nat} (h : n < 2 ^ 62) : (lN n = 0) = (n = 0) := by
  rw [lL 0]
  exact propext (pk_lEQ (by omega) (by decide))
theorem and_lt {a b k : Nat} (h : a < 2 ^ k) : a &&& b < 2 ^ k := Nat.lt_of_le_of_lt Nat.and_le_left h
theorem xClash {σ : Mm} {T : Tw} (h : XTw σ T) (hw : WT T) {k s o u : Nat} (hk : k < tNd T) (ho : o < tNd T) (h1 : may T k s = true) (h2 : may T o u = true) : f_X8_clash σ (nI k) (nI s) (nI o) (nI u) = some (if cla T k s o u = true then 1 else 0) := by
  have h5 := hw.2.1
  have s1 := may_lt hw hk h1
  have s2 := may_lt hw ho h2
  have e := claX hw hk ho h1 h2
  unfold f_X8_clash
  rw [xTakes h (by omega) s1, b1_some, xTakes h (by omega) s2, b1_some, xRing h (by omega) s1, b1_some, xWants h (by omega), b1_some, xRing h (by omega) s2, b1_some, xWants h (by omega), b1_some, and_lN, and_nI, and_nI]
  have b1 := and_lt (b := takeX T o u) (takeX_lt hw k s)
  have b2 := and_lt (b := wantX T o) (ringX_lt hw k s)
  have b3 := and_lt (b := wantX T k) (ringX_lt hw o u)
  simp only [lcm_eq, lN_0iff (n := takeX T k s &&& takeX T o u) (by omega), nI_0iff (n := ringX T k s &&& wantX T o) (by omega), nI_0iff (n := ringX T o u &&& wantX T k) (by omega)]
  by_cases c1 : takeX T k s &&& takeX T o u = 0
  · by_cases c2 : ringX T k s &&& wantX T o = 0
    · by_cases c3 : ringX T o u &&& wantX T k = 0
      · rw [if_pos c1, if_pos c2, if_pos c3, if_neg]
        intro hc
        rcases e.mpr hc with q | q | q
        · exact q c1
        · exact q c2
        · exact q c3
      · rw [if_pos c1, if_pos c2, if_neg c3, if_pos (e.mp (Or.inr (Or.inr c3)))]
    · rw [if_pos c1, if_neg c2, if_pos (e.mp (Or.inr (Or.inl c2)))]
  · rw [if_neg c1, if_pos (e.mp (Or.inl c1))]
/-- a day that may stand: what is let may begin -/
def OD (T : Tw) (D : Dy) : Prop := ∀ k, D k ≠ 0 → k < tNd T ∧ D k ≤ 10 ∧ may T k (D k - 1) = true
theorem xTold {σ : Mm} {K i : Nat} {D : Dy} (h : XD σ (cRef K 1) D) (hi : i < 5) : f_X1_toldOf σ K (nI i) = some (nI (D i)) := by rw [toldOf_eq σ K i hi, h i hi]
theorem OD.le {T : Tw} {D : Dy} (h : OD T D) (k : Nat) : D k ≤ 10 := by
  by_cases q : D k = 0
  · omega
  · exact (h k q).2.1
theorem xLet {σ : Mm} {T : Tw} {K i : Nat} {D : Dy} (h : XD σ (cRef K 1) D) (hD : OD T D) (hi : i < 5) : f_X1_isLet σ K (nI i) = some (if D i = 0 then 0 else 1) := by
  have := hD.le i
  rw [isLet_eq σ K i hi, h i hi]
  simp only [nI_0iff (n := D i) (by omega)]
theorem xSecond {σ : Mm} {T : Tw} {K i : Nat} {D : Dy} (h : XD σ (cRef K 1) D) (hD : OD T D) (hi : i < 5) : f_X1_secondOf σ K (nI i) = some (eD (D i)) := by
  have := hD.le i
  unfold f_X1_secondOf eD
  rw [xTold h hi, b1_some]
  simp only [nI_0iff (n := D i) (by omega)]
  split
  · rfl
  · rw [lI 1, pk_sub (by omega)]
theorem xLets {σ : Mm} {T : Tw} {K : Nat} {D : Dy} (h : XD σ (cRef K 1) D) (hD : OD T D) : f_X1_everyoneLet σ K = some (nI (letM D)) := by
  rw [everyoneLet_eq, lets, letM]
  congr 1
  rw [it_cong (h := fun i a => a ||| nI (if D i = 0 then 0 else 2 ^ i))]
  · exact it_or (fun _ _ => rfl) 5
  · intro i a hi
    have := hD.le i
    rw [h i hi]
    simp only [nI_0iff (n := D i) (by omega)]
    congr 1
    split
    · rfl
    · rw [lI 1, shl_nI 1 (by omega), Nat.one_mul]
theorem xClashing {σ : Mm} {T : Tw} (h : XTw σ T) (hw : WT T) {K : Nat} {D : Dy} (hd : XD σ (cRef K 1) D) (hD : OD T D) {k s : Nat} (hk : k < tNd T) (h1 : may T k s = true) : f_X1_clashing σ K (nI k) (nI s) = some (nI (claM T D k s)) := by
  have h5 := hw.2.1
  unfold f_X1_clashing claM
  rw [← it_or (f := fun o => if o ≠ k ∧ D o ≠ 0 ∧ cla T k s o (D o - 1) = true then 2 ^ o else 0) (fun _ _ => rfl) 5]
  refine (itL (fun n i a => f_X1_clashing_p5 σ K n (nI k) (nI s) a i) some _ 5 (fun _ _ => True) trivial ?_ ?_ FU (by decide)).1
  · intro n i a hi _
    refine ⟨?_, trivial⟩
    have hle := hD.le i
    simp (disch := omega) only [f_X1_clashing_p5, lI 5, lI 1, le_nI, Nat.not_le.mpr hi, if_false, eq_nI, nI_add, gd_t (inB_t hi (by decide)), cl_nI, hd i hi, nI_0iff]
    by_cases c1 : i = k
    · rw [if_pos c1, if_neg (fun q => q.1 c1)]
      show _ = f_X1_clashing_p5 σ K n (nI k) (nI s) (a ||| nI 0) (nI (i + 1))
      rw [nI0, Int32.or_zero]
    · rw [if_neg c1]
      by_cases c2 : D i = 0
      · rw [if_pos c2, if_neg (fun q => q.2.1 c2)]
        show _ = f_X1_clashing_p5 σ K n (nI k) (nI s) (a ||| nI 0) (nI (i + 1))
        rw [nI0, Int32.or_zero]
      · rw [if_neg c2, pk_sub (by omega), xClash h hw hk (hD i c2).1 h1 (hD i c2).2.2, b1_some]
        by_cases c3 : cla T k s i (D i - 1) = true
        · rw [if_pos c3, if_neg (by decide), if_pos ⟨c1, c2, c3⟩, shl_nI 1 (by omega), Nat.one_mul]
        · rw [if_neg c3, if_pos rfl, if_neg (fun q => c3 q.2.2)]
          show _ = f_X1_clashing_p5 σ K n (nI k) (nI s) (a ||| nI 0) (nI (i + 1))
          rw [nI0, Int32.or_zero]
  · intro n a _
    simp (disch := omega) only [f_X1_clashing_p5, lI 5, le_nI, Nat.le_refl, if_true]
theorem claM_lt (T : Tw) (D : Dy) (k s : Nat) : claM T D k s < 2 ^ 5 := orN_lt fun i hi => by
  split
  · exact pow_lt hi
  · decide
theorem letM_lt (D : Dy) : letM D < 2 ^ 5 := orN_lt fun i hi => by
  split
  · decide
  · exact pow_lt hi
theorem xFits {σ : Mm} {T : Tw} (h : XTw σ T) (hw : WT T) {K : Nat} {D : Dy} (hd : XD σ (cRef K 1) D) (hD : OD T D) {k s : Nat} (hk : k < tNd T) (hs : s < 10) : f_X1_fits σ K (nI k) (nI s) = some (if can T D k s = true then 1 else 0) := by
  unfold f_X1_fits can
  rw [xMay_t h hw hk hs, b1_some]
  by_cases h1 : may T k s = true
  · have := claM_lt T D k s
    rw [if_pos h1, if_neg (by decide), xClashing h hw hd hD hk h1, b1_some]
    simp only [nI_0iff (n := claM T D k s) (by omega), h1, Bool.true_and, decide_eq_true_eq]
    split <;> rfl
  · rw [if_neg h1, if_pos rfl, if_neg]
    simp [h1]
theorem xFits_0 {σ : Mm} {T : Tw} (h : XTw σ T) {K k s : Nat} (hk : ¬ k < tNd T) (hk9 : k < 100) (hs : s < 10) : f_X1_fits σ K (nI k) (nI s) = some 0 := by
  unfold f_X1_fits
  rw [xMay_0 h hk hk9 hs, b1_some, if_pos rfl]
theorem xWorthOf {σ : Mm} {T : Tw} (h : XTw σ T) (hw : WT T) {K m : Nat} (hm : m < 2 ^ tNd T) : f_X1_worthOf σ K (nI m) = some (nI (worM T m)) := by
  have h5 := hw.2.1
  have hm5 : m < 2 ^ 5 := Nat.lt_of_lt_of_le hm (Nat.pow_le_pow_right (by decide) h5)
  have e : worM T m = suN (fun k => if m.testBit k then tW T k else 0) 5 := (suN_ext h5 (fun i h1 h2 => by rw [if_neg]; intro q; have := lt_tb hm q; omega)).symm
  unfold f_X1_worthOf
  rw [e, ← it_su (f := fun k => if m.testBit k then tW T k else 0) (fun _ _ => rfl) 5]
  refine (itL (fun n i a => f_X1_worthOf_p4 σ K n (nI m) a i) some _ 5 (fun _ _ => True) trivial ?_ ?_ FU (by decide)).1
  · intro n i a hi _
    refine ⟨?_, trivial⟩
    simp (disch := omega) only [f_X1_worthOf_p4, lI 5, lI 1, le_nI, Nat.not_le.mpr hi, if_false, nI_add, gd_t (inB_t hi (by decide)), cl_nI, bnd_eq]
    rw [← lI 1, bit_u (by omega) (by omega)]
    by_cases c : m.testBit i = true
    · have hi2 : i < tNd T := lt_tb hm c
      rw [if_pos c, if_pos c, (h.2.2.2.1 i hi2).2.2.2.2.2, mul_nI, Nat.one_mul]
    · rw [if_neg c, if_neg c, nI0, Int32.zero_mul]
  · intro n a _
    simp (disch := omega) only [f_X1_worthOf_p4, lI 5, le_nI, Nat.le_refl, if_true]
theorem letM_nd {T : Tw} {D : Dy} (hw : WT T) (hD : OD T D) : letM D < 2 ^ tNd T := by
  have e : letM D = orN (fun k => if D k = 0 then 0 else 2 ^ k) (tNd T) := orN_ext hw.2.1 (fun i h1 _ => by
    by_cases c : D i = 0
    · rw [if_pos c]
    · exact absurd (hD i c).1 (by omega))
  rw [e]
  exact orN_lt fun i hi => by
    split
    · exact Nat.two_pow_pos _
    · exact pow_lt hi
theorem xWorth {σ : Mm} {T : Tw} (h : XTw σ T) (hw : WT T) {K : Nat} {D : Dy} (hd : XD σ (cRef K 1) D) (hD : OD T D) : f_X1_worth σ K = some (nI (worM T (letM D))) := by
  unfold f_X1_worth
  rw [xLets hd hD, b1_some, xWorthOf h hw (letM_nd hw hD), b1_some]
