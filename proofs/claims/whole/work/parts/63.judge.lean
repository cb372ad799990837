/-! judge, day -/
def MSame (σ τ : Mm) : Prop := (τ.1 46 0 = σ.1 46 0 ∧ τ.1 46 1 = σ.1 46 1 ∧ τ.1 46 9 = σ.1 46 9 ∧ τ.1 46 14 = σ.1 46 14 ∧ τ.1 46 15 = σ.1 46 15 ∧ τ.1 46 38 = σ.1 46 38) ∧ (∀ k, (47 ≤ k ∧ k ≤ 49) ∨ (52 ≤ k ∧ k ≤ 54) ∨ (71 ≤ k ∧ k ≤ 74) → τ.1 k = σ.1 k) ∧ τ.2 46 41 = σ.2 46 41
theorem MI.of {σ τ : Mm} {S : Sp} (h : MI σ S) (g : MSame σ τ) : MI τ S := by
  obtain ⟨a1, a2, a3, a4, a5, a6, a7, a8⟩ := h
  obtain ⟨⟨q0, q1, q9, q14, q15, q38⟩, g2, g3⟩ := g
  exact ⟨a1.of q9 (g2 53 (by omega)), a2.of q0 q1 (g2 47 (by omega)) (g2 48 (by omega)) (g2 49 (by omega)), a3.of (g2 52 (by omega)), a4.of q14 q15 (g2 54 (by omega)), a5.of q38 (g2 71 (by omega)) (g2 72 (by omega)), by rw [g3]; exact a6, a7.of (g2 73 (by omega)) (g2 74 (by omega)), a8.of (g2 73 (by omega)) (g2 74 (by omega))⟩
/-- what is told can be -/
def okS (T : Tw) (E : Dy) (v : Nat) : Bool := decide (v / 10 < tNd T) && (decide (E (v / 10) = 0) && can T E (v / 10) (v % 10))
def stS (T : Tw) (E : Dy) (v : Nat) : Dy := if okS T E v = true then upD E (v / 10) (v % 10 + 1) else E
theorem okS_iff {T : Tw} {E : Dy} {v : Nat} : okS T E v = true ↔ v / 10 < tNd T ∧ E (v / 10) = 0 ∧ can T E (v / 10) (v % 10) = true := by
  unfold okS
  rw [Bool.and_eq_true, Bool.and_eq_true, decide_eq_true_eq, decide_eq_true_eq]
theorem stS_VD {T : Tw} (hw : WT T) {E : Dy} (hE : VD T E) (v : Nat) : VD T (stS T E v) := by
  unfold stS
  by_cases c : okS T E v = true
  · rw [if_pos c]
    obtain ⟨c1, c2, c3⟩ := okS_iff.mp c
    exact VD_up hw hE c1 (by omega) c3
  · rw [if_neg c]; exact hE
theorem toldOf_no (σ : Mm) (K k : Nat) (hk : ¬ k < 5) (h2 : k < 100) : f_X1_toldOf σ K (nI k) = some 0 := by
  unfold f_X1_toldOf
  rw [if_neg (nI_pos (by omega)), lI 5, if_pos (nI_le (by omega) (by omega))]
theorem XD.up {σ : Mm} {c k v : Nat} {E : Dy} (h : XD σ c E) : XD (sI σ c k (nI v)) c (upD E k v) := fun j hj => by
  show (sI σ c k (nI v)).1 c j = nI (if j = k then v else E j)
  by_cases q : j = k
  · rw [if_pos q, q, sI_s]
  · rw [if_neg q, sI_n (by omega)]
    exact h j hj
/-- the class's step -/
theorem xStep {τ : Mm} {T : Tw} (h : XTw τ T) (hw : WT T) {E : Dy} (hd : XD τ 19 E) (hE : VD T E) {v : Nat} (hv : v < 100) : ∃ τ', f_X1_letIfCan 18 (nI (v / 10)) (nI (v % 10)) τ = some (if okS T E v = true then 1 else 0, τ') ∧ XD τ' 19 (stS T E v) ∧ (∀ c, c ≠ 19 → τ'.1 c = τ.1 c) ∧ τ'.2 = τ.2 := by
  have h5 := hw.2.1
  have no : f_X1_letIfCan_p21 18 (nI (v / 10)) (nI (v % 10)) τ = some (0, τ) := by
    unfold f_X1_letIfCan_p21 f_X1_letIfCan_p22
    rw [if_pos rfl, gd_t (by decide)]
  unfold f_X1_letIfCan
  by_cases k5 : v / 10 < 5
  · rw [xLet (K := 18) hd hE.od k5, b1_some]
    by_cases c2 : E (v / 10) = 0
    · rw [if_pos c2, if_pos rfl]
      by_cases c1 : v / 10 < tNd T
      · rw [xFits h hw (K := 18) hd hE.od c1 (by omega), b1_some]
        by_cases c3 : can T E (v / 10) (v % 10) = true
        · have ok : okS T E v = true := okS_iff.mpr ⟨c1, c2, c3⟩
          refine ⟨sI τ 19 (v / 10) (nI (v % 10 + 1)), ?_, ?_, fun c hc => (sI_ne hc).1, rfl⟩
          · rw [if_pos c3, if_neg (by decide), if_pos ok]
            unfold f_X1_letIfCan_p22
            rw [if_neg (by decide), lI 1, nI_add, tell_eq τ 18 _ _ k5, b1_some, gd_t (by decide)]
            rfl
          · unfold stS
            rw [if_pos ok]
            exact hd.up
        · have ok : ¬ okS T E v = true := fun q => c3 (okS_iff.mp q).2.2
          refine ⟨τ, ?_, ?_, fun _ _ => rfl, rfl⟩
          · rw [if_neg c3, if_pos rfl, no, if_neg ok]
          · unfold stS
            rw [if_neg ok]; exact hd
      · have ok : ¬ okS T E v = true := fun q => c1 (okS_iff.mp q).1
        refine ⟨τ, ?_, ?_, fun _ _ => rfl, rfl⟩
        · rw [xFits_0 h c1 (by omega) (by omega), b1_some, if_pos rfl, no, if_neg ok]
        · unfold stS
          rw [if_neg ok]; exact hd
    · have ok : ¬ okS T E v = true := fun q => c2 (okS_iff.mp q).2.1
      refine ⟨τ, ?_, ?_, fun _ _ => rfl, rfl⟩
      · rw [if_neg c2, if_neg (by decide), no, if_neg ok]
      · unfold stS
        rw [if_neg ok]; exact hd
  · have ok : ¬ okS T E v = true := fun q => by have := (okS_iff.mp q).1; omega
    refine ⟨τ, ?_, ?_, fun _ _ => rfl, rfl⟩
    · unfold f_X1_isLet
      rw [toldOf_no τ 18 _ k5 (by omega), b1_some, if_pos rfl, b1_some, if_pos rfl, xFits_0 h (by omega) (by omega) (by omega), b1_some, if_pos rfl, no, if_neg ok]
    · unfold stS
      rw [if_neg ok]; exact hd
def jr (T : Tw) (v : Nat → Nat) : Nat → Nat → Dy → Int32
  | 0, _, _ => -9
  | m + 1, i, E => if okS T E (v i) = true then jr T v m (i + 1) (stS T E (v i)) else nI i
theorem div_nI {a d : Nat} (ha : a < 2 ^ 31) (h0 : 0 < d) (hd : d < 2 ^ 31) : nI a / nI d = nI (a / d) := pk_div ha h0 hd
theorem xJudge {T : Tw} (hw : WT T) {v : Nat → Nat} (hv : ∀ i, v i < 100) {n : Nat} (hn : n ≤ 5) : ∀ (m i fu : Nat) (E : Dy) (τ : Mm), i + m = n → m < fu → XTw τ T → XD τ 19 E → VD T E → (∀ j, j < n → τ.1 45 j = nI (v j)) → ∃ τ', f_X9_firstThatCanNotBe_p13 fu (nI n) (nI i) τ = some (jr T v m i E, τ') ∧ (∀ c, c ≠ 19 → τ'.1 c = τ.1 c) ∧ τ'.2 = τ.2
  | 0, i, fu, E, τ, hi, hf, hT, hd, hE, ht => by
    obtain ⟨fu, rfl⟩ : ∃ f, fu = f + 1 := ⟨fu - 1, by omega⟩
    refine ⟨τ, ?_, fun _ _ => rfl, rfl⟩
    rw [f_X9_firstThatCanNotBe_p13, lI 5]
    by_cases q : 5 ≤ i
    · rw [if_pos (nI_le q (by omega))]; rfl
    · rw [if_neg (nI_ge (by omega) (by decide)), if_pos (nI_le (by omega) (by omega))]; rfl
  | m + 1, i, fu, E, τ, hi, hf, hT, hd, hE, ht => by
    obtain ⟨fu, rfl⟩ : ∃ f, fu = f + 1 := ⟨fu - 1, by omega⟩
    have hvi := hv i
    obtain ⟨τ', e1, e2, e3, e4⟩ := xStep hT hw hd hE hvi
    have g5 : inB (nI i) 5 = true := inB_t (by omega) (by decide)
    rw [f_X9_firstThatCanNotBe_p13, lI 5, if_neg (nI_ge (by omega) (by decide)), if_neg (nI_ge (show i < n by omega) (by omega)), gd_t g5, gd_t g5, cl_nI (by omega), ht i (by omega), lI 10, div_nI (by omega) (by decide) (by decide), jrem_nI (by omega) (by decide) (by decide), e1, b2_some, jr]
    by_cases ok : okS T E (v i) = true
    · rw [if_pos ok, if_pos ok, if_neg (by decide), lI 1, nI_add]
      obtain ⟨ζ, z1, z2, z3⟩ := xJudge hw hv hn m (i + 1) fu (stS T E (v i)) τ' (by omega) (by omega) (hT.of (fun k h1 h2 => e3 k (by omega)) (by rw [e4])) e2 (stS_VD hw hE _) (fun j hj => by rw [e3 45 (by decide)]; exact ht j hj)
      exact ⟨ζ, z1, fun c hc => (z2 c hc).trans (e3 c hc), z3.trans e4⟩
    · rw [if_neg ok, if_neg ok, if_pos rfl]
      exact ⟨τ', rfl, e3, e4⟩
theorem MD.up {σ : Mm} {k s : Nat} {E : Dy} (h : MD σ E) : MD (sI σ 52 k (nI s)) (upD E k (s + 1)) := fun j hj => by
  show (sI σ 52 k (nI s)).1 52 j = eD (if j = k then s + 1 else E j)
  by_cases q : j = k
  · rw [if_pos q, q, sI_s]; rfl
  · rw [if_neg q, sI_n (by omega)]
    exact h j hj
/-- only the day changes -/
def N52 (σ τ : Mm) : Prop := (∀ c, c ≠ 52 → τ.1 c = σ.1 c) ∧ (∀ j, 5 ≤ j → τ.1 52 j = σ.1 52 j) ∧ τ.2 = σ.2
theorem N52.rf (σ : Mm) : N52 σ σ := ⟨fun _ _ => rfl, fun _ _ => rfl, rfl⟩
theorem N52.tr {σ τ ρ : Mm} (h : N52 σ τ) (g : N52 τ ρ) : N52 σ ρ := ⟨fun c hc => (g.1 c hc).trans (h.1 c hc), fun j hj => (g.2.1 j hj).trans (h.2.1 j hj), g.2.2.trans h.2.2⟩
theorem N52.sI {σ : Mm} {k : Nat} (hk : k < 5) (v : Int32) : N52 σ (sI σ 52 k v) := ⟨fun c hc => (sI_ne hc).1, fun j hj => sI_n (by omega), rfl⟩
theorem N52.MT {σ τ : Mm} {T : Tw} (g : N52 σ τ) (h : MTw σ T) : MTw τ T := h.of (by rw [g.1 46 (by decide)]) (by rw [g.1 46 (by decide)]) (g.1 47 (by decide)) (g.1 48 (by decide)) (g.1 49 (by decide))
theorem hold0_eq (σ : Mm) : f_X10_hold 0 σ = some (putR σ 70 0 5 (σ.1 52)) := by
  unfold f_X10_hold
  have e := (itL (fun n i τ => f_X10_hold_p2 n 0 i τ) some (fun i τ => sI τ 70 i (σ.1 52 i)) 5 (fun i τ => τ = putR σ 70 0 i (σ.1 52)) (putR_0 _ _ _ _).symm ?_ ?_ FU (by decide))
  · rw [e.2] at e
    exact e.1
  · intro n i τ hi hp
    refine ⟨?_, ?_⟩
    · show f_X10_hold_p2 (n + 1) 0 (nI i) τ = _
      rw [f_X10_hold_p2, lI 5, if_neg (nI_ge hi (by decide)), if_pos rfl, gd_t (inB_t hi (by decide)), gd_t (inB_t hi (by decide)), cl_nI (by omega), lI 1, nI_add, hp, putR_ne (show 52 ≠ 70 by decide)]
    · rw [hp]
      have := putR_s (σ := σ) (c := 70) (base := 0) (i := i) (f := σ.1 52) rfl
      rw [Nat.zero_add] at this
      exact this
  · intro n τ _
    show f_X10_hold_p2 (n + 1) 0 (nI 5) τ = _
    rw [f_X10_hold_p2, lI 5, if_pos (nI_le (Nat.le_refl _) (by decide))]
theorem hold1_eq (σ : Mm) : f_X10_hold 1 σ = some (putR σ 52 0 5 (σ.1 70)) := by
  unfold f_X10_hold
  have e := (itL (fun n i τ => f_X10_hold_p2 n 1 i τ) some (fun i τ => sI τ 52 i (σ.1 70 i)) 5 (fun i τ => τ = putR σ 52 0 i (σ.1 70)) (putR_0 _ _ _ _).symm ?_ ?_ FU (by decide))
  · rw [e.2] at e
    exact e.1
  · intro n i τ hi hp
    refine ⟨?_, ?_⟩
    · show f_X10_hold_p2 (n + 1) 1 (nI i) τ = _
      rw [f_X10_hold_p2, lI 5, if_neg (nI_ge hi (by decide)), if_neg n10, gd_t (inB_t hi (by decide)), gd_t (inB_t hi (by decide)), cl_nI (by omega), lI 1, nI_add, hp, putR_ne (show 70 ≠ 52 by decide)]
    · rw [hp]
      have := putR_s (σ := σ) (c := 52) (base := 0) (i := i) (f := σ.1 70) rfl
      rw [Nat.zero_add] at this
      exact this
  · intro n τ _
    show f_X10_hold_p2 (n + 1) 1 (nI 5) τ = _
    rw [f_X10_hold_p2, lI 5, if_pos (nI_le (Nat.le_refl _) (by decide))]
/-- held, changed, held back: the day stands as it stood -/
theorem hold_back {σ ρ : Mm} (h : N52 (putR σ 70 0 5 (σ.1 52)) ρ) : (∀ c, c ≠ 70 → (putR ρ 52 0 5 (ρ.1 70)).1 c = σ.1 c) ∧ (putR ρ 52 0 5 (ρ.1 70)).2 = σ.2 := by
  have h70 : ∀ j, j < 5 → ρ.1 70 j = σ.1 52 j := fun j hj => by
    have := putR_at (σ := σ) (c := 70) (base := 0) (f := σ.1 52) hj
    rw [Nat.zero_add] at this
    rw [h.1 70 (by decide), this]
  refine ⟨fun c hc => ?_, h.2.2⟩
  by_cases q : c = 52
  · subst q
    funext j
    rcases Nat.lt_or_ge j 5 with hj | hj
    · have := putR_at (σ := ρ) (c := 52) (base := 0) (f := ρ.1 70) hj
      rw [Nat.zero_add] at this
      rw [this, h70 j hj]
    · rw [putR_out (by omega), h.2.1 j hj, putR_ne (by decide)]
  · rw [putR_ne q, h.1 c q, putR_ne hc]
theorem M70 {σ τ : Mm} (h : ∀ c, c ≠ 70 → τ.1 c = σ.1 c) (h2 : τ.2 46 41 = σ.2 46 41) : MSame σ τ := by
  have c := h 46 (by decide)
  exact ⟨⟨by rw [c], by rw [c], by rw [c], by rw [c], by rw [c], by rw [c]⟩, fun k hk => h k (by omega), h2⟩
theorem tenTo_eq (σ : Mm) {m : Nat} (hm : m < 1000) : f_X10_tenTo σ (nI m) = some (lN (10 ^ m)) := by
  unfold f_X10_tenTo
  have e := (itL (fun n i a => f_X10_tenTo_p4 σ n (nI m) a i) some (fun _ a => a * 10) m (fun i a => a = lN (10 ^ i)) (a := (1 : Int64)) rfl ?_ ?_ FU (by have : FU = 1000000000 := rfl; omega))
  · rw [e.2] at e
    exact e.1
  · intro n i a hi hp
    refine ⟨?_, ?_⟩
    · show f_X10_tenTo_p4 σ (n + 1) (nI m) a (nI i) = _
      rw [f_X10_tenTo_p4, if_neg (nI_ge hi (by omega)), lI 1, nI_add]
    · rw [hp, lL 10, lN_mul, Nat.pow_succ]
  · intro n a _
    show f_X10_tenTo_p4 σ (n + 1) (nI m) a (nI m) = _
    rw [f_X10_tenTo_p4, if_pos (nI_le (Nat.le_refl _) (by omega))]
theorem isB_lt {σ : Mm} {T : Tw} (h : MTw σ T) (hw : WT T) {k : Nat} (hk : k < 100) : f_X10_isBidder σ (nI k) = some (if k < tNd T then 1 else 0) := by
  have h5 := hw.2.1
  rw [isBidder_eq h.2.1 h5]
  refine congrArg some (ifc (propext ⟨fun q => (nI_ltI (by omega) (by omega)).mp q.2, fun q => ⟨nI_pos (by omega), nI_lt q (by omega)⟩⟩))
theorem mJudge {T : Tw} (hw : WT T) {v : Nat → Nat} (hv : ∀ i, v i < 100) {n r : Nat} (hn : n ≤ 5) (hr : r < 2 ^ 63) (hvr : ∀ i, i < n → v i = r / 10 ^ (2 * (n - 1 - i)) % 100) : ∀ (m i fu : Nat) (E : Dy) (τ : Mm), i + m = n → m + 1 < fu → MTw τ T → MD τ E → VD T E → ∃ τ', f_X10_judge_p43 fu (nI n) (lN r) (-9) (nI i) τ = b1 (f_X10_hold 1 τ') (fun z => some (jr T v m i E, z)) ∧ N52 τ τ'
  | 0, i, fu, E, τ, hi, hf, hT, hd, hE => by
    obtain ⟨fu, rfl⟩ : ∃ f, fu = f + 1 := ⟨fu - 1, by omega⟩
    refine ⟨τ, ?_, N52.rf τ⟩
    rw [f_X10_judge_p43, if_pos (nI_le (by omega) (by omega))]
    rfl
  | m + 1, i, fu, E, τ, hi, hf, hT, hd, hE => by
    obtain ⟨fu, rfl⟩ : ∃ f, fu = f + 2 := ⟨fu - 2, by omega⟩
    have h5 := hw.2.1
    have hvi := hv i
    have hin : i < n := by omega
    have hp : (10 : Nat) ^ (2 * (n - 1 - i)) ≤ 10 ^ 8 := Nat.pow_le_pow_right (by decide) (by omega)
    have hp0 : 0 < (10 : Nat) ^ (2 * (n - 1 - i)) := Nat.pow_pos (by decide)
    have e10 : (2 : Int32) * (nI n - 1 - nI i) = nI (2 * (n - 1 - i)) := by rw [lI 1, lI 2, pk_sub (by omega), pk_sub (by omega), mul_nI]
    have e11 : jlrem (lN r / lN (10 ^ (2 * (n - 1 - i)))) 100 = lN (v i) := by
      unfold jlrem
      have : r / 10 ^ (2 * (n - 1 - i)) ≤ r := Nat.div_le_self _ _
      rw [pk_lDiv hr hp0 (by omega), lL 100, pk_lRem (by omega) (by decide) (by decide), hvr i hin]
    have no : ∀ kh : Int32 → Int64 → Int32 → Int32 → Mm → Option (Int32 × Mm), f_X10_judge_p124 kh (nI n) (lN r) (nI i) (nI (v i)) τ = kh (nI n) (lN r) (nI i) (nI (i + 1)) τ := fun kh => by
      unfold f_X10_judge_p124 f_X10_judge_p125 f_X10_judge_p139
      rw [if_pos rfl, if_pos rfl, lI 1, nI_add]
    have bad : f_X10_judge_p43 (fu + 1) (nI n) (lN r) (nI i) (nI (i + 1)) τ = b1 (f_X10_hold 1 τ) (fun z => some (nI i, z)) := by
      rw [f_X10_judge_p43]
      by_cases q : n ≤ i + 1
      · rw [if_pos (nI_le q (by omega))]
      · rw [if_neg (nI_ge (by omega) (by omega)), if_neg (by rw [ne9 (by omega)]; exact id)]
    rw [f_X10_judge_p43, if_neg (nI_ge hin (by omega)), if_pos rfl, e10, tenTo_eq τ (by omega), b1_some, gd_t (decide_eq_true (by rw [lL 0, pk_lEQ (by omega) (by decide)]; omega)), e11, lN_i, lI 10, div_nI (by omega) (by decide) (by decide), jrem_nI (by omega) (by decide) (by decide), isB_lt hT hw (by omega), b1_some, jr]
    by_cases c1 : v i / 10 < tNd T
    · rw [if_pos c1, if_neg n10, gd_t (inB_t (by omega) (by decide)), cl_nI (by omega), hd _ (by omega)]
      have hle := hE.od.le (v i / 10)
      by_cases c2 : E (v i / 10) = 0
      · rw [if_pos (show eD (E (v i / 10)) = -9 by rw [eD_0 hle]; exact c2), mCan hT hw hd hE.od c1 (by omega), b1_some]
        by_cases c3 : can T E (v i / 10) (v i % 10) = true
        · have ok : okS T E (v i) = true := okS_iff.mpr ⟨c1, c2, c3⟩
          have es : stS T E (v i) = upD E (v i / 10) (v i % 10 + 1) := if_pos ok
          obtain ⟨ζ, z1, z2⟩ := mJudge hw hv hn hr hvr m (i + 1) (fu + 1) (stS T E (v i)) (sI τ 52 (v i / 10) (nI (v i % 10))) (by omega) (by omega) ((N52.sI (by omega) _).MT hT) (by rw [es]; exact hd.up) (stS_VD hw hE _)
          refine ⟨ζ, ?_, (N52.sI (by omega) _).tr z2⟩
          rw [if_pos c3, if_neg n10, if_pos ok, ← z1]
          unfold f_X10_judge_p125 f_X10_judge_p139
          rw [if_neg n10, if_neg n10, lI 10, div_nI (by omega) (by decide) (by decide), jrem_nI (by omega) (by decide) (by decide), gd_t (inB_t (by omega) (by decide)), cl_nI (by omega), lI 1, nI_add]
        · have ok : ¬ okS T E (v i) = true := fun q => c3 (okS_iff.mp q).2.2
          refine ⟨τ, ?_, N52.rf τ⟩
          rw [if_neg c3, if_pos rfl, no, bad, if_neg ok]
      · have ok : ¬ okS T E (v i) = true := fun q => c2 (okS_iff.mp q).2.1
        refine ⟨τ, ?_, N52.rf τ⟩
        rw [if_neg (show ¬ eD (E (v i / 10)) = -9 by rw [eD_0 hle]; exact c2), no, bad, if_neg ok]
    · have ok : ¬ okS T E (v i) = true := fun q => c1 (okS_iff.mp q).1
      refine ⟨τ, ?_, N52.rf τ⟩
      rw [if_neg c1, if_pos rfl, no, bad, if_neg ok]
/-- the class's things -/
theorem xThings {σ : Mm} {n r : Nat} (hn1 : 1 ≤ n) (hn : n ≤ 5) (hr : r < 2 ^ 63) : ∃ τ, f_X9_judge_p25 f_X9_judge_p64 FU (nI n) (lN r) 4 σ = f_X9_judge_p64 (nI n) (lN (r / 100 ^ n)) τ ∧ (∀ c, c ≠ 45 → τ.1 c = σ.1 c) ∧ τ.2 = σ.2 ∧ ∀ p, p < n → τ.1 45 p = nI (r / 100 ^ (n - 1 - p) % 100) := by
  have key := itL (fun m i (a : Int64 × Mm) => f_X9_judge_p25 f_X9_judge_p64 m (nI n) a.1 (4 - i) a.2) (fun a => f_X9_judge_p64 (nI n) a.1 a.2) (fun i a => if n ≤ 4 - i then a else (a.1 / 100, sI a.2 45 (4 - i) (jlrem a.1 100).toInt32)) 5
    (fun i a => a.1 = lN (r / 100 ^ (n + i - 5)) ∧ (∀ c, c ≠ 45 → a.2.1 c = σ.1 c) ∧ a.2.2 = σ.2 ∧ ∀ p, 5 - i ≤ p → p < n → a.2.1 45 p = nI (r / 100 ^ (n - 1 - p) % 100)) (a := (lN r, σ)) ⟨by show lN r = lN (r / 100 ^ (n + 0 - 5)); rw [show n + 0 - 5 = 0 by omega, Nat.pow_zero, Nat.div_one], fun _ _ => rfl, rfl, fun p h1 h2 => by omega⟩ ?_ ?_ FU (by decide)
  · have k1 : f_X9_judge_p25 f_X9_judge_p64 FU (nI n) (lN r) (4 - nI 0) σ = _ := key.1
    rw [show (4 : Int32) - nI 0 = 4 by decide] at k1
    obtain ⟨q1, q2, q3, q4⟩ := key.2
    refine ⟨_, k1.trans ?_, q2, q3, fun p hp => q4 p (by omega) hp⟩
    rw [q1, show n + 5 - 5 = n by omega]
  · intro m i a hi hp
    obtain ⟨p1, p2, p3, p4⟩ := hp
    have e4 : (4 : Int32) - nI i = nI (4 - i) := by rw [lI 4, pk_sub (by omega)]
    have e5 : nI (4 - i) + -1 = (4 : Int32) - nI (i + 1) := by
      rw [← e4, show (-1 : Int32) = - nI 1 from rfl, ← nI_add, Int32.sub_eq_add_neg, Int32.sub_eq_add_neg, Int32.neg_add, Int32.sub_eq_add_neg, Int32.add_assoc]
    by_cases c : n ≤ 4 - i
    · refine ⟨?_, ?_⟩
      · show f_X9_judge_p25 f_X9_judge_p64 (m + 1) (nI n) a.1 (4 - nI i) a.2 = _
        rw [f_X9_judge_p25, e4, if_neg (nI_pos (by omega)), if_pos (nI_le c (by omega)), e5]
        simp only [if_pos c]
      · simp only [if_pos c]
        refine ⟨by rw [p1, show n + i - 5 = n + (i + 1) - 5 by omega], p2, p3, fun p h1 h2 => p4 p (by omega) h2⟩
    · have hle : r / 100 ^ (n + i - 5) ≤ r := Nat.div_le_self _ _
      refine ⟨?_, ?_⟩
      · show f_X9_judge_p25 f_X9_judge_p64 (m + 1) (nI n) a.1 (4 - nI i) a.2 = _
        rw [f_X9_judge_p25, e4, if_neg (nI_pos (by omega)), if_neg (nI_ge (by omega) (by omega)), gd_t (inB_t (by omega) (by decide)), cl_nI (by omega), e5]
        simp only [if_neg c]
      · simp only [if_neg c]
        have er : (jlrem a.1 100).toInt32 = nI (r / 100 ^ (n + i - 5) % 100) := by
          unfold jlrem
          rw [p1, lL 100, pk_lRem (by omega) (by decide) (by decide), lN_i]
        refine ⟨?_, fun c hc => ?_, p3, fun p h1 h2 => ?_⟩
        · rw [p1, lL 100, pk_lDiv (by omega) (by decide) (by decide), Nat.div_div_eq_div_mul, ← Nat.pow_succ, show (n + i - 5).succ = n + (i + 1) - 5 by omega]
        · rw [(sI_ne hc).1]; exact p2 c hc
        · by_cases q : p = 4 - i
          · rw [q, sI_s, er, show n + i - 5 = n - 1 - (4 - i) by omega]
          · rw [sI_n (by omega)]
            exact p4 p (by omega) h2
  · intro m a _
    show f_X9_judge_p25 f_X9_judge_p64 (m + 1) (nI n) a.1 (4 - nI 5) a.2 = _
    rw [f_X9_judge_p25, if_pos (by decide)]
theorem in_n (σ : Mm) (x : Int32) (hi : Nat) (h : hi < 2 ^ 30) : f_X10_in σ x.toInt64 (1 : Int64) (lN hi) = some (if ¬ x < 1 ∧ ¬ nI hi < x then 1 else 0) := by
  rw [in_eq, lL 1]
  simp only [inr_iff (x := x) (show (1 : Nat) < 2 ^ 31 by decide) (show hi < 2 ^ 31 by omega)]
  rfl
theorem n1_of {x : Int32} {hi : Nat} (hh : hi < 2 ^ 30) (h : ¬ x < 1 ∧ ¬ nI hi < x) : ∃ n, 1 ≤ n ∧ n ≤ hi ∧ x = nI n := by
  have e1 : (1 : Int32).toInt = 1 := by decide
  have e2 := nI_toInt (n := hi) (by omega)
  have h0 : ¬ x < 0 := by
    intro q
    have q2 := h.1
    rw [Int32.lt_iff_toInt_lt] at q q2
    have e0 : (0 : Int32).toInt = 0 := by decide
    omega
  obtain ⟨j, hj, rfl⟩ := nI_of h0
  have e3 := nI_toInt (n := j) (by omega)
  rw [Int32.lt_iff_toInt_lt, Int32.lt_iff_toInt_lt] at h
  exact ⟨j, by omega, by omega, rfl⟩
theorem op_judge {σ : Mm} (hI : INV σ) : ∀ (a : Int32) (w : Int64), ∃ v τ ρ, f_X9_judge a w σ = some (v, τ) ∧ f_X10_judge a w τ = some (v, ρ) ∧ INV ρ := by
  intro a w
  obtain ⟨S, hw, hX, hM⟩ := id hI
  have wT := hw.2.1
  by_cases h1 : ¬ a < 1 ∧ ¬ nI 5 < a
  · obtain ⟨n, hn1, hn, rfl⟩ := n1_of (by decide) h1
    have c1 : f_X9_judge (nI n) w σ = (if 0 ≤ lg_cmp w 0 then f_X9_judge_p25 f_X9_judge_p64 FU (nI n) w 4 σ else some (-2, σ)) := by
      unfold f_X9_judge
      rw [if_neg h1.1, lI 5, if_neg h1.2]
    have hp : (10 : Nat) ^ (2 * n) ≤ 10 ^ 10 := Nat.pow_le_pow_right (by decide) (by omega)
    have hp0 : 0 < (10 : Nat) ^ (2 * n) := Nat.pow_pos (by decide)
    have c2 : ∀ τ, f_X10_judge (nI n) w τ = (if ¬ w < lN 0 ∧ ¬ lN (10 ^ (2 * n) - 1) < w then b1 (f_X10_hold 0 τ) (fun τ8 => f_X10_judge_p43 FU (nI n) w (-9) 0 τ8) else some (-2, τ)) := fun τ => by
      unfold f_X10_judge
      rw [lL 5, in_n τ _ 5 (by decide), b1_some, if_pos h1, if_neg n10, lI 2, mul_nI, tenTo_eq τ (by omega), b1_some, in_eq, b1_some, lL 0, lL 1, lN_sub (by omega)]
      by_cases q : ¬ w < lN 0 ∧ ¬ lN (10 ^ (2 * n) - 1) < w
      · rw [if_pos q, if_pos q, if_neg n10]
      · rw [if_neg q, if_neg q, if_pos rfl]
    by_cases h2 : w < 0
    · refine ⟨-2, σ, σ, ?_, ?_, hI⟩
      · rw [c1, if_neg (by rw [lcm_ge]; exact fun q => q h2)]
      · rw [c2, if_neg (fun q => q.1 h2)]
    · obtain ⟨r, hr, rfl⟩ := pk_lOf h2
      obtain ⟨τ, t1, t2, t3, t4⟩ := xThings (σ := σ) hn1 hn hr
      have e100 : (100 : Nat) ^ n = 10 ^ (2 * n) := by rw [show (100 : Nat) = 10 ^ 2 from rfl, ← Nat.pow_mul]
      have c3 : f_X9_judge (nI n) (lN r) σ = f_X9_judge_p64 (nI n) (lN (r / 100 ^ n)) τ := by
        rw [c1, if_pos (by rw [lcm_ge]; exact h2), t1]
      have hHi : Hi σ τ := fun k hk => ⟨t2 k (by omega), by rw [t3]⟩
      have hXτ : XI τ S := hX.of ⟨fun k h1 _ => t2 k (by omega), fun k h1 h2 => t2 k (by omega), fun k h1 h2 => t2 k (by omega), by rw [t3], by rw [t3]⟩
      have hMτ := hM.hi hHi
      have hq : r / 100 ^ n < 2 ^ 63 := Nat.lt_of_le_of_lt (Nat.div_le_self _ _) hr
      by_cases h3 : r < 10 ^ (2 * n)
      · have h30 : r / 100 ^ n = 0 := by rw [e100]; exact Nat.div_eq_of_lt h3
        let v : Nat → Nat := fun i => r / 100 ^ (n - 1 - i) % 100
        have hv : ∀ i, v i < 100 := fun i => Nat.mod_lt _ (by decide)
        let τ0 : Mm := putR τ 19 0 5 (τ.1 17)
        have hd0 : XD τ0 19 S.2.2.1 := fun j hj => by
          have := putR_at (σ := τ) (c := 19) (base := 0) (f := τ.1 17) hj
          rw [Nat.zero_add] at this
          exact this.trans (hXτ.2.2.1 j hj)
        obtain ⟨τ1, j1, j2, j3⟩ := xJudge wT hv hn n 0 FU S.2.2.1 τ0 (by omega) (by have : FU = 1000000000 := rfl; omega) (hXτ.2.1.of (fun k h1 h2 => putR_ne (by omega)) rfl) hd0 hw.2.2.1 (fun j hj => by show (putR τ 19 0 5 (τ.1 17)).1 45 j = _; rw [putR_ne (by decide)]; exact t4 j hj)
        have hHi1 : Hi τ τ1 := fun k hk => ⟨by rw [j2 k (by omega)]; exact putR_ne (by omega), by rw [j3]; rfl⟩
        have hX1 : XI τ1 S := hXτ.of ⟨fun k h1 h2 => by rw [j2 k (by omega)]; exact putR_ne (by omega), fun k h1 h2 => by rw [j2 k (by omega)]; exact putR_ne (by omega), fun k h1 h2 => by rw [j2 k (by omega)]; exact putR_ne (by omega), by rw [j3]; rfl, by rw [j3]; rfl⟩
        have hM1 := hMτ.hi hHi1
        let ρ0 : Mm := putR τ1 70 0 5 (τ1.1 52)
        obtain ⟨ρ1, m1, m2⟩ := mJudge wT hv hn hr (fun i hi => by show r / 100 ^ (n - 1 - i) % 100 = _; rw [show (100 : Nat) = 10 ^ 2 from rfl, ← Nat.pow_mul]) n 0 FU S.2.2.1 ρ0 (by omega) (by have : FU = 1000000000 := rfl; omega) (hM1.2.1.of (by rw [show ρ0.1 46 = τ1.1 46 from putR_ne (by decide)]) (by rw [show ρ0.1 46 = τ1.1 46 from putR_ne (by decide)]) (putR_ne (by decide)) (putR_ne (by decide)) (putR_ne (by decide))) (hM1.2.2.1.of (putR_ne (by decide))) hw.2.2.1
        obtain ⟨b1', b2'⟩ := hold_back m2
        refine ⟨jr S.2.1 v n 0 S.2.2.1, τ1, _, ?_, ?_, S, hw, hX1.of (τ := putR ρ1 52 0 5 (ρ1.1 70)) (Lo.X (fun k hk => ⟨b1' k (by omega), by rw [b2']⟩)), hM1.of (M70 b1' (by rw [b2']))⟩
        · rw [c3, h30]
          unfold f_X9_judge_p64 f_X9_firstThatCanNotBe
          rw [if_pos (by decide), copy_eq (by decide), b1_some]
          show b2 (f_X9_firstThatCanNotBe_p13 FU (nI n) (nI 0) τ0) _ = _
          rw [j1, b2_some]
        · rw [c2, if_pos ⟨h2, by rw [pk_lLT (by omega) hr]; omega⟩, hold0_eq, b1_some]
          show f_X10_judge_p43 FU (nI n) (lN r) (-9) (nI 0) ρ0 = _
          rw [m1, hold1_eq, b1_some]
      · have h30 : r / 100 ^ n ≠ 0 := by rw [e100]; have := Nat.div_pos (Nat.le_of_not_lt h3) hp0; omega
        refine ⟨-2, τ, τ, ?_, ?_, S, hw, hXτ, hMτ⟩
        · rw [c3]
          unfold f_X9_judge_p64
          rw [if_neg (by rw [lcm_eq, lL 0, pk_lEQ hq (by decide)]; exact h30)]
        · rw [c2, if_neg (fun q => q.2 (by rw [pk_lLT (by omega) hr]; omega))]
  · refine ⟨-2, σ, σ, ?_, ?_, hI⟩
    · unfold f_X9_judge
      by_cases q : a < 1
      · rw [if_pos q]
      · rw [if_neg q, lI 5, if_pos (Decidable.byContradiction fun z => h1 ⟨q, z⟩)]
    · unfold f_X10_judge
      rw [lL 5, in_n σ _ 5 (by decide), b1_some, if_neg h1, if_pos rfl]
