/-! the reference looks at a day -/
def beM (T : Tw) (E : Dy) (k : Nat) : Nat := rpM T E (fun c => c = k)
theorem PV.od {T : Tw} {E : Dy} (h : PV T E (tNd T)) (hz : ∀ j, tNd T ≤ j → E j = 0) : OD T E := fun k hk => by
  have h1 : k < tNd T := by
    rcases Nat.lt_or_ge k (tNd T) with q | q
    · exact q
    · exact absurd (hz k q) hk
  exact ⟨h1, (h k h1).1, (h k h1).2 hk⟩
theorem le0_nI {n : Nat} (h : n < 2 ^ 31) : (nI n ≤ 0) = (n = 0) := by rw [lI 0, le_nI h (by decide)]; exact propext (by omega)
theorem mDayLet {σ : Mm} {T : Tw} (h : MTw σ T) (hw : WT T) {E : Dy} (hd : DR σ E (tNd T)) (hE : PV T E (tNd T)) (hz : ∀ j, tNd T ≤ j → E j = 0) : f_X10_dayLet σ = some (nI (letM E)) := by
  have h5 := hw.2.1
  have e : letM E = orN (fun k => if E k = 0 then 0 else 2 ^ k) (tNd T) := orN_ext h5 (fun i h1 _ => by rw [if_pos (hz i h1)])
  unfold f_X10_dayLet
  rw [e, ← it_or (f := fun k => if E k = 0 then 0 else 2 ^ k) (fun _ _ => rfl) (tNd T)]
  refine (itL (fun n i a => f_X10_dayLet_p4 σ n a i) some _ (tNd T) (fun _ _ => True) trivial ?_ ?_ FU (by have : FU = 1000000000 := rfl; omega)).1
  · intro n i a hi _
    refine ⟨?_, trivial⟩
    have hle := (hE i hi).1
    show f_X10_dayLet_p4 σ (n + 1) a (nI i) = _
    rw [f_X10_dayLet_p4, h.2.1, if_neg (nI_ge hi (by omega)), gd_t (inB_t (show i < 5 by omega) (by decide)), cl_nI (by omega), hd i hi]
    simp only [le0_nI (n := E i) (by omega)]
    by_cases c : E i = 0
    · rw [if_pos c, if_pos c, lI 1, nI_add, nI0]
    · rw [if_neg c, if_neg c, lI 1, nI_add, shl_nI 1 (by omega), Nat.one_mul]
  · intro n a _
    show f_X10_dayLet_p4 σ (n + 1) a (nI (tNd T)) = _
    rw [f_X10_dayLet_p4, h.2.1, if_pos (nI_le (Nat.le_refl _) (by omega))]
theorem mBells {σ : Mm} {T : Tw} (h : MTw σ T) (hw : WT T) (ht : TBn σ T (10 * tNd T)) {E : Dy} (hd : DR σ E (tNd T)) (hE : PV T E (tNd T)) : ∃ τ, f_X10_layBells σ = some τ ∧ (∀ c, c ≠ 62 → τ.1 c = σ.1 c) ∧ τ.2 = σ.2 ∧ ∀ k, k < 3 → τ.1 62 k = nI (beM T E k) := by
  have h5 := hw.2.1
  unfold f_X10_layBells
  have k1 := itL (fun n i τ => f_X10_layBells_p2 f_X10_layBells_p20 n i τ) f_X10_layBells_p20 (fun i τ => sI τ 62 i 0) 3 (fun i τ => (∀ c, c ≠ 62 → τ.1 c = σ.1 c) ∧ τ.2 = σ.2 ∧ ∀ k, k < i → τ.1 62 k = 0) (a := σ) ⟨fun _ _ => rfl, rfl, fun k hk => by omega⟩ ?_ ?_ FU (by decide)
  · obtain ⟨e1, e2, e3, e4⟩ := k1
    generalize itN (fun i τ => sI τ 62 i 0) 3 σ = τ at e1 e2 e3 e4
    let fB : Nat → Nat → Nat := fun k j => if E j ≠ 0 ∧ tN T j ≠ 0 ∧ tB T j = k then ringS T j (E j - 1) else 0
    have k2 := itL (fun n i ζ => f_X10_layBells_p22 n i ζ) some (fun i ζ => if E i ≠ 0 ∧ tN T i ≠ 0 then sI ζ 62 (tB T i) (ζ.1 62 (tB T i) ||| nI (ringS T i (E i - 1))) else ζ) (tNd T) (fun i ζ => (∀ c, c ≠ 62 → ζ.1 c = σ.1 c) ∧ ζ.2 = σ.2 ∧ ∀ k, k < 3 → ζ.1 62 k = nI (orN (fB k) i)) (a := τ) ⟨e2, e3, fun k hk => e4 k hk⟩ ?_ ?_ FU (by have : FU = 1000000000 := rfl; omega)
    · obtain ⟨f1, f2, f3, f4⟩ := k2
      refine ⟨_, e1.trans ?_, f2, f3, fun k hk => f4 k hk⟩
      unfold f_X10_layBells_p20
      exact f1
    · intro n i ζ hi hp
      obtain ⟨p1, p2, p3⟩ := hp
      have hle := (hE i hi).1
      have hT : MTw ζ T := h.of (by rw [p1 46 (by decide)]) (by rw [p1 46 (by decide)]) (p1 47 (by decide)) (p1 48 (by decide)) (p1 49 (by decide))
      have g5 : inB (nI i) 5 = true := inB_t (by omega) (by decide)
      have h55 : ζ.1 55 i = nI (E i) := by rw [p1 55 (by decide)]; exact hd i hi
      by_cases c : E i ≠ 0 ∧ tN T i ≠ 0
      · obtain ⟨c1, c2⟩ := c
        have hb := tB_lt hw hi c2
        have hm := (hE i hi).2 c1
        have e49 := (hT.2.2.2 i hi).1
        rw [eB, if_neg c2] at e49
        have e60 := (TBat ht hi (show E i - 1 < 10 by omega) hm).1
        rw [secS, if_neg c2] at e60
        have g3 : inB (nI (tB T i)) 3 = true := inB_t hb (by decide)
        refine ⟨?_, ?_⟩
        · show f_X10_layBells_p22 (n + 1) (nI i) ζ = _
          rw [f_X10_layBells_p22, hT.2.1, if_neg (nI_ge hi (by omega)), gd_t g5, cl_nI (by omega), h55]
          rw [if_neg (show ¬ nI (E i) ≤ 0 by rw [le0_nI (by omega)]; exact c1), mQuiet hT hw hi, b1_some, if_neg c2, if_pos rfl, lI 6, mul_nI, gd_t (inB_t (by omega) (by decide)), cl_nI (show 6 * i < 2 ^ 31 by omega), e49, gd_t g3, gd_t g5, lI 10, mul_nI, nI_add, lI 1, pk_sub (by omega), show 10 * i + E i - 1 = 10 * i + (E i - 1) by omega, gd_t (inB_t (by omega) (by decide)), gd_t g3, bnd_eq, cl_nI (show tB T i < 2 ^ 31 by omega), cl_nI (show 10 * i + (E i - 1) < 2 ^ 31 by omega), p1 60 (by decide), e60, nI_add]
          simp only [if_pos (show E i ≠ 0 ∧ tN T i ≠ 0 from ⟨c1, c2⟩)]
        · simp only [if_pos (show E i ≠ 0 ∧ tN T i ≠ 0 from ⟨c1, c2⟩)]
          refine ⟨fun c hc => (sI_ne hc).1.trans (p1 c hc), p2, fun k hk => ?_⟩
          rw [orN]
          by_cases q : k = tB T i
          · rw [q, sI_s, p3 _ hb, or_nI, show fB (tB T i) i = ringS T i (E i - 1) from if_pos ⟨c1, c2, rfl⟩]
          · rw [sI_n (by omega), p3 k hk, show fB k i = 0 from if_neg (fun z => q z.2.2.symm), Nat.or_zero]
      · refine ⟨?_, ?_⟩
        · show f_X10_layBells_p22 (n + 1) (nI i) ζ = _
          rw [f_X10_layBells_p22, hT.2.1, if_neg (nI_ge hi (by omega)), gd_t g5, cl_nI (by omega), h55]
          simp only [if_neg c, le0_nI (n := E i) (show E i < 2 ^ 31 by omega)]
          by_cases c1 : E i = 0
          · rw [if_pos c1, lI 1, nI_add]
          · rw [if_neg c1, mQuiet hT hw hi, b1_some, if_pos (show tN T i = 0 from Decidable.byContradiction fun z => c ⟨c1, z⟩), if_neg n10, lI 1, nI_add]
        · simp only [if_neg c]
          refine ⟨p1, p2, fun k hk => ?_⟩
          rw [orN, show fB k i = 0 from if_neg (fun z => c ⟨z.1, z.2.1⟩), Nat.or_zero]
          exact p3 k hk
    · intro n ζ hp
      show f_X10_layBells_p22 (n + 1) (nI (tNd T)) ζ = _
      rw [f_X10_layBells_p22, hp.1 46 (by decide), h.2.1, if_pos (nI_le (Nat.le_refl _) (by omega))]
  · intro n i τ hi hp
    obtain ⟨p1, p2, p3⟩ := hp
    refine ⟨?_, fun c hc => (sI_ne hc).1.trans (p1 c hc), p2, fun k hk => ?_⟩
    · show f_X10_layBells_p2 _ (n + 1) (nI i) τ = _
      rw [f_X10_layBells_p2, lI 3, if_neg (nI_ge hi (by decide)), gd_t (inB_t hi (by decide)), cl_nI (by omega), lI 1, nI_add]
    · by_cases q : k = i
      · rw [q, sI_s]
      · rw [sI_n (by omega)]; exact p3 k (by omega)
  · intro n τ _
    show f_X10_layBells_p2 _ (n + 1) (nI 3) τ = _
    rw [f_X10_layBells_p2, lI 3, if_pos (nI_le (Nat.le_refl _) (by decide))]
def hd1 (T : Tw) (H : Hd) (E : Dy) (i b : Nat) : Bool := (beM T E b).testBit (H.2 i).1 == (H.2 i).2.testBit b
def hdB (T : Tw) (H : Hd) (E : Dy) : Bool := allN (fun i => allN (hd1 T H E i) (tNb T)) H.1
theorem beM_lt {T : Tw} (hw : WT T) {E : Dy} (hE : OD T E) (k : Nat) : beM T E k < 2 ^ 10 := rpM_lt hw hE _
theorem mHeard {σ : Mm} {T : Tw} (h : MTw σ T) (hw : WT T) {H : Hd} (hH : MH σ H) (hHw : H.1 ≤ 6 ∧ ∀ i, i < H.1 → (H.2 i).1 < 10 ∧ (H.2 i).2 < 8) {E : Dy} (hE : OD T E) (hB : ∀ k, k < 3 → σ.1 62 k = nI (beM T E k)) : f_X10_isHeard σ = some (if hdB T H E = true then 1 else 0) := by
  have h3 := hw.1
  let f : Nat → Bool := fun i => allN (hd1 T H E i) (tNb T)
  have inner : ∀ (i : Nat) (ke : Int32 → Int32 → Option Int32), i < H.1 → f_X10_isHeard_p18 σ ke FU 1 (nI i) 0 = ke (if f i = true then 1 else 0) (nI i) := by
    intro i ke hi
    obtain ⟨w1, w2⟩ := hHw.2 i hi
    obtain ⟨e1, e2⟩ := hH.2 i hi
    have key := itL (fun m b (r : Int32) => f_X10_isHeard_p18 σ ke m r (nI i) b) (fun r => ke r (nI i)) (fun b r => if r = 0 then 0 else if hd1 T H E i b = true then 1 else 0) (tNb T) (fun b r => r = if allN (hd1 T H E i) b = true then 1 else 0) (a := (1 : Int32)) rfl ?_ ?_ FU (by have : FU = 1000000000 := rfl; omega)
    · have k1 : f_X10_isHeard_p18 σ ke FU 1 (nI i) (nI 0) = _ := key.1
      rw [key.2] at k1
      exact k1
    · intro m b r hb hp
      have hl := beM_lt hw hE b
      have g6 : inB (nI i) 6 = true := inB_t (by omega) (by decide)
      refine ⟨?_, ?_⟩
      · show f_X10_isHeard_p18 σ ke (m + 1) r (nI i) (nI b) = _
        rw [f_X10_isHeard_p18, h.1, if_neg (nI_ge hb (by omega))]
        by_cases q : r = 0
        · rw [if_pos q, if_pos q, lI 1, nI_add]
        · rw [if_neg q, if_neg q, gd_t (inB_t (by omega) (by decide)), gd_t g6, cl_nI (by omega), cl_nI (by omega), hB b (by omega), e1, e2, mHas σ (by omega) (by omega), b1_some, gd_t g6, mHas σ (by omega) (by omega), b1_some, lI 1, nI_add]
          unfold hd1
          by_cases c1 : (beM T E b).testBit (H.2 i).1 = true <;> by_cases c2 : (H.2 i).2.testBit b = true
          · rw [if_pos c1, if_pos c2, if_pos rfl, c1, c2]; rfl
          · rw [if_pos c1, if_neg c2, if_neg (by decide), c1, Bool.eq_false_iff.mpr c2]; rfl
          · rw [if_neg c1, if_pos c2, if_neg (by decide), Bool.eq_false_iff.mpr c1, c2]; rfl
          · rw [if_neg c1, if_neg c2, if_pos rfl, Bool.eq_false_iff.mpr c1, Bool.eq_false_iff.mpr c2]; rfl
      · rw [hp, allN]
        by_cases q : allN (hd1 T H E i) b = true
        · rw [if_pos q, if_neg n10, q, Bool.true_and]
        · rw [if_neg q, if_pos rfl, if_neg]
          intro k
          rw [Bool.and_eq_true] at k
          exact q k.1
    · intro m r _
      show f_X10_isHeard_p18 σ ke (m + 1) r (nI i) (nI (tNb T)) = _
      rw [f_X10_isHeard_p18, h.1, if_pos (nI_le (Nat.le_refl _) (by omega))]
  have key : ∀ r i fu, i + r = H.1 → r + 1 < fu → allN f i = true → f_X10_isHeard_p4 σ fu 1 (nI i) = some (if allN f H.1 = true then 1 else 0) := by
    intro r
    induction r with
    | zero =>
      intro i fu hi hf ha
      obtain ⟨fu, rfl⟩ : ∃ f, fu = f + 1 := ⟨fu - 1, by omega⟩
      have e : i = H.1 := by omega
      rw [f_X10_isHeard_p4, hH.1, if_pos (nI_le (by omega) (by omega)), gd_t (by decide), if_pos (e ▸ ha)]
    | succ r ih =>
      intro i fu hi hf ha
      obtain ⟨fu, rfl⟩ : ∃ f, fu = f + 2 := ⟨fu - 2, by omega⟩
      rw [f_X10_isHeard_p4, hH.1, if_neg (nI_ge (by omega) (by omega)), if_neg n10, inner i _ (by omega)]
      unfold f_X10_isHeard_p70
      rw [lI 1, nI_add]
      by_cases c : f i = true
      · rw [if_pos c]
        exact ih (i + 1) (fu + 1) (by omega) (by omega) (by rw [allN, ha, c]; rfl)
      · rw [if_neg c, if_neg, f_X10_isHeard_p4, hH.1]
        · by_cases c4 : H.1 ≤ i + 1
          · rw [if_pos (nI_le c4 (by omega)), gd_t (by decide)]
          · rw [if_neg (nI_ge (by omega) (by omega)), if_pos rfl, gd_t (by decide)]
        · intro z
          exact c (allN_iff.mp z i (by omega))
  unfold f_X10_isHeard hdB
  exact key H.1 0 FU (by omega) (by have : FU = 1000000000 := rfl; omega) rfl
/-- what the reference has gathered of the days gone through -/
def hl (T : Tw) (H : Hd) (P : List Dy) : List Dy := P.filter (hdB T H)
def wD (T : Tw) (D : Dy) : Nat := worM T (letM D)
def BR (σ : Mm) (T : Tw) (s : Bs) : Prop := match s with
  | none => σ.1 46 20 = -9
  | some (M, F) => M < 2 ^ 20 ∧ σ.1 46 20 = nI M ∧ ∀ b, b < tNd T → σ.1 56 b = nI (F b)
def raM (T : Tw) (D : Dy) : Nat := rpM T D (fun _ => True)
def LR (σ : Mm) (T : Tw) (H : Hd) (P : List Dy) : Prop := (∀ s, s < 32 → σ.1 57 s = if s ∈ P.map letM then 1 else 0) ∧ BR σ T (bsL (wD T) none P) ∧ σ.1 46 21 = nI (hl T H P).length ∧ σ.1 46 22 = nI ((hl T H P).foldl (fun a D => a &&& letM D) (2 ^ tNd T - 1)) ∧ σ.1 46 23 = nI ((hl T H P).foldl (fun a D => a ||| letM D) 0) ∧ ∀ s, s < 10 → σ.1 58 s = nI ((hl T H P).countP (fun D => (raM T D).testBit s))
theorem be_any {T : Tw} (hw : WT T) {E : Dy} (hE : OD T E) : (beM T E 0 ||| beM T E 1 ||| beM T E 2) = raM T E := by
  apply Nat.eq_of_testBit_eq
  intro s
  apply bool_iff
  unfold beM raM
  rw [Nat.testBit_or, Nat.testBit_or, Bool.or_eq_true, Bool.or_eq_true, rpM_tb, rpM_tb, rpM_tb, rpM_tb]
  constructor
  · rintro ((⟨k, g1, g2, g3, g4, g5⟩ | ⟨k, g1, g2, g3, g4, g5⟩) | ⟨k, g1, g2, g3, g4, g5⟩)
    · exact ⟨k, g1, g2, g3, trivial, g5⟩
    · exact ⟨k, g1, g2, g3, trivial, g5⟩
    · exact ⟨k, g1, g2, g3, trivial, g5⟩
  · rintro ⟨k, g1, g2, g3, g4, g5⟩
    have := tB_lt hw g1 g3
    rcases (show tB T k = 0 ∨ tB T k = 1 ∨ tB T k = 2 by omega) with e | e | e
    · exact Or.inl (Or.inl ⟨k, g1, g2, g3, e, g5⟩)
    · exact Or.inl (Or.inr ⟨k, g1, g2, g3, e, g5⟩)
    · exact Or.inr ⟨k, g1, g2, g3, e, g5⟩
