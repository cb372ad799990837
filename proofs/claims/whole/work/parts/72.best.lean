/-! best, bestOf, price, many, beside -/
theorem letM_tb {D : Dy} {k : Nat} : (letM D).testBit k = true ↔ k < 5 ∧ D k ≠ 0 := by
  unfold letM
  rw [orN_tb]
  constructor
  · rintro ⟨i, hi, h⟩
    split at h
    · simp at h
    · next c =>
      rw [pow_tb, decide_eq_true_eq] at h
      rw [← h]; exact ⟨hi, c⟩
  · rintro ⟨h1, h2⟩
    exact ⟨k, h1, by rw [if_neg h2, pow_tb]; simp⟩
theorem wS_wD {T : Tw} (hw : WT T) {wt : Nat → Nat} {D : Dy} (hD : OD T D) (h : ∀ k, D k ≠ 0 → wt k = tW T k) : wS wt D 5 = wD T D := by
  unfold wS wD worM
  rw [suN_ext hw.2.1 (fun i h1 _ => by
    by_cases c : D i = 0
    · rw [if_pos c]
    · exact absurd (hD i c).1 (by omega))]
  refine suN_cong (fun i hi => ?_)
  have h5 := hw.2.1
  by_cases c : D i = 0
  · rw [if_pos c, if_neg (fun z => (letM_tb.mp z).2 c)]
  · rw [if_neg c, if_pos (letM_tb.mpr ⟨by omega, c⟩), h i c]
/-- most worth of those -/
def isBest (T : Tw) (m M : Nat) : Prop := (∃ D, VD T D ∧ (∀ k, D k ≠ 0 → m.testBit k = true) ∧ wD T D = M) ∧ ∀ D, VD T D → (∀ k, D k ≠ 0 → m.testBit k = true) → wD T D ≤ M
theorem isBest.eq {T : Tw} {m M R : Nat} (h : isBest T m M) (g : isBest T m R) : M = R := by
  obtain ⟨⟨D, d1, d2, d3⟩, h2⟩ := h
  obtain ⟨⟨E, e1, e2, e3⟩, g2⟩ := g
  have := h2 E e1 e2
  have := g2 D d1 d2
  omega
theorem VD_0 (T : Tw) : VD T (fun _ => 0) := ⟨fun k hk => absurd rfl hk, fun k o hk _ _ => absurd rfl hk⟩
theorem xMost {σ : Mm} {S : Sp} (hw : WF S) (hX : XI σ S) {x1 x2 : Int32} {q : Nat → Bool} (hx : ∀ b, b < 5 → ((jushr x1 (nI b) &&& 1) = 1) = (q b = true)) {t0 r0 w0 : Nat} (ht0 : t0 < 2 ^ 36) (hr0 : r0 < 2 ^ 30) (hw0 : w0 < 2 ^ 30) : ∃ τ2 τ M F, f_X4_weigh x1 x2 σ = some τ2 ∧ f_X4_search (lN t0) (nI r0) (nI w0) τ2 = some (nI M, τ) ∧ (∀ c, c ≠ 30 → c ≠ 31 → τ2.1 c = σ.1 c) ∧ τ2.2 = σ.2 ∧ XI τ S ∧ Hi σ τ ∧ M < 2 ^ 20 ∧ (∀ b, b < 5 → τ.1 35 b = nI (F b)) ∧ bsL (fun D => wS (wtF S.2.1 q x2) D 5) none (en (pX S.2.1 (wtF S.2.1 q x2) t0 r0 w0) 5 0 (fun _ => 0)) = some (M, F) := by
  obtain ⟨τ2, e1, e2, e3, e4⟩ := xWeigh (x2 := x2) hX.2.1 hw.2.1 hx
  obtain ⟨τ, M, F, f1, f2, f3, f4, f5⟩ := xSearch hw.2.1 (wtF_le hw.2.1 q x2) e4 ht0 hr0 hw0
  have g : ∀ c, c ≠ 29 → c ≠ 30 → c ≠ 31 → c ≠ 33 → c ≠ 35 → τ.1 c = σ.1 c := fun c h1 h2 h3 h4 h5 => by rw [f2.1 c h1 h4 h5, e2 c h2 h3]
  have g2 : τ.2 = σ.2 := by rw [f2.2.2, e3]
  exact ⟨τ2, τ, M, F, e1, f1, e2, e3, hX.of ⟨fun k h1 h2 => g k (by omega) (by omega) (by omega) (by omega) (by omega), fun k h1 h2 => g k (by omega) (by omega) (by omega) (by omega) (by omega), fun k h1 h2 => g k (by omega) (by omega) (by omega) (by omega) (by omega), by rw [g2], by rw [g2]⟩, fun k hk => ⟨g k (by omega) (by omega) (by omega) (by omega) (by omega), by rw [g2]⟩, f3, f4, f5⟩
theorem bsL_mem {w : Dy → Nat} {L : List Dy} {M : Nat} {F : Dy} (h : bsL w none L = some (M, F)) : F ∈ L ∧ w F = M ∧ ∀ D, D ∈ L → w D ≤ M := by
  have hne : L ≠ [] := fun e => by rw [e] at h; cases h
  obtain ⟨M', F', h1, h2, h3, h4⟩ := bsL_ne (w := w) hne
  rw [h] at h1
  cases h1
  exact ⟨h2, h3, h4⟩
theorem wtF_1 {T : Tw} (hw : WT T) {q : Nat → Bool} {k : Nat} : wtF T q 1 k ≠ 0 ↔ k < tNd T ∧ q k = true := by
  unfold wtF
  by_cases c : k < tNd T ∧ q k = true
  · rw [if_pos c, if_neg n10]
    have := (hw.2.2.2 k c.1).2.2.2.2.1
    exact ⟨fun _ => c, fun _ => by omega⟩
  · rw [if_neg c]
    exact ⟨fun z => absurd rfl z, fun z => absurd z c⟩
theorem wtF_v {T : Tw} {q : Nat → Bool} {k : Nat} (h : k < tNd T ∧ q k = true) : wtF T q 1 k = tW T k := by
  unfold wtF
  rw [if_pos h, if_neg n10]
/-- the class's most worth -/
theorem xWorthM {σ : Mm} {S : Sp} (hw : WF S) (hX : XI σ S) {m : Nat} (hm : m < 2 ^ 31) : ∃ τ M F, f_X4_mostWorth (nI m) σ = some (nI M, τ) ∧ XI τ S ∧ Hi σ τ ∧ (∀ b, b < 5 → τ.1 35 b = nI (F b)) ∧ isBest S.2.1 m M ∧ bsL (fun D => wS (wtF S.2.1 m.testBit 1) D 5) none (en (pX S.2.1 (wtF S.2.1 m.testBit 1) 0 0 0) 5 0 (fun _ => 0)) = some (M, F) := by
  have wT := hw.2.1
  obtain ⟨τ2, τ, M, F, e1, e2, _, _, e3, e4, e5, e6, e7⟩ := xMost (x1 := nI m) (x2 := 1) (q := m.testBit) hw hX (fun b hb => has_u hm (by omega)) (t0 := 0) (r0 := 0) (w0 := 0) (by decide) (by decide) (by decide)
  refine ⟨τ, M, F, ?_, e3, e4, e6, ?_, e7⟩
  · unfold f_X4_mostWorth
    rw [e1, b1_some]
    show b2 (f_X4_search (lN 0) (nI 0) (nI 0) τ2) _ = _
    rw [e2, b2_some]
  · obtain ⟨f1, f2, f3⟩ := bsL_mem e7
    obtain ⟨g1, g2⟩ := (mem_pX wT).mp f1
    have gq : ∀ k, F k ≠ 0 → k < tNd S.2.1 ∧ m.testBit k = true := fun k hk => (wtF_1 wT).mp (g2 k hk).1
    refine ⟨⟨F, g1, fun k hk => (gq k hk).2, ?_⟩, fun D hD hs => ?_⟩
    · rw [← wS_wD (wt := wtF S.2.1 m.testBit 1) wT g1.od (fun k hk => wtF_v (gq k hk))]
      exact f2
    · have dq : ∀ k, D k ≠ 0 → k < tNd S.2.1 ∧ m.testBit k = true := fun k hk => ⟨(hD.od k hk).1, hs k hk⟩
      rw [← wS_wD (wt := wtF S.2.1 m.testBit 1) wT hD.od (fun k hk => wtF_v (dq k hk))]
      exact f3 D ((mem_pX wT).mpr ⟨hD, fun k hk => ⟨(wtF_1 wT).mpr (dq k hk), Nat.and_zero _, Nat.and_zero _, Nat.and_zero _⟩⟩)
theorem cmp_and : ∀ s, s < 32 → ∀ m, m < 32 → decide ((nI s &&& (nI m ^^^ -1)) = 0) = decide (s &&& m = s) := by decide +kernel
theorem sub_iff (D : Dy) (m : Nat) (hD : ∀ k, 5 ≤ k → D k = 0) : (letM D &&& m = letM D) ↔ ∀ k, D k ≠ 0 → m.testBit k = true := by
  constructor
  · intro h k hk
    have h5 : k < 5 := Decidable.byContradiction fun z => hk (hD k (by omega))
    have : (letM D &&& m).testBit k = true := by rw [h]; exact letM_tb.mpr ⟨h5, hk⟩
    rw [Nat.testBit_and, Bool.and_eq_true] at this
    exact this.2
  · intro h
    apply Nat.eq_of_testBit_eq
    intro k
    apply bool_iff
    rw [Nat.testBit_and, Bool.and_eq_true]
    exact ⟨fun z => z.1, fun z => ⟨z, h k (letM_tb.mp z).2⟩⟩
/-- the reference's most worth of those -/
theorem mBest {τ : Mm} {T : Tw} (hT : MTw τ T) (hw : WT T) {N : Dy} (hN : OD T N) (h57 : ∀ s, s < 32 → τ.1 57 s = if s ∈ (en (pR T N false) (tNd T) 0 (fun _ => 0)).map letM then 1 else 0) {m : Nat} (hm : m < 32) : ∃ R, R ≤ 45 ∧ f_X10_bestOfSet τ (nI m) = some (nI R) ∧ isBest T m R := by
  have h5 := hw.2.1
  have hp : 2 ^ tNd T ≤ 32 := by
    have : (2 : Nat) ^ tNd T ≤ 2 ^ 5 := Nat.pow_le_pow_right (by decide) h5
    omega
  have z5 : ∀ {D : Dy}, VD T D → ∀ k, 5 ≤ k → D k = 0 := fun hD k hk => Decidable.byContradiction fun z => by have := (hD.1 k z).1; omega
  let Pm : Nat → Int32 → Prop := fun i a => ∃ r, r ≤ 45 ∧ a = nI r ∧ (∃ D, VD T D ∧ (∀ k, D k ≠ 0 → m.testBit k = true) ∧ wD T D = r) ∧ ∀ D, VD T D → letM D < i → (∀ k, D k ≠ 0 → m.testBit k = true) → wD T D ≤ r
  have key := itL (fun n i a => f_X10_bestOfSet_p4 τ n (nI m) a i) some (fun i a => if τ.1 57 i = 0 then a else if (nI i &&& (nI m ^^^ -1)) = 0 then (if nI (worM T i) ≤ a then a else nI (worM T i)) else a) (2 ^ tNd T) Pm (a := (0 : Int32)) ⟨0, by omega, rfl, ⟨fun _ => 0, VD_0 T, fun k hk => absurd rfl hk, by
    show worM T (letM (fun _ => 0)) = 0
    have : letM (fun _ => 0) = 0 := by decide
    rw [this]
    unfold worM
    rw [suN_ext (n := 0) (Nat.zero_le _) (fun i _ _ => by simp)]
    rfl⟩, fun D _ hD => by omega⟩ ?_ ?_ FU (by have : FU = 1000000000 := rfl; omega)
  · obtain ⟨k1, r, r1, r2, r3, r4⟩ := key
    rw [r2] at k1
    refine ⟨r, r1, k1, r3, fun D hD hs => r4 D hD ?_ hs⟩
    exact letM_nd hw hD.od
  · intro n i a hi hP
    have hi32 : i < 32 := by omega
    have hc := cmp_and i hi32 m hm
    have hW := worM_le hw i
    refine ⟨?_, ?_⟩
    · show f_X10_bestOfSet_p4 τ (n + 1) (nI m) a (nI i) = _
      rw [f_X10_bestOfSet_p4, hT.2.1, lI 1, shl_nI 1 (by omega), Nat.one_mul, if_neg (nI_ge hi (by omega)), gd_t (inB_t hi32 (by decide)), cl_nI (by omega), nI_add]
      by_cases c1 : τ.1 57 i = 0
      · simp only [if_pos c1]
      · simp only [if_neg c1]
        by_cases c2 : (nI i &&& (nI m ^^^ -1)) = 0
        · rw [if_pos (show (nI i &&& (nI m ^^^ -nI 1)) = 0 from c2), if_pos (show (nI i &&& (nI m ^^^ -nI 1)) = 0 from c2), mCoins hT hw (by omega), b1_some, b1_some]
          by_cases c3 : nI (worM T i) ≤ a
          · rw [if_pos c3, if_pos c3]
          · rw [if_neg c3, if_neg c3]
        · rw [if_neg (show ¬ (nI i &&& (nI m ^^^ -nI 1)) = 0 from c2), if_neg (show ¬ (nI i &&& (nI m ^^^ -nI 1)) = 0 from c2)]
    · obtain ⟨r, r1, r2, r3, r4⟩ := hP
      have h57i := h57 i hi32
      by_cases c1 : τ.1 57 i = 0
      · simp only [if_pos c1]
        refine ⟨r, r1, r2, r3, fun D hD hl hs => ?_⟩
        by_cases q : letM D = i
        · rw [if_pos (List.mem_map.mpr ⟨D, (mem_pR hw hN).mpr ⟨hD, fun z => absurd z (by decide)⟩, q⟩)] at h57i
          rw [h57i] at c1
          exact absurd c1 n10
        · exact r4 D hD (by omega) hs
      · simp only [if_neg c1]
        have hmem : i ∈ (en (pR T N false) (tNd T) 0 (fun _ => 0)).map letM := Decidable.byContradiction fun z => c1 (h57i.trans (if_neg z))
        obtain ⟨D0, d1, d2⟩ := List.mem_map.mp hmem
        obtain ⟨d1, _⟩ := (mem_pR hw hN).mp d1
        by_cases c2 : (nI i &&& (nI m ^^^ -1)) = 0
        · rw [if_pos c2]
          rw [decide_eq_true c2] at hc
          have hc' : i &&& m = i := of_decide_eq_true hc.symm
          have hs0 := (sub_iff D0 m (z5 d1)).mp (by rw [d2]; exact hc')
          by_cases c3 : worM T i ≤ r
          · rw [r2, if_pos (nI_le c3 (by omega))]
            refine ⟨r, r1, rfl, r3, fun D hD hl hs => ?_⟩
            by_cases q : letM D = i
            · show worM T (letM D) ≤ r
              rw [q]; exact c3
            · exact r4 D hD (by omega) hs
          · rw [r2, if_neg (by rw [le_nI (by omega) (by omega)]; exact c3)]
            refine ⟨worM T i, hW, rfl, ⟨D0, d1, hs0, by show worM T (letM D0) = _; rw [d2]⟩, fun D hD hl hs => ?_⟩
            by_cases q : letM D = i
            · show worM T (letM D) ≤ _
              rw [q]; exact Nat.le_refl _
            · have := r4 D hD (by omega) hs
              omega
        · rw [if_neg c2]
          rw [decide_eq_false c2] at hc
          have hc' : ¬ i &&& m = i := of_decide_eq_false hc.symm
          refine ⟨r, r1, r2, r3, fun D hD hl hs => ?_⟩
          by_cases q : letM D = i
          · have := (sub_iff D m (z5 hD)).mpr hs
            rw [q] at this
            exact absurd this hc'
          · exact r4 D hD (by omega) hs
  · intro n a _
    show f_X10_bestOfSet_p4 τ (n + 1) (nI m) a (nI (2 ^ tNd T)) = _
    rw [f_X10_bestOfSet_p4, hT.2.1, lI 1, shl_nI 1 (by omega), Nat.one_mul, if_pos (nI_le (Nat.le_refl _) (by omega))]
theorem all_lt {T : Tw} (hw : WT T) : 2 ^ tNd T ≤ 32 ∧ 0 < 2 ^ tNd T := by
  have : (2 : Nat) ^ tNd T ≤ 2 ^ 5 := Nat.pow_le_pow_right (by decide) hw.2.1
  exact ⟨by omega, Nat.two_pow_pos _⟩
theorem in_all {σ : Mm} {T : Tw} (h : MTw σ T) (hw : WT T) (x : Int32) : f_X10_in σ x.toInt64 (0 : Int64) ((jshl 1 (σ.1 46 1) - 1).toInt64) = some (if ¬ x < 0 ∧ ¬ nI (2 ^ tNd T - 1) < x then 1 else 0) := by
  have := all_lt hw
  rw [h.2.1, all_nI hw.2.1, nI_l (by omega), in_ok σ x _ (by omega)]
theorem op_best {σ : Mm} (hI : INV σ) : ∀ a : Int32, ∃ v τ ρ, f_X9_best a σ = some (v, τ) ∧ f_X10_best a τ = some (v, ρ) ∧ INV ρ := by
  intro a
  obtain ⟨S, hw, hX, hM⟩ := id hI
  have wT := hw.2.1
  have hal := all_lt wT
  have e0 : f_X8_everyone σ = some (nI (2 ^ tNd S.2.1 - 1)) := by unfold f_X8_everyone; rw [hX.2.1.2.1, all_nI wT.2.1]
  by_cases h1 : ¬ a < 0 ∧ ¬ nI (2 ^ tNd S.2.1 - 1) < a
  · have h2 : ok a (2 ^ tNd S.2.1 - 1 + 1) := by rw [← lt_succ a (n := 2 ^ tNd S.2.1 - 1) (by omega)]; exact h1
    obtain ⟨m, hm, rfl⟩ := okx (by omega) h2
    obtain ⟨τ, M, F, x1, x2, x3, x4, x5, x6⟩ := xWorthM hw hX (m := m) (by omega)
    have hMτ := hM.hi x3
    obtain ⟨ρ, r1, r2, r3, r4⟩ := mGo hw hMτ false
    obtain ⟨R, q1, q2, q3⟩ := mBest (hMτ.of r2).2.1 wT hw.2.2.1.od r4.1 (m := m) (by omega)
    have eMR := x5.eq q3
    refine ⟨nI M, τ, ρ, ?_, ?_, S, hw, x2.of r3.X, hMτ.of r2⟩
    · unfold f_X9_best
      rw [if_neg h1.1, e0, b1_some, if_pos (by rw [gt_iff]; exact h1.2), x1, b2_some]
    · unfold f_X10_best
      have r1' : f_X10_goThrough 0 τ = some ρ := r1
      rw [in_all hMτ.2.1 wT, b1_some, if_pos h1, if_neg n10, r1', b1_some, q2, b1_some, eMR]
  · refine ⟨-2, σ, σ, ?_, ?_, hI⟩
    · unfold f_X9_best
      by_cases q : a < 0
      · rw [if_pos q]
      · rw [if_neg q, e0, b1_some, if_neg (by rw [gt_iff]; exact fun z => h1 ⟨q, z⟩)]
    · unfold f_X10_best
      rw [in_all hM.2.1 wT, b1_some, if_neg h1, if_pos rfl]
/-- the first day of most worth, on both sides -/
theorem first_same {S : Sp} (hw : WF S) (N : Dy) : bsL (fun D => wS (wtF S.2.1 (2 ^ tNd S.2.1 - 1).testBit 1) D 5) none (en (pX S.2.1 (wtF S.2.1 (2 ^ tNd S.2.1 - 1).testBit 1) 0 0 0) 5 0 (fun _ => 0)) = bsL (wD S.2.1) none (en (pR S.2.1 N false) (tNd S.2.1) 0 (fun _ => 0)) := by
  have wT := hw.2.1
  have hq : ∀ b, (2 ^ tNd S.2.1 - 1).testBit b = decide (b < tNd S.2.1) := fun b => Nat.testBit_two_pow_sub_one ..
  rw [en_same wT (fun b hb => (wtF_1 wT).mpr ⟨hb, by rw [hq]; exact decide_eq_true hb⟩) (fun b hb => by unfold wtF; rw [if_neg (fun z => by omega)]) N]
  refine bsL_cong (fun D hD => ?_)
  obtain ⟨hV, _⟩ := (mem_pR wT (N := fun _ => 0) (VD_0 S.2.1).od (st := false)).mp (by
    have : en (pR S.2.1 (fun _ => 0) false) (tNd S.2.1) 0 (fun _ => 0) = en (pR S.2.1 N false) (tNd S.2.1) 0 (fun _ => 0) := rfl
    rw [this]; exact hD)
  exact wS_wD wT hV.od (fun k hk => wtF_v ⟨(hV.od k hk).1, by rw [hq]; exact decide_eq_true (hV.od k hk).1⟩)
theorem xEvery {σ : Mm} {T : Tw} (h : XTw σ T) (hw : WT T) : f_X8_everyone σ = some (nI (2 ^ tNd T - 1)) := by
  unfold f_X8_everyone
  rw [h.2.1, all_nI hw.2.1]
/-- class and reference, all weighed: what is most, and the first day of it -/
theorem both_first {σ : Mm} {S : Sp} (hw : WF S) (hX : XI σ S) (hM : MI σ S) : ∃ (τ ρ : Mm) (M : Nat) (F : Dy), f_X4_mostWorth (nI (2 ^ tNd S.2.1 - 1)) σ = some (nI M, τ) ∧ XI τ S ∧ Hi σ τ ∧ M ≤ 45 ∧ (∀ b, F b ≤ 10) ∧ (∀ b, b < 5 → τ.1 35 b = nI (F b)) ∧ (∀ τ', Hi τ τ' → ∃ ρ, f_X10_goThrough 0 τ' = some ρ ∧ MSame τ' ρ ∧ Lo τ' ρ ∧ MI ρ S ∧ ρ.1 46 20 = nI M ∧ (∀ b, b < tNd S.2.1 → ρ.1 56 b = nI (F b)) ∧ ∀ s, s < 32 → ρ.1 57 s = if s ∈ (en (pR S.2.1 S.2.2.1 false) (tNd S.2.1) 0 (fun _ => 0)).map letM then 1 else 0) ∧ ρ = τ ∧ ∀ b, F b ≠ 0 → tW S.2.1 b ≤ M := by
  have wT := hw.2.1
  have hal := all_lt wT
  obtain ⟨τ, M, F, x1, x2, x3, x4, x5, x6⟩ := xWorthM hw hX (m := 2 ^ tNd S.2.1 - 1) (by omega)
  rw [first_same hw S.2.2.1] at x6
  obtain ⟨f1, f2, f3⟩ := bsL_mem x6
  obtain ⟨fV, _⟩ := (mem_pR wT hw.2.2.1.od).mp f1
  refine ⟨τ, τ, M, F, x1, x2, x3, ?_, fun b => fV.od.le b, x4, fun τ' hτ => ?_, rfl, fun b hb => ?_⟩
  · rw [← f2]; exact worM_le wT _
  · have hMτ := (hM.hi x3).hi hτ
    obtain ⟨ρ, r1, r2, r3, r4⟩ := mGo hw hMτ false
    have r42 := r4.2.1
    rw [x6] at r42
    exact ⟨ρ, r1, r2, r3, hMτ.of r2, r42.2.1, r42.2.2, r4.1⟩
  · have hb5 := (fV.od b hb).1
    have : tW S.2.1 b ≤ worM S.2.1 (letM F) := by
      unfold worM
      have gen : ∀ n, b < n → tW S.2.1 b ≤ suN (fun k => if (letM F).testBit k then tW S.2.1 k else 0) n := by
        intro n
        induction n with
        | zero => intro h; omega
        | succ n ih =>
          intro h
          rw [suN]
          rcases Nat.lt_or_ge b n with q | q
          · have := ih q; omega
          · have e : b = n := by omega
            rw [← e, if_pos (letM_tb.mpr ⟨by have := wT.2.1; omega, hb⟩)]
            omega
      exact gen _ hb5
    rw [← f2]
    exact this
theorem op_bestOf {σ : Mm} (hI : INV σ) : ∀ a : Int32, ∃ v τ ρ, f_X9_bestOf a σ = some (v, τ) ∧ f_X10_bestOf a τ = some (v, ρ) ∧ INV ρ := by
  intro a
  obtain ⟨S, hw, hX, hM⟩ := id hI
  have wT := hw.2.1
  have h5 := wT.2.1
  by_cases h1 : ¬ a < 0 ∧ a < nI (tNd S.2.1)
  · obtain ⟨k, hk, rfl⟩ := okx (by omega) h1
    obtain ⟨τ, _, M, F, x1, x2, x3, x4, x5, x6, x7, _, _⟩ := both_first hw hX hM
    obtain ⟨ρ, r1, r2, r3, r4, r5, r6, r7⟩ := x7 τ (Hi.rf τ)
    have hF := x5 k
    have g5 : inB (nI k) 5 = true := inB_t (by omega) (by decide)
    have hMτ := hM.hi x3
    refine ⟨eD (F k), τ, ρ, ?_, ?_, S, hw, x2.of r3.X, r4⟩
    · unfold f_X9_bestOf
      rw [hasBidder_eq hX.2.1.2.1, b1_some, if_pos h1, if_neg n10, xEvery hX.2.1 wT, b1_some, x1, b2_some]
      unfold f_X1_secondOf
      rw [toldOf_eq τ 34 k (by omega), b1_some, c34, x6 k (by omega)]
      simp only [nI_0iff (n := F k) (by omega)]
      unfold eD
      by_cases c : F k = 0
      · rw [if_pos c, if_pos c, b1_some]
      · rw [if_neg c, if_neg c, lI 1, pk_sub (by omega), b1_some]
    · unfold f_X10_bestOf
      rw [isBidder_eq hMτ.2.1.2.1 h5, b1_some, if_pos h1, if_neg n10, r1, b1_some, gd_t g5, gd_t g5, cl_nI (by omega), r6 k hk]
      simp only [nI_0iff (n := F k) (by omega)]
      unfold eD
      by_cases c : F k = 0
      · rw [if_pos c, if_pos c]
      · rw [if_neg c, if_neg c, lI 1, pk_sub (by omega)]
  · refine ⟨-1, σ, σ, ?_, ?_, hI⟩
    · unfold f_X9_bestOf
      rw [hasBidder_eq hX.2.1.2.1, b1_some, if_neg h1, if_pos rfl]
    · unfold f_X10_bestOf
      rw [isBidder_eq hM.2.1.2.1 h5, b1_some, if_neg h1, if_pos rfl]
theorem but_one : ∀ n, n ≤ 5 → ∀ b, b < n → (nI (2 ^ n - 1) &&& (jshl 1 (nI b) ^^^ -1)) = nI (2 ^ n - 1 - 2 ^ b) := by decide +kernel
theorem op_price {σ : Mm} (hI : INV σ) : ∀ a : Int32, ∃ v τ ρ, f_X9_price a σ = some (v, τ) ∧ f_X10_price a τ = some (v, ρ) ∧ INV ρ := by
  intro a
  obtain ⟨S, hw, hX, hM⟩ := id hI
  have wT := hw.2.1
  have h5 := wT.2.1
  have hal := all_lt wT
  by_cases h1 : ¬ a < 0 ∧ a < nI (tNd S.2.1)
  · obtain ⟨k, hk, rfl⟩ := okx (by omega) h1
    obtain ⟨τ, _, M, F, x1, x2, x3, x4, x5, x6, x7, _, x8⟩ := both_first hw hX hM
    have hF := x5 k
    have g5 : inB (nI k) 5 = true := inB_t (by omega) (by decide)
    have hlet : f_X1_isLet τ 34 (nI k) = some (if F k = 0 then 0 else 1) := by
      rw [isLet_eq τ 34 k (by omega), c34, x6 k (by omega)]
      simp only [nI_0iff (n := F k) (by omega)]
    by_cases c : F k = 0
    · obtain ⟨ρ, r1, r2, r3, r4, r5, r6, r7⟩ := x7 τ (Hi.rf τ)
      have hMτ := hM.hi x3
      refine ⟨-9, τ, ρ, ?_, ?_, S, hw, x2.of r3.X, r4⟩
      · unfold f_X9_price
        rw [hasBidder_eq hX.2.1.2.1, b1_some, if_pos h1, if_neg n10, xEvery hX.2.1 wT, b1_some, x1, b2_some, hlet, b1_some, if_pos c, if_pos rfl]
      · unfold f_X10_price
        rw [isBidder_eq hMτ.2.1.2.1 h5, b1_some, if_pos h1, if_neg n10, r1, b1_some, gd_t g5, cl_nI (by omega), r6 k hk, if_pos (by rw [nI_0iff (by omega)]; exact c)]
    · have hk2 : 2 ^ tNd S.2.1 - 1 - 2 ^ k < 32 := Nat.lt_of_le_of_lt (Nat.sub_le _ _) (by omega)
      obtain ⟨τ', M', F', y1, y2, y3, y4, y5, y6⟩ := xWorthM hw x2 (m := 2 ^ tNd S.2.1 - 1 - 2 ^ k) (Nat.lt_trans hk2 (by decide))
      obtain ⟨ρ, r1, r2, r3, r4, r5, r6, r7⟩ := x7 τ' y3
      have hMτ := (hM.hi x3).hi y3
      obtain ⟨R, q1, q2, q3⟩ := mBest r4.2.1 wT hw.2.2.1.od r7 (m := 2 ^ tNd S.2.1 - 1 - 2 ^ k) hk2
      have eMR := y5.eq q3
      refine ⟨nI M' - (nI M - nI (tW S.2.1 k)), τ', ρ, ?_, ?_, S, hw, y2.of r3.X, r4⟩
      · unfold f_X9_price
        rw [hasBidder_eq hX.2.1.2.1, b1_some, if_pos h1, if_neg n10, xEvery hX.2.1 wT, b1_some, x1, b2_some, hlet, b1_some, if_neg c, if_neg n10, at_eq τ 11 k 5 rfl (by omega) (by decide), b1_some, xEvery x2.2.1 wT, b1_some, but_one _ h5 k hk, y1, b2_some, (x2.2.1.2.2.2.1 k hk).2.2.2.2.2]
      · unfold f_X10_price
        rw [isBidder_eq hMτ.2.1.2.1 h5, b1_some, if_pos h1, if_neg n10, r1, b1_some, gd_t g5, cl_nI (by omega), r6 k hk, if_neg (by rw [nI_0iff (by omega)]; exact c), r4.2.1.2.1, all_nI h5, but_one _ h5 k hk, q2, b1_some, lI 6, lI 5, mul_nI, nI_add, gd_t (inB_t (by omega) (by decide)), cl_nI (by omega), (r4.2.1.2.2.2 k hk).2.2.2.2.2, r5, eMR]
  · refine ⟨-1, σ, σ, ?_, ?_, hI⟩
    · unfold f_X9_price
      rw [hasBidder_eq hX.2.1.2.1, b1_some, if_neg h1, if_pos rfl]
    · unfold f_X10_price
      rw [isBidder_eq hM.2.1.2.1 h5, b1_some, if_neg h1, if_pos rfl]
def pc (s : Nat) : Nat := suN (fun k => if s.testBit k then 1 else 0) 12
theorem mOnes (σ : Mm) {s : Nat} (hs : s < 2 ^ 31) : f_X10_ones σ (nI s) = some (nI (pc s)) := by
  unfold f_X10_ones pc
  rw [← it_su (f := fun k => if s.testBit k then 1 else 0) (fun _ _ => rfl) 12]
  refine (itL (fun n i a => f_X10_ones_p4 σ n (nI s) a i) some _ 12 (fun _ _ => True) trivial ?_ ?_ FU (by decide)).1
  · intro n i a hi _
    refine ⟨?_, trivial⟩
    show f_X10_ones_p4 σ (n + 1) (nI s) a (nI i) = _
    rw [f_X10_ones_p4, lI 12, if_neg (nI_ge hi (by decide)), bit_s hs (by omega), lI 1, nI_add]
  · intro n a _
    show f_X10_ones_p4 σ (n + 1) (nI s) a (nI 12) = _
    rw [f_X10_ones_p4, lI 12, if_pos (nI_le (Nat.le_refl _) (by decide))]
theorem pc_le (s : Nat) : pc s ≤ 12 := by
  have := suN_le (f := fun k => if s.testBit k then 1 else 0) (c := 1) (n := 12) (fun i _ => by show (if s.testBit i = true then 1 else 0) ≤ 1; split <;> omega)
  unfold pc
  omega
theorem wS_pc {T : Tw} {wt : Nat → Nat} {D : Dy} (h : ∀ k, D k ≠ 0 → wt k = 1) : wS wt D 5 = pc (letM D) := by
  unfold wS pc
  rw [suN_ext (show 5 ≤ 12 by decide) (fun i h1 _ => by rw [if_neg (fun z => by have := (letM_tb.mp z).1; omega)])]
  refine suN_cong (fun i hi => ?_)
  by_cases c : D i = 0
  · rw [if_pos c, if_neg (fun z => (letM_tb.mp z).2 c)]
  · rw [if_neg c, if_pos (letM_tb.mpr ⟨hi, c⟩), h i c]
theorem bits31 : ∀ b, b < 5 → ((jushr (31 : Int32) (nI b) &&& 1) = 1) := by decide +kernel
theorem op_many {σ : Mm} (hI : INV σ) : ∃ v τ ρ, f_X9_many σ = some (v, τ) ∧ f_X10_many τ = some (v, ρ) ∧ INV ρ := by
  obtain ⟨S, hw, hX, hM⟩ := id hI
  have wT := hw.2.1
  have h5 := wT.2.1
  obtain ⟨τ2, τ, M, F, e1, e2, _, _, e3, e4, e5, e6, e7⟩ := xMost (x1 := 31) (x2 := 0) (q := fun _ => true) hw hX (fun b hb => propext ⟨fun _ => rfl, fun _ => bits31 b hb⟩) (t0 := 0) (r0 := 0) (w0 := 0) (by decide) (by decide) (by decide)
  obtain ⟨f1, f2, f3⟩ := bsL_mem e7
  obtain ⟨fV, _⟩ := (mem_pX wT).mp f1
  have w1 : ∀ {D : Dy}, VD S.2.1 D → ∀ k, D k ≠ 0 → wtF S.2.1 (fun _ => true) 0 k = 1 := fun hD k hk => by
    unfold wtF
    rw [if_pos ⟨(hD.od k hk).1, rfl⟩, if_pos rfl]
  have hMτ := hM.hi e4
  obtain ⟨ρ, r1, r2, r3, r4⟩ := mGo hw hMτ false
  have z5 : ∀ {D : Dy}, VD S.2.1 D → letM D < 32 := fun _ => letM_lt _
  have hPM : pc (letM F) = M := by rw [← wS_pc (T := S.2.1) (w1 fV)]; exact f2
  have hAll : ∀ D, VD S.2.1 D → pc (letM D) ≤ M := fun D hD => by
    rw [← wS_pc (T := S.2.1) (w1 hD)]
    exact f3 D ((mem_pX wT).mpr ⟨hD, fun k hk => ⟨by rw [w1 hD k hk]; decide, Nat.and_zero _, Nat.and_zero _, Nat.and_zero _⟩⟩)
  have key := itL (fun n i a => f_X10_many_p9 n a i ρ) (fun a => some (a, ρ)) (fun i a => if ρ.1 57 i = 0 then a else if nI (pc i) ≤ a then a else nI (pc i)) 32 (fun i a => ∃ r, r ≤ 12 ∧ a = nI r ∧ (∃ D, VD S.2.1 D ∧ pc (letM D) = r) ∧ ∀ D, VD S.2.1 D → letM D < i → pc (letM D) ≤ r) (a := (0 : Int32)) ⟨0, by omega, rfl, ⟨fun _ => 0, VD_0 _, by decide⟩, fun D _ hD => by omega⟩ ?_ ?_ FU (by decide)
  · obtain ⟨k1, r, r1', r2', ⟨D, d1, d2⟩, r4'⟩ := key
    have eq1 : r = M := by
      have := hAll D d1
      have := r4' F fV (letM_lt F)
      omega
    have k1' : f_X10_many_p9 FU 0 (nI 0) ρ = _ := k1
    rw [r2'] at k1'
    refine ⟨nI M, τ, ρ, ?_, ?_, S, hw, e3.of r3.X, hMτ.of r2⟩
    · unfold f_X9_many f_X4_mostAtOnce
      rw [e1, b1_some]
      show b2 (b2 (f_X4_search (lN 0) (nI 0) (nI 0) τ2) _) _ = _
      rw [e2, b2_some, b2_some]
    · unfold f_X10_many
      have r1'' : f_X10_goThrough 0 τ = some ρ := r1
      rw [r1'', b1_some, ← eq1]
      exact k1'
  · intro n i a hi hP
    have hpc := pc_le i
    refine ⟨?_, ?_⟩
    · show f_X10_many_p9 (n + 1) a (nI i) ρ = _
      rw [f_X10_many_p9, lI 32, if_neg (nI_ge hi (by decide)), gd_t (inB_t hi (by decide)), cl_nI (by omega), lI 1, nI_add]
      by_cases c1 : ρ.1 57 i = 0
      · simp only [if_pos c1]
      · simp only [if_neg c1]
        rw [mOnes ρ (by omega), b1_some, b1_some]
        by_cases c3 : nI (pc i) ≤ a
        · rw [if_pos c3, if_pos c3]
        · rw [if_neg c3, if_neg c3]
    · obtain ⟨r, q1, q2, q3, q4⟩ := hP
      have h57i := r4.1 i hi
      by_cases c1 : ρ.1 57 i = 0
      · simp only [if_pos c1]
        refine ⟨r, q1, q2, q3, fun D hD hl => ?_⟩
        by_cases q : letM D = i
        · rw [if_pos (List.mem_map.mpr ⟨D, (mem_pR wT hw.2.2.1.od).mpr ⟨hD, fun z => absurd z (by decide)⟩, q⟩)] at h57i
          rw [h57i] at c1
          exact absurd c1 n10
        · exact q4 D hD (by omega)
      · simp only [if_neg c1]
        have hmem := Decidable.byContradiction fun z => c1 (h57i.trans (if_neg z))
        obtain ⟨D0, d1, d2⟩ := List.mem_map.mp hmem
        obtain ⟨d1, _⟩ := (mem_pR wT hw.2.2.1.od).mp d1
        by_cases c3 : pc i ≤ r
        · rw [q2, if_pos (nI_le c3 (by omega))]
          refine ⟨r, q1, rfl, q3, fun D hD hl => ?_⟩
          by_cases q : letM D = i
          · rw [q]; exact c3
          · exact q4 D hD (by omega)
        · rw [q2, if_neg (by rw [le_nI (by omega) (by omega)]; exact c3)]
          refine ⟨pc i, hpc, rfl, ⟨D0, d1, by rw [d2]⟩, fun D hD hl => ?_⟩
          by_cases q : letM D = i
          · rw [q]; exact Nat.le_refl _
          · have := q4 D hD (by omega)
            omega
  · intro n a _
    show f_X10_many_p9 (n + 1) a (nI 32) ρ = _
    rw [f_X10_many_p9, lI 32, if_pos (nI_le (Nat.le_refl _) (by decide))]
