/-! again, count, bell, bidder, rings -/
theorem slot_or {s : Nat} (hs : s < 2) : nI s = 0 ∨ nI s = 1 := by
  rcases (show s = 0 ∨ s = 1 by omega) with rfl | rfl
  · exact Or.inl rfl
  · exact Or.inr rfl
theorem op_again {σ : Mm} (hI : INV σ) : ∀ a : Int32, ∃ v τ ρ, f_X9_again a σ = some (v, τ) ∧ f_X10_again a τ = some (v, ρ) ∧ INV ρ := by
  intro a
  obtain ⟨S, hw, hX, hM⟩ := id hI
  have wT := hw.2.1
  have key : ∀ s : Nat, s < 2 → ∀ c e : Nat, (c = 20 + 3 * s) → (e = 22 + 3 * s) → cRef c 0 = 21 + 3 * s → cRef (21 + 3 * s) 1 = e → cTag c = 6 → f_X9_slotOf σ (nI s) = some (some c) → XK1 σ c e (S.2.2.2.2.2.2 s) → MK1 σ s (S.2.2.2.2.2.2 s) → ∃ v τ ρ, f_X9_again (nI s) σ = some (v, τ) ∧ f_X10_again (nI s) τ = some (v, ρ) ∧ INV ρ := by
    intro s hs c e hc he r1 r2 ht hsl hk1 hk2
    have isl := slot_or hs
    cases hE : S.2.2.2.2.2.2 s with
    | none =>
      rw [hE] at hk1 hk2
      have k1 : σ.1 c 1 = 0 := hk1
      have k2 : σ.1 73 s = 0 := hk2
      refine ⟨-3, σ, σ, ?_, ?_, hI⟩
      · unfold f_X9_again
        rw [hsl, b1_some]
        show gd (decide (cTag c = 6)) _ = _
        rw [gd_t (decide_eq_true ht), if_pos k1]
      · unfold f_X10_again
        rw [in_slot, if_pos isl, b1_some, if_neg (by decide), gd_t (inB_t hs (by decide)), cl_nI (by omega), if_pos k2]
    | some E =>
      rw [hE] at hk1 hk2
      have k1 : σ.1 c 1 = 1 := hk1.1
      let τ : Mm := sI (putR σ 17 0 5 (σ.1 e)) 26 2 0
      have hHi : Hi σ τ := ((Hi.rf σ).putR (by decide)).sI (by decide)
      have hMτ := hM.hi hHi
      have k3 : MK1 τ s (some E) := hk2.of (hHi 73 (by decide)).1 (hHi 74 (by decide)).1
      let A' : Ac_ := (0, S.2.2.2.1.2)
      have hVE : VD S.2.1 E := hw.2.2.2.2.2 s E hE
      have hwf : WF (S.1, S.2.1, E, A', S.2.2.2.2) := by
        obtain ⟨w1, w2, w3, w4, w5, w6⟩ := hw
        refine ⟨w1, w2, hVE, ⟨Nat.zero_le _, fun i hi => absurd hi (Nat.not_lt_zero i), fun i hi => ?_⟩, w5, w6⟩
        have hi2 : i ≤ 0 := hi
        rw [show i = 0 by omega]
        exact hVE
      have hX' : XI τ (S.1, S.2.1, E, A', S.2.2.2.2) := by
        refine XI.setD (τ := τ) (D := E) (A := A') hX (fun k _ h1 _ _ h2 => ?_) (fun _ _ => rfl) (fun j hj => ?_) ⟨sI_s, fun i hi => absurd hi (Nat.not_lt_zero i)⟩
        · show (sI (putR σ 17 0 5 (σ.1 e)) 26 2 0).1 k = σ.1 k
          rw [(sI_ne (by omega)).1, putR_ne h1]
        · show (sI (putR σ 17 0 5 (σ.1 e)) 26 2 0).1 17 j = _
          have := putR_at (σ := σ) (c := 17) (base := 0) (f := σ.1 e) hj
          rw [Nat.zero_add] at this
          rw [sI_n (by omega), this]
          exact hk1.2 j hj
      let ρ : Mm := sI (putR τ 52 0 5 (fun j => τ.1 74 (5 * s + j))) 46 14 0
      have hMρ : MI ρ (S.1, S.2.1, E, A', S.2.2.2.2) := by
        obtain ⟨_, x, hx, m2, _⟩ := hMτ.2.2.2.1
        refine MI.setD (τ := ρ) (D := E) (A := A') hMτ (fun k h1 h2 h3 => ?_) (fun j h1 h2 => ?_) rfl (fun j hj => ?_) ⟨sI_s, x, hx, ?_, fun i hi => absurd hi (Nat.not_lt_zero i)⟩
        · show (sI (putR τ 52 0 5 (fun j => τ.1 74 (5 * s + j))) 46 14 0).1 k = τ.1 k
          rw [(sI_ne (by omega)).1, putR_ne h2]
        · show (sI (putR τ 52 0 5 (fun j => τ.1 74 (5 * s + j))) 46 14 0).1 46 j = τ.1 46 j
          rw [sI_n (by omega), putR_ne (by decide)]
        · show (sI (putR τ 52 0 5 (fun j => τ.1 74 (5 * s + j))) 46 14 0).1 52 j = _
          have := putR_at (σ := τ) (c := 52) (base := 0) (f := fun j => τ.1 74 (5 * s + j)) hj
          rw [Nat.zero_add] at this
          rw [sI_n (by omega), this]
          exact k3.2 j hj
        · show (sI (putR τ 52 0 5 (fun j => τ.1 74 (5 * s + j))) 46 14 0).1 46 15 = nI x
          rw [sI_n (by omega), putR_ne (by decide)]
          exact m2
      refine ⟨nI (worM S.2.1 (letM E)), τ, ρ, ?_, ?_, _, hwf, hX'.of (((Lo.rf τ).putR (by decide)).sI (by decide)).X, hMρ⟩
      · unfold f_X9_again
        rw [hsl, b1_some]
        show gd (decide (cTag c = 6)) _ = _
        rw [gd_t (decide_eq_true ht), if_neg (by rw [k1]; decide), r1, copy_eq (by rw [r2]; show 17 ≠ e; omega), b1_some, r2]
        unfold f_X0_clear
        rw [b1_some]
        show b1 (f_X1_worth τ 16) (fun r10 => some (r10, τ)) = _
        rw [xWorth hX'.2.1 wT (K := 16) hX'.2.2.1 hVE.od, b1_some]
      · unfold f_X10_again
        rw [in_slot, if_pos isl, b1_some, if_neg (by decide), gd_t (inB_t hs (by decide)), cl_nI (by omega), if_neg (by rw [k3.1]; decide)]
        have q := (itL (fun n i ζ => f_X10_again_p26 n (nI s) i ζ) (fun ζ => b1 (f_X10_letNow (sI ζ 46 14 0)) (fun r2 => b1 (f_X10_coinsOf (sI ζ 46 14 0) r2) (fun r4 => some (r4, sI ζ 46 14 0)))) (fun i ζ => sI ζ 52 i (τ.1 74 (5 * s + i))) 5 (fun i ζ => ζ = putR τ 52 0 i (fun j => τ.1 74 (5 * s + j))) (putR_0 _ _ _ _).symm ?_ ?_ FU (by decide))
        · rw [q.2] at q
          refine q.1.trans ?_
          show b1 (f_X10_letNow ρ) (fun r2 => b1 (f_X10_coinsOf ρ r2) (fun r4 => some (r4, ρ))) = _
          rw [mLets hMρ.2.1 wT hMρ.2.2.1 hVE.od, b1_some, mCoins hMρ.2.1 wT (letM_31 _), b1_some]
        · intro n i ζ hi hp
          have rr : ∀ j, ζ.1 74 j = τ.1 74 j := fun j => by rw [hp, putR_ne (by decide)]
          refine ⟨?_, ?_⟩
          · simp (disch := omega) only [f_X10_again_p26, lI 5, lI 1, le_nI, Nat.not_le.mpr hi, if_false, nI_add, mul_nI, gd_t (inB_t hi (by decide)), gd_t (inB_t (show 5 * s + i < 10 by omega) (by decide)), cl_nI, bnd_eq, rr]
          · rw [hp]
            have := putR_s (σ := τ) (c := 52) (base := 0) (i := i) (f := fun j => τ.1 74 (5 * s + j)) rfl
            rw [Nat.zero_add] at this
            exact this
        · intro n ζ _
          simp (disch := omega) only [f_X10_again_p26, lI 5, le_nI, Nat.le_refl, if_true]
  by_cases h0 : a = 0
  · rw [h0]
    exact key 0 (by decide) 20 22 rfl rfl rfl rfl rfl (by unfold f_X9_slotOf; rw [nI0, if_pos rfl]) hX.2.2.2.2.2.2.1 hM.2.2.2.2.2.2.1
  · by_cases h1 : a = 1
    · rw [h1]
      exact key 1 (by decide) 23 25 rfl rfl rfl rfl rfl (by unfold f_X9_slotOf; rfl) hX.2.2.2.2.2.2.2 hM.2.2.2.2.2.2.2
    · refine ⟨-1, σ, σ, ?_, ?_, hI⟩
      · unfold f_X9_again f_X9_slotOf
        rw [if_neg h0, if_neg h1, b1_some]
        rfl
      · unfold f_X10_again
        rw [in_slot, if_neg (fun q => q.elim h0 h1), b1_some, if_pos rfl]
/-- what rings by a day -/
def rxM (T : Tw) (D : Dy) : Nat := orN (fun k => if D k = 0 then 0 else ringX T k (D k - 1)) 5
def rpM (T : Tw) (D : Dy) (p : Nat → Prop) [DecidablePred p] : Nat := orN (fun k => if D k ≠ 0 ∧ tN T k ≠ 0 ∧ p (tB T k) then ringS T k (D k - 1) else 0) (tNd T)
theorem xRingD {σ : Mm} {T : Tw} (h : XTw σ T) {D : Dy} (hD : OD T D) {k : Nat} (hk : k < 5) : f_X8_ringing σ (nI k) (eD (D k)) = some (nI (if D k = 0 then 0 else ringX T k (D k - 1))) := by
  have hle := hD.le k
  unfold eD
  by_cases c : D k = 0
  · rw [if_pos c, if_pos c]
    unfold f_X8_ringing
    rw [if_neg (nI_pos (by omega)), lI 5, if_neg (nI_ge hk (by decide)), if_pos (by decide)]
    rfl
  · rw [if_neg c, if_neg c, xRing h hk (by omega)]
theorem xRinging {σ : Mm} {T : Tw} (h : XTw σ T) {K : Nat} {D : Dy} (hd : XD σ (cRef K 1) D) (hD : OD T D) : f_X1_ringing σ K = some (nI (rxM T D)) := by
  unfold f_X1_ringing rxM
  rw [← it_or (f := fun k => if D k = 0 then 0 else ringX T k (D k - 1)) (fun _ _ => rfl) 5]
  refine (itL (fun n i a => f_X1_ringing_p4 σ K n a i) some _ 5 (fun _ _ => True) trivial ?_ ?_ FU (by decide)).1
  · intro n i a hi _
    refine ⟨?_, trivial⟩
    simp (disch := omega) only [f_X1_ringing_p4, lI 5, lI 1, le_nI, Nat.not_le.mpr hi, if_false, nI_add, xSecond hd hD hi, b1_some, xRingD h hD hi]
  · intro n a _
    simp (disch := omega) only [f_X1_ringing_p4, lI 5, le_nI, Nat.le_refl, if_true]
theorem mRinging {σ : Mm} {T : Tw} (h : MTw σ T) (hw : WT T) {D : Dy} (hd : MD σ D) (hD : OD T D) (x : Int32) : f_X10_ringing σ x = some (nI (rpM T D (fun b => x = -9 ∨ nI b = x))) := by
  have h5 := hw.2.1
  unfold f_X10_ringing rpM
  rw [← it_or (f := fun k => if D k ≠ 0 ∧ tN T k ≠ 0 ∧ (x = -9 ∨ nI (tB T k) = x) then ringS T k (D k - 1) else 0) (fun _ _ => rfl) (tNd T)]
  refine (itL (fun n i a => f_X10_ringing_p4 σ n x a i) some _ (tNd T) (fun _ _ => True) trivial ?_ ?_ FU (by have : FU = 1000000000 := rfl; omega)).1
  · intro n i a hi _
    refine ⟨?_, trivial⟩
    have hle := hD.le i
    have g5 : inB (nI i) 5 = true := inB_t (by omega) (by decide)
    have no : ∀ kh : Int32 → Int32 → Int32 → Option Int32, f_X10_ringing_p52 σ kh x a (nI i) = kh x a (nI (i + 1)) := fun kh => by
      unfold f_X10_ringing_p52 f_X10_ringing_p53
      rw [if_pos rfl, Int32.or_zero, lI 1, nI_add]
    simp only [f_X10_ringing_p4]
    rw [h.2.1, if_neg (nI_ge hi (by omega)), gd_t g5, cl_nI (by omega), hd i (by omega)]
    by_cases c : D i = 0
    · rw [eD, if_pos c, if_pos (by decide), no, if_neg (fun q => q.1 c), nI0, Int32.or_zero]
    · have yes : ∀ kh : Int32 → Int32 → Int32 → Option Int32, tN T i ≠ 0 → f_X10_ringing_p48 σ kh x a (nI i) = kh x (a ||| nI (ringS T i (D i - 1))) (nI (i + 1)) := fun kh hq => by
        unfold f_X10_ringing_p48 f_X10_ringing_p53
        rw [if_neg (by decide), gd_t g5, cl_nI (by omega), hd i (by omega), eD, if_neg c, mSecs h hw hi (by omega), b1_some, if_neg hq, if_pos rfl, lI 1, nI_add]
      rw [eD, if_neg c, if_neg (nI_pos (by omega)), mQuiet h hw hi, b1_some]
      by_cases q : tN T i = 0
      · rw [if_pos q, if_neg (by decide), no, if_neg (fun z => z.2.1 q), nI0, Int32.or_zero]
      · have e0 := (h.2.2.2 i hi).1
        rw [eB, if_neg q] at e0
        rw [if_neg q, if_pos rfl]
        by_cases p1 : x = -9
        · rw [if_pos p1, yes _ q, if_pos ⟨c, q, Or.inl p1⟩]
        · rw [if_neg p1, lI 6, mul_nI, gd_t (inB_t (by omega) (by decide)), cl_nI (by omega), e0]
          by_cases p2 : nI (tB T i) = x
          · rw [if_pos p2, yes _ q, if_pos ⟨c, q, Or.inr p2⟩]
          · rw [if_neg p2, no, if_neg (fun z => z.2.2.elim p1 p2), nI0, Int32.or_zero]
  · intro n a _
    simp (disch := omega) only [f_X10_ringing_p4, h.2.1, le_nI, Nat.le_refl, if_true]
theorem rpM_lt {T : Tw} (hw : WT T) {D : Dy} (hD : OD T D) (p : Nat → Prop) [DecidablePred p] : rpM T D p < 2 ^ 10 := orN_lt fun i hi => by
  split
  · next h => exact ringS_lt hw hi h.2.1 (hD i h.1).2.2
  · decide
theorem rxM_lt {T : Tw} (hw : WT T) (D : Dy) : rxM T D < 2 ^ 30 := orN_lt fun i hi => by
  split
  · decide
  · exact ringX_lt hw _ _
theorem rpM_tb {T : Tw} {D : Dy} {p : Nat → Prop} [DecidablePred p] {s : Nat} : (rpM T D p).testBit s = true ↔ ∃ k, k < tNd T ∧ D k ≠ 0 ∧ tN T k ≠ 0 ∧ p (tB T k) ∧ (ringS T k (D k - 1)).testBit s = true := by
  unfold rpM
  rw [orN_tb]
  refine exists_congr (fun k => and_congr_right (fun _ => ?_))
  constructor
  · intro h
    split at h
    · next g => exact ⟨g.1, g.2.1, g.2.2, h⟩
    · simp at h
  · rintro ⟨h1, h2, h3, h4⟩
    rw [if_pos ⟨h1, h2, h3⟩]; exact h4
theorem rxM_tb {T : Tw} (hw : WT T) {D : Dy} (hD : OD T D) {b s : Nat} (hs : s < 10) : (rxM T D).testBit (10 * b + s) = true ↔ ∃ k, k < tNd T ∧ D k ≠ 0 ∧ tN T k ≠ 0 ∧ tB T k = b ∧ (ringS T k (D k - 1)).testBit s = true := by
  have h5 := hw.2.1
  unfold rxM
  rw [orN_tb]
  constructor
  · rintro ⟨k, hk, h⟩
    by_cases c : D k = 0
    · rw [if_pos c] at h; simp at h
    · rw [if_neg c] at h
      obtain ⟨g1, g2, g3⟩ := hD k c
      by_cases q : tN T k = 0
      · rw [ringX_q q] at h; simp at h
      · rw [ringX_p g1 q g3, mul_tb, Bool.and_eq_true, decide_eq_true_eq] at h
        have h3 := lt_tb (ringS_lt hw g1 q g3) h.2
        have e : tB T k = b := by omega
        refine ⟨k, g1, c, q, e, ?_⟩
        have h4 := h.2
        rw [e, show 10 * b + s - 10 * b = s by omega] at h4
        exact h4
  · rintro ⟨k, g1, c, q, e, h⟩
    obtain ⟨_, _, g3⟩ := hD k c
    refine ⟨k, by omega, ?_⟩
    rw [if_neg c, ringX_p g1 q g3, mul_tb, Bool.and_eq_true, decide_eq_true_eq, e]
    exact ⟨by omega, by rw [show 10 * b + s - 10 * b = s by omega]; exact h⟩
theorem and1023 (a : Nat) : nI a &&& 1023 = nI (a % 2 ^ 10) := by
  rw [lI 1023, and_nI, show (1023 : Nat) = 2 ^ 10 - 1 from rfl, Nat.and_two_pow_sub_one_eq_mod]
theorem sec_tb (a b s : Nat) : (a / 2 ^ b % 2 ^ 10).testBit s = (decide (s < 10) && a.testBit (b + s)) := by
  rw [Nat.testBit_mod_two_pow, Nat.testBit_div_two_pow, Nat.add_comm s b]
theorem bool_iff {a b : Bool} (h : a = true ↔ b = true) : a = b := Bool.eq_iff_iff.mpr h
theorem rx_b {T : Tw} (hw : WT T) {D : Dy} (hD : OD T D) (b : Nat) (p : Nat → Prop) [DecidablePred p] (hp : ∀ k, k < tNd T → tN T k ≠ 0 → (p (tB T k) ↔ tB T k = b)) : rxM T D / 2 ^ (10 * b) % 2 ^ 10 = rpM T D p := by
  apply Nat.eq_of_testBit_eq
  intro s
  apply bool_iff
  rw [sec_tb, Bool.and_eq_true, decide_eq_true_eq]
  constructor
  · rintro ⟨hs, h⟩
    obtain ⟨k, g1, g2, g3, g4, g5⟩ := (rxM_tb hw hD hs).mp h
    exact rpM_tb.mpr ⟨k, g1, g2, g3, (hp k g1 g3).mpr g4, g5⟩
  · intro h
    have hs := lt_tb (rpM_lt hw hD p) h
    obtain ⟨k, g1, g2, g3, g4, g5⟩ := rpM_tb.mp h
    exact ⟨hs, (rxM_tb hw hD hs).mpr ⟨k, g1, g2, g3, (hp k g1 g3).mp g4, g5⟩⟩
theorem ush {a k : Nat} (ha : a < 2 ^ 31) (hk : k < 32) : jushr (nI a) (nI k) = nI (a / 2 ^ k) := ushr_nI (by omega) hk
theorem xSecs (σ : Mm) {a b : Nat} (ha : a < 2 ^ 31) (hb : b < 3) : f_X9_secondsOf σ (nI a) (nI b) = some (nI (a / 2 ^ (10 * b) % 2 ^ 10)) := by
  unfold f_X9_secondsOf
  rw [lI 10, mul_nI, ush ha (by omega), and1023]
theorem xAny (σ : Mm) {a : Nat} (ha : a < 2 ^ 30) : f_X9_ofAnyBell σ (nI a) = some (nI ((a ||| a / 2 ^ 10 ||| a / 2 ^ 20) % 2 ^ 10)) := by
  unfold f_X9_ofAnyBell
  rw [lI 10, lI 20, ush (by omega) (by omega), ush (by omega) (by omega), or_nI, or_nI, and1023]
theorem any_tb (a s : Nat) : ((a ||| a / 2 ^ 10 ||| a / 2 ^ 20) % 2 ^ 10).testBit s = (decide (s < 10) && (a.testBit s || a.testBit (10 + s) || a.testBit (20 + s))) := by
  rw [Nat.testBit_mod_two_pow, Nat.testBit_or, Nat.testBit_or, Nat.testBit_div_two_pow, Nat.testBit_div_two_pow, Nat.add_comm s 10, Nat.add_comm s 20]
theorem rx_any {T : Tw} (hw : WT T) {D : Dy} (hD : OD T D) (p : Nat → Prop) [DecidablePred p] (hp : ∀ b, p b) : (rxM T D ||| rxM T D / 2 ^ 10 ||| rxM T D / 2 ^ 20) % 2 ^ 10 = rpM T D p := by
  apply Nat.eq_of_testBit_eq
  intro s
  apply bool_iff
  rw [any_tb, Bool.and_eq_true, decide_eq_true_eq, Bool.or_eq_true, Bool.or_eq_true]
  constructor
  · rintro ⟨hs, h⟩
    have : ∃ b, (rxM T D).testBit (10 * b + s) = true := by
      rcases h with (h | h) | h
      · exact ⟨0, by rw [show 10 * 0 + s = s by omega]; exact h⟩
      · exact ⟨1, h⟩
      · exact ⟨2, h⟩
    obtain ⟨b, h⟩ := this
    obtain ⟨k, g1, g2, g3, g4, g5⟩ := (rxM_tb hw hD hs).mp h
    exact rpM_tb.mpr ⟨k, g1, g2, g3, hp _, g5⟩
  · intro h
    have hs := lt_tb (rpM_lt hw hD p) h
    obtain ⟨k, g1, g2, g3, g4, g5⟩ := rpM_tb.mp h
    have h6 := (rxM_tb hw hD (b := tB T k) hs).mpr ⟨k, g1, g2, g3, rfl, g5⟩
    refine ⟨hs, ?_⟩
    have h7 := tB_lt hw g1 g3
    rcases (show tB T k = 0 ∨ tB T k = 1 ∨ tB T k = 2 by omega) with e | e | e
    · rw [e, show 10 * 0 + s = s by omega] at h6; exact Or.inl (Or.inl h6)
    · rw [e] at h6; exact Or.inl (Or.inr h6)
    · rw [e] at h6; exact Or.inr h6
theorem ex_if {α : Type} {p : Prop} [Decidable p] {x y : Option α} (h1 : p → ∃ v, x = some v) (h2 : ¬ p → ∃ v, y = some v) : ∃ v, (if p then x else y) = some v := by
  by_cases h : p
  · rw [if_pos h]; exact h1 h
  · rw [if_neg h]; exact h2 h
theorem ex_s {α : Type} (x : α) : ∃ v, some x = some v := ⟨x, rfl⟩
theorem op_count {σ : Mm} (hI : INV σ) : ∀ a : Int32, ∃ v, f_X9_count σ a = some v ∧ f_X10_count σ a = some v ∧ INV σ := by
  intro a
  obtain ⟨S, hw, hX, hM⟩ := id hI
  have wT := hw.2.1
  have mr := mRinging hM.2.1 wT hM.2.2.1 hw.2.2.1.od (-9)
  rw [← rx_any wT hw.2.2.1.od (fun b => (-9 : Int32) = -9 ∨ nI b = -9) (fun b => Or.inl rfl)] at mr
  have e : f_X9_count σ a = f_X10_count σ a := by
    unfold f_X9_count f_X10_count
    rw [xLets (K := 16) hX.2.2.1 hw.2.2.1.od, xWorth hX.2.1 wT (K := 16) hX.2.2.1 hw.2.2.1.od, xRinging hX.2.1 (K := 16) hX.2.2.1 hw.2.2.1.od, mLets hM.2.1 wT hM.2.2.1 hw.2.2.1.od, mr]
    simp only [b1_some]
    rw [mCoins hM.2.1 wT (letM_31 _), b1_some, xAny σ (rxM_lt wT _), b1_some, hX.1.1, hM.1.1, hX.2.1.1, hM.2.1.1, hX.2.1.2.1, hM.2.1.2.1, hX.2.2.2.1.1, hM.2.2.2.1.1, hX.2.2.2.2.1.1, hM.2.2.2.2.1.1]
  obtain ⟨v, hv⟩ : ∃ v, f_X9_count σ a = some v := by
    unfold f_X9_count
    rw [xLets (K := 16) hX.2.2.1 hw.2.2.1.od, xWorth hX.2.1 wT (K := 16) hX.2.2.1 hw.2.2.1.od, xRinging hX.2.1 (K := 16) hX.2.2.1 hw.2.2.1.od, b1_some, b1_some, b1_some, xAny σ (rxM_lt wT _), b1_some]
    exact ex_if (fun _ => ex_s _) fun _ => ex_if (fun _ => ex_s _) fun _ => ex_if (fun _ => ex_s _) fun _ => ex_if (fun _ => ex_s _) fun _ => ex_if (fun _ => ex_s _) fun _ => ex_if (fun _ => ex_s _) fun _ => ex_if (fun _ => ex_s _) fun _ => ex_if (fun _ => ex_s _) fun _ => ex_s _
  exact ⟨v, hv, e ▸ hv, hI⟩
theorem n10 : ¬ (1 : Int32) = 0 := by decide
theorem at_eq (σ : Mm) (c i n : Nat) (hl : cLen c = n) (hi : i < n) (hn : n < 2 ^ 31) : f_X9_at σ c (nI i) = some (σ.1 c i) := by
  unfold f_X9_at
  rw [hl, show Int32.ofNat n = nI n from rfl, if_neg (nI_pos (by omega)), if_neg (nI_ge hi hn), gd_t (inB_t hi hn), cl_nI (by omega)]
theorem op_bell {σ : Mm} (hI : INV σ) : ∀ a b : Int32, ∃ v, f_X9_bell σ a b = some v ∧ f_X10_bell σ a b = some v ∧ INV σ := by
  intro a b
  obtain ⟨S, hw, hX, hM⟩ := id hI
  have wT := hw.2.1
  have h3 := wT.1
  unfold f_X9_bell f_X10_bell
  rw [hasBell_eq hX.2.1.1, b1_some, isBell_eq hM.2.1.1 h3, b1_some]
  by_cases h1 : ¬ a < 0 ∧ a < nI (tNb S.2.1)
  · obtain ⟨k, hk, rfl⟩ := okx (by omega) h1
    have e1 := hX.2.1.2.2.1 k hk
    have e2 := hM.2.1.2.2.1 k hk
    have er := rx_b wT hw.2.2.1.od k (fun b => nI k = -9 ∨ nI b = nI k) (fun j hj hq => by
      have := tB_lt wT hj hq
      rw [ne9 (by omega), eq_nI (by omega) (by omega)]
      simp)
    rw [if_pos h1, if_neg n10, if_neg n10, at_eq σ 4 k 3 rfl (by omega) (by decide), at_eq σ 5 k 3 rfl (by omega) (by decide), xRinging hX.2.1 (K := 16) hX.2.2.1 hw.2.2.1.od, mRinging hM.2.1 wT hM.2.2.1 hw.2.2.1.od, b1_some, b1_some, b1_some, b1_some, xSecs σ (Nat.lt_trans (rxM_lt wT _) (by decide)) (by omega), b1_some, er, gd_t (inB_t (show k < 3 by omega) (by decide)), gd_t (inB_t (show k < 3 by omega) (by decide)), cl_nI (by omega), e1.1, e1.2, e2.1, e2.2]
    obtain ⟨v, hv⟩ : ∃ v, (if b = 0 then some (nI (tR S.2.1 k)) else if b = 1 then some (nI (tM S.2.1 k)) else if b = 2 then some (nI (rpM S.2.1 S.2.2.1 (fun b => nI k = -9 ∨ nI b = nI k))) else some (-2)) = some v := ex_if (fun _ => ex_s _) fun _ => ex_if (fun _ => ex_s _) fun _ => ex_if (fun _ => ex_s _) fun _ => ex_s _
    exact ⟨v, hv, hv, hI⟩
  · rw [if_neg h1, if_pos rfl, if_pos rfl]
    exact ⟨_, rfl, rfl, hI⟩
theorem mBegins {σ : Mm} {T : Tw} (h : MTw σ T) (hw : WT T) {k : Nat} (hk : k < tNd T) : f_X10_begins σ (nI k) = some (nI (begX T k)) := by
  unfold f_X10_begins begX
  rw [if_pos hk, ← it_or (f := fun s => if may T k s then 2 ^ s else 0) (fun _ _ => rfl) 10]
  refine (itL (fun n i a => f_X10_begins_p4 σ n (nI k) a i) some _ 10 (fun _ _ => True) trivial ?_ ?_ FU (by decide)).1
  · intro n i a hi _
    refine ⟨?_, trivial⟩
    simp (disch := omega) only [f_X10_begins_p4, lI 10, lI 1, le_nI, Nat.not_le.mpr hi, if_false, nI_add, mMay h hw hk hi, b1_some]
    by_cases c : may T k i = true
    · rw [if_pos c, if_pos c, if_neg (by decide), shl_nI 1 (by omega), Nat.one_mul]
    · rw [if_neg c, if_neg c, if_pos rfl, nI0]
  · intro n a _
    simp (disch := omega) only [f_X10_begins_p4, lI 10, le_nI, Nat.le_refl, if_true]
theorem op_bidder {σ : Mm} (hI : INV σ) : ∀ a b : Int32, ∃ v, f_X9_bidder σ a b = some v ∧ f_X10_bidder σ a b = some v ∧ INV σ := by
  intro a b
  obtain ⟨S, hw, hX, hM⟩ := id hI
  have wT := hw.2.1
  have h5 := wT.2.1
  unfold f_X9_bidder f_X10_bidder
  rw [hasBidder_eq hX.2.1.2.1, b1_some, isBidder_eq hM.2.1.2.1 h5, b1_some]
  by_cases h1 : ¬ a < 0 ∧ a < nI (tNd S.2.1)
  · obtain ⟨k, hk, rfl⟩ := okx (by omega) h1
    obtain ⟨e1, e2, e3, e4, e5, e6⟩ := hX.2.1.2.2.2.1 k hk
    obtain ⟨m1, m2, m3, m4, m5, m6⟩ := hM.2.1.2.2.2 k hk
    rw [if_pos h1, if_neg n10, if_neg n10, lL 5, in_ok σ b 5 (by decide), b1_some]
    have e7 := (hX.2.1.2.2.2.2 k (by omega)).1
    by_cases h2 : ¬ b < 0 ∧ ¬ nI 5 < b
    · have h6 : ok b 6 := by rw [← lt_succ b (n := 5) (by decide)]; exact h2
      obtain ⟨j, hj, rfl⟩ := okx (by decide) h6
      rw [if_pos h2, if_neg n10, lI 6, mul_nI, nI_add, gd_t (inB_t (by omega) (by decide)), cl_nI (by omega)]
      rcases (show j = 0 ∨ j = 1 ∨ j = 2 ∨ j = 3 ∨ j = 4 ∨ j = 5 by omega) with rfl | rfl | rfl | rfl | rfl | rfl
      · rw [if_pos nI0, at_eq σ 6 k 5 rfl (by omega) (by decide), b1_some, e1, show 6 * k + 0 = 6 * k from rfl, m1]
        exact ⟨_, rfl, rfl, hI⟩
      · rw [if_neg (by decide), if_pos (by decide), at_eq σ 7 k 5 rfl (by omega) (by decide), b1_some, e2, m2]
        exact ⟨_, rfl, rfl, hI⟩
      · rw [if_neg (by decide), if_neg (by decide), if_pos (by decide), at_eq σ 8 k 5 rfl (by omega) (by decide), b1_some, e3, m3]
        exact ⟨_, rfl, rfl, hI⟩
      · rw [if_neg (by decide), if_neg (by decide), if_neg (by decide), if_pos (by decide), at_eq σ 9 k 5 rfl (by omega) (by decide), b1_some, e4, m4]
        exact ⟨_, rfl, rfl, hI⟩
      · rw [if_neg (by decide), if_neg (by decide), if_neg (by decide), if_neg (by decide), if_pos (by decide), at_eq σ 10 k 5 rfl (by omega) (by decide), b1_some, e5, m5]
        exact ⟨_, rfl, rfl, hI⟩
      · rw [if_neg (by decide), if_neg (by decide), if_neg (by decide), if_neg (by decide), if_neg (by decide), if_pos (by decide), at_eq σ 11 k 5 rfl (by omega) (by decide), b1_some, e6, m6]
        exact ⟨_, rfl, rfl, hI⟩
    · have hne : ∀ j : Nat, j < 6 → ¬ b = (OfNat.ofNat j : Int32) := fun j hj e => h2 (by rw [e, lI]; exact ⟨nI_pos (by omega), nI_nlt (by omega) (by omega)⟩)
      rw [if_neg h2, if_pos rfl, if_neg (hne 0 (by decide)), if_neg (hne 1 (by decide)), if_neg (hne 2 (by decide)), if_neg (hne 3 (by decide)), if_neg (hne 4 (by decide)), if_neg (hne 5 (by decide)), xSecond (K := 16) hX.2.2.1 hw.2.2.1.od (show k < 5 by omega), b1_some, at_eq σ 12 k 5 rfl (by omega) (by decide), b1_some, e7, gd_t (inB_t (show k < 5 by omega) (by decide)), cl_nI (by omega), hM.2.2.1 k (by omega), mBegins hM.2.1 wT hk, b1_some]
      obtain ⟨v, hv⟩ : ∃ v, (if b = 6 then some (eD (S.2.2.1 k)) else if b = 7 then some (nI (begX S.2.1 k)) else some (-2)) = some v := ex_if (fun _ => ex_s _) fun _ => ex_if (fun _ => ex_s _) fun _ => ex_s _
      exact ⟨v, hv, hv, hI⟩
  · rw [if_neg h1, if_pos rfl, if_pos rfl]
    exact ⟨_, rfl, rfl, hI⟩
theorem op_rings {σ : Mm} (hI : INV σ) : ∀ a : Int32, ∃ v, f_X9_rings σ a = some v ∧ f_X10_rings σ a = some v ∧ INV σ := by
  intro a
  obtain ⟨S, hw, hX, hM⟩ := id hI
  have wT := hw.2.1
  have h3 := wT.1
  unfold f_X9_rings f_X10_rings
  rw [isSecond_eq, b1_some, in_sec, b1_some]
  by_cases h1 : ¬ a < 0 ∧ a < nI 10
  · obtain ⟨s, hs, rfl⟩ := okx (by decide) h1
    rw [if_pos h1, if_neg n10, if_neg n10, xRinging hX.2.1 (K := 16) hX.2.2.1 hw.2.2.1.od, b1_some]
    obtain ⟨R, hR⟩ : ∃ R, R = rxM S.2.1 S.2.2.1 := ⟨_, rfl⟩
    have hRl : R < 2 ^ 30 := by rw [hR]; exact rxM_lt wT _
    let f : Nat → Nat := fun b => if (R / 2 ^ (10 * b) % 2 ^ 10).testBit s = true then 2 ^ b else 0
    have er : ∀ b, b < 3 → rpM S.2.1 S.2.2.1 (fun c => nI b = -9 ∨ nI c = nI b) = R / 2 ^ (10 * b) % 2 ^ 10 := fun b hb => by
      rw [hR]
      exact (rx_b wT hw.2.2.1.od b (fun c => nI b = -9 ∨ nI c = nI b) (fun j hj hq => by
        have := tB_lt wT hj hq
        rw [ne9 (by omega), eq_nI (by omega) (by omega)]
        simp)).symm
    have c1 : f_X9_bellsAt σ (nI R) (nI s) = some (nI (orN f 3)) := by
      unfold f_X9_bellsAt
      rw [← it_or (f := f) (fun _ _ => rfl) 3]
      refine (itL (fun n i a => f_X9_bellsAt_p4 σ n (nI R) (nI s) a i) some _ 3 (fun _ _ => True) trivial ?_ ?_ FU (by decide)).1
      · intro n i a hi _
        refine ⟨?_, trivial⟩
        have hm : R / 2 ^ (10 * i) % 2 ^ 10 < 2 ^ 10 := Nat.mod_lt _ (by decide)
        simp (disch := omega) only [f_X9_bellsAt_p4, lI 3, le_nI, Nat.not_le.mpr hi, if_false, xSecs, b1_some, bnd_eq]
        rw [bit_u (by omega) (by omega), shl_nI _ (by omega), lI 1, nI_add]
        show f_X9_bellsAt_p4 σ n (nI R) (nI s) (a ||| nI ((if (R / 2 ^ (10 * i) % 2 ^ 10).testBit s = true then 1 else 0) * 2 ^ i)) (nI (i + 1)) = f_X9_bellsAt_p4 σ n (nI R) (nI s) (a ||| nI (if (R / 2 ^ (10 * i) % 2 ^ 10).testBit s = true then 2 ^ i else 0)) (nI (i + 1))
        split
        · rw [Nat.one_mul]
        · rw [Nat.zero_mul]
      · intro n a _
        simp (disch := omega) only [f_X9_bellsAt_p4, lI 3, le_nI, Nat.le_refl, if_true]
    have hz : ∀ b, tNb S.2.1 ≤ b → b < 3 → f b = 0 := fun b h1 h2 => by
      show (if (R / 2 ^ (10 * b) % 2 ^ 10).testBit s = true then 2 ^ b else 0) = 0
      rw [if_neg]
      intro h
      rw [sec_tb, Bool.and_eq_true, hR] at h
      obtain ⟨k, g1, g2, g3, g4, g5⟩ := (rxM_tb wT hw.2.2.1.od hs).mp h.2
      have := (wT.2.2.2 k g1).2.2.2.2.2.2.1 g3
      omega
    have c2 : f_X10_rings_p19 σ FU (nI s) 0 0 = some (nI (orN f 3)) := by
      rw [orN_ext (f := f) h3 hz, ← it_or (f := f) (fun _ _ => rfl) (tNb S.2.1)]
      refine (itL (fun n i a => f_X10_rings_p19 σ n (nI s) a i) some _ (tNb S.2.1) (fun _ _ => True) trivial ?_ ?_ FU (by have : FU = 1000000000 := rfl; omega)).1
      · intro n i a hi _
        refine ⟨?_, trivial⟩
        have hm : R / 2 ^ (10 * i) % 2 ^ 10 < 2 ^ 10 := Nat.mod_lt _ (by decide)
        simp (disch := omega) only [f_X10_rings_p19, hM.2.1.1, le_nI, Nat.not_le.mpr hi, if_false, mRinging hM.2.1 wT hM.2.2.1 hw.2.2.1.od, b1_some]
        rw [er i (by omega), mHas σ (by omega) (by omega), b1_some, lI 1, nI_add]
        show _ = f_X10_rings_p19 σ n (nI s) (a ||| nI (if (R / 2 ^ (10 * i) % 2 ^ 10).testBit s = true then 2 ^ i else 0)) (nI (i + 1))
        by_cases c : (R / 2 ^ (10 * i) % 2 ^ 10).testBit s = true
        · rw [if_pos c, if_pos c, if_neg (by decide), shl_nI 1 (by omega), Nat.one_mul]
        · rw [if_neg c, if_neg c, if_pos rfl, nI0]
      · intro n a _
        simp (disch := omega) only [f_X10_rings_p19, hM.2.1.1, le_nI, Nat.le_refl, if_true]
    rw [← hR, c1, b1_some, c2]
    exact ⟨_, rfl, rfl, hI⟩
  · rw [if_neg h1, if_pos rfl, if_pos rfl]
    exact ⟨_, rfl, rfl, hI⟩
