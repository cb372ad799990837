/-! the class lays a peal's tables -/
theorem begX_ext {T : Tw} {k a : Nat} (hk : k < tNd T) (ha : a < 2 ^ 10) (h : ∀ s, s < 10 → a.testBit s = may T k s) : begX T k = a := by
  apply Nat.eq_of_testBit_eq
  intro j
  by_cases hj : j < 10
  · rw [begX_tb hk hj, h j hj]
  · have e1 : (begX T k).testBit j = false := Bool.eq_false_iff.mpr (fun z => hj (lt_tb (begX_lt T k) z))
    have e2 : a.testBit j = false := Bool.eq_false_iff.mpr (fun z => hj (lt_tb ha z))
    rw [e1, e2]
theorem xStrokes {T : Tw} (hw : WT T) {k s : Nat} (hk : k < tNd T) (hq : tN T k ≠ 0) (hs : s < 10) (σ : Mm) (ke : Int32 → Int32 → Int32 → Int32 → Int32 → Int32 → Int32 → Int32 → Int32 → Int32 → Int32 → Mm → Option Mm) (x1 x2 x8 x9 : Int32) : ∀ (j i n : Nat), i + j = tN T k → j < n → f_X8_layPeal_p129 ke n x1 x2 (nI (tN T k)) (nI (tG T k)) (nI (kR T k)) (nI (kM T k)) x8 x9 (nI s) (nI (orN (fun i => spN (stA T k s i) (kR T k)) i)) (nI (orN (fun i => spN (stA T k s i) (kR T k + kM T k)) i)) (nI i) σ = ke x1 x2 (nI (tN T k)) (nI (tG T k)) (nI (kR T k)) (nI (kM T k)) x8 x9 (nI s) (nI (ringS T k s)) (nI (takeS T k s)) σ := by
  have hn3 := (hw.2.2.2 k hk).1
  have hkm := kM_le hw hk hq
  intro j
  induction j with
  | zero =>
    intro i n hi hn
    obtain ⟨n, rfl⟩ : ∃ k, n = k + 1 := ⟨n - 1, by omega⟩
    rw [f_X8_layPeal_p129, if_pos (nI_le (by omega) (by omega)), show i = tN T k by omega]
    rfl
  | succ j ih =>
    intro i n hi hn
    obtain ⟨n, rfl⟩ : ∃ k, n = k + 1 := ⟨n - 1, by omega⟩
    have e : nI s + nI i * (nI (kR T k) + nI (tG T k)) = nI (stA T k s i) := by
      rw [nI_add, mul_nI, nI_add]
      rfl
    have hb := stA_b hw hk hq hs (show i ≤ 3 by omega)
    rw [f_X8_layPeal_p129, if_neg (nI_ge (by omega) (by omega)), e, xStretch σ (by omega) (by omega), b1_some, nI_add, xStretch σ (by omega) (by omega), b1_some, or_nI, or_nI, lI 1, nI_add]
    exact ih (i + 1) n (by omega) (by omega)
def PLy (σ τ : Mm) (k : Nat) : Prop := (∀ c, c ≠ 15 → τ.1 c = σ.1 c) ∧ (∀ c, c ≠ 14 → τ.2 c = σ.2 c) ∧ ∀ j, j < 10 * k ∨ 10 * k + 10 ≤ j → τ.1 15 j = σ.1 15 j ∧ τ.2 14 j = σ.2 14 j
theorem PLy.rf (σ : Mm) (k : Nat) : PLy σ σ k := ⟨fun _ _ => rfl, fun _ _ => rfl, fun _ _ => ⟨rfl, rfl⟩⟩
theorem PLy.lay {σ τ : Mm} {k s : Nat} (h : PLy σ τ k) (hs : s < 10) (x : Int64) (y : Int32) : PLy σ (lay τ (10 * k + s) x y) k := by
  refine ⟨fun c hc => by rw [lay_1 hc]; exact h.1 c hc, fun c hc => by rw [lay_2 hc]; exact h.2.1 c hc, fun j hj => ?_⟩
  rw [(lay_n (show j ≠ 10 * k + s by omega)).1, (lay_n (show j ≠ 10 * k + s by omega)).2]
  exact h.2.2 j hj
def PSt (τ : Mm) (T : Tw) (k s : Nat) : Prop := ∀ s', s' < 10 → (s' < s → τ.1 15 (10 * k + s') = nI (ringX T k s') ∧ τ.2 14 (10 * k + s') = lN (takeX T k s')) ∧ (s ≤ s' → τ.1 15 (10 * k + s') = 0 ∧ τ.2 14 (10 * k + s') = 0)
theorem X_no {T : Tw} {k s : Nat} (h : ¬ may T k s = true) : ringX T k s = 0 ∧ takeX T k s = 0 := by
  constructor
  · unfold ringX; rw [if_neg (fun z => h z.2.2)]
  · unfold takeX; rw [if_neg (fun z => h z.2.2)]
theorem xPealL {T : Tw} (hw : WT T) {k : Nat} (hk : k < tNd T) (hq : tN T k ≠ 0) {σ : Mm} {x8 : Int32} {gd8 : Nat → Prop} (h8 : ∀ s, s ≤ 10 → ((x8 < nI s) ↔ ¬ gd8 s)) (hm : ∀ s, s < 10 → (may T k s = true ↔ tF T k ≤ s ∧ gd8 s)) (hg : ∀ s s', s ≤ s' → gd8 s' → gd8 s) : ∀ (j s n : Nat) (τ : Mm) (a : Nat), s + j = 10 → j < n → tF T k ≤ s → PLy σ τ k → PSt τ T k s → a < 2 ^ s → (∀ s', s' < s → a.testBit s' = may T k s') → ∃ ρ, f_X8_layPeal_p106 n (nI k) (nI (tB T k)) (nI (tN T k)) (nI (tG T k)) (nI (kR T k)) (nI (kM T k)) x8 (nI a) (nI s) τ = some (sI ρ 12 k (nI (begX T k))) ∧ PLy σ ρ k ∧ PSt ρ T k 10 := by
  have h5 := hw.2.1
  have hb := tB_lt hw hk hq
  have fin : ∀ (s : Nat) (τ : Mm) (a : Nat), s ≤ 10 → (∀ s', s ≤ s' → s' < 10 → ¬ may T k s' = true) → PSt τ T k s → a < 2 ^ s → (∀ s', s' < s → a.testBit s' = may T k s') → nI a = nI (begX T k) ∧ PSt τ T k 10 := by
    intro s τ a hs hno hl ha hbits
    constructor
    · congr 1
      refine (begX_ext hk (Nat.lt_of_lt_of_le ha (Nat.pow_le_pow_right (by decide) hs)) (fun s' hs' => ?_)).symm
      rcases Nat.lt_or_ge s' s with z | z
      · exact hbits s' z
      · have e1 : a.testBit s' = false := Bool.eq_false_iff.mpr (fun y => absurd (lt_tb ha y) (by omega))
        have e2 : may T k s' = false := Bool.eq_false_iff.mpr (hno s' z hs')
        rw [e1, e2]
    · intro s' hs'
      refine ⟨fun _ => ?_, fun z => by omega⟩
      rcases Nat.lt_or_ge s' s with z | z
      · exact (hl s' hs').1 z
      · rw [(X_no (hno s' z hs')).1, (X_no (hno s' z hs')).2]
        exact (hl s' hs').2 z
  intro j
  induction j with
  | zero =>
    intro s n τ a hs hn hf hL hl ha hbits
    obtain ⟨n, rfl⟩ : ∃ k, n = k + 1 := ⟨n - 1, by omega⟩
    obtain ⟨f1, f2⟩ := fin s τ a (by omega) (fun s' z1 z2 => by omega) hl ha hbits
    refine ⟨τ, ?_, hL, f2⟩
    rw [f_X8_layPeal_p106, lI 10, if_pos (show nI 10 ≤ nI s from nI_le (by omega) (by omega)), gd_t (inB_t (show k < 5 by omega) (by decide)), cl_nI (by omega), f1]
    split <;> rfl
  | succ j ih =>
    intro s n τ a hs hn hf hL hl ha hbits
    obtain ⟨n, rfl⟩ : ∃ k, n = k + 1 := ⟨n - 1, by omega⟩
    rw [f_X8_layPeal_p106, gd_t (inB_t (show k < 5 by omega) (by decide)), cl_nI (show k < 2 ^ 31 by omega)]
    by_cases c : gd8 s
    · have hmay : may T k s = true := (hm s (by omega)).mpr ⟨hf, c⟩
      rw [if_neg (fun z => (h8 s (by omega)).mp z c), lI 10, if_neg (nI_ge (by omega) (by decide))]
      have e := xStrokes hw hk hq (show s < 10 by omega) τ (f_X8_layPeal_p186 (f_X8_layPeal_p106 n)) (nI k) (nI (tB T k)) x8 (nI a) (tN T k) 0 FU (by omega) (Nat.lt_of_le_of_lt (hw.2.2.2 k hk).1 (by decide))
      have e' : f_X8_layPeal_p129 (f_X8_layPeal_p186 (f_X8_layPeal_p106 n)) FU (nI k) (nI (tB T k)) (nI (tN T k)) (nI (tG T k)) (nI (kR T k)) (nI (kM T k)) x8 (nI a) (nI s) (0 : Int32) (0 : Int32) (0 : Int32) τ = _ := e
      have hr := ringS_lt hw hk hq hmay
      have ht := takeS_lt hw hk hq hmay
      rw [e']
      unfold f_X8_layPeal_p186
      rw [lI 12, lI 10, mul_nI, mul_nI, nI_l (show takeS T k s < 2 ^ 31 by omega), shl_lN _ (show 12 * tB T k < 64 by omega), shl_nI _ (show 10 * tB T k < 32 by omega), xLay (show k < 5 by omega) (show s < 10 by omega), b1_some, lI 1, shl_nI 1 (show s < 32 by omega), Nat.one_mul, or_nI, nI_add]
      refine ih (s + 1) n _ (a ||| 2 ^ s) (by omega) (by omega) (by omega) (hL.lay (by omega) _ _) ?_ ?_ ?_
      · intro s' hs'
        refine ⟨fun z => ?_, fun z => ?_⟩
        · by_cases y : s' = s
          · subst y
            rw [ringX_p hk hq hmay, takeX_p hk hq hmay]
            exact lay_s
          · rw [(lay_n (show 10 * k + s' ≠ 10 * k + s by omega)).1, (lay_n (show 10 * k + s' ≠ 10 * k + s by omega)).2]
            exact (hl s' hs').1 (by omega)
        · rw [(lay_n (show 10 * k + s' ≠ 10 * k + s by omega)).1, (lay_n (show 10 * k + s' ≠ 10 * k + s by omega)).2]
          exact (hl s' hs').2 (by omega)
      · exact Nat.or_lt_two_pow (Nat.lt_of_lt_of_le ha (Nat.pow_le_pow_right (by decide) (by omega))) (pow_lt (by omega))
      · intro s' hs'
        rw [Nat.testBit_or, pow_tb]
        by_cases y : s' = s
        · subst y
          rw [hmay, decide_eq_true rfl, Bool.or_true]
        · rw [decide_eq_false (fun z => y z.symm), Bool.or_false]
          exact hbits s' (by omega)
    · obtain ⟨f1, f2⟩ := fin s τ a (by omega) (fun s' z1 z2 y => c (hg s s' z1 ((hm s' z2).mp y).2)) hl ha hbits
      refine ⟨τ, ?_, hL, f2⟩
      rw [if_pos ((h8 s (by omega)).mpr c), f1]
theorem lasts_eq {T : Tw} {k s : Nat} (hq : tN T k ≠ 0) (hn : tN T k ≤ 3) : stA T k s (tN T k - 1) + kR T k = s + (tN T k * kR T k + (tN T k - 1) * tG T k) := by
  unfold stA
  have : tN T k = 1 ∨ tN T k = 2 ∨ tN T k = 3 := by omega
  rcases this with z | z | z <;> rw [z] <;> simp only [Nat.mul_add, Nat.add_mul] <;> omega
theorem xPeal {T : Tw} (hw : WT T) {k : Nat} (hk : k < tNd T) (hq : tN T k ≠ 0) {σ : Mm} (h6 : σ.1 6 k = nI (tB T k)) (h7 : σ.1 7 k = nI (tN T k)) (h8 : σ.1 8 k = nI (tG T k)) (h9 : σ.1 9 k = nI (tF T k)) (h10 : σ.1 10 k = nI (tU T k)) (h4 : σ.1 4 (tB T k) = nI (kR T k)) (h5 : σ.1 5 (tB T k) = nI (kM T k)) (h0 : ∀ s, s < 10 → σ.1 15 (10 * k + s) = 0 ∧ σ.2 14 (10 * k + s) = 0) : ∃ ρ, f_X8_layPeal (nI k) σ = some (sI ρ 12 k (nI (begX T k))) ∧ PLy σ ρ k ∧ PSt ρ T k 10 := by
  have h55 := hw.2.1
  have hb := tB_lt hw hk hq
  have hkm := kM_le hw hk hq
  obtain ⟨a1, a2, a3, a4, _, _, _, _⟩ := hw.2.2.2 k hk
  have hmul : tN T k * kR T k + (tN T k - 1) * tG T k ≤ 15 := by
    have : tN T k * kR T k ≤ 3 * 3 := Nat.mul_le_mul a1 hkm.2.2
    have : (tN T k - 1) * tG T k ≤ 2 * 3 := Nat.mul_le_mul (by omega) a2
    omega
  have start : ∀ (x8 : Int32) (gd8 : Nat → Prop), (∀ s, s ≤ 10 → ((x8 < nI s) ↔ ¬ gd8 s)) → (∀ s, s < 10 → (may T k s = true ↔ tF T k ≤ s ∧ gd8 s)) → (∀ s s', s ≤ s' → gd8 s' → gd8 s) → ∃ ρ, f_X8_layPeal_p106 FU (nI k) (nI (tB T k)) (nI (tN T k)) (nI (tG T k)) (nI (kR T k)) (nI (kM T k)) x8 0 (nI (tF T k)) σ = some (sI ρ 12 k (nI (begX T k))) ∧ PLy σ ρ k ∧ PSt ρ T k 10 := by
    intro x8 gd8 g1 g2 g3
    refine xPealL hw hk hq g1 g2 g3 (10 - tF T k) (tF T k) FU σ 0 (by omega) (Nat.lt_of_le_of_lt (Nat.sub_le 10 _) (by decide)) (Nat.le_refl _) (PLy.rf σ k) ?_ (Nat.two_pow_pos _) ?_
    · intro s' hs'
      refine ⟨fun z => ?_, fun _ => h0 s' hs'⟩
      have hn : ¬ may T k s' = true := fun y => absurd ((g2 s' hs').mp y).1 (by omega)
      rw [(X_no hn).1, (X_no hn).2]
      exact h0 s' hs'
    · intro s' hs'
      rw [Nat.zero_testBit]
      exact (Bool.eq_false_iff.mpr (fun y => absurd ((g2 s' (by omega)).mp y).1 (by omega))).symm
  have p78 : ¬ (1 < tN T k ∧ tG T k < kM T k) → ∃ ρ, f_X8_layPeal_p78 (nI k) (nI (tB T k)) (nI (tN T k)) (nI (tG T k)) (nI (kR T k)) (nI (kM T k)) ((nI (tN T k) * nI (kR T k)) + ((nI (tN T k) - (1 : Int32)) * nI (tG T k))) σ = some (sI ρ 12 k (nI (begX T k))) ∧ PLy σ ρ k ∧ PSt ρ T k 10 := by
    intro hc
    unfold f_X8_layPeal_p78
    rw [at_eq σ 10 k 5 rfl (by omega) (by decide), b1_some, h10, at_eq σ 9 k 5 rfl (by omega) (by decide), b1_some, h9, lI 1, pk_sub (show 1 ≤ tN T k by omega), mul_nI, mul_nI, nI_add, nI_add]
    refine start _ (fun s => s + (tN T k * kR T k + (tN T k - 1) * tG T k) ≤ tU T k + 1) (fun s hs => ?_) (fun s hs => ?_) (fun s s' h1 h2 => by omega)
    · rw [Int32.lt_iff_toInt_lt, pk_sub_toInt (by omega) (by omega), nI_toInt (by omega)]
      omega
    · rw [may_p hq, lasts_eq hq a1]
      exact ⟨fun z => z.2, fun z => ⟨hc, z⟩⟩
  unfold f_X8_layPeal
  rw [at_eq σ 6 k 5 rfl (by omega) (by decide), b1_some, h6, at_eq σ 7 k 5 rfl (by omega) (by decide), b1_some, h7, at_eq σ 8 k 5 rfl (by omega) (by decide), b1_some, h8, at_eq σ 4 (tB T k) 3 rfl hb (by decide), b1_some, h4, at_eq σ 5 (tB T k) 3 rfl hb (by decide), b1_some, h5]
  by_cases c1 : tN T k ≤ 1
  · rw [if_pos (show nI (tN T k) ≤ 1 from nI_le (b := 1) c1 (by decide))]
    exact p78 (by omega)
  · rw [if_neg (show ¬ nI (tN T k) ≤ 1 from nI_ge (a := 1) (by omega) (by omega))]
    by_cases c2 : kM T k ≤ tG T k
    · rw [if_pos (nI_le c2 (by omega))]
      exact p78 (by omega)
    · rw [if_neg (nI_ge (by omega) (by omega)), at_eq σ 9 k 5 rfl (by omega) (by decide), b1_some, h9]
      refine start _ (fun _ => False) (fun s hs => ⟨fun _ => id, fun _ => neg9_lt (by omega)⟩) (fun s hs => ?_) (fun _ _ _ z => z)
      rw [may_p hq]
      exact ⟨fun z => absurd ⟨by omega, by omega⟩ z.1, fun z => z.2.elim⟩
