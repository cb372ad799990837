/-! promises 9 to 13 -/
theorem VD.od {T : Tw} {D : Dy} (h : VD T D) : OD T D := h.1
theorem nok {p : Prop} [Decidable p] (h : ¬ p) : (if p then (1 : Int32) else 0) = 0 := if_neg h
theorem op_clashes {σ : Mm} (hI : INV σ) : ∀ a b : Int32, ∃ v, f_X9_clashes σ a b = some v ∧ f_X10_clashes σ a b = some v ∧ INV σ := by
  intro a b
  obtain ⟨S, hw, hX, hM⟩ := id hI
  have wT := hw.2.1
  have xT := hX.2.1
  have mT := hM.2.1
  unfold f_X9_clashes f_X10_clashes
  rw [hasBidder_eq xT.2.1, b1_some, isBidder_eq mT.2.1 wT.2.1, b1_some, isSecond_eq, in_sec]
  by_cases h1 : ¬ a < 0 ∧ a < nI (tNd S.2.1)
  · by_cases h2 : ¬ b < 0 ∧ b < nI 10
    · obtain ⟨k, hk, rfl⟩ := okx (by have := wT.2.1; omega) h1
      obtain ⟨s, hs, rfl⟩ := okx (by decide) h2
      rw [if_pos h1, if_neg (by decide), if_pos h2, b1_some, if_neg (by decide), if_neg (by decide), b1_some, if_neg (by decide), xMay_t xT wT hk hs, b1_some, mMay mT wT hk hs, b1_some]
      by_cases hm : may S.2.1 k s = true
      · rw [if_pos hm, if_neg (by decide), if_neg (by decide), xClashing xT wT (K := 16) hX.2.2.1 hw.2.2.1.od hk hm, b1_some, mClashes mT wT hM.2.2.1 hw.2.2.1.od hk hm, b1_some]
        exact ⟨_, rfl, rfl, hI⟩
      · rw [if_neg hm, if_pos rfl, if_pos rfl]
        exact ⟨_, rfl, rfl, hI⟩
    · rw [if_pos h1, if_neg (by decide), if_neg h2, b1_some, if_pos rfl, if_neg (by decide), b1_some, if_pos rfl]
      exact ⟨_, rfl, rfl, hI⟩
  · rw [if_neg h1, if_pos rfl, if_pos rfl]
    exact ⟨_, rfl, rfl, hI⟩
/-- the state behind an act -/
theorem WF_act {S : Sp} (hw : WF S) {k v : Nat} (hk : k < tNd S.2.1) (hD : VD S.2.1 (upD S.2.2.1 k v)) : WF (S.1, S.2.1, upD S.2.2.1 k v, pushA S.2.2.2.1 k (S.2.2.1 k), S.2.2.2.2) := by
  obtain ⟨w1, w2, w3, ⟨w4, w5, w6⟩, w7, w8⟩ := hw
  refine ⟨w1, w2, hD, ⟨?_, fun i hi => ?_, fun i hi => ?_⟩, w7, w8⟩
  · show (if S.2.2.2.1.1 < 16 then S.2.2.2.1.1 + 1 else 16) ≤ 16
    split <;> omega
  · have hi2 : i < if S.2.2.2.1.1 < 16 then S.2.2.2.1.1 + 1 else 16 := hi
    show (if i = 0 then (k, S.2.2.1 k) else S.2.2.2.1.2 (i - 1)).1 < tNd S.2.1
    by_cases c : i = 0
    · rw [if_pos c]; exact hk
    · rw [if_neg c]
      exact w5 (i - 1) (by split at hi2 <;> omega)
  · have hi2 : i ≤ if S.2.2.2.1.1 < 16 then S.2.2.2.1.1 + 1 else 16 := hi
    cases i with
    | zero => exact hD
    | succ i =>
      show VD S.2.1 (unD (pushA S.2.2.2.1 k (S.2.2.1 k)).2 (i + 1) (upD S.2.2.1 k v))
      rw [unD_push]
      exact w6 i (by split at hi2 <;> omega)
/-- both sides act alike: let, revoke, move -/
theorem both_act {σ : Mm} {S : Sp} (hw : WF S) (hX : XI σ S) (hM : MI σ S) {k v : Nat} (hk : k < tNd S.2.1) (hv : v ≤ 10) (hD : VD S.2.1 (upD S.2.2.1 k v)) :
    ∃ τ ρ, f_X9_act (nI k) (nI v) σ = some τ ∧ f_X10_keepAct τ = some ρ ∧ ρ.1 52 k = eD (S.2.2.1 k) ∧ WF (S.1, S.2.1, upD S.2.2.1 k v, pushA S.2.2.2.1 k (S.2.2.1 k), S.2.2.2.2) ∧ Hi σ τ ∧ XI τ (S.1, S.2.1, upD S.2.2.1 k v, pushA S.2.2.2.1 k (S.2.2.1 k), S.2.2.2.2) ∧ XI (sI ρ 52 k (eD v)) (S.1, S.2.1, upD S.2.2.1 k v, pushA S.2.2.2.1 k (S.2.2.1 k), S.2.2.2.2) ∧ MI (sI ρ 52 k (eD v)) (S.1, S.2.1, upD S.2.2.1 k v, pushA S.2.2.2.1 k (S.2.2.1 k), S.2.2.2.2) := by
  have h5 := hw.2.1.2.1
  obtain ⟨τ, e1, e2, e3, e4, e5⟩ := xAct hX.2.2.2.1 hw.2.2.2.1.1 hX.2.2.1 (show k < 5 by omega) v
  have hHi : Hi σ τ := fun c hc => ⟨e4 c (by omega) (by omega), by rw [e5]⟩
  have hMτ := hM.hi hHi
  obtain ⟨ρ, g1, g2, g3, g4, g5⟩ := mKeep (k := k) hMτ.2.2.2.1 hw.2.2.2.1.1 hMτ.2.2.1 v
  have hX' : XI τ (S.1, S.2.1, upD S.2.2.1 k v, pushA S.2.2.2.1 k (S.2.2.1 k), S.2.2.2.2) := hX.setD (fun c _ h1 _ _ h2 => e4 c h1 h2) (fun c _ => by rw [e5]) e3 e2
  have hLo : Lo τ ρ := fun c hc => ⟨g3 c (by omega) (by omega), by rw [g5]⟩
  refine ⟨τ, ρ, e1, g1, ?_, WF_act hw hk hD, hHi, hX', hX'.of (hLo.sI (by decide)).X, ?_⟩
  · rw [g3 52 (by decide) (by decide)]
    exact hMτ.2.2.1 k (by omega)
  · refine hMτ.setD (fun c h1 h2 h3 => by rw [(sI_ne h2).1, g3 c (by omega) h3]) (fun j h1 h2 => by rw [sI_n (by omega), g4 j h1 h2]) (by show ρ.2 46 = τ.2 46; rw [g5]) (fun j hj => ?_) (g2 _ (sI_n (by omega)) (sI_n (by omega)) (sI_ne (by decide)).1)
    show (sI ρ 52 k (eD v)).1 52 j = eD (if j = k then v else S.2.2.1 j)
    by_cases c : j = k
    · rw [if_pos c, c, sI_s]
    · rw [if_neg c, sI_n (by omega), g3 52 (by decide) (by decide)]
      exact hMτ.2.2.1 j hj
theorem letM_31 (D : Dy) : letM D < 2 ^ 31 := Nat.lt_trans (letM_lt D) (by decide)
theorem op_let {σ : Mm} (hI : INV σ) : ∀ a b : Int32, ∃ v τ ρ, f_X9_let a b σ = some (v, τ) ∧ f_X10_let a b τ = some (v, ρ) ∧ INV ρ := by
  intro a b
  obtain ⟨S, hw, hX, hM⟩ := id hI
  have wT := hw.2.1
  have h5 := wT.2.1
  have xT := hX.2.1
  have mT := hM.2.1
  have same : ∀ v, f_X9_let a b σ = some (v, σ) → f_X10_let a b σ = some (v, σ) → ∃ v τ ρ, f_X9_let a b σ = some (v, τ) ∧ f_X10_let a b τ = some (v, ρ) ∧ INV ρ := fun v e1 e2 => ⟨v, σ, σ, e1, e2, hI⟩
  by_cases h1 : ¬ a < 0 ∧ a < nI (tNd S.2.1)
  · by_cases h2 : ¬ b < 0 ∧ b < nI 10
    · obtain ⟨k, hk, rfl⟩ := okx (by omega) h1
      obtain ⟨s, hs, rfl⟩ := okx (by decide) h2
      have hle := hw.2.2.1.od.le k
      have mN := hM.2.2.1 k (by omega)
      by_cases c1 : S.2.2.1 k = 0
      · by_cases c2 : can S.2.1 S.2.2.1 k s = true
        · obtain ⟨τ, ρ, e1, e2, e3, e4, e5, e6, e7, e8⟩ := both_act hw hX hM hk (show s + 1 ≤ 10 by omega) (VD_up wT hw.2.2.1 hk hs c2)
          have hMτ := hM.hi e5
          have mTτ := hMτ.2.1
          have ed : eD (s + 1) = nI s := by unfold eD; rw [if_neg (by omega), Nat.add_sub_cancel]
          rw [ed] at e7 e8
          refine ⟨nI (worM S.2.1 (letM (upD S.2.2.1 k (s + 1)))), τ, sI ρ 52 k (nI s), ?_, ?_, _, e4, e7, e8⟩
          · unfold f_X9_let
            rw [hasBidder_eq xT.2.1, b1_some, if_pos h1, if_neg (by decide), isSecond_eq, b1_some, if_pos h2, if_neg (by decide), xLet (K := 16) hX.2.2.1 hw.2.2.1.od (show k < 5 by omega), b1_some, if_pos c1, if_pos rfl, xFits xT wT (K := 16) hX.2.2.1 hw.2.2.1.od hk hs, b1_some, if_pos c2, if_neg (by decide), lI 1, nI_add, e1, b1_some, xWorth e6.2.1 wT (K := 16) e6.2.2.1 e4.2.2.1.od, b1_some]
          · unfold f_X10_let
            rw [isBidder_eq mTτ.2.1 h5, b1_some, if_pos h1, if_neg (by decide), in_sec, b1_some, if_pos h2, if_neg (by decide), gd_t (inB_t (show k < 5 by omega) (by decide)), cl_nI (by omega), hMτ.2.2.1 k (by omega)]
            rw [if_pos (by rw [eD_0 hle]; exact c1), mCan mTτ wT hMτ.2.2.1 hw.2.2.1.od hk hs, b1_some, if_pos c2, if_neg (by decide), e2, b1_some, gd_t (inB_t (show k < 5 by omega) (by decide)), mLets e8.2.1 wT e8.2.2.1 e4.2.2.1.od, b1_some, mCoins e8.2.1 wT (letM_31 _), b1_some]
        · refine same (-3) ?_ ?_
          · unfold f_X9_let
            rw [hasBidder_eq xT.2.1, b1_some, if_pos h1, if_neg (by decide), isSecond_eq, b1_some, if_pos h2, if_neg (by decide), xLet (K := 16) hX.2.2.1 hw.2.2.1.od (show k < 5 by omega), b1_some, if_pos c1, if_pos rfl, xFits xT wT (K := 16) hX.2.2.1 hw.2.2.1.od hk hs, b1_some, if_neg c2, if_pos rfl]
          · unfold f_X10_let
            rw [isBidder_eq mT.2.1 h5, b1_some, if_pos h1, if_neg (by decide), in_sec, b1_some, if_pos h2, if_neg (by decide), gd_t (inB_t (show k < 5 by omega) (by decide)), cl_nI (by omega), mN]
            rw [if_pos (by rw [eD_0 hle]; exact c1), mCan mT wT hM.2.2.1 hw.2.2.1.od hk hs, b1_some, if_neg c2, if_pos rfl]
      · refine same (-3) ?_ ?_
        · unfold f_X9_let
          rw [hasBidder_eq xT.2.1, b1_some, if_pos h1, if_neg (by decide), isSecond_eq, b1_some, if_pos h2, if_neg (by decide), xLet (K := 16) hX.2.2.1 hw.2.2.1.od (show k < 5 by omega), b1_some, if_neg c1, if_neg (by decide)]
        · unfold f_X10_let
          rw [isBidder_eq mT.2.1 h5, b1_some, if_pos h1, if_neg (by decide), in_sec, b1_some, if_pos h2, if_neg (by decide), gd_t (inB_t (show k < 5 by omega) (by decide)), cl_nI (by omega), mN]
          rw [if_neg (by rw [eD_0 hle]; exact c1)]
    · refine same (-2) ?_ ?_
      · unfold f_X9_let
        rw [hasBidder_eq xT.2.1, b1_some, if_pos h1, if_neg (by decide), isSecond_eq, b1_some, if_neg h2, if_pos rfl]
      · unfold f_X10_let
        rw [isBidder_eq mT.2.1 h5, b1_some, if_pos h1, if_neg (by decide), in_sec, b1_some, if_neg h2, if_pos rfl]
  · refine same (-1) ?_ ?_
    · unfold f_X9_let
      rw [hasBidder_eq xT.2.1, b1_some, if_neg h1, if_pos rfl]
    · unfold f_X10_let
      rw [isBidder_eq mT.2.1 h5, b1_some, if_neg h1, if_pos rfl]
theorem op_revoke {σ : Mm} (hI : INV σ) : ∀ a : Int32, ∃ v τ ρ, f_X9_revoke a σ = some (v, τ) ∧ f_X10_revoke a τ = some (v, ρ) ∧ INV ρ := by
  intro a
  obtain ⟨S, hw, hX, hM⟩ := id hI
  have wT := hw.2.1
  have h5 := wT.2.1
  have xT := hX.2.1
  have mT := hM.2.1
  have same : ∀ v, f_X9_revoke a σ = some (v, σ) → f_X10_revoke a σ = some (v, σ) → ∃ v τ ρ, f_X9_revoke a σ = some (v, τ) ∧ f_X10_revoke a τ = some (v, ρ) ∧ INV ρ := fun v e1 e2 => ⟨v, σ, σ, e1, e2, hI⟩
  by_cases h1 : ¬ a < 0 ∧ a < nI (tNd S.2.1)
  · obtain ⟨k, hk, rfl⟩ := okx (by omega) h1
    have hle := hw.2.2.1.od.le k
    by_cases c1 : S.2.2.1 k = 0
    · refine same (-3) ?_ ?_
      · unfold f_X9_revoke
        rw [hasBidder_eq xT.2.1, b1_some, if_pos h1, if_neg (by decide), xLet (K := 16) hX.2.2.1 hw.2.2.1.od (show k < 5 by omega), b1_some, if_pos c1, if_pos rfl]
      · unfold f_X10_revoke
        rw [isBidder_eq mT.2.1 h5, b1_some, if_pos h1, if_neg (by decide), gd_t (inB_t (show k < 5 by omega) (by decide)), cl_nI (by omega), hM.2.2.1 k (by omega)]
        rw [if_pos (by rw [eD_0 hle]; exact c1)]
    · obtain ⟨τ, ρ, e1, e2, e3, e4, e5, e6, e7, e8⟩ := both_act hw hX hM hk (show 0 ≤ 10 by omega) (VD_no hw.2.2.1 k)
      have hMτ := hM.hi e5
      have ed : eD 0 = -9 := rfl
      rw [ed] at e7 e8
      refine ⟨nI (worM S.2.1 (letM (upD S.2.2.1 k 0))), τ, sI ρ 52 k (-9), ?_, ?_, _, e4, e7, e8⟩
      · unfold f_X9_revoke
        rw [hasBidder_eq xT.2.1, b1_some, if_pos h1, if_neg (by decide), xLet (K := 16) hX.2.2.1 hw.2.2.1.od (show k < 5 by omega), b1_some, if_neg c1, if_neg (by decide), lI 0, e1, b1_some, xWorth e6.2.1 wT (K := 16) e6.2.2.1 e4.2.2.1.od, b1_some]
      · unfold f_X10_revoke
        rw [isBidder_eq hMτ.2.1.2.1 h5, b1_some, if_pos h1, if_neg (by decide), gd_t (inB_t (show k < 5 by omega) (by decide)), cl_nI (by omega), hMτ.2.2.1 k (by omega)]
        rw [if_neg (by rw [eD_0 hle]; exact c1), e2, b1_some, gd_t (inB_t (show k < 5 by omega) (by decide)), mLets e8.2.1 wT e8.2.2.1 e4.2.2.1.od, b1_some, mCoins e8.2.1 wT (letM_31 _), b1_some]
  · refine same (-1) ?_ ?_
    · unfold f_X9_revoke
      rw [hasBidder_eq xT.2.1, b1_some, if_neg h1, if_pos rfl]
    · unfold f_X10_revoke
      rw [isBidder_eq mT.2.1 h5, b1_some, if_neg h1, if_pos rfl]
theorem op_move {σ : Mm} (hI : INV σ) : ∀ a b : Int32, ∃ v τ ρ, f_X9_move a b σ = some (v, τ) ∧ f_X10_move a b τ = some (v, ρ) ∧ INV ρ := by
  intro a b
  obtain ⟨S, hw, hX, hM⟩ := id hI
  have wT := hw.2.1
  have h5 := wT.2.1
  have xT := hX.2.1
  have mT := hM.2.1
  have same : ∀ v, f_X9_move a b σ = some (v, σ) → f_X10_move a b σ = some (v, σ) → ∃ v τ ρ, f_X9_move a b σ = some (v, τ) ∧ f_X10_move a b τ = some (v, ρ) ∧ INV ρ := fun v e1 e2 => ⟨v, σ, σ, e1, e2, hI⟩
  by_cases h1 : ¬ a < 0 ∧ a < nI (tNd S.2.1)
  · by_cases h2 : ¬ b < 0 ∧ b < nI 10
    · obtain ⟨k, hk, rfl⟩ := okx (by omega) h1
      obtain ⟨s, hs, rfl⟩ := okx (by decide) h2
      have hle := hw.2.2.1.od.le k
      have mN := hM.2.2.1 k (by omega)
      have g5 : inB (nI k) 5 = true := inB_t (show k < 5 by omega) (by decide)
      by_cases c1 : S.2.2.1 k = 0
      · refine same (-3) ?_ ?_
        · unfold f_X9_move
          rw [hasBidder_eq xT.2.1, b1_some, if_pos h1, if_neg (by decide), isSecond_eq, b1_some, if_pos h2, if_neg (by decide), xLet (K := 16) hX.2.2.1 hw.2.2.1.od (show k < 5 by omega), b1_some, if_pos c1, if_pos rfl]
        · unfold f_X10_move
          rw [isBidder_eq mT.2.1 h5, b1_some, if_pos h1, if_neg (by decide), in_sec, b1_some, if_pos h2, if_neg (by decide), gd_t g5, cl_nI (by omega), mN]
          rw [if_pos (by rw [eD_0 hle]; exact c1)]
      · have edk : eD (S.2.2.1 k) = nI (S.2.2.1 k - 1) := if_neg c1
        by_cases c3 : S.2.2.1 k - 1 = s
        · refine same (-3) ?_ ?_
          · unfold f_X9_move
            rw [hasBidder_eq xT.2.1, b1_some, if_pos h1, if_neg (by decide), isSecond_eq, b1_some, if_pos h2, if_neg (by decide), xLet (K := 16) hX.2.2.1 hw.2.2.1.od (show k < 5 by omega), b1_some, if_neg c1, if_neg (by decide), xSecond (K := 16) hX.2.2.1 hw.2.2.1.od (show k < 5 by omega), b1_some, edk, if_pos (by rw [c3])]
          · unfold f_X10_move
            rw [isBidder_eq mT.2.1 h5, b1_some, if_pos h1, if_neg (by decide), in_sec, b1_some, if_pos h2, if_neg (by decide), gd_t g5, cl_nI (by omega), mN]
            rw [if_neg (by rw [eD_0 hle]; exact c1), gd_t g5, edk, if_pos (by rw [c3])]
        · have ne3 : ¬ nI (S.2.2.1 k - 1) = nI s := by rw [eq_nI (by omega) (by omega)]; exact c3
          by_cases c2 : can S.2.1 S.2.2.1 k s = true
          · obtain ⟨τ, ρ, e1, e2, e3, e4, e5, e6, e7, e8⟩ := both_act hw hX hM hk (show s + 1 ≤ 10 by omega) (VD_up wT hw.2.2.1 hk hs c2)
            have hMτ := hM.hi e5
            have ed : eD (s + 1) = nI s := by unfold eD; rw [if_neg (by omega), Nat.add_sub_cancel]
            rw [ed] at e7 e8
            refine ⟨eD (S.2.2.1 k), τ, sI ρ 52 k (nI s), ?_, ?_, _, e4, e7, e8⟩
            · unfold f_X9_move
              rw [hasBidder_eq xT.2.1, b1_some, if_pos h1, if_neg (by decide), isSecond_eq, b1_some, if_pos h2, if_neg (by decide), xLet (K := 16) hX.2.2.1 hw.2.2.1.od (show k < 5 by omega), b1_some, if_neg c1, if_neg (by decide), xSecond (K := 16) hX.2.2.1 hw.2.2.1.od (show k < 5 by omega), b1_some, b1_some, edk, if_neg ne3, xFits xT wT (K := 16) hX.2.2.1 hw.2.2.1.od hk hs, b1_some, if_pos c2, if_neg (by decide), lI 1, nI_add, e1, b1_some]
            · unfold f_X10_move
              rw [isBidder_eq hMτ.2.1.2.1 h5, b1_some, if_pos h1, if_neg (by decide), in_sec, b1_some, if_pos h2, if_neg (by decide), gd_t g5, cl_nI (by omega), hMτ.2.2.1 k (by omega)]
              rw [if_neg (by rw [eD_0 hle]; exact c1), gd_t g5, edk, if_neg ne3, mCan hMτ.2.1 wT hMτ.2.2.1 hw.2.2.1.od hk hs, b1_some, if_pos c2, if_neg (by decide), e2, b1_some, gd_t g5, gd_t g5, e3, edk]
          · refine same (-3) ?_ ?_
            · unfold f_X9_move
              rw [hasBidder_eq xT.2.1, b1_some, if_pos h1, if_neg (by decide), isSecond_eq, b1_some, if_pos h2, if_neg (by decide), xLet (K := 16) hX.2.2.1 hw.2.2.1.od (show k < 5 by omega), b1_some, if_neg c1, if_neg (by decide), xSecond (K := 16) hX.2.2.1 hw.2.2.1.od (show k < 5 by omega), b1_some, edk, if_neg ne3, xFits xT wT (K := 16) hX.2.2.1 hw.2.2.1.od hk hs, b1_some, if_neg c2, if_pos rfl]
            · unfold f_X10_move
              rw [isBidder_eq mT.2.1 h5, b1_some, if_pos h1, if_neg (by decide), in_sec, b1_some, if_pos h2, if_neg (by decide), gd_t g5, cl_nI (by omega), mN]
              rw [if_neg (by rw [eD_0 hle]; exact c1), gd_t g5, edk, if_neg ne3, mCan mT wT hM.2.2.1 hw.2.2.1.od hk hs, b1_some, if_neg c2, if_pos rfl]
    · refine same (-2) ?_ ?_
      · unfold f_X9_move
        rw [hasBidder_eq xT.2.1, b1_some, if_pos h1, if_neg (by decide), isSecond_eq, b1_some, if_neg h2, if_pos rfl]
      · unfold f_X10_move
        rw [isBidder_eq mT.2.1 h5, b1_some, if_pos h1, if_neg (by decide), in_sec, b1_some, if_neg h2, if_pos rfl]
  · refine same (-1) ?_ ?_
    · unfold f_X9_move
      rw [hasBidder_eq xT.2.1, b1_some, if_neg h1, if_pos rfl]
    · unfold f_X10_move
      rw [isBidder_eq mT.2.1 h5, b1_some, if_neg h1, if_pos rfl]
