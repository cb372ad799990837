/-! undo, keep, again -/
theorem unD_sh (A : Nat → Nat × Nat) (D : Dy) : ∀ i, unD (fun j => A (j + 1)) i (upD D (A 0).1 (A 0).2) = unD A (i + 1) D
  | 0 => rfl
  | i + 1 => by
    show upD (unD (fun j => A (j + 1)) i (upD D (A 0).1 (A 0).2)) (A (i + 1)).1 (A (i + 1)).2 = upD (unD A (i + 1) D) (A (i + 1)).1 (A (i + 1)).2
    rw [unD_sh A D i]
theorem op_undo {σ : Mm} (hI : INV σ) : ∃ v τ ρ, f_X9_undo σ = some (v, τ) ∧ f_X10_undo τ = some (v, ρ) ∧ INV ρ := by
  obtain ⟨S, hw, hX, hM⟩ := id hI
  have wT := hw.2.1
  have h5 := wT.2.1
  obtain ⟨A, hA⟩ : ∃ A : Ac_, A = S.2.2.2.1 := ⟨_, rfl⟩
  obtain ⟨D, hDe⟩ : ∃ D : Dy, D = S.2.2.1 := ⟨_, rfl⟩
  have xA : XA σ A := by rw [hA]; exact hX.2.2.2.1
  have hA16 : A.1 ≤ 16 := by rw [hA]; exact hw.2.2.2.1.1
  have mA0 : MA σ A D := by rw [hA, hDe]; exact hM.2.2.2.1
  by_cases c0 : A.1 = 0
  · refine ⟨-3, σ, σ, ?_, ?_, hI⟩
    · unfold f_X9_undo
      rw [xA.1, c0, if_pos (show nI 0 = 0 from rfl)]
    · unfold f_X10_undo
      rw [mA0.1, c0, if_pos (show nI 0 = 0 from rfl)]
  · obtain ⟨a, ha⟩ : ∃ a, A.1 = a + 1 := ⟨A.1 - 1, by omega⟩
    have xw := xA.2 0 (by omega)
    rw [ha, show a + 1 - 1 - 0 = a by omega] at xw
    have hk : (A.2 0).1 < tNd S.2.1 := by rw [hA]; exact hw.2.2.2.1.2.1 0 (by rw [← hA]; omega)
    let τ : Mm := sI (sI σ 26 2 (nI a)) 17 (A.2 0).1 (nI (A.2 0).2)
    have hHi : Hi σ τ := ((Hi.rf σ).sI (by decide)).sI (by decide)
    have hMτ := hM.hi hHi
    obtain ⟨m1, x, hx, m2, m3⟩ : MA τ A D := by rw [hA, hDe]; exact hMτ.2.2.2.1
    let A' : Ac_ := (a, fun j => A.2 (j + 1))
    let D' : Dy := upD D (A.2 0).1 (A.2 0).2
    have eU : ∀ i, unD A'.2 i D' = unD A.2 (i + 1) D := unD_sh A.2 D
    have hwf : WF (S.1, S.2.1, D', A', S.2.2.2.2) := by
      obtain ⟨w1, w2, w3, ⟨w4, w5, w6⟩, w7, w8⟩ := hw
      rw [← hA, ← hDe] at w6
      rw [← hA] at w5
      refine ⟨w1, w2, ?_, ⟨?_, fun i hi => ?_, fun i hi => ?_⟩, w7, w8⟩
      · exact w6 1 (by omega)
      · show a ≤ 16; omega
      · exact w5 (i + 1) (by have : i < a := hi; omega)
      · show VD S.2.1 (unD A'.2 i D')
        rw [eU]
        exact w6 (i + 1) (by have : i ≤ a := hi; omega)
    have hX' : XI τ (S.1, S.2.1, D', A', S.2.2.2.2) := by
      refine XI.setD (τ := τ) (D := D') (A := A') hX (fun c _ h1 _ _ h2 => by show (sI (sI σ 26 2 (nI a)) 17 (A.2 0).1 (nI (A.2 0).2)).1 c = σ.1 c; rw [(sI_ne h1).1, (sI_ne (by omega)).1]) (fun _ _ => rfl) (fun j hj => ?_) ⟨by show (sI (sI σ 26 2 (nI a)) 17 (A.2 0).1 (nI (A.2 0).2)).1 26 2 = nI a; rw [sI_n (by omega), sI_s], fun i hi => ?_⟩
      · show τ.1 17 j = nI (if j = (A.2 0).1 then (A.2 0).2 else D j)
        by_cases c : j = (A.2 0).1
        · rw [if_pos c, c]; exact sI_s
        · rw [if_neg c, hDe]
          show (sI (sI σ 26 2 (nI a)) 17 (A.2 0).1 (nI (A.2 0).2)).1 17 j = _
          rw [sI_n (by omega), sI_n (by omega)]
          exact hX.2.2.1 j hj
      · have hi2 : i < a := hi
        have h2 := xA.2 (i + 1) (by omega)
        rw [ha, show a + 1 - 1 - (i + 1) = a - 1 - i by omega] at h2
        show (sI (sI σ 26 2 (nI a)) 17 (A.2 0).1 (nI (A.2 0).2)).1 27 (a - 1 - i) = _ ∧ (sI (sI σ 26 2 (nI a)) 17 (A.2 0).1 (nI (A.2 0).2)).1 28 (a - 1 - i) = _
        rw [sI_n (by omega), sI_n (by omega), sI_n (by omega), sI_n (by omega)]
        exact h2
    have e1 : f_X9_undo σ = some (nI a, τ) := by
      unfold f_X9_undo
      rw [xA.1, ha, if_neg (nI_ne0 (by omega) (by omega))]
      unfold f_X0_takeBack
      have q : (sI σ 26 2 (nI a)).1 26 2 = nI a := sI_s
      rw [xA.1, ha, if_neg (nI_nle (by omega) (by omega)), lI 16, if_neg (nI_nlt (by omega) (by decide)), lI 1, pk_sub (by omega), Nat.add_sub_cancel, q, gd_t (inB_t (show a < 16 by omega) (by decide)), gd_t (inB_t (show a < 16 by omega) (by decide)), cl_nI (by omega), sI_n (show ¬ (27 = 26 ∧ a = 2) by omega), sI_n (show ¬ (28 = 26 ∧ a = 2) by omega), xw.1, xw.2, tell_eq _ 16 _ _ (by omega), b1_some, b1_some]
      show some ((sI (sI σ 26 2 (nI a)) 17 (A.2 0).1 (nI (A.2 0).2)).1 26 2, τ) = some (nI a, τ)
      rw [sI_n (by omega), sI_s]
    let ρ0 : Mm := sI (sI τ 46 14 (nI a)) 46 15 (nI ((x + 15) % 16))
    have e2 : f_X10_undo τ = some (nI a, putR ρ0 52 0 5 (fun j => τ.1 54 (5 * ((x + 15) % 16) + j))) := by
      unfold f_X10_undo
      have q : (sI τ 46 14 (nI a)).1 46 15 = nI x := by rw [sI_n (by omega)]; exact m2
      rw [m1, ha, if_neg (nI_ne0 (by omega) (by omega)), lI 1, pk_sub (by omega), Nat.add_sub_cancel, q, lI 15, lI 16, nI_add, jrem_nI (by omega) (by decide) (by decide), bnd_eq]
      have e := (itL (fun n i ρ => f_X10_undo_p36 n i ρ) (fun ρ => some (ρ.1 46 14, ρ)) (fun i ρ => sI ρ 52 i (τ.1 54 (5 * ((x + 15) % 16) + i))) 5 (fun i ρ => ρ = putR ρ0 52 0 i (fun j => τ.1 54 (5 * ((x + 15) % 16) + j))) (putR_0 ρ0 52 0 _).symm ?_ ?_ FU (by decide))
      · rw [e.2] at e
        refine e.1.trans ?_
        rw [putR_ne (by decide)]
        show some ((sI (sI τ 46 14 (nI a)) 46 15 (nI ((x + 15) % 16))).1 46 14, _) = _
        rw [sI_n (by omega), sI_s]
      · intro n i ρ hi hp
        have r1 : ρ.1 46 15 = nI ((x + 15) % 16) := by rw [hp, putR_ne (by decide)]; exact sI_s
        have r2 : ∀ j, ρ.1 54 j = τ.1 54 j := fun j => by
          rw [hp, putR_ne (by decide)]
          show (sI (sI τ 46 14 (nI a)) 46 15 (nI ((x + 15) % 16))).1 54 j = _
          rw [sI_n (by omega), sI_n (by omega)]
        refine ⟨?_, ?_⟩
        · simp (disch := omega) only [f_X10_undo_p36, lI 5, lI 1, le_nI, Nat.not_le.mpr hi, if_false, nI_add, r1, mul_nI, gd_t (inB_t hi (by decide)), gd_t (inB_t (show 5 * ((x + 15) % 16) + i < 80 by omega) (by decide)), cl_nI, bnd_eq, r2]
        · rw [hp]
          have := putR_s (σ := ρ0) (c := 52) (base := 0) (i := i) (f := fun j => τ.1 54 (5 * ((x + 15) % 16) + j)) rfl
          rw [Nat.zero_add] at this
          exact this
      · intro n ρ _
        simp (disch := omega) only [f_X10_undo_p36, lI 5, le_nI, Nat.le_refl, if_true]
    refine ⟨nI a, τ, _, e1, e2, _, hwf, hX'.of ((((Lo.rf τ).sI (by decide)).sI (by decide)).putR (by decide)).X, ?_⟩
    have q46 : ∀ j, (putR ρ0 52 0 5 (fun j => τ.1 54 (5 * ((x + 15) % 16) + j))).1 46 j = ρ0.1 46 j := fun j => by rw [putR_ne (by decide)]
    refine MI.setD (τ := putR ρ0 52 0 5 (fun j => τ.1 54 (5 * ((x + 15) % 16) + j))) (D := D') (A := A') hMτ (fun c h1 h2 h3 => ?_) (fun j h1 h2 => ?_) rfl (fun j hj => ?_) ⟨?_, (x + 15) % 16, by omega, ?_, fun i hi j hj => ?_⟩
    · rw [putR_ne h2]
      show (sI (sI τ 46 14 (nI a)) 46 15 (nI ((x + 15) % 16))).1 c = τ.1 c
      rw [(sI_ne (by omega)).1, (sI_ne (by omega)).1]
    · rw [q46]
      show (sI (sI τ 46 14 (nI a)) 46 15 (nI ((x + 15) % 16))).1 46 j = τ.1 46 j
      rw [sI_n (by omega), sI_n (by omega)]
    · have := putR_at (σ := ρ0) (c := 52) (base := 0) (f := fun j => τ.1 54 (5 * ((x + 15) % 16) + j)) hj
      rw [Nat.zero_add] at this
      rw [this]
      have h3 := m3 0 (by omega) j hj
      rw [show (x + 15 - 0) % 16 = (x + 15) % 16 by omega] at h3
      exact h3
    · rw [q46]
      show (sI (sI τ 46 14 (nI a)) 46 15 (nI ((x + 15) % 16))).1 46 14 = nI a
      rw [sI_n (by omega), sI_s]
    · rw [q46]; exact sI_s
    · have hi2 : i < a := hi
      rw [putR_ne (by decide)]
      show (sI (sI τ 46 14 (nI a)) 46 15 (nI ((x + 15) % 16))).1 54 _ = eD (unD A'.2 (i + 1) D' j)
      rw [(sI_ne (by decide)).1, (sI_ne (by decide)).1, eU]
      have h3 := m3 (i + 1) (by omega) j hj
      rw [show ((x + 15) % 16 + 15 - i) % 16 = (x + 15 - (i + 1)) % 16 by omega]
      exact h3
def setK (K : Ks) (s : Nat) (D : Dy) : Ks := fun j => if j = s then some D else K j
theorem XI.setK' {σ τ : Mm} {S : Sp} (h : XI σ S) (g : ∀ k, k < 46 → ¬ (20 ≤ k ∧ k ≤ 25) → τ.1 k = σ.1 k) (g2 : ∀ k, k < 46 → τ.2 k = σ.2 k) {K : Ks} (hK : XK τ K) : XI τ (S.1, S.2.1, S.2.2.1, S.2.2.2.1, S.2.2.2.2.1, S.2.2.2.2.2.1, K) := by
  obtain ⟨a1, a2, a3, a4, a5, a6, a7, a8⟩ := h
  exact ⟨a1.of (g 1 (by decide) (by decide)) (g 2 (by decide) (by decide)), a2.of (fun k h1 h2 => g k (by omega) (by omega)) (g2 14 (by decide)), a3.of (g 17 (by decide) (by decide)), a4.of (g 26 (by decide) (by decide)) (g 27 (by decide) (by decide)) (g 28 (by decide) (by decide)), a5.of (g 36 (by decide) (by decide)) (g 37 (by decide) (by decide)) (g 38 (by decide) (by decide)), by rw [g2 0 (by decide)]; exact a6, hK⟩
theorem MI.setK' {σ τ : Mm} {S : Sp} (h : MI σ S) (g : ∀ k, 46 ≤ k → k ≠ 73 → k ≠ 74 → τ.1 k = σ.1 k) (g2 : τ.2 46 = σ.2 46) {K : Ks} (hK : MK τ K) : MI τ (S.1, S.2.1, S.2.2.1, S.2.2.2.1, S.2.2.2.2.1, S.2.2.2.2.2.1, K) := by
  obtain ⟨a1, a2, a3, a4, a5, a6, a7, a8⟩ := h
  have c := g 46 (by decide) (by decide) (by decide)
  exact ⟨a1.of (by rw [c]) (g 53 (by decide) (by decide) (by decide)), a2.of (by rw [c]) (by rw [c]) (g 47 (by decide) (by decide) (by decide)) (g 48 (by decide) (by decide) (by decide)) (g 49 (by decide) (by decide) (by decide)), a3.of (g 52 (by decide) (by decide) (by decide)), a4.of (by rw [c]) (by rw [c]) (g 54 (by decide) (by decide) (by decide)), a5.of (by rw [c]) (g 71 (by decide) (by decide) (by decide)) (g 72 (by decide) (by decide) (by decide)), by rw [g2]; exact a6, hK⟩
theorem in_slot (σ : Mm) (x : Int32) : f_X10_in σ x.toInt64 (0 : Int64) (1 : Int64) = some (if x = 0 ∨ x = 1 then 1 else 0) := by
  rw [lL 1, in_ok σ x 1 (by decide)]
  refine congrArg some (ifc (propext ⟨fun h => ?_, fun h => ?_⟩))
  · have h2 : ok x 2 := by rw [← lt_succ x (n := 1) (by decide)]; exact h
    obtain ⟨j, hj, rfl⟩ := okx (by decide) h2
    rcases (show j = 0 ∨ j = 1 by omega) with rfl | rfl
    · exact Or.inl rfl
    · exact Or.inr rfl
  · rcases h with rfl | rfl <;> decide
theorem op_keep {σ : Mm} (hI : INV σ) : ∀ a : Int32, ∃ v τ ρ, f_X9_keep a σ = some (v, τ) ∧ f_X10_keep a τ = some (v, ρ) ∧ INV ρ := by
  intro a
  obtain ⟨S, hw, hX, hM⟩ := id hI
  have wT := hw.2.1
  have key : ∀ s : Nat, s < 2 → ∀ c e : Nat, (c = 20 + 3 * s) → (e = 22 + 3 * s) → cRef c 0 = 21 + 3 * s → cRef (21 + 3 * s) 1 = e → cTag c = 6 → f_X9_slotOf σ (nI s) = some (some c) → ∃ v τ ρ, f_X9_keep (nI s) σ = some (v, τ) ∧ f_X10_keep (nI s) τ = some (v, ρ) ∧ INV ρ := by
    intro s hs c e hc he r1 r2 ht hsl
    let τ : Mm := sI (putR σ e 0 5 (σ.1 17)) c 1 1
    have hHi : Hi σ τ := ((Hi.rf σ).putR (by omega)).sI (by omega)
    have hMτ := hM.hi hHi
    let K' : Ks := setK S.2.2.2.2.2.2 s S.2.2.1
    have hD : XD τ 17 S.2.2.1 := fun j hj => by
      show (sI (putR σ e 0 5 (σ.1 17)) c 1 1).1 17 j = _
      rw [sI_n (by omega), putR_ne (by omega)]
      exact hX.2.2.1 j hj
    have hT : XTw τ S.2.1 := hX.2.1.of (fun k h1 h2 => by show (sI (putR σ e 0 5 (σ.1 17)) c 1 1).1 k = _; rw [(sI_ne (by omega)).1, putR_ne (by omega)]) rfl
    have e1 : f_X9_keep (nI s) σ = some (nI (worM S.2.1 (letM S.2.2.1)), τ) := by
      unfold f_X9_keep
      rw [hsl, b1_some]
      show gd (decide (cTag c = 6)) _ = _
      rw [gd_t (decide_eq_true ht)]
      unfold f_X6_fill
      rw [r1, copy_eq (by rw [r2]; show e ≠ 17; omega), b1_some, r2]
      show b1 (some τ) _ = _
      rw [b1_some, xWorth hT wT (K := 16) hD hw.2.2.1.od, b1_some]
    let ρ : Mm := putR (sI τ 73 s 1) 74 (5 * s) 5 (τ.1 52)
    have hMρ : MI ρ (S.1, S.2.1, S.2.2.1, S.2.2.2.1, S.2.2.2.2.1, S.2.2.2.2.2.1, K') := by
      refine MI.setK' (τ := ρ) (K := K') hMτ (fun k h1 h2 h3 => by show (putR (sI τ 73 s 1) 74 (5 * s) 5 (τ.1 52)).1 k = _; rw [putR_ne h3, (sI_ne h2).1]) rfl ?_
      have k1 : ∀ j, j < 2 → MK1 ρ j (K' j) := by
        intro j hj
        by_cases q : j = s
        · have e9 : K' j = some S.2.2.1 := if_pos q
          rw [e9, q]
          refine ⟨?_, fun k hk => ?_⟩
          · show (putR (sI τ 73 s 1) 74 (5 * s) 5 (τ.1 52)).1 73 s = 1
            rw [putR_ne (by decide), sI_s]
          · show (putR (sI τ 73 s 1) 74 (5 * s) 5 (τ.1 52)).1 74 (5 * s + k) = _
            rw [putR_at hk]
            exact hMτ.2.2.1 k hk
        · have e9 : K' j = S.2.2.2.2.2.2 j := if_neg q
          have old : MK1 τ j (S.2.2.2.2.2.2 j) := by
            rcases (show j = 0 ∨ j = 1 by omega) with rfl | rfl
            · exact hMτ.2.2.2.2.2.2.1
            · exact hMτ.2.2.2.2.2.2.2
          rw [e9]
          cases hK : S.2.2.2.2.2.2 j with
          | none =>
            rw [hK] at old
            show (putR (sI τ 73 s 1) 74 (5 * s) 5 (τ.1 52)).1 73 j = 0
            rw [putR_ne (by decide), sI_n (by omega)]
            exact old
          | some E =>
            rw [hK] at old
            refine ⟨?_, fun k hk => ?_⟩
            · show (putR (sI τ 73 s 1) 74 (5 * s) 5 (τ.1 52)).1 73 j = 1
              rw [putR_ne (by decide), sI_n (by omega)]
              exact old.1
            · show (putR (sI τ 73 s 1) 74 (5 * s) 5 (τ.1 52)).1 74 (5 * j + k) = _
              rw [putR_out (by omega), sI_n (by omega)]
              exact old.2 k hk
      exact ⟨k1 0 (by decide), k1 1 (by decide)⟩
    have e2 : f_X10_keep (nI s) τ = some (nI (worM S.2.1 (letM S.2.2.1)), ρ) := by
      unfold f_X10_keep
      rw [in_slot, if_pos (by rcases (show s = 0 ∨ s = 1 by omega) with rfl | rfl; exact Or.inl rfl; exact Or.inr rfl), b1_some, if_neg (by decide), gd_t (inB_t hs (by decide)), cl_nI (by omega), show ((1 : Int32) &&& 1) = 1 from rfl]
      have q := (itL (fun n i ζ => f_X10_keep_p21 n (nI s) i ζ) (fun ζ => b1 (f_X10_letNow ζ) (fun r2 => b1 (f_X10_coinsOf ζ r2) (fun r4 => some (r4, ζ)))) (fun i ζ => sI ζ 74 (5 * s + i) (τ.1 52 i)) 5 (fun i ζ => ζ = putR (sI τ 73 s 1) 74 (5 * s) i (τ.1 52)) (putR_0 _ _ _ _).symm ?_ ?_ FU (by decide))
      · rw [q.2] at q
        refine q.1.trans ?_
        show b1 (f_X10_letNow ρ) _ = _
        rw [mLets hMρ.2.1 wT hMρ.2.2.1 hw.2.2.1.od, b1_some]
        show b1 (f_X10_coinsOf ρ _) _ = _
        rw [mCoins hMρ.2.1 wT (letM_31 _), b1_some]
      · intro n i ζ hi hp
        have rr : ζ.1 52 i = τ.1 52 i := by rw [hp, putR_ne (by decide), sI_n (by omega)]
        refine ⟨?_, ?_⟩
        · simp (disch := omega) only [f_X10_keep_p21, lI 5, lI 1, le_nI, Nat.not_le.mpr hi, if_false, nI_add, mul_nI, gd_t (inB_t hi (by decide)), gd_t (inB_t (show 5 * s + i < 10 by omega) (by decide)), cl_nI, bnd_eq, rr]
        · rw [hp]
          exact putR_s rfl
      · intro n ζ _
        simp (disch := omega) only [f_X10_keep_p21, lI 5, le_nI, Nat.le_refl, if_true]
    refine ⟨_, τ, ρ, e1, e2, _, ?_, XI.of (σ := τ) ?_ (((Lo.rf τ).sI (by decide)).putR (by decide)).X, hMρ⟩
    · obtain ⟨w1, w2, w3, w4, w5, w6⟩ := hw
      refine ⟨w1, w2, w3, w4, w5, fun j E hE => ?_⟩
      by_cases q : j = s
      · have e9 : K' j = some S.2.2.1 := if_pos q
        have hE2 : K' j = some E := hE
        rw [e9] at hE2
        cases hE2
        exact w3
      · have e9 : K' j = S.2.2.2.2.2.2 j := if_neg q
        have hE2 : K' j = some E := hE
        rw [e9] at hE2
        exact w6 j E hE2
    · refine XI.setK' (τ := τ) (K := K') hX (fun k h1 h2 => by show (sI (putR σ e 0 5 (σ.1 17)) c 1 1).1 k = _; rw [(sI_ne (by omega)).1, putR_ne (by omega)]) (fun _ _ => rfl) ?_
      have k1 : ∀ j, j < 2 → XK1 τ (20 + 3 * j) (22 + 3 * j) (K' j) := by
        intro j hj
        by_cases q : j = s
        · have e9 : K' j = some S.2.2.1 := if_pos q
          rw [e9, q, ← hc, ← he]
          refine ⟨sI_s, fun k hk => ?_⟩
          show (sI (putR σ e 0 5 (σ.1 17)) c 1 1).1 e k = _
          have := putR_at (σ := σ) (c := e) (base := 0) (f := σ.1 17) hk
          rw [Nat.zero_add] at this
          rw [sI_n (by omega), this]
          exact hX.2.2.1 k hk
        · have e9 : K' j = S.2.2.2.2.2.2 j := if_neg q
          have old : XK1 σ (20 + 3 * j) (22 + 3 * j) (S.2.2.2.2.2.2 j) := by
            rcases (show j = 0 ∨ j = 1 by omega) with rfl | rfl
            · exact hX.2.2.2.2.2.2.1
            · exact hX.2.2.2.2.2.2.2
          rw [e9]
          exact old.of (by show (sI (putR σ e 0 5 (σ.1 17)) c 1 1).1 _ = _; rw [(sI_ne (by omega)).1, putR_ne (by omega)]) (by show (sI (putR σ e 0 5 (σ.1 17)) c 1 1).1 _ = _; rw [(sI_ne (by omega)).1, putR_ne (by omega)])
      exact ⟨k1 0 (by decide), k1 1 (by decide)⟩
  by_cases h0 : a = 0
  · rw [h0]
    exact key 0 (by decide) 20 22 rfl rfl rfl rfl rfl (by unfold f_X9_slotOf; rw [nI0, if_pos rfl])
  · by_cases h1 : a = 1
    · rw [h1]
      exact key 1 (by decide) 23 25 rfl rfl rfl rfl rfl (by unfold f_X9_slotOf; rfl)
    · refine ⟨-1, σ, σ, ?_, ?_, hI⟩
      · unfold f_X9_keep f_X9_slotOf
        rw [if_neg h0, if_neg h1, b1_some]
        rfl
      · unfold f_X10_keep
        rw [in_slot, if_neg (fun q => q.elim h0 h1), b1_some, if_pos rfl]
