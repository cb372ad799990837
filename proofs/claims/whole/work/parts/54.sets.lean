/-! a block of the state changes, the others stay -/
theorem XI.setH {σ τ : Mm} {S : Sp} (h : XI σ S) (g : ∀ k, k < 46 → k ≠ 36 → k ≠ 37 → k ≠ 38 → τ.1 k = σ.1 k) (g2 : ∀ k, k < 46 → τ.2 k = σ.2 k) {h' : Hd} (hh : XH τ h') : XI τ (S.1, S.2.1, S.2.2.1, S.2.2.2.1, h', S.2.2.2.2.2) := by
  obtain ⟨a1, a2, a3, a4, a5, a6, a7, a8⟩ := h
  exact ⟨a1.of (g 1 (by decide) (by decide) (by decide) (by decide)) (g 2 (by decide) (by decide) (by decide) (by decide)), a2.of (fun k h1 h2 => g k (by omega) (by omega) (by omega) (by omega)) (g2 14 (by decide)), a3.of (g 17 (by decide) (by decide) (by decide) (by decide)), a4.of (g 26 (by decide) (by decide) (by decide) (by decide)) (g 27 (by decide) (by decide) (by decide) (by decide)) (g 28 (by decide) (by decide) (by decide) (by decide)), hh, by rw [g2 0 (by decide)]; exact a6, a7.of (g 20 (by decide) (by decide) (by decide) (by decide)) (g 22 (by decide) (by decide) (by decide) (by decide)), a8.of (g 23 (by decide) (by decide) (by decide) (by decide)) (g 25 (by decide) (by decide) (by decide) (by decide))⟩
theorem MI.setH {σ τ : Mm} {S : Sp} (h : MI σ S) (g : ∀ k, 46 < k → k ≠ 71 → k ≠ 72 → τ.1 k = σ.1 k) (q : ∀ j, j ≠ 38 → τ.1 46 j = σ.1 46 j) (g2 : τ.2 46 = σ.2 46) {h' : Hd} (hh : MH τ h') : MI τ (S.1, S.2.1, S.2.2.1, S.2.2.2.1, h', S.2.2.2.2.2) := by
  obtain ⟨a1, a2, a3, a4, a5, a6, a7, a8⟩ := h
  exact ⟨a1.of (q 9 (by decide)) (g 53 (by decide) (by decide) (by decide)), a2.of (q 0 (by decide)) (q 1 (by decide)) (g 47 (by decide) (by decide) (by decide)) (g 48 (by decide) (by decide) (by decide)) (g 49 (by decide) (by decide) (by decide)), a3.of (g 52 (by decide) (by decide) (by decide)), a4.of (q 14 (by decide)) (q 15 (by decide)) (g 54 (by decide) (by decide) (by decide)), hh, by rw [g2]; exact a6, a7.of (g 73 (by decide) (by decide) (by decide)) (g 74 (by decide) (by decide) (by decide)), a8.of (g 73 (by decide) (by decide) (by decide)) (g 74 (by decide) (by decide) (by decide))⟩
theorem XI.setT {σ τ : Mm} {S : Sp} (h : XI σ S) (g : ∀ k, k < 46 → k ≠ 1 → k ≠ 2 → τ.1 k = σ.1 k) (g2 : ∀ k, k < 46 → τ.2 k = σ.2 k) {t : Tx} (ht : XTx τ t) : XI τ (t, S.2) := by
  obtain ⟨a1, a2, a3, a4, a5, a6, a7, a8⟩ := h
  exact ⟨ht, a2.of (fun k h1 h2 => g k (by omega) (by omega) (by omega)) (g2 14 (by decide)), a3.of (g 17 (by decide) (by decide) (by decide)), a4.of (g 26 (by decide) (by decide) (by decide)) (g 27 (by decide) (by decide) (by decide)) (g 28 (by decide) (by decide) (by decide)), a5.of (g 36 (by decide) (by decide) (by decide)) (g 37 (by decide) (by decide) (by decide)) (g 38 (by decide) (by decide) (by decide)), by rw [g2 0 (by decide)]; exact a6, a7.of (g 20 (by decide) (by decide) (by decide)) (g 22 (by decide) (by decide) (by decide)), a8.of (g 23 (by decide) (by decide) (by decide)) (g 25 (by decide) (by decide) (by decide))⟩
theorem MI.setT {σ τ : Mm} {S : Sp} (h : MI σ S) (g : ∀ k, 46 < k → k ≠ 53 → τ.1 k = σ.1 k) (q : ∀ j, j ≠ 9 → τ.1 46 j = σ.1 46 j) (g2 : τ.2 46 = σ.2 46) {t : Tx} (ht : MTx τ t) : MI τ (t, S.2) := by
  obtain ⟨a1, a2, a3, a4, a5, a6, a7, a8⟩ := h
  exact ⟨ht, a2.of (q 0 (by decide)) (q 1 (by decide)) (g 47 (by decide) (by decide)) (g 48 (by decide) (by decide)) (g 49 (by decide) (by decide)), a3.of (g 52 (by decide) (by decide)), a4.of (q 14 (by decide)) (q 15 (by decide)) (g 54 (by decide) (by decide)), a5.of (q 38 (by decide)) (g 71 (by decide) (by decide)) (g 72 (by decide) (by decide)), by rw [g2]; exact a6, a7.of (g 73 (by decide) (by decide)) (g 74 (by decide) (by decide)), a8.of (g 73 (by decide) (by decide)) (g 74 (by decide) (by decide))⟩
/-- day, acts -/
theorem XI.setD {σ τ : Mm} {S : Sp} (h : XI σ S) (g : ∀ k, k < 46 → k ≠ 17 → k ≠ 18 → k ≠ 19 → ¬ (26 ≤ k ∧ k ≤ 28) → τ.1 k = σ.1 k) (g2 : ∀ k, k < 46 → τ.2 k = σ.2 k) {D : Dy} {A : Ac_} (hD : XD τ 17 D) (hA : XA τ A) : XI τ (S.1, S.2.1, D, A, S.2.2.2.2) := by
  obtain ⟨a1, a2, a3, a4, a5, a6, a7, a8⟩ := h
  have e : ∀ k, k < 46 → k ≠ 17 → k ≠ 18 → k ≠ 19 → ¬ (26 ≤ k ∧ k ≤ 28) → τ.1 k = σ.1 k := g
  exact ⟨a1.of (e 1 (by decide) (by decide) (by decide) (by decide) (by decide)) (e 2 (by decide) (by decide) (by decide) (by decide) (by decide)), a2.of (fun k h1 h2 => e k (by omega) (by omega) (by omega) (by omega) (by omega)) (g2 14 (by decide)), hD, hA, a5.of (e 36 (by decide) (by decide) (by decide) (by decide) (by decide)) (e 37 (by decide) (by decide) (by decide) (by decide) (by decide)) (e 38 (by decide) (by decide) (by decide) (by decide) (by decide)), by rw [g2 0 (by decide)]; exact a6, a7.of (e 20 (by decide) (by decide) (by decide) (by decide) (by decide)) (e 22 (by decide) (by decide) (by decide) (by decide) (by decide)), a8.of (e 23 (by decide) (by decide) (by decide) (by decide) (by decide)) (e 25 (by decide) (by decide) (by decide) (by decide) (by decide))⟩
theorem MI.setD {σ τ : Mm} {S : Sp} (h : MI σ S) (g : ∀ k, 46 < k → k ≠ 52 → k ≠ 54 → τ.1 k = σ.1 k) (q : ∀ j, j ≠ 14 → j ≠ 15 → τ.1 46 j = σ.1 46 j) (g2 : τ.2 46 = σ.2 46) {D : Dy} {A : Ac_} (hD : MD τ D) (hA : MA τ A D) : MI τ (S.1, S.2.1, D, A, S.2.2.2.2) := by
  obtain ⟨a1, a2, a3, a4, a5, a6, a7, a8⟩ := h
  exact ⟨a1.of (q 9 (by decide) (by decide)) (g 53 (by decide) (by decide) (by decide)), a2.of (q 0 (by decide) (by decide)) (q 1 (by decide) (by decide)) (g 47 (by decide) (by decide) (by decide)) (g 48 (by decide) (by decide) (by decide)) (g 49 (by decide) (by decide) (by decide)), hD, hA, a5.of (q 38 (by decide) (by decide)) (g 71 (by decide) (by decide) (by decide)) (g 72 (by decide) (by decide) (by decide)), by rw [g2]; exact a6, a7.of (g 73 (by decide) (by decide) (by decide)) (g 74 (by decide) (by decide) (by decide)), a8.of (g 73 (by decide) (by decide) (by decide)) (g 74 (by decide) (by decide) (by decide))⟩
theorem sI_n {σ : Mm} {k j a b : Nat} {v : Int32} (h : ¬ (a = k ∧ b = j)) : (sI σ k j v).1 a b = σ.1 a b := by rw [sI_1, if_neg h]
theorem sI_s {σ : Mm} {k j : Nat} {v : Int32} : (sI σ k j v).1 k j = v := by rw [sI_1, if_pos ⟨rfl, rfl⟩]
/-- promise 3 -/
theorem op_wipe {σ : Mm} (hI : INV σ) : ∃ v τ ρ, f_X9_wipe σ = some (v, τ) ∧ f_X10_wipe τ = some (v, ρ) ∧ INV ρ := by
  obtain ⟨S, hw, hX, hM⟩ := hI
  have hHi : Hi σ (sI σ 1 1 0) := (Hi.rf σ).sI (by decide)
  have hMτ := hM.hi hHi
  refine ⟨nI S.1.1, sI σ 1 1 0, sI (sI σ 1 1 0) 46 9 0, ?_, ?_, ((0, S.1.2), S.2), ⟨Nat.zero_le _, hw.2⟩, ?_, ?_⟩
  · unfold f_X9_wipe f_X7_clear
    rw [b2_some, hX.1.1]
  · unfold f_X10_wipe
    rw [hMτ.1.1]
  · have h1 : XI (sI σ 1 1 0) ((0, S.1.2), S.2) := hX.setT (fun k _ h1 h2 => (sI_ne h1).1) (fun _ _ => rfl) ⟨by rw [sI_s]; rfl, fun i hi => absurd hi (Nat.not_lt_zero i)⟩
    exact h1.of ((Lo.rf _).sI (by decide)).X
  · exact hMτ.setT (fun k h1 h2 => (sI_ne (by omega)).1) (fun j hj => sI_n (by omega)) rfl ⟨by rw [sI_s]; rfl, fun i hi => absurd hi (Nat.not_lt_zero i)⟩
/-- promise 23 -/
theorem op_unhear {σ : Mm} (hI : INV σ) : ∃ v τ ρ, f_X9_unhear σ = some (v, τ) ∧ f_X10_unhear τ = some (v, ρ) ∧ INV ρ := by
  obtain ⟨S, hw, hX, hM⟩ := hI
  have hHi : Hi σ (sI σ 36 2 0) := (Hi.rf σ).sI (by decide)
  have hMτ := hM.hi hHi
  refine ⟨nI S.2.2.2.2.1.1, sI σ 36 2 0, sI (sI σ 36 2 0) 46 38 0, ?_, ?_, (S.1, S.2.1, S.2.2.1, S.2.2.2.1, (0, S.2.2.2.2.1.2), S.2.2.2.2.2), ?_, ?_, ?_⟩
  · unfold f_X9_unhear f_X3_clear
    rw [b2_some, hX.2.2.2.2.1.1]
  · unfold f_X10_unhear
    rw [hMτ.2.2.2.2.1.1]
  · obtain ⟨w1, w2, w3, w4, w5, w6⟩ := hw
    exact ⟨w1, w2, w3, w4, ⟨Nat.zero_le _, fun i hi => absurd hi (Nat.not_lt_zero i)⟩, w6⟩
  · have h1 := hX.setH (τ := sI σ 36 2 0) (h' := (0, S.2.2.2.2.1.2)) (fun k _ h1 h2 h3 => (sI_ne h1).1) (fun _ _ => rfl) ⟨by rw [sI_s]; rfl, fun i hi => absurd hi (Nat.not_lt_zero i)⟩
    exact h1.of ((Lo.rf _).sI (by decide)).X
  · exact hMτ.setH (fun k h1 h2 h3 => (sI_ne (by omega)).1) (fun j hj => sI_n (by omega)) rfl ⟨by rw [sI_s]; rfl, fun i hi => absurd hi (Nat.not_lt_zero i)⟩
/-- promise 28 -/
theorem op_seed {σ : Mm} (hI : INV σ) : ∀ w : Int64, ∃ v τ ρ, f_X9_seed w σ = some (v, τ) ∧ f_X10_seed w τ = some (v, ρ) ∧ INV ρ := by
  intro w
  obtain ⟨S, hw, hX, hM⟩ := hI
  have hHi : Hi σ (sJ σ 0 12 w) := (Hi.rf σ).sJ (by decide)
  have hMτ := hM.hi hHi
  refine ⟨S.2.2.2.2.2.1, sJ σ 0 12 w, sJ (sJ σ 0 12 w) 46 41 w, ?_, ?_, (S.1, S.2.1, S.2.2.1, S.2.2.2.1, S.2.2.2.2.1, w, S.2.2.2.2.2.2), ?_, ?_, ?_⟩
  · unfold f_X9_seed
    rw [hX.2.2.2.2.2.1]
  · unfold f_X10_seed
    rw [hMτ.2.2.2.2.2.1]
  · obtain ⟨w1, w2, w3, w4, w5, w6⟩ := hw
    exact ⟨w1, w2, w3, w4, w5, w6⟩
  · obtain ⟨a1, a2, a3, a4, a5, a6, a7, a8⟩ := hX
    have h1 : XI (sJ σ 0 12 w) (S.1, S.2.1, S.2.2.1, S.2.2.2.1, S.2.2.2.2.1, w, S.2.2.2.2.2.2) := ⟨a1, a2.of (fun _ _ _ => rfl) (sJ_ne (by decide)).2, a3, a4, a5, by show (sJ σ 0 12 w).2 0 12 = w; simp [sJ_2], a7.of rfl rfl, a8.of rfl rfl⟩
    exact h1.of ((Lo.rf _).sJ (by decide)).X
  · obtain ⟨a1, a2, a3, a4, a5, a6, a7, a8⟩ := hMτ
    exact ⟨a1, a2, a3, a4, a5, by show (sJ (sJ σ 0 12 w) 46 41 w).2 46 41 = w; simp [sJ_2], a7.of rfl rfl, a8.of rfl rfl⟩
theorem all_nI {n : Nat} (hn : n ≤ 5) : jshl 1 (nI n) - 1 = nI (2 ^ n - 1) := by
  rw [lI 1, shl_nI 1 (by omega), Nat.one_mul, pk_sub (Nat.two_pow_pos n)]
theorem in_set (σ : Mm) (x : Int32) (n : Nat) (hn : n ≤ 5) : f_X10_in σ x.toInt64 (0 : Int64) ((nI (2 ^ n - 1)).toInt64) = some (if ¬ x < 0 ∧ ¬ nI (2 ^ n - 1) < x then 1 else 0) := by
  have : 2 ^ n ≤ 2 ^ 5 := Nat.pow_le_pow_right (by decide) hn
  rw [nI_l (by omega), in_ok σ x _ (by omega)]
/-- promise 22 -/
theorem op_hear {σ : Mm} (hI : INV σ) : ∀ a b : Int32, ∃ v τ ρ, f_X9_hear a b σ = some (v, τ) ∧ f_X10_hear a b τ = some (v, ρ) ∧ INV ρ := by
  intro a b
  obtain ⟨S, hw, hX, hM⟩ := hI
  have hnb : tNb S.2.1 ≤ 3 := hw.2.1.1
  have hp8 : 2 ^ tNb S.2.1 ≤ 2 ^ 3 := Nat.pow_le_pow_right (by decide) hnb
  have xb : σ.1 3 0 = nI (tNb S.2.1) := hX.2.1.1
  have mb : ∀ τ, MI τ S → τ.1 46 0 = nI (tNb S.2.1) := fun τ h => h.2.1.1
  unfold f_X9_hear f_X8_everyBell f_X10_hear
  rw [isSecond_eq, xb, all_nI (by omega)]
  by_cases h1 : ¬ a < 0 ∧ a < nI 10
  · by_cases h2 : ¬ b < 0 ∧ ¬ nI (2 ^ tNb S.2.1 - 1) < b
    · obtain ⟨j, hj, rfl⟩ := okx (by decide) h1
      have h2' : ok b (2 ^ tNb S.2.1 - 1 + 1) := by rw [← lt_succ b (by omega)]; exact h2
      obtain ⟨c, hc, rfl⟩ := okx (by omega) h2'
      obtain ⟨h, hh⟩ : ∃ h : Hd, h = S.2.2.2.2.1 := ⟨_, rfl⟩
      have x5 : XH σ h := by rw [hh]; exact hX.2.2.2.2.1
      have h6 : h.1 ≤ 6 := by rw [hh]; exact hw.2.2.2.2.1.1
      by_cases h3 : h.1 = 6
      · refine ⟨-4, σ, σ, ?_, ?_, ⟨S, hw, hX, hM⟩⟩
        · rw [if_pos h1, b1_some, if_neg (by decide), if_neg h2.1, b1_some, if_pos (by rw [gt_iff]; exact h2.2)]
          unfold f_X3_append
          rw [x5.1, h3, if_neg (nI_pos (by decide)), lI 6, if_neg (nI_nlt (Nat.le_refl _) (by decide)), b2_some]
        · have m5 : MH σ h := by rw [hh]; exact hM.2.2.2.2.1
          rw [in_sec, if_pos h1, b1_some, if_neg (by decide), mb σ hM, all_nI (by omega), in_set σ _ _ (by omega), if_pos h2, b1_some, if_neg (by decide), m5.1, h3, lI 6, if_pos rfl]
      · have hlt : h.1 < 6 := by omega
        obtain ⟨τ, hτ⟩ : ∃ τ, τ = sI (sI (sI σ 37 h.1 (nI j)) 38 h.1 (nI c)) 36 2 (nI (h.1 + 1)) := ⟨_, rfl⟩
        have hHi : Hi σ τ := by rw [hτ]; exact (((Hi.rf σ).sI (by decide)).sI (by decide)).sI (by decide)
        have hMτ := hM.hi hHi
        have m5 : MH τ h := by rw [hh]; exact hMτ.2.2.2.2.1
        let h' : Hd := (h.1 + 1, fun i => if i = h.1 then (j, c) else h.2 i)
        refine ⟨nI (h.1 + 1), τ, sI (sI (sI τ 71 h.1 (nI j)) 72 h.1 (nI c)) 46 38 (nI (h.1 + 1)), ?_, ?_, (S.1, S.2.1, S.2.2.1, S.2.2.2.1, h', S.2.2.2.2.2), ?_, ?_, ?_⟩
        · rw [if_pos h1, b1_some, if_neg (by decide), if_neg h2.1, b1_some, if_pos (by rw [gt_iff]; exact h2.2)]
          unfold f_X3_append
          have e9 : (sI σ 37 h.1 (nI j)).1 36 2 = nI h.1 := by rw [sI_n (by omega)]; exact x5.1
          have e8 : (sI (sI σ 37 h.1 (nI j)) 38 h.1 (nI c)).1 36 2 = nI h.1 := by rw [sI_n (by omega)]; exact e9
          rw [x5.1, if_neg (nI_pos (by omega)), lI 6, if_pos (nI_lt hlt (by decide)), gd_t (inB_t hlt (by decide)), cl_nI (by omega), e9, gd_t (inB_t hlt (by decide)), bnd_eq, cl_nI (by omega), e8, lI 1, nI_add, ← hτ, b2_some, hτ, sI_s]
        · have e9 : (sI τ 71 h.1 (nI j)).1 46 38 = nI h.1 := by rw [sI_n (by omega)]; exact m5.1
          have e8 : (sI (sI τ 71 h.1 (nI j)) 72 h.1 (nI c)).1 46 38 = nI h.1 := by rw [sI_n (by omega)]; exact e9
          rw [in_sec, if_pos h1, b1_some, if_neg (by decide), mb τ hMτ, all_nI (by omega), in_set τ _ _ (by omega), if_pos h2, b1_some, if_neg (by decide), m5.1, lI 6, if_neg (fun e => h3 ((nI_eq (by omega) (by decide)).mp e)), gd_t (inB_t hlt (by decide)), cl_nI (by omega), e9, gd_t (inB_t hlt (by decide)), bnd_eq, cl_nI (by omega), e8, lI 1, nI_add, sI_s]
        · obtain ⟨w1, w2, w3, w4, w5, w6⟩ := hw
          refine ⟨w1, w2, w3, w4, ⟨hlt, fun i hi => ?_⟩, w6⟩
          show (if i = h.1 then (j, c) else h.2 i).1 < 10 ∧ (if i = h.1 then (j, c) else h.2 i).2 < 8
          by_cases hi2 : i = h.1
          · rw [if_pos hi2]; exact ⟨hj, by omega⟩
          · rw [if_neg hi2, hh]
            have hi3 : i < h.1 + 1 := hi
            exact w5.2 i (by rw [← hh]; omega)
        · have q1 := hX.setH (τ := τ) (h' := h') (fun k _ h1 h2 h3 => by rw [hτ, (sI_ne h1).1, (sI_ne h3).1, (sI_ne h2).1]) (fun _ _ => by rw [hτ]; rfl) ⟨by rw [hτ, sI_s], fun i hi => by
            have hi3 : i < h.1 + 1 := hi
            show τ.1 37 i = nI (if i = h.1 then (j, c) else h.2 i).1 ∧ τ.1 38 i = nI (if i = h.1 then (j, c) else h.2 i).2
            rw [hτ]
            by_cases hi2 : i = h.1
            · subst hi2
              rw [if_pos rfl]
              exact ⟨by rw [sI_n (by omega), sI_n (by omega), sI_s], by rw [sI_n (by omega), sI_s]⟩
            · rw [if_neg hi2, sI_n (by omega), sI_n (by omega), sI_n (by omega), sI_n (by omega), sI_n (by omega), sI_n (by omega)]
              exact x5.2 i (by omega)⟩
          exact q1.of ((((Lo.rf _).sI (by decide)).sI (by decide)).sI (by decide)).X
        · refine MI.setH (τ := sI (sI (sI τ 71 h.1 (nI j)) 72 h.1 (nI c)) 46 38 (nI (h.1 + 1))) (h' := h') hMτ (fun k h1 h2 h3 => by rw [(sI_ne (by omega)).1, (sI_ne h3).1, (sI_ne h2).1]) (fun j hj => by rw [sI_n (by omega), sI_n (by omega), sI_n (by omega)]) rfl ⟨by rw [sI_s], fun i hi => ?_⟩
          have hi3 : i < h.1 + 1 := hi
          show (sI (sI (sI τ 71 h.1 (nI j)) 72 h.1 (nI c)) 46 38 (nI (h.1 + 1))).1 71 i = nI (if i = h.1 then (j, c) else h.2 i).1 ∧ (sI (sI (sI τ 71 h.1 (nI j)) 72 h.1 (nI c)) 46 38 (nI (h.1 + 1))).1 72 i = nI (if i = h.1 then (j, c) else h.2 i).2
          by_cases hi2 : i = h.1
          · subst hi2
            rw [if_pos rfl]
            exact ⟨by rw [sI_n (by omega), sI_n (by omega), sI_s], by rw [sI_n (by omega), sI_s]⟩
          · rw [if_neg hi2, sI_n (by omega), sI_n (by omega), sI_n (by omega), sI_n (by omega), sI_n (by omega), sI_n (by omega)]
            exact m5.2 i (by omega)
    · refine ⟨-2, σ, σ, ?_, ?_, ⟨S, hw, hX, hM⟩⟩
      · rw [if_pos h1, b1_some, if_neg (by decide)]
        by_cases h3 : b < 0
        · rw [if_pos h3]
        · rw [if_neg h3, b1_some, if_neg (by rw [gt_iff]; intro h4; exact h2 ⟨h3, h4⟩)]
      · rw [in_sec, if_pos h1, b1_some, if_neg (by decide), mb σ hM, all_nI (by omega), in_set σ _ _ (by omega), if_neg h2, b1_some, if_pos rfl]
  · refine ⟨-2, σ, σ, ?_, ?_, ⟨S, hw, hX, hM⟩⟩
    · rw [if_neg h1, b1_some, if_pos rfl]
    · rw [in_sec, if_neg h1, b1_some, if_pos rfl]
