/-! the law's function, out of what each call does -/
def OP_write (I : Mm → Prop) (σ : Mm) : Prop := ∀ (a : Int32), ∃ v : Int32, ∃ τ : Mm, ∃ ρ : Mm, f_X9_write a σ = some (v, τ) ∧ f_X10_write a τ = some (v, ρ) ∧ I ρ
def OP_wipe (I : Mm → Prop) (σ : Mm) : Prop := ∃ v : Int32, ∃ τ : Mm, ∃ ρ : Mm, f_X9_wipe σ = some (v, τ) ∧ f_X10_wipe τ = some (v, ρ) ∧ I ρ
def OP_fault (I : Mm → Prop) (σ : Mm) : Prop := ∃ v : Int32, ∃ ρ : Mm, f_X9_fault σ = some v ∧ f_X10_fault σ = some (v, ρ) ∧ I ρ
def OP_tower (I : Mm → Prop) (σ : Mm) : Prop := ∃ v : Int32, ∃ τ : Mm, ∃ ρ : Mm, f_X9_tower σ = some (v, τ) ∧ f_X10_tower τ = some (v, ρ) ∧ I ρ
def OP_bell (I : Mm → Prop) (σ : Mm) : Prop := ∀ (a : Int32) (b : Int32), ∃ v : Int32, f_X9_bell σ a b = some v ∧ f_X10_bell σ a b = some v ∧ I σ
def OP_bidder (I : Mm → Prop) (σ : Mm) : Prop := ∀ (a : Int32) (b : Int32), ∃ v : Int32, f_X9_bidder σ a b = some v ∧ f_X10_bidder σ a b = some v ∧ I σ
def OP_rings (I : Mm → Prop) (σ : Mm) : Prop := ∀ (a : Int32), ∃ v : Int32, f_X9_rings σ a = some v ∧ f_X10_rings σ a = some v ∧ I σ
def OP_clashes (I : Mm → Prop) (σ : Mm) : Prop := ∀ (a : Int32) (b : Int32), ∃ v : Int32, f_X9_clashes σ a b = some v ∧ f_X10_clashes σ a b = some v ∧ I σ
def OP_let (I : Mm → Prop) (σ : Mm) : Prop := ∀ (a : Int32) (b : Int32), ∃ v : Int32, ∃ τ : Mm, ∃ ρ : Mm, f_X9_let a b σ = some (v, τ) ∧ f_X10_let a b τ = some (v, ρ) ∧ I ρ
def OP_revoke (I : Mm → Prop) (σ : Mm) : Prop := ∀ (a : Int32), ∃ v : Int32, ∃ τ : Mm, ∃ ρ : Mm, f_X9_revoke a σ = some (v, τ) ∧ f_X10_revoke a τ = some (v, ρ) ∧ I ρ
def OP_move (I : Mm → Prop) (σ : Mm) : Prop := ∀ (a : Int32) (b : Int32), ∃ v : Int32, ∃ τ : Mm, ∃ ρ : Mm, f_X9_move a b σ = some (v, τ) ∧ f_X10_move a b τ = some (v, ρ) ∧ I ρ
def OP_undo (I : Mm → Prop) (σ : Mm) : Prop := ∃ v : Int32, ∃ τ : Mm, ∃ ρ : Mm, f_X9_undo σ = some (v, τ) ∧ f_X10_undo τ = some (v, ρ) ∧ I ρ
def OP_best (I : Mm → Prop) (σ : Mm) : Prop := ∀ (a : Int32), ∃ v : Int32, ∃ τ : Mm, ∃ ρ : Mm, f_X9_best a σ = some (v, τ) ∧ f_X10_best a τ = some (v, ρ) ∧ I ρ
def OP_bestOf (I : Mm → Prop) (σ : Mm) : Prop := ∀ (a : Int32), ∃ v : Int32, ∃ τ : Mm, ∃ ρ : Mm, f_X9_bestOf a σ = some (v, τ) ∧ f_X10_bestOf a τ = some (v, ρ) ∧ I ρ
def OP_beside (I : Mm → Prop) (σ : Mm) : Prop := ∃ v : Int32, ∃ τ : Mm, ∃ ρ : Mm, f_X9_beside σ = some (v, τ) ∧ f_X10_beside τ = some (v, ρ) ∧ I ρ
def OP_price (I : Mm → Prop) (σ : Mm) : Prop := ∀ (a : Int32), ∃ v : Int32, ∃ τ : Mm, ∃ ρ : Mm, f_X9_price a σ = some (v, τ) ∧ f_X10_price a τ = some (v, ρ) ∧ I ρ
def OP_many (I : Mm → Prop) (σ : Mm) : Prop := ∃ v : Int32, ∃ τ : Mm, ∃ ρ : Mm, f_X9_many σ = some (v, τ) ∧ f_X10_many τ = some (v, ρ) ∧ I ρ
def OP_room (I : Mm → Prop) (σ : Mm) : Prop := ∀ (a : Int32) (b : Int32), ∃ v : Int32, f_X9_room σ a b = some v ∧ f_X10_room σ a b = some v ∧ I σ
def OP_hands (I : Mm → Prop) (σ : Mm) : Prop := ∃ v : Int32, ∃ τ : Mm, ∃ ρ : Mm, f_X9_hands σ = some (v, τ) ∧ f_X10_hands τ = some (v, ρ) ∧ I ρ
def OP_judge (I : Mm → Prop) (σ : Mm) : Prop := ∀ (a : Int32) (w : Int64), ∃ v : Int32, ∃ τ : Mm, ∃ ρ : Mm, f_X9_judge a w σ = some (v, τ) ∧ f_X10_judge a w τ = some (v, ρ) ∧ I ρ
def OP_hear (I : Mm → Prop) (σ : Mm) : Prop := ∀ (a : Int32) (b : Int32), ∃ v : Int32, ∃ τ : Mm, ∃ ρ : Mm, f_X9_hear a b σ = some (v, τ) ∧ f_X10_hear a b τ = some (v, ρ) ∧ I ρ
def OP_unhear (I : Mm → Prop) (σ : Mm) : Prop := ∃ v : Int32, ∃ τ : Mm, ∃ ρ : Mm, f_X9_unhear σ = some (v, τ) ∧ f_X10_unhear τ = some (v, ρ) ∧ I ρ
def OP_fit (I : Mm → Prop) (σ : Mm) : Prop := ∀ (a : Int32), ∃ v : Int32, ∃ τ : Mm, ∃ ρ : Mm, f_X9_fit a σ = some (v, τ) ∧ f_X10_fit a τ = some (v, ρ) ∧ I ρ
def OP_likely (I : Mm → Prop) (σ : Mm) : Prop := ∀ (a q : Int32), (q = 0 ∨ q = 1) → ∃ v : Int32, ∃ τ : Mm, ∃ ρ : Mm, f_X9_likely a q σ = some (v, τ) ∧ f_X10_likely a q τ = some (v, ρ) ∧ I ρ
def OP_unwanted (I : Mm → Prop) (σ : Mm) : Prop := ∃ v : Int32, f_X9_unwanted σ = some v ∧ f_X10_unwanted σ = some v ∧ I σ
def OP_sealed (I : Mm → Prop) (σ : Mm) : Prop := ∀ (a : Int32) (b : Int32) (c : Int32), ∃ v : Int32, f_X9_sealed σ a b c = some v ∧ f_X10_sealed σ a b c = some v ∧ I σ
def OP_seed (I : Mm → Prop) (σ : Mm) : Prop := ∀ (w : Int64), ∃ v : Int64, ∃ τ : Mm, ∃ ρ : Mm, f_X9_seed w σ = some (v, τ) ∧ f_X10_seed w τ = some (v, ρ) ∧ I ρ
def OP_day (I : Mm → Prop) (σ : Mm) : Prop := ∀ (a : Int32), ∃ v : Int32, ∃ τ : Mm, ∃ ρ : Mm, f_X9_day a σ = some (v, τ) ∧ f_X10_day a τ = some (v, ρ) ∧ I ρ
def OP_keep (I : Mm → Prop) (σ : Mm) : Prop := ∀ (a : Int32), ∃ v : Int32, ∃ τ : Mm, ∃ ρ : Mm, f_X9_keep a σ = some (v, τ) ∧ f_X10_keep a τ = some (v, ρ) ∧ I ρ
def OP_again (I : Mm → Prop) (σ : Mm) : Prop := ∀ (a : Int32), ∃ v : Int32, ∃ τ : Mm, ∃ ρ : Mm, f_X9_again a σ = some (v, τ) ∧ f_X10_again a τ = some (v, ρ) ∧ I ρ
def OP_count (I : Mm → Prop) (σ : Mm) : Prop := ∀ (a : Int32), ∃ v : Int32, f_X9_count σ a = some v ∧ f_X10_count σ a = some v ∧ I σ
theorem lw_in1 {Ln i j : Nat} (h : i + j < Ln) (hL : Ln ≤ 2048) : inB (nI i + nI j) Ln = true := by rw [nI_add]; exact inB_t h (by omega)
set_option maxRecDepth 20000 in
set_option maxHeartbeats 4000000 in
theorem pure_of (I : Mm → Prop) (hz0 : I σ0) (op0 : ∀ σ, I σ → OP_write I σ) (op1 : ∀ σ, I σ → OP_wipe I σ) (op2 : ∀ σ, I σ → OP_fault I σ) (op3 : ∀ σ, I σ → OP_tower I σ) (op4 : ∀ σ, I σ → OP_bell I σ) (op5 : ∀ σ, I σ → OP_bidder I σ) (op6 : ∀ σ, I σ → OP_rings I σ) (op7 : ∀ σ, I σ → OP_clashes I σ) (op8 : ∀ σ, I σ → OP_let I σ) (op9 : ∀ σ, I σ → OP_revoke I σ) (op10 : ∀ σ, I σ → OP_move I σ) (op11 : ∀ σ, I σ → OP_undo I σ) (op12 : ∀ σ, I σ → OP_best I σ) (op13 : ∀ σ, I σ → OP_bestOf I σ) (op14 : ∀ σ, I σ → OP_beside I σ) (op15 : ∀ σ, I σ → OP_price I σ) (op16 : ∀ σ, I σ → OP_many I σ) (op17 : ∀ σ, I σ → OP_room I σ) (op18 : ∀ σ, I σ → OP_hands I σ) (op19 : ∀ σ, I σ → OP_judge I σ) (op20 : ∀ σ, I σ → OP_hear I σ) (op21 : ∀ σ, I σ → OP_unhear I σ) (op22 : ∀ σ, I σ → OP_fit I σ) (op23 : ∀ σ, I σ → OP_likely I σ) (op24 : ∀ σ, I σ → OP_unwanted I σ) (op25 : ∀ σ, I σ → OP_sealed I σ) (op26 : ∀ σ, I σ → OP_seed I σ) (op27 : ∀ σ, I σ → OP_day I σ) (op28 : ∀ σ, I σ → OP_keep I σ) (op29 : ∀ σ, I σ → OP_again I σ) (op30 : ∀ σ, I σ → OP_count I σ) (xs : Nat → Int32) (Ln : Nat) (hL : Ln ≤ 2048) : f_L_law_p18 xs Ln FU 0 σ0 = some () := by
  have key : ∀ (n i : Nat) (σ : Mm), I σ → i ≤ 2052 → 2052 < i + n → f_L_law_p18 xs Ln n (nI i) σ = some () := by
    intro n
    induction n with
    | zero => intro i σ _ h1 h2; omega
    | succ n ih =>
      intro i σ hI hi hn
      have go : ∀ τ, I τ → i + 4 ≤ Ln → f_L_law_p18 xs Ln n (nI i + 4) τ = some () := by
        intro τ hτ h4
        rw [lI 4, nI_add]
        exact ih (i + 4) τ hτ (by omega) (by omega)
      rw [f_L_law_p18]
      by_cases hc : (Int32.ofNat Ln) - (4 : Int32) < nI i
      · rw [if_pos hc]
      rw [if_neg hc]
      have h4 : i + 4 ≤ Ln := by
        have hn4 : (nI Ln - nI 4).toInt = (Ln : Int) - 4 := pk_sub_toInt (by omega) (by decide)
        have hc2 : ¬ (nI Ln - nI 4 < nI i) := hc
        rw [Int32.lt_iff_toInt_lt, hn4, nI_toInt (by omega)] at hc2
        omega
      rw [gd_t (inB_t (by omega) (by omega))]
      have g1 : inB (nI i + (1 : Int32)) Ln = true := lw_in1 (j := 1) (by omega) hL
      have g2 : inB (nI i + (2 : Int32)) Ln = true := lw_in1 (j := 2) (by omega) hL
      have g3 : inB (nI i + (3 : Int32)) Ln = true := lw_in1 (j := 3) (by omega) hL
      by_cases c0 : (xs (nI i).toNatClampNeg &&& (31 : Int32)) = (0 : Int32)
      · obtain ⟨v, τ, ρ, e1, e2, e3⟩ := op0 σ hI _
        rw [if_pos c0]
        unfold f_L_law_p172
        rw [gd_t g1, e1, b2_some, gd_t g1, e2, b2_some, if_pos rfl]
        exact go _ e3 h4
      rw [if_neg c0]
      by_cases c1 : (xs (nI i).toNatClampNeg &&& (31 : Int32)) = (1 : Int32)
      · obtain ⟨v, τ, ρ, e1, e2, e3⟩ := op1 σ hI
        rw [if_pos c1]
        unfold f_L_law_p195
        rw [e1, b2_some, e2, b2_some, if_pos rfl]
        exact go _ e3 h4
      rw [if_neg c1]
      by_cases c2 : (xs (nI i).toNatClampNeg &&& (31 : Int32)) = (2 : Int32)
      · obtain ⟨v, ρ, e1, e2, e3⟩ := op2 σ hI
        rw [if_pos c2]
        unfold f_L_law_p208
        rw [e1, b1_some, e2, b2_some, if_pos rfl]
        exact go _ e3 h4
      rw [if_neg c2]
      by_cases c3 : (xs (nI i).toNatClampNeg &&& (31 : Int32)) = (3 : Int32)
      · obtain ⟨v, τ, ρ, e1, e2, e3⟩ := op3 σ hI
        rw [if_pos c3]
        unfold f_L_law_p221
        rw [e1, b2_some, e2, b2_some, if_pos rfl]
        exact go _ e3 h4
      rw [if_neg c3]
      by_cases c4 : (xs (nI i).toNatClampNeg &&& (31 : Int32)) = (4 : Int32)
      · obtain ⟨v, e1, e2, e3⟩ := op4 σ hI _ _
        rw [if_pos c4]
        unfold f_L_law_p234
        rw [gd_t g1, gd_t g2, e1, b1_some, gd_t g1, gd_t g2, e2, b1_some, if_pos rfl]
        exact go _ e3 h4
      rw [if_neg c4]
      by_cases c5 : (xs (nI i).toNatClampNeg &&& (31 : Int32)) = (5 : Int32)
      · obtain ⟨v, e1, e2, e3⟩ := op5 σ hI _ _
        rw [if_pos c5]
        unfold f_L_law_p267
        rw [gd_t g1, gd_t g2, e1, b1_some, gd_t g1, gd_t g2, e2, b1_some, if_pos rfl]
        exact go _ e3 h4
      rw [if_neg c5]
      by_cases c6 : (xs (nI i).toNatClampNeg &&& (31 : Int32)) = (6 : Int32)
      · obtain ⟨v, e1, e2, e3⟩ := op6 σ hI _
        rw [if_pos c6]
        unfold f_L_law_p300
        rw [gd_t g1, e1, b1_some, gd_t g1, e2, b1_some, if_pos rfl]
        exact go _ e3 h4
      rw [if_neg c6]
      by_cases c7 : (xs (nI i).toNatClampNeg &&& (31 : Int32)) = (7 : Int32)
      · obtain ⟨v, e1, e2, e3⟩ := op7 σ hI _ _
        rw [if_pos c7]
        unfold f_L_law_p323
        rw [gd_t g1, gd_t g2, e1, b1_some, gd_t g1, gd_t g2, e2, b1_some, if_pos rfl]
        exact go _ e3 h4
      rw [if_neg c7]
      by_cases c8 : (xs (nI i).toNatClampNeg &&& (31 : Int32)) = (8 : Int32)
      · obtain ⟨v, τ, ρ, e1, e2, e3⟩ := op8 σ hI _ _
        rw [if_pos c8]
        unfold f_L_law_p356
        rw [gd_t g1, gd_t g2, e1, b2_some, gd_t g1, gd_t g2, e2, b2_some, if_pos rfl]
        exact go _ e3 h4
      rw [if_neg c8]
      by_cases c9 : (xs (nI i).toNatClampNeg &&& (31 : Int32)) = (9 : Int32)
      · obtain ⟨v, τ, ρ, e1, e2, e3⟩ := op9 σ hI _
        rw [if_pos c9]
        unfold f_L_law_p389
        rw [gd_t g1, e1, b2_some, gd_t g1, e2, b2_some, if_pos rfl]
        exact go _ e3 h4
      rw [if_neg c9]
      by_cases c10 : (xs (nI i).toNatClampNeg &&& (31 : Int32)) = (10 : Int32)
      · obtain ⟨v, τ, ρ, e1, e2, e3⟩ := op10 σ hI _ _
        rw [if_pos c10]
        unfold f_L_law_p412
        rw [gd_t g1, gd_t g2, e1, b2_some, gd_t g1, gd_t g2, e2, b2_some, if_pos rfl]
        exact go _ e3 h4
      rw [if_neg c10]
      by_cases c11 : (xs (nI i).toNatClampNeg &&& (31 : Int32)) = (11 : Int32)
      · obtain ⟨v, τ, ρ, e1, e2, e3⟩ := op11 σ hI
        rw [if_pos c11]
        unfold f_L_law_p445
        rw [e1, b2_some, e2, b2_some, if_pos rfl]
        exact go _ e3 h4
      rw [if_neg c11]
      by_cases c12 : (xs (nI i).toNatClampNeg &&& (31 : Int32)) = (12 : Int32)
      · obtain ⟨v, τ, ρ, e1, e2, e3⟩ := op12 σ hI _
        rw [if_pos c12]
        unfold f_L_law_p458
        rw [gd_t g1, e1, b2_some, gd_t g1, e2, b2_some, if_pos rfl]
        exact go _ e3 h4
      rw [if_neg c12]
      by_cases c13 : (xs (nI i).toNatClampNeg &&& (31 : Int32)) = (13 : Int32)
      · obtain ⟨v, τ, ρ, e1, e2, e3⟩ := op13 σ hI _
        rw [if_pos c13]
        unfold f_L_law_p481
        rw [gd_t g1, e1, b2_some, gd_t g1, e2, b2_some, if_pos rfl]
        exact go _ e3 h4
      rw [if_neg c13]
      by_cases c14 : (xs (nI i).toNatClampNeg &&& (31 : Int32)) = (14 : Int32)
      · obtain ⟨v, τ, ρ, e1, e2, e3⟩ := op14 σ hI
        rw [if_pos c14]
        unfold f_L_law_p504
        rw [e1, b2_some, e2, b2_some, if_pos rfl]
        exact go _ e3 h4
      rw [if_neg c14]
      by_cases c15 : (xs (nI i).toNatClampNeg &&& (31 : Int32)) = (15 : Int32)
      · obtain ⟨v, τ, ρ, e1, e2, e3⟩ := op15 σ hI _
        rw [if_pos c15]
        unfold f_L_law_p517
        rw [gd_t g1, e1, b2_some, gd_t g1, e2, b2_some, if_pos rfl]
        exact go _ e3 h4
      rw [if_neg c15]
      by_cases c16 : (xs (nI i).toNatClampNeg &&& (31 : Int32)) = (16 : Int32)
      · obtain ⟨v, τ, ρ, e1, e2, e3⟩ := op16 σ hI
        rw [if_pos c16]
        unfold f_L_law_p540
        rw [e1, b2_some, e2, b2_some, if_pos rfl]
        exact go _ e3 h4
      rw [if_neg c16]
      by_cases c17 : (xs (nI i).toNatClampNeg &&& (31 : Int32)) = (17 : Int32)
      · obtain ⟨v, e1, e2, e3⟩ := op17 σ hI _ _
        rw [if_pos c17]
        unfold f_L_law_p553
        rw [gd_t g1, gd_t g2, e1, b1_some, gd_t g1, gd_t g2, e2, b1_some, if_pos rfl]
        exact go _ e3 h4
      rw [if_neg c17]
      by_cases c18 : (xs (nI i).toNatClampNeg &&& (31 : Int32)) = (18 : Int32)
      · obtain ⟨v, τ, ρ, e1, e2, e3⟩ := op18 σ hI
        rw [if_pos c18]
        unfold f_L_law_p586
        rw [e1, b2_some, e2, b2_some, if_pos rfl]
        exact go _ e3 h4
      rw [if_neg c18]
      by_cases c19 : (xs (nI i).toNatClampNeg &&& (31 : Int32)) = (19 : Int32)
      · obtain ⟨v, τ, ρ, e1, e2, e3⟩ := op19 σ hI _ _
        rw [if_pos c19]
        unfold f_L_law_p599
        rw [gd_t g1, gd_t g2, gd_t g3, e1, b2_some, gd_t g1, gd_t g2, gd_t g3, e2, b2_some, if_pos rfl]
        exact go _ e3 h4
      rw [if_neg c19]
      by_cases c20 : (xs (nI i).toNatClampNeg &&& (31 : Int32)) = (20 : Int32)
      · obtain ⟨v, τ, ρ, e1, e2, e3⟩ := op20 σ hI _ _
        rw [if_pos c20]
        unfold f_L_law_p662
        rw [gd_t g1, gd_t g2, e1, b2_some, gd_t g1, gd_t g2, e2, b2_some, if_pos rfl]
        exact go _ e3 h4
      rw [if_neg c20]
      by_cases c21 : (xs (nI i).toNatClampNeg &&& (31 : Int32)) = (21 : Int32)
      · obtain ⟨v, τ, ρ, e1, e2, e3⟩ := op21 σ hI
        rw [if_pos c21]
        unfold f_L_law_p695
        rw [e1, b2_some, e2, b2_some, if_pos rfl]
        exact go _ e3 h4
      rw [if_neg c21]
      by_cases c22 : (xs (nI i).toNatClampNeg &&& (31 : Int32)) = (22 : Int32)
      · obtain ⟨v, τ, ρ, e1, e2, e3⟩ := op22 σ hI _
        rw [if_pos c22]
        unfold f_L_law_p708
        rw [gd_t g1, e1, b2_some, gd_t g1, e2, b2_some, if_pos rfl]
        exact go _ e3 h4
      rw [if_neg c22]
      by_cases c23 : (xs (nI i).toNatClampNeg &&& (31 : Int32)) = (23 : Int32)
      · rw [if_pos c23]
        unfold f_L_law_p731
        rw [gd_t g1, gd_t g2]
        have both : ∀ q : Int32, (q = 0 ∨ q = 1) → (q = if xs (nI i + 2).toNatClampNeg = 0 then 0 else 1) → f_L_law_p750 xs Ln (f_L_law_p18 xs Ln n) (nI i) q (xs (nI i + 1).toNatClampNeg) σ = some () := by
          intro q hq eq
          obtain ⟨v, τ, ρ, e1, e2, e3⟩ := op23 σ hI (xs (nI i + 1).toNatClampNeg) q hq
          unfold f_L_law_p750
          rw [e1, b2_some, gd_t g1, gd_t g2]
          have e4 : ∀ q2, q2 = q → f_L_law_p772 xs Ln (f_L_law_p18 xs Ln n) (nI i) q2 (xs (nI i + 1).toNatClampNeg) v τ = some () := by
            intro q2 e5
            unfold f_L_law_p772
            rw [e5, e2, b2_some, if_pos rfl]
            exact go _ e3 h4
          split
          · next hz => exact e4 0 (by rw [eq, if_pos hz])
          · next hz => exact e4 1 (by rw [eq, if_neg hz])
        split
        · next hz => exact both 0 (Or.inl rfl) (by rw [if_pos hz])
        · next hz => exact both 1 (Or.inr rfl) (by rw [if_neg hz])
      rw [if_neg c23]
      by_cases c24 : (xs (nI i).toNatClampNeg &&& (31 : Int32)) = (24 : Int32)
      · obtain ⟨v, e1, e2, e3⟩ := op24 σ hI
        rw [if_pos c24]
        unfold f_L_law_p780
        rw [e1, b1_some, e2, b1_some, if_pos rfl]
        exact go _ e3 h4
      rw [if_neg c24]
      by_cases c25 : (xs (nI i).toNatClampNeg &&& (31 : Int32)) = (25 : Int32)
      · obtain ⟨v, e1, e2, e3⟩ := op25 σ hI _ _ _
        rw [if_pos c25]
        unfold f_L_law_p793
        rw [gd_t g1, gd_t g2, gd_t g3, e1, b1_some, gd_t g1, gd_t g2, gd_t g3, e2, b1_some, if_pos rfl]
        exact go _ e3 h4
      rw [if_neg c25]
      by_cases c26 : (xs (nI i).toNatClampNeg &&& (31 : Int32)) = (26 : Int32)
      · obtain ⟨v, τ, ρ, e1, e2, e3⟩ := op26 σ hI _
        rw [if_pos c26]
        unfold f_L_law_p836
        rw [gd_t g1, gd_t g2, e1, b2_some, gd_t g1, gd_t g2, e2, b2_some, if_pos (by rw [lg_cmp]; simp)]
        exact go _ e3 h4
      rw [if_neg c26]
      by_cases c27 : (xs (nI i).toNatClampNeg &&& (31 : Int32)) = (27 : Int32)
      · obtain ⟨v, τ, ρ, e1, e2, e3⟩ := op27 σ hI _
        rw [if_pos c27]
        unfold f_L_law_p890
        rw [gd_t g1, e1, b2_some, gd_t g1, e2, b2_some, if_pos rfl]
        exact go _ e3 h4
      rw [if_neg c27]
      by_cases c28 : (xs (nI i).toNatClampNeg &&& (31 : Int32)) = (28 : Int32)
      · obtain ⟨v, τ, ρ, e1, e2, e3⟩ := op28 σ hI _
        rw [if_pos c28]
        unfold f_L_law_p913
        rw [gd_t g1, e1, b2_some, gd_t g1, e2, b2_some, if_pos rfl]
        exact go _ e3 h4
      rw [if_neg c28]
      by_cases c29 : (xs (nI i).toNatClampNeg &&& (31 : Int32)) = (29 : Int32)
      · obtain ⟨v, τ, ρ, e1, e2, e3⟩ := op29 σ hI _
        rw [if_pos c29]
        unfold f_L_law_p936
        rw [gd_t g1, e1, b2_some, gd_t g1, e2, b2_some, if_pos rfl]
        exact go _ e3 h4
      rw [if_neg c29]
      by_cases c30 : (xs (nI i).toNatClampNeg &&& (31 : Int32)) = (30 : Int32)
      · obtain ⟨v, e1, e2, e3⟩ := op30 σ hI _
        rw [if_pos c30]
        unfold f_L_law_p959
        rw [gd_t g1, e1, b1_some, gd_t g1, e2, b1_some, if_pos rfl]
        exact go _ e3 h4
      rw [if_neg c30]
      exact go _ hI h4
  exact key FU 0 σ0 hz0 (by decide) (by decide)
