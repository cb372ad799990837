def f_X2_tally_p58 : Nat → Int32 → Int32 → Mm → Option (Mm)
  | 0, _, _, _ => none
  | n + 1, x3, x4, σ => (if (31 : Int32) < x4 then some σ else b1 (f_X2_areQuiets σ x4) (fun (r2 : Int32) => (if r2 = 0 then (f_X2_tally_p58 n) x3 (x4 + (1 : Int32)) σ else b1 (f_X2_tallyBeside x4 x3 σ) (fun (τ4 : Mm) => (f_X2_tally_p58 n) x3 (x4 + (1 : Int32)) τ4))))
def f_X2_tally (x2 : Int32) (σ : Mm) : Option (Mm) := bnd ((sI (sI (sI (sI σ 39 1 (0 : Int32)) 39 2 (0 : Int32)) 39 3 (31 : Int32)) 39 4 (0 : Int32))) (fun (σ1 : Mm) => b1 (f_X3_told (sI σ1 39 6 x2) (1 : Int32) ((sI σ1 39 6 x2).1 3 0)) (fun (r4 : Int32) => b1 (f_X3_told (sI (sI σ1 39 6 x2) 39 5 r4) (0 : Int32) ((sI (sI σ1 39 6 x2) 39 5 r4).1 3 0)) (fun (r6 : Int32) => f_X2_tally_p58 FU r6 (0 : Int32) (sI (sI σ1 39 6 x2) 39 5 r4))))
set_option maxRecDepth 20000 in
theorem a_X2_tally_p58 {l : Launch} {G : Gg} {τ : Mm} : ∀ (n : Nat) (x3 : Int32) (x4 : Int32) (σ : Mm), f_X2_tally_p58 n x3 x4 σ = some τ → AW l G 45 M_X2_tally none τ 58 [(0, .ref 39), (3, .int x3), (4, .int x4)] [] σ := by
  intro n
  induction n with
  | zero => intro x3 x4 σ h; exact no_some h
  | succ n ih =>
    intro x3 x4 σ h
    rw [f_X2_tally_p58] at h
    refine AW.iload dX2_tally_58 (.refl 60) 2 rfl ?_
    refine AW.bipush (v := (31 : Int32)) dX2_tally_60 (.refl 62) (by decide) ?_
    refine AW.icmp_gt (tgt := 87) dX2_tally_62 (by decide) (fun c6 => ?_) (fun c6 => ?_)
    · have h := ifp c6 h
      cases h
      exact AW.vreturn rfl dX2_tally_87
    · have h := ifn c6 h
      refine AW.aload_n dX2_tally_65 (.refl 66) 0 rfl ?_
      refine AW.iload dX2_tally_66 (.refl 68) 2 rfl ?_
      obtain ⟨r2, e1, h⟩ := b1_s h
      refine AW.callV (r' := (some (.int r2))) (σ' := σ) (rest := []) lm_X2_57 (c_X2_areQuiets e1) (by decide) (by decide) rfl rfl (by decide) rfl rfl (Nat.le_of_ble_eq_true rfl) dX2_tally_68 (.refl 71) (st' := [.int r2]) rfl ?_
      refine AW.if_eq (tgt := 81) dX2_tally_71 (by decide) (fun c5 => ?_) (fun c5 => ?_)
      · have h := ifp c5 h
        refine AW.iinc (v := (x4 + (1 : Int32))) (L' := [(4, .int (x4 + (1 : Int32))), (0, .ref 39), (3, .int x3)]) dX2_tally_81 (.refl 84) 2 rfl rfl (by decide) rfl ?_
        refine AW.goto (tgt := 58) dX2_tally_84 (by decide) ?_
        refine AW.sub (L' := [(0, .ref 39), (3, .int x3), (4, .int (x4 + (1 : Int32)))]) [1, 2, 0] rfl ?_
        exact ih x3 (x4 + (1 : Int32)) σ h
      · have h := ifn c5 h
        refine AW.aload_n dX2_tally_74 (.refl 75) 0 rfl ?_
        refine AW.iload dX2_tally_75 (.refl 77) 2 rfl ?_
        refine AW.iload_n dX2_tally_77 (.refl 78) 1 rfl ?_
        obtain ⟨τ4, e3, h⟩ := b1_s h
        refine AW.callV (r' := none) (σ' := τ4) (rest := []) lm_X2_61 (c_X2_tallyBeside e3) (by decide) (by decide) rfl rfl (by decide) rfl rfl (Nat.le_of_ble_eq_true rfl) dX2_tally_78 (.refl 81) (st' := []) rfl ?_
        refine AW.iinc (v := (x4 + (1 : Int32))) (L' := [(4, .int (x4 + (1 : Int32))), (0, .ref 39), (3, .int x3)]) dX2_tally_81 (.refl 84) 2 rfl rfl (by decide) rfl ?_
        refine AW.goto (tgt := 58) dX2_tally_84 (by decide) ?_
        refine AW.sub (L' := [(0, .ref 39), (3, .int x3), (4, .int (x4 + (1 : Int32)))]) [1, 2, 0] rfl ?_
        exact ih x3 (x4 + (1 : Int32)) τ4 h
set_option maxRecDepth 20000 in
theorem c_X2_tally {l : Launch} {G : Gg} {x2 : Int32} {σ : Mm} {τ : Mm} (h : f_X2_tally x2 σ = some τ) : MR l G 45 M_X2_tally [.ref 39, .ref 36, .int x2] σ none τ := by
  unfold f_X2_tally at h
  refine MR.of (by decide +kernel) (Nat.le_of_ble_eq_true rfl) ?_
  show AW l G 45 M_X2_tally none τ 0 [(0, .ref 39), (1, .ref 36), (2, .int x2)] [] σ
  refine AW.aload_n dX2_tally_0 (.refl 1) 0 rfl ?_
  refine AW.iconst (v := (0 : Int32)) dX2_tally_1 (.refl 2) (by decide) ?_
  refine AW.putI lp_X2_9 rfl rfl (by decide) dX2_tally_2 (.refl 5) ?_
  refine AW.aload_n dX2_tally_5 (.refl 6) 0 rfl ?_
  refine AW.iconst (v := (0 : Int32)) dX2_tally_6 (.refl 7) (by decide) ?_
  refine AW.putI lp_X2_15 rfl rfl (by decide) dX2_tally_7 (.refl 10) ?_
  refine AW.aload_n dX2_tally_10 (.refl 11) 0 rfl ?_
  refine AW.bipush (v := (31 : Int32)) dX2_tally_11 (.refl 13) (by decide) ?_
  refine AW.putI lp_X2_18 rfl rfl (by decide) dX2_tally_13 (.refl 16) ?_
  refine AW.aload_n dX2_tally_16 (.refl 17) 0 rfl ?_
  refine AW.iconst (v := (0 : Int32)) dX2_tally_17 (.refl 18) (by decide) ?_
  refine AW.putI lp_X2_21 rfl rfl (by decide) dX2_tally_18 (.refl 21) ?_
  obtain ⟨σ1, e2, h⟩ := bnd_s h
  refine AW.nmM e2 ?_
  refine AW.aload_n dX2_tally_21 (.refl 22) 0 rfl ?_
  refine AW.iload_n dX2_tally_22 (.refl 23) 2 rfl ?_
  refine AW.putI lp_X2_27 rfl rfl (by decide) dX2_tally_23 (.refl 26) ?_
  refine AW.aload_n dX2_tally_26 (.refl 27) 0 rfl ?_
  refine AW.aload_n dX2_tally_27 (.refl 28) 1 rfl ?_
  refine AW.iconst (v := (1 : Int32)) dX2_tally_28 (.refl 29) (by decide) ?_
  refine AW.aload_n dX2_tally_29 (.refl 30) 0 rfl ?_
  refine AW.getR (z := 3) lk_X2_42 rfl rfl (by decide) rfl dX2_tally_30 (.refl 33) ?_
  refine AW.getI lk_X2_46 rfl rfl (by decide) dX2_tally_33 (.refl 36) ?_
  obtain ⟨r4, e3, h⟩ := b1_s h
  refine AW.callV (r' := (some (.int r4))) (σ' := (sI σ1 39 6 x2)) (rest := [.ref 39]) lm_X2_51 (c_X3_told e3) (by decide) (by decide) rfl rfl (by decide) rfl rfl (Nat.le_of_ble_eq_true rfl) dX2_tally_36 (.refl 39) (st' := [.int r4, .ref 39]) rfl ?_
  refine AW.putI lp_X2_24 rfl rfl (by decide) dX2_tally_39 (.refl 42) ?_
  refine AW.aload_n dX2_tally_42 (.refl 43) 1 rfl ?_
  refine AW.iconst (v := (0 : Int32)) dX2_tally_43 (.refl 44) (by decide) ?_
  refine AW.aload_n dX2_tally_44 (.refl 45) 0 rfl ?_
  refine AW.getR (z := 3) lk_X2_42 rfl rfl (by decide) rfl dX2_tally_45 (.refl 48) ?_
  refine AW.getI lk_X2_46 rfl rfl (by decide) dX2_tally_48 (.refl 51) ?_
  obtain ⟨r6, e5, h⟩ := b1_s h
  refine AW.callV (r' := (some (.int r6))) (σ' := (sI (sI σ1 39 6 x2) 39 5 r4)) (rest := []) lm_X2_51 (c_X3_told e5) (by decide) (by decide) rfl rfl (by decide) rfl rfl (Nat.le_of_ble_eq_true rfl) dX2_tally_51 (.refl 54) (st' := [.int r6]) rfl ?_
  refine AW.istore_n (L' := [(3, .int r6), (0, .ref 39), (1, .ref 36), (2, .int x2)]) dX2_tally_54 (.refl 55) (by decide) rfl ?_
  refine AW.iconst (v := (0 : Int32)) dX2_tally_55 (.refl 56) (by decide) ?_
  refine AW.istore (L' := [(4, .int (0 : Int32)), (3, .int r6), (0, .ref 39), (1, .ref 36), (2, .int x2)]) dX2_tally_56 (.refl 58) (by decide) rfl ?_
  refine AW.sub (L' := [(0, .ref 39), (3, .int r6), (4, .int (0 : Int32))]) [2, 1, 0] rfl ?_
  exact a_X2_tally_p58 FU r6 (0 : Int32) (sI (sI σ1 39 6 x2) 39 5 r4) h
def f_X9_fit (x1 : Int32) (σ : Mm) : Option (Int32 × Mm) := (if x1 < 0 then some ((-2 : Int32), σ) else (if x1 ≤ (2 : Int32) then b1 (f_X2_tally (0 : Int32) σ) (fun (τ2 : Mm) => (if x1 = 0 then some ((τ2.1 39 1), τ2) else (if (τ2.1 39 1) = 0 then some ((-9 : Int32), τ2) else (if x1 = (1 : Int32) then some ((τ2.1 39 3), τ2) else b1 (f_X8_everyone τ2) (fun (r4 : Int32) => some ((r4 &&& ((τ2.1 39 4) ^^^ (-1 : Int32))), τ2)))))) else some ((-2 : Int32), σ)))
set_option maxRecDepth 20000 in
theorem c_X9_fit {l : Launch} {G : Gg} {x1 : Int32} {σ : Mm} {v : Int32} {τ : Mm} (h : f_X9_fit x1 σ = some (v, τ)) : MR l G 46 M_X9_fit [.ref 0, .int x1] σ (some (.int v)) τ := by
  unfold f_X9_fit at h
  refine MR.of (by decide +kernel) (Nat.le_of_ble_eq_true rfl) ?_
  show AW l G 46 M_X9_fit (some (.int v)) τ 0 [(0, .ref 0), (1, .int x1)] [] σ
  refine AW.iload_n dX9_fit_0 (.refl 1) 1 rfl ?_
  refine AW.if_lt (tgt := 9) dX9_fit_1 (by decide) (fun c9 => ?_) (fun c9 => ?_)
  · have h := ifp c9 h
    refine AW.bipush (v := (-2 : Int32)) dX9_fit_9 (.refl 11) (by decide) ?_
    cases h
    exact AW.ireturn rfl dX9_fit_11
  · have h := ifn c9 h
    refine AW.iload_n dX9_fit_4 (.refl 5) 1 rfl ?_
    refine AW.iconst (v := (2 : Int32)) dX9_fit_5 (.refl 6) (by decide) ?_
    refine AW.icmp_le (tgt := 12) dX9_fit_6 (by decide) (fun c8 => ?_) (fun c8 => ?_)
    · have h := ifp c8 h
      refine AW.aload_n dX9_fit_12 (.refl 13) 0 rfl ?_
      refine AW.getR (z := 39) lk_X9_69 rfl rfl (by decide) rfl dX9_fit_13 (.refl 16) ?_
      refine AW.aload_n dX9_fit_16 (.refl 17) 0 rfl ?_
      refine AW.getR (z := 36) lk_X9_62 rfl rfl (by decide) rfl dX9_fit_17 (.refl 20) ?_
      refine AW.iconst (v := (0 : Int32)) dX9_fit_20 (.refl 21) (by decide) ?_
      obtain ⟨τ2, e1, h⟩ := b1_s h
      refine AW.callV (r' := none) (σ' := τ2) (rest := []) lm_X9_247 (c_X2_tally e1) (by decide) (by decide) rfl rfl (by decide) rfl rfl (Nat.le_of_ble_eq_true rfl) dX9_fit_21 (.refl 24) (st' := []) rfl ?_
      refine AW.iload_n dX9_fit_24 (.refl 25) 1 rfl ?_
      refine AW.if_ne (tgt := 36) dX9_fit_25 (by decide) (fun c7 => ?_) (fun c7 => ?_)
      · have h := ifn c7 h
        refine AW.aload_n dX9_fit_36 (.refl 37) 0 rfl ?_
        refine AW.getR (z := 39) lk_X9_69 rfl rfl (by decide) rfl dX9_fit_37 (.refl 40) ?_
        refine AW.getI lk_X9_251 rfl rfl (by decide) dX9_fit_40 (.refl 43) ?_
        refine AW.if_ne (tgt := 49) dX9_fit_43 (by decide) (fun c6 => ?_) (fun c6 => ?_)
        · have h := ifn c6 h
          refine AW.iload_n dX9_fit_49 (.refl 50) 1 rfl ?_
          refine AW.iconst (v := (1 : Int32)) dX9_fit_50 (.refl 51) (by decide) ?_
          refine AW.icmp_ne (tgt := 64) dX9_fit_51 (by decide) (fun c5 => ?_) (fun c5 => ?_)
          · have h := ifn c5 h
            refine AW.aload_n dX9_fit_64 (.refl 65) 0 rfl ?_
            refine AW.getR (z := 3) lk_X9_19 rfl rfl (by decide) rfl dX9_fit_65 (.refl 68) ?_
            obtain ⟨r4, e3, h⟩ := b1_s h
            refine AW.callV (r' := (some (.int r4))) (σ' := τ2) (rest := []) lm_X9_205 (c_X8_everyone e3) (by decide) (by decide) rfl rfl (by decide) rfl rfl (Nat.le_of_ble_eq_true rfl) dX9_fit_68 (.refl 71) (st' := [.int r4]) rfl ?_
            refine AW.aload_n dX9_fit_71 (.refl 72) 0 rfl ?_
            refine AW.getR (z := 39) lk_X9_69 rfl rfl (by decide) rfl dX9_fit_72 (.refl 75) ?_
            refine AW.getI lk_X9_257 rfl rfl (by decide) dX9_fit_75 (.refl 78) ?_
            refine AW.iconst (v := (-1 : Int32)) dX9_fit_78 (.refl 79) (by decide) ?_
            refine AW.ixor dX9_fit_79 (.refl 80) ?_
            refine AW.iand dX9_fit_80 (.refl 81) ?_
            cases h
            exact AW.ireturn rfl dX9_fit_81
          · have h := ifp c5 h
            refine AW.aload_n dX9_fit_54 (.refl 55) 0 rfl ?_
            refine AW.getR (z := 39) lk_X9_69 rfl rfl (by decide) rfl dX9_fit_55 (.refl 58) ?_
            refine AW.getI lk_X9_254 rfl rfl (by decide) dX9_fit_58 (.refl 61) ?_
            refine AW.goto (tgt := 81) dX9_fit_61 (by decide) ?_
            cases h
            exact AW.ireturn rfl dX9_fit_81
        · have h := ifp c6 h
          refine AW.bipush (v := (-9 : Int32)) dX9_fit_46 (.refl 48) (by decide) ?_
          cases h
          exact AW.ireturn rfl dX9_fit_48
      · have h := ifp c7 h
        refine AW.aload_n dX9_fit_28 (.refl 29) 0 rfl ?_
        refine AW.getR (z := 39) lk_X9_69 rfl rfl (by decide) rfl dX9_fit_29 (.refl 32) ?_
        refine AW.getI lk_X9_251 rfl rfl (by decide) dX9_fit_32 (.refl 35) ?_
        cases h
        exact AW.ireturn rfl dX9_fit_35
    · have h := ifn c8 h
      refine AW.bipush (v := (-2 : Int32)) dX9_fit_9 (.refl 11) (by decide) ?_
      cases h
      exact AW.ireturn rfl dX9_fit_11
def f_X9_commonDivisor_p7 (σ : Mm) : Nat → Int32 → Int32 → Int32 → Option (Int32)
  | 0, _, _, _ => none
  | n + 1, x2, x3, x4 => (if (64 : Int32) ≤ x4 then some x2 else (if x3 = 0 then some x2 else gd (decide (¬ x3 = 0)) ((f_X9_commonDivisor_p7 σ n) x3 (jrem x2 x3) (x4 + (1 : Int32)))))
def f_X9_commonDivisor (σ : Mm) (x0 : Int32) (x1 : Int32) : Option (Int32) := f_X9_commonDivisor_p7 σ FU x0 x1 (0 : Int32)
set_option maxRecDepth 20000 in
theorem a_X9_commonDivisor_p7 {l : Launch} {G : Gg} {v : Int32} {σ : Mm} : ∀ (n : Nat) (x2 : Int32) (x3 : Int32) (x4 : Int32), f_X9_commonDivisor_p7 σ n x2 x3 x4 = some v → AW l G 0 M_X9_commonDivisor (some (.int v)) σ 7 [(2, .int x2), (3, .int x3), (4, .int x4)] [] σ := by
  intro n
  induction n with
  | zero => intro x2 x3 x4 h; exact no_some h
  | succ n ih =>
    intro x2 x3 x4 h
    rw [f_X9_commonDivisor_p7] at h
    refine AW.iload dX9_commonDivisor_7 (.refl 9) 2 rfl ?_
    refine AW.bipush (v := (64 : Int32)) dX9_commonDivisor_9 (.refl 11) (by decide) ?_
    refine AW.icmp_ge (tgt := 34) dX9_commonDivisor_11 (by decide) (fun c3 => ?_) (fun c3 => ?_)
    · have h := ifp c3 h
      refine AW.iload_n dX9_commonDivisor_34 (.refl 35) 0 rfl ?_
      cases h
      exact AW.ireturn rfl dX9_commonDivisor_35
    · have h := ifn c3 h
      refine AW.iload_n dX9_commonDivisor_14 (.refl 15) 1 rfl ?_
      refine AW.if_eq (tgt := 34) dX9_commonDivisor_15 (by decide) (fun c2 => ?_) (fun c2 => ?_)
      · have h := ifp c2 h
        refine AW.iload_n dX9_commonDivisor_34 (.refl 35) 0 rfl ?_
        cases h
        exact AW.ireturn rfl dX9_commonDivisor_35
      · have h := ifn c2 h
        refine AW.iload_n dX9_commonDivisor_18 (.refl 19) 0 rfl ?_
        refine AW.iload_n dX9_commonDivisor_19 (.refl 20) 1 rfl ?_
        obtain ⟨g1, h⟩ := gd_s h
        refine AW.irem dX9_commonDivisor_20 (.refl 21) (of_decide_eq_true g1) ?_
        refine AW.istore (L' := [(5, .int (jrem x2 x3)), (2, .int x2), (3, .int x3), (4, .int x4)]) dX9_commonDivisor_21 (.refl 23) (by decide) rfl ?_
        refine AW.iload_n dX9_commonDivisor_23 (.refl 24) 2 rfl ?_
        refine AW.istore_n (L' := [(2, .int x3), (5, .int (jrem x2 x3)), (3, .int x3), (4, .int x4)]) dX9_commonDivisor_24 (.refl 25) (by decide) rfl ?_
        refine AW.iload dX9_commonDivisor_25 (.refl 27) 1 rfl ?_
        refine AW.istore_n (L' := [(3, .int (jrem x2 x3)), (2, .int x3), (5, .int (jrem x2 x3)), (4, .int x4)]) dX9_commonDivisor_27 (.refl 28) (by decide) rfl ?_
        refine AW.iinc (v := (x4 + (1 : Int32))) (L' := [(4, .int (x4 + (1 : Int32))), (3, .int (jrem x2 x3)), (2, .int x3), (5, .int (jrem x2 x3))]) dX9_commonDivisor_28 (.refl 31) 3 rfl rfl (by decide) rfl ?_
        refine AW.goto (tgt := 7) dX9_commonDivisor_31 (by decide) ?_
        refine AW.sub (L' := [(2, .int x3), (3, .int (jrem x2 x3)), (4, .int (x4 + (1 : Int32)))]) [2, 1, 0] rfl ?_
        exact ih x3 (jrem x2 x3) (x4 + (1 : Int32)) h
set_option maxRecDepth 20000 in
theorem c_X9_commonDivisor {l : Launch} {G : Gg} {x0 : Int32} {x1 : Int32} {σ : Mm} {v : Int32} (h : f_X9_commonDivisor σ x0 x1 = some v) : MR l G 0 M_X9_commonDivisor [.int x0, .int x1] σ (some (.int v)) σ := by
  unfold f_X9_commonDivisor at h
  refine MR.of (by decide +kernel) (Nat.le_of_ble_eq_true rfl) ?_
  show AW l G 0 M_X9_commonDivisor (some (.int v)) σ 0 [(0, .int x0), (1, .int x1)] [] σ
  refine AW.iload_n dX9_commonDivisor_0 (.refl 1) 0 rfl ?_
  refine AW.istore_n (L' := [(2, .int x0), (0, .int x0), (1, .int x1)]) dX9_commonDivisor_1 (.refl 2) (by decide) rfl ?_
  refine AW.iload_n dX9_commonDivisor_2 (.refl 3) 2 rfl ?_
  refine AW.istore_n (L' := [(3, .int x1), (2, .int x0), (0, .int x0), (1, .int x1)]) dX9_commonDivisor_3 (.refl 4) (by decide) rfl ?_
  refine AW.iconst (v := (0 : Int32)) dX9_commonDivisor_4 (.refl 5) (by decide) ?_
  refine AW.istore (L' := [(4, .int (0 : Int32)), (3, .int x1), (2, .int x0), (0, .int x0), (1, .int x1)]) dX9_commonDivisor_5 (.refl 7) (by decide) rfl ?_
  refine AW.sub (L' := [(2, .int x0), (3, .int x1), (4, .int (0 : Int32))]) [2, 1, 0] rfl ?_
  exact a_X9_commonDivisor_p7 FU x0 x1 (0 : Int32) h
def f_X9_likely (x1 : Int32) (x2 : Int32) (σ : Mm) : Option (Int32 × Mm) := b1 (f_X9_isSecond σ x1) (fun (r2 : Int32) => (if r2 = 0 then some ((-2 : Int32), σ) else b1 (f_X2_tally (jshl (1049601 : Int32) x1) σ) (fun (τ4 : Mm) => (if (τ4.1 39 1) = 0 then some ((-3 : Int32), τ4) else b1 (f_X9_commonDivisor τ4 (τ4.1 39 1) ((τ4.1 39 1) - (τ4.1 39 2))) (fun (r6 : Int32) => (if (1 : Int32) ≤ r6 then (if x2 = 0 then gd (decide (¬ r6 = 0)) (some (((τ4.1 39 1) / r6), τ4)) else gd (decide (¬ r6 = 0)) (some ((((τ4.1 39 1) - (τ4.1 39 2)) / r6), τ4))) else some ((-3 : Int32), τ4)))))))
set_option maxRecDepth 20000 in
theorem c_X9_likely {l : Launch} {G : Gg} {x1 : Int32} {x2 : Int32} {σ : Mm} {v : Int32} {τ : Mm} (h : f_X9_likely x1 x2 σ = some (v, τ)) : MR l G 46 M_X9_likely [.ref 0, .int x1, .int x2] σ (some (.int v)) τ := by
  unfold f_X9_likely at h
  refine MR.of (by decide +kernel) (Nat.le_of_ble_eq_true rfl) ?_
  show AW l G 46 M_X9_likely (some (.int v)) τ 0 [(0, .ref 0), (1, .int x1), (2, .int x2)] [] σ
  refine AW.iload_n dX9_likely_0 (.refl 1) 1 rfl ?_
  obtain ⟨r2, e1, h⟩ := b1_s h
  refine AW.callS (r' := (some (.int r2))) (σ' := σ) (rest := []) lm_X9_164 (c_X9_isSecond e1) (by decide) (by decide) rfl rfl (Nat.le_of_ble_eq_true rfl) dX9_likely_1 (.refl 4) (st' := [.int r2]) rfl ?_
  refine AW.if_ne (tgt := 10) dX9_likely_4 (by decide) (fun c12 => ?_) (fun c12 => ?_)
  · have h := ifn c12 h
    refine AW.aload_n dX9_likely_10 (.refl 11) 0 rfl ?_
    refine AW.getR (z := 39) lk_X9_69 rfl rfl (by decide) rfl dX9_likely_11 (.refl 14) ?_
    refine AW.aload_n dX9_likely_14 (.refl 15) 0 rfl ?_
    refine AW.getR (z := 36) lk_X9_62 rfl rfl (by decide) rfl dX9_likely_15 (.refl 18) ?_
    refine AW.ldc_w lc_X9_260 dX9_likely_18 (.refl 21) ?_
    refine AW.iload_n dX9_likely_21 (.refl 22) 1 rfl ?_
    refine AW.ishl dX9_likely_22 (.refl 23) ?_
    obtain ⟨τ4, e3, h⟩ := b1_s h
    refine AW.callV (r' := none) (σ' := τ4) (rest := []) lm_X9_247 (c_X2_tally e3) (by decide) (by decide) rfl rfl (by decide) rfl rfl (Nat.le_of_ble_eq_true rfl) dX9_likely_23 (.refl 26) (st' := []) rfl ?_
    refine AW.aload_n dX9_likely_26 (.refl 27) 0 rfl ?_
    refine AW.getR (z := 39) lk_X9_69 rfl rfl (by decide) rfl dX9_likely_27 (.refl 30) ?_
    refine AW.getI lk_X9_251 rfl rfl (by decide) dX9_likely_30 (.refl 33) ?_
    refine AW.if_ne (tgt := 39) dX9_likely_33 (by decide) (fun c11 => ?_) (fun c11 => ?_)
    · have h := ifn c11 h
      refine AW.aload_n dX9_likely_39 (.refl 40) 0 rfl ?_
      refine AW.getR (z := 39) lk_X9_69 rfl rfl (by decide) rfl dX9_likely_40 (.refl 43) ?_
      refine AW.getI lk_X9_251 rfl rfl (by decide) dX9_likely_43 (.refl 46) ?_
      refine AW.aload_n dX9_likely_46 (.refl 47) 0 rfl ?_
      refine AW.getR (z := 39) lk_X9_69 rfl rfl (by decide) rfl dX9_likely_47 (.refl 50) ?_
      refine AW.getI lk_X9_261 rfl rfl (by decide) dX9_likely_50 (.refl 53) ?_
      refine AW.isub dX9_likely_53 (.refl 54) ?_
      refine AW.istore_n (L' := [(3, .int ((τ4.1 39 1) - (τ4.1 39 2))), (0, .ref 0), (1, .int x1), (2, .int x2)]) dX9_likely_54 (.refl 55) (by decide) rfl ?_
      refine AW.aload_n dX9_likely_55 (.refl 56) 1 rfl ?_
      refine AW.getR (z := 39) lk_X9_69 rfl rfl (by decide) rfl dX9_likely_56 (.refl 59) ?_
      refine AW.getI lk_X9_251 rfl rfl (by decide) dX9_likely_59 (.refl 62) ?_
      refine AW.iload_n dX9_likely_62 (.refl 63) 0 rfl ?_
      obtain ⟨r6, e5, h⟩ := b1_s h
      refine AW.callS (r' := (some (.int r6))) (σ' := τ4) (rest := []) lm_X9_264 (c_X9_commonDivisor e5) (by decide) (by decide) rfl rfl (Nat.le_of_ble_eq_true rfl) dX9_likely_63 (.refl 66) (st' := [.int r6]) rfl ?_
      refine AW.istore (L' := [(4, .int r6), (3, .int ((τ4.1 39 1) - (τ4.1 39 2))), (0, .ref 0), (1, .int x1), (2, .int x2)]) dX9_likely_66 (.refl 68) (by decide) rfl ?_
      refine AW.iload dX9_likely_68 (.refl 70) 0 rfl ?_
      refine AW.iconst (v := (1 : Int32)) dX9_likely_70 (.refl 71) (by decide) ?_
      refine AW.icmp_ge (tgt := 77) dX9_likely_71 (by decide) (fun c10 => ?_) (fun c10 => ?_)
      · have h := ifp c10 h
        refine AW.iload_n dX9_likely_77 (.refl 78) 4 rfl ?_
        refine AW.if_eq (tgt := 85) dX9_likely_78 (by decide) (fun c9 => ?_) (fun c9 => ?_)
        · have h := ifp c9 h
          refine AW.aload_n dX9_likely_85 (.refl 86) 2 rfl ?_
          refine AW.getR (z := 39) lk_X9_69 rfl rfl (by decide) rfl dX9_likely_86 (.refl 89) ?_
          refine AW.getI lk_X9_251 rfl rfl (by decide) dX9_likely_89 (.refl 92) ?_
          refine AW.iload dX9_likely_92 (.refl 94) 0 rfl ?_
          obtain ⟨g7, h⟩ := gd_s h
          refine AW.idiv dX9_likely_94 (.refl 95) (of_decide_eq_true g7) ?_
          cases h
          exact AW.ireturn rfl dX9_likely_95
        · have h := ifn c9 h
          refine AW.iload_n dX9_likely_81 (.refl 82) 1 rfl ?_
          refine AW.goto (tgt := 92) dX9_likely_82 (by decide) ?_
          refine AW.iload dX9_likely_92 (.refl 94) 0 rfl ?_
          obtain ⟨g8, h⟩ := gd_s h
          refine AW.idiv dX9_likely_94 (.refl 95) (of_decide_eq_true g8) ?_
          cases h
          exact AW.ireturn rfl dX9_likely_95
      · have h := ifn c10 h
        refine AW.bipush (v := (-3 : Int32)) dX9_likely_74 (.refl 76) (by decide) ?_
        cases h
        exact AW.ireturn rfl dX9_likely_76
    · have h := ifp c11 h
      refine AW.bipush (v := (-3 : Int32)) dX9_likely_36 (.refl 38) (by decide) ?_
      cases h
      exact AW.ireturn rfl dX9_likely_38
  · have h := ifp c12 h
    refine AW.bipush (v := (-2 : Int32)) dX9_likely_7 (.refl 9) (by decide) ?_
    cases h
    exact AW.ireturn rfl dX9_likely_9
def f_X9_ofAnyBell (σ : Mm) (x0 : Int32) : Option (Int32) := some (((x0 ||| (jushr x0 (10 : Int32))) ||| (jushr x0 (20 : Int32))) &&& (1023 : Int32))
set_option maxRecDepth 20000 in
theorem c_X9_ofAnyBell {l : Launch} {G : Gg} {x0 : Int32} {σ : Mm} {v : Int32} (h : f_X9_ofAnyBell σ x0 = some v) : MR l G 0 M_X9_ofAnyBell [.int x0] σ (some (.int v)) σ := by
  unfold f_X9_ofAnyBell at h
  refine MR.of (by decide +kernel) (Nat.le_of_ble_eq_true rfl) ?_
  show AW l G 0 M_X9_ofAnyBell (some (.int v)) σ 0 [(0, .int x0)] [] σ
  refine AW.iload_n dX9_ofAnyBell_0 (.refl 1) 0 rfl ?_
  refine AW.iload_n dX9_ofAnyBell_1 (.refl 2) 0 rfl ?_
  refine AW.bipush (v := (10 : Int32)) dX9_ofAnyBell_2 (.refl 4) (by decide) ?_
  refine AW.iushr dX9_ofAnyBell_4 (.refl 5) ?_
  refine AW.ior dX9_ofAnyBell_5 (.refl 6) ?_
  refine AW.iload_n dX9_ofAnyBell_6 (.refl 7) 0 rfl ?_
  refine AW.bipush (v := (20 : Int32)) dX9_ofAnyBell_7 (.refl 9) (by decide) ?_
  refine AW.iushr dX9_ofAnyBell_9 (.refl 10) ?_
  refine AW.ior dX9_ofAnyBell_10 (.refl 11) ?_
  refine AW.sipush (v := (1023 : Int32)) dX9_ofAnyBell_11 (.refl 14) (by decide) ?_
  refine AW.iand dX9_ofAnyBell_14 (.refl 15) ?_
  cases h
  exact AW.ireturn rfl dX9_ofAnyBell_15
def f_X8_wantedSeconds_p22 (σ : Mm) (ke46 : Int32 → Int32 → Option (Int32)) : Nat → Int32 → Int32 → Int32 → Option (Int32)
  | 0, _, _, _ => none
  | n + 1, x1, x2, x3 => (if (10 : Int32) ≤ x3 then ke46 x1 x2 else b1 (f_X8_ringing σ x2 x3) (fun (r2 : Int32) => b1 (f_X9_ofAnyBell σ r2) (fun (r4 : Int32) => (f_X8_wantedSeconds_p22 σ ke46 n) (x1 ||| r4) x2 (x3 + (1 : Int32)))))
def f_X8_wantedSeconds_p46 (σ : Mm) (kh : Int32 → Int32 → Option (Int32)) (x1 : Int32) (x2 : Int32) : Option (Int32) := kh x1 (x2 + (1 : Int32))
def f_X8_wantedSeconds_p4 (σ : Mm) : Nat → Int32 → Int32 → Option (Int32)
  | 0, _, _ => none
  | n + 1, x1, x2 => (if (5 : Int32) ≤ x2 then some x1 else b1 (f_X8_wants σ x2) (fun (r2 : Int32) => b1 (f_X9_ofAnyBell σ r2) (fun (r4 : Int32) => f_X8_wantedSeconds_p22 σ (f_X8_wantedSeconds_p46 σ (f_X8_wantedSeconds_p4 σ n)) FU (x1 ||| r4) x2 (0 : Int32))))
def f_X8_wantedSeconds (σ : Mm)  : Option (Int32) := f_X8_wantedSeconds_p4 σ FU (0 : Int32) (0 : Int32)
set_option maxRecDepth 20000 in
theorem a_X8_wantedSeconds_p22 {l : Launch} {G : Gg} {v : Int32} {σ : Mm} {ke46 : Int32 → Int32 → Option (Int32)} (he46 : ∀ (x1 : Int32) (x2 : Int32), ke46 x1 x2 = some v → AW l G 1 M_X8_wantedSeconds (some (.int v)) σ 46 [(0, .ref 3), (1, .int x1), (2, .int x2)] [] σ) : ∀ (n : Nat) (x1 : Int32) (x2 : Int32) (x3 : Int32), f_X8_wantedSeconds_p22 σ ke46 n x1 x2 x3 = some v → AW l G 1 M_X8_wantedSeconds (some (.int v)) σ 22 [(0, .ref 3), (1, .int x1), (2, .int x2), (3, .int x3)] [] σ := by
  intro n
  induction n with
  | zero => intro x1 x2 x3 h; exact no_some h
  | succ n ih =>
    intro x1 x2 x3 h
    rw [f_X8_wantedSeconds_p22] at h
    refine AW.iload_n dX8_wantedSeconds_22 (.refl 23) 3 rfl ?_
    refine AW.bipush (v := (10 : Int32)) dX8_wantedSeconds_23 (.refl 25) (by decide) ?_
    refine AW.icmp_ge (tgt := 46) dX8_wantedSeconds_25 (by decide) (fun c5 => ?_) (fun c5 => ?_)
    · have h := ifp c5 h
      refine AW.sub (L' := [(0, .ref 3), (1, .int x1), (2, .int x2)]) [0, 1, 2] rfl ?_
      exact he46 x1 x2 h
    · have h := ifn c5 h
      refine AW.iload_n dX8_wantedSeconds_28 (.refl 29) 1 rfl ?_
      refine AW.aload_n dX8_wantedSeconds_29 (.refl 30) 0 rfl ?_
      refine AW.iload_n dX8_wantedSeconds_30 (.refl 31) 2 rfl ?_
      refine AW.iload_n dX8_wantedSeconds_31 (.refl 32) 3 rfl ?_
      obtain ⟨r2, e1, h⟩ := b1_s h
      refine AW.callV (r' := (some (.int r2))) (σ' := σ) (rest := [.int x1]) lm_X8_71 (c_X8_ringing e1) (by decide) (by decide) rfl rfl (by decide) rfl rfl (Nat.le_of_ble_eq_true rfl) dX8_wantedSeconds_32 (.refl 35) (st' := [.int r2, .int x1]) rfl ?_
      obtain ⟨r4, e3, h⟩ := b1_s h
      refine AW.callN (r' := (some (.int r4))) (σ' := σ) (rest := [.int x1]) lm_X8_68 (c_X9_ofAnyBell e3) (by decide) (by decide) rfl rfl (Nat.le_of_ble_eq_true rfl) dX8_wantedSeconds_35 (.refl 38) (st' := [.int r4, .int x1]) rfl ?_
      refine AW.ior dX8_wantedSeconds_38 (.refl 39) ?_
      refine AW.istore_n (L' := [(1, .int (x1 ||| r4)), (0, .ref 3), (2, .int x2), (3, .int x3)]) dX8_wantedSeconds_39 (.refl 40) (by decide) rfl ?_
      refine AW.iinc (v := (x3 + (1 : Int32))) (L' := [(3, .int (x3 + (1 : Int32))), (1, .int (x1 ||| r4)), (0, .ref 3), (2, .int x2)]) dX8_wantedSeconds_40 (.refl 43) 3 rfl rfl (by decide) rfl ?_
      refine AW.goto (tgt := 22) dX8_wantedSeconds_43 (by decide) ?_
      refine AW.sub (L' := [(0, .ref 3), (1, .int (x1 ||| r4)), (2, .int x2), (3, .int (x3 + (1 : Int32)))]) [2, 1, 3, 0] rfl ?_
      exact ih (x1 ||| r4) x2 (x3 + (1 : Int32)) h
set_option maxRecDepth 20000 in
theorem a_X8_wantedSeconds_p46 {l : Launch} {G : Gg} {v : Int32} {σ : Mm} {kh : Int32 → Int32 → Option (Int32)} (hkh : ∀ (x1 : Int32) (x2 : Int32), kh x1 x2 = some v → AW l G 1 M_X8_wantedSeconds (some (.int v)) σ 4 [(0, .ref 3), (1, .int x1), (2, .int x2)] [] σ) (x1 : Int32) (x2 : Int32) (h : f_X8_wantedSeconds_p46 σ kh x1 x2 = some v) : AW l G 1 M_X8_wantedSeconds (some (.int v)) σ 46 [(0, .ref 3), (1, .int x1), (2, .int x2)] [] σ := by
  unfold f_X8_wantedSeconds_p46 at h
  refine AW.iinc (v := (x2 + (1 : Int32))) (L' := [(2, .int (x2 + (1 : Int32))), (0, .ref 3), (1, .int x1)]) dX8_wantedSeconds_46 (.refl 49) 2 rfl rfl (by decide) rfl ?_
  refine AW.goto (tgt := 4) dX8_wantedSeconds_49 (by decide) ?_
  refine AW.sub (L' := [(0, .ref 3), (1, .int x1), (2, .int (x2 + (1 : Int32)))]) [1, 2, 0] rfl ?_
  exact hkh x1 (x2 + (1 : Int32)) h
set_option maxRecDepth 20000 in
theorem a_X8_wantedSeconds_p4 {l : Launch} {G : Gg} {v : Int32} {σ : Mm} : ∀ (n : Nat) (x1 : Int32) (x2 : Int32), f_X8_wantedSeconds_p4 σ n x1 x2 = some v → AW l G 1 M_X8_wantedSeconds (some (.int v)) σ 4 [(0, .ref 3), (1, .int x1), (2, .int x2)] [] σ := by
  intro n
  induction n with
  | zero => intro x1 x2 h; exact no_some h
  | succ n ih =>
    intro x1 x2 h
    rw [f_X8_wantedSeconds_p4] at h
    refine AW.iload_n dX8_wantedSeconds_4 (.refl 5) 2 rfl ?_
    refine AW.iconst (v := (5 : Int32)) dX8_wantedSeconds_5 (.refl 6) (by decide) ?_
    refine AW.icmp_ge (tgt := 52) dX8_wantedSeconds_6 (by decide) (fun c5 => ?_) (fun c5 => ?_)
    · have h := ifp c5 h
      refine AW.iload_n dX8_wantedSeconds_52 (.refl 53) 1 rfl ?_
      cases h
      exact AW.ireturn rfl dX8_wantedSeconds_53
    · have h := ifn c5 h
      refine AW.iload_n dX8_wantedSeconds_9 (.refl 10) 1 rfl ?_
      refine AW.aload_n dX8_wantedSeconds_10 (.refl 11) 0 rfl ?_
      refine AW.iload_n dX8_wantedSeconds_11 (.refl 12) 2 rfl ?_
      obtain ⟨r2, e1, h⟩ := b1_s h
      refine AW.callV (r' := (some (.int r2))) (σ' := σ) (rest := [.int x1]) lm_X8_64 (c_X8_wants e1) (by decide) (by decide) rfl rfl (by decide) rfl rfl (Nat.le_of_ble_eq_true rfl) dX8_wantedSeconds_12 (.refl 15) (st' := [.int r2, .int x1]) rfl ?_
      obtain ⟨r4, e3, h⟩ := b1_s h
      refine AW.callN (r' := (some (.int r4))) (σ' := σ) (rest := [.int x1]) lm_X8_68 (c_X9_ofAnyBell e3) (by decide) (by decide) rfl rfl (Nat.le_of_ble_eq_true rfl) dX8_wantedSeconds_15 (.refl 18) (st' := [.int r4, .int x1]) rfl ?_
      refine AW.ior dX8_wantedSeconds_18 (.refl 19) ?_
      refine AW.istore_n (L' := [(1, .int (x1 ||| r4)), (0, .ref 3), (2, .int x2)]) dX8_wantedSeconds_19 (.refl 20) (by decide) rfl ?_
      refine AW.iconst (v := (0 : Int32)) dX8_wantedSeconds_20 (.refl 21) (by decide) ?_
      refine AW.istore_n (L' := [(3, .int (0 : Int32)), (1, .int (x1 ||| r4)), (0, .ref 3), (2, .int x2)]) dX8_wantedSeconds_21 (.refl 22) (by decide) rfl ?_
      refine AW.sub (L' := [(0, .ref 3), (1, .int (x1 ||| r4)), (2, .int x2), (3, .int (0 : Int32))]) [2, 1, 3, 0] rfl ?_
      exact a_X8_wantedSeconds_p22 (a_X8_wantedSeconds_p46 ih) FU (x1 ||| r4) x2 (0 : Int32) h
set_option maxRecDepth 20000 in
theorem c_X8_wantedSeconds {l : Launch} {G : Gg}  {σ : Mm} {v : Int32} (h : f_X8_wantedSeconds σ  = some v) : MR l G 1 M_X8_wantedSeconds [.ref 3] σ (some (.int v)) σ := by
  unfold f_X8_wantedSeconds at h
  refine MR.of (by decide +kernel) (Nat.le_of_ble_eq_true rfl) ?_
  show AW l G 1 M_X8_wantedSeconds (some (.int v)) σ 0 [(0, .ref 3)] [] σ
  refine AW.iconst (v := (0 : Int32)) dX8_wantedSeconds_0 (.refl 1) (by decide) ?_
  refine AW.istore_n (L' := [(1, .int (0 : Int32)), (0, .ref 3)]) dX8_wantedSeconds_1 (.refl 2) (by decide) rfl ?_
  refine AW.iconst (v := (0 : Int32)) dX8_wantedSeconds_2 (.refl 3) (by decide) ?_
  refine AW.istore_n (L' := [(2, .int (0 : Int32)), (1, .int (0 : Int32)), (0, .ref 3)]) dX8_wantedSeconds_3 (.refl 4) (by decide) rfl ?_
  refine AW.sub (L' := [(0, .ref 3), (1, .int (0 : Int32)), (2, .int (0 : Int32))]) [2, 1, 0] rfl ?_
  exact a_X8_wantedSeconds_p4 FU (0 : Int32) (0 : Int32) h
def f_X9_unwanted (σ : Mm)  : Option (Int32) := b1 (f_X8_wantedSeconds σ) (fun (r2 : Int32) => some ((1023 : Int32) &&& (r2 ^^^ (-1 : Int32))))
set_option maxRecDepth 20000 in
theorem c_X9_unwanted {l : Launch} {G : Gg}  {σ : Mm} {v : Int32} (h : f_X9_unwanted σ  = some v) : MR l G 2 M_X9_unwanted [.ref 0] σ (some (.int v)) σ := by
  unfold f_X9_unwanted at h
  refine MR.of (by decide +kernel) (Nat.le_of_ble_eq_true rfl) ?_
  show AW l G 2 M_X9_unwanted (some (.int v)) σ 0 [(0, .ref 0)] [] σ
  refine AW.sipush (v := (1023 : Int32)) dX9_unwanted_0 (.refl 3) (by decide) ?_
  refine AW.aload_n dX9_unwanted_3 (.refl 4) 0 rfl ?_
  refine AW.getR (z := 3) lk_X9_19 rfl rfl (by decide) rfl dX9_unwanted_4 (.refl 7) ?_
  obtain ⟨r2, e1, h⟩ := b1_s h
  refine AW.callV (r' := (some (.int r2))) (σ' := σ) (rest := [.int (1023 : Int32)]) lm_X9_267 (c_X8_wantedSeconds e1) (by decide) (by decide) rfl rfl (by decide) rfl rfl (Nat.le_of_ble_eq_true rfl) dX9_unwanted_7 (.refl 10) (st' := [.int r2, .int (1023 : Int32)]) rfl ?_
  refine AW.iconst (v := (-1 : Int32)) dX9_unwanted_10 (.refl 11) (by decide) ?_
  refine AW.ixor dX9_unwanted_11 (.refl 12) ?_
  refine AW.iand dX9_unwanted_12 (.refl 13) ?_
  cases h
  exact AW.ireturn rfl dX9_unwanted_13
def f_X9_isBid (σ : Mm) (x0 : Int32) : Option (Int32) := (if x0 < 0 then some (0 : Int32) else (if (9 : Int32) < x0 then some (0 : Int32) else some (1 : Int32)))
set_option maxRecDepth 20000 in
theorem c_X9_isBid {l : Launch} {G : Gg} {x0 : Int32} {σ : Mm} {v : Int32} (h : f_X9_isBid σ x0 = some v) : MR l G 0 M_X9_isBid [.int x0] σ (some (.int v)) σ := by
  unfold f_X9_isBid at h
  refine MR.of (by decide +kernel) (Nat.le_of_ble_eq_true rfl) ?_
  show AW l G 0 M_X9_isBid (some (.int v)) σ 0 [(0, .int x0)] [] σ
  refine AW.iload_n dX9_isBid_0 (.refl 1) 0 rfl ?_
  refine AW.if_lt (tgt := 14) dX9_isBid_1 (by decide) (fun c2 => ?_) (fun c2 => ?_)
  · have h := ifp c2 h
    refine AW.iconst (v := (0 : Int32)) dX9_isBid_14 (.refl 15) (by decide) ?_
    cases h
    exact AW.zreturn rfl (by decide) dX9_isBid_15
  · have h := ifn c2 h
    refine AW.iload_n dX9_isBid_4 (.refl 5) 0 rfl ?_
    refine AW.bipush (v := (9 : Int32)) dX9_isBid_5 (.refl 7) (by decide) ?_
    refine AW.icmp_gt (tgt := 14) dX9_isBid_7 (by decide) (fun c1 => ?_) (fun c1 => ?_)
    · have h := ifp c1 h
      refine AW.iconst (v := (0 : Int32)) dX9_isBid_14 (.refl 15) (by decide) ?_
      cases h
      exact AW.zreturn rfl (by decide) dX9_isBid_15
    · have h := ifn c1 h
      refine AW.iconst (v := (1 : Int32)) dX9_isBid_10 (.refl 11) (by decide) ?_
      refine AW.goto (tgt := 15) dX9_isBid_11 (by decide) ?_
      cases h
      exact AW.zreturn rfl (by decide) dX9_isBid_15
def f_X9_gainOfOne (σ : Mm) (x0 : Int32) (x1 : Int32) (x2 : Int32) : Option (Int32) := (if x1 < x2 then some (0 : Int32) else some (x0 - x1))
set_option maxRecDepth 20000 in
theorem c_X9_gainOfOne {l : Launch} {G : Gg} {x0 : Int32} {x1 : Int32} {x2 : Int32} {σ : Mm} {v : Int32} (h : f_X9_gainOfOne σ x0 x1 x2 = some v) : MR l G 0 M_X9_gainOfOne [.int x0, .int x1, .int x2] σ (some (.int v)) σ := by
  unfold f_X9_gainOfOne at h
  refine MR.of (by decide +kernel) (Nat.le_of_ble_eq_true rfl) ?_
  show AW l G 0 M_X9_gainOfOne (some (.int v)) σ 0 [(0, .int x0), (1, .int x1), (2, .int x2)] [] σ
  refine AW.iload_n dX9_gainOfOne_0 (.refl 1) 1 rfl ?_
  refine AW.iload_n dX9_gainOfOne_1 (.refl 2) 2 rfl ?_
  refine AW.icmp_lt (tgt := 11) dX9_gainOfOne_2 (by decide) (fun c1 => ?_) (fun c1 => ?_)
  · have h := ifp c1 h
    refine AW.iconst (v := (0 : Int32)) dX9_gainOfOne_11 (.refl 12) (by decide) ?_
    cases h
    exact AW.ireturn rfl dX9_gainOfOne_12
  · have h := ifn c1 h
    refine AW.iload_n dX9_gainOfOne_5 (.refl 6) 0 rfl ?_
    refine AW.iload_n dX9_gainOfOne_6 (.refl 7) 1 rfl ?_
    refine AW.isub dX9_gainOfOne_7 (.refl 8) ?_
    refine AW.goto (tgt := 12) dX9_gainOfOne_8 (by decide) ?_
    cases h
    exact AW.ireturn rfl dX9_gainOfOne_12
def f_X9_gainOfOther (σ : Mm) (x0 : Int32) (x1 : Int32) (x2 : Int32) : Option (Int32) := (if x2 ≤ x1 then some (0 : Int32) else some (x0 - x2))
set_option maxRecDepth 20000 in
theorem c_X9_gainOfOther {l : Launch} {G : Gg} {x0 : Int32} {x1 : Int32} {x2 : Int32} {σ : Mm} {v : Int32} (h : f_X9_gainOfOther σ x0 x1 x2 = some v) : MR l G 0 M_X9_gainOfOther [.int x0, .int x1, .int x2] σ (some (.int v)) σ := by
  unfold f_X9_gainOfOther at h
  refine MR.of (by decide +kernel) (Nat.le_of_ble_eq_true rfl) ?_
  show AW l G 0 M_X9_gainOfOther (some (.int v)) σ 0 [(0, .int x0), (1, .int x1), (2, .int x2)] [] σ
  refine AW.iload_n dX9_gainOfOther_0 (.refl 1) 2 rfl ?_
  refine AW.iload_n dX9_gainOfOther_1 (.refl 2) 1 rfl ?_
  refine AW.icmp_le (tgt := 11) dX9_gainOfOther_2 (by decide) (fun c1 => ?_) (fun c1 => ?_)
  · have h := ifp c1 h
    refine AW.iconst (v := (0 : Int32)) dX9_gainOfOther_11 (.refl 12) (by decide) ?_
    cases h
    exact AW.ireturn rfl dX9_gainOfOther_12
  · have h := ifn c1 h
    refine AW.iload_n dX9_gainOfOther_5 (.refl 6) 0 rfl ?_
    refine AW.iload_n dX9_gainOfOther_6 (.refl 7) 2 rfl ?_
    refine AW.isub dX9_gainOfOther_7 (.refl 8) ?_
    refine AW.goto (tgt := 12) dX9_gainOfOther_8 (by decide) ?_
    cases h
    exact AW.ireturn rfl dX9_gainOfOther_12
def f_X9_rests_p3 (σ : Mm) : Nat → Int32 → Int32 → Int32 → Int32 → Int32 → Option (Int32)
  | 0, _, _, _, _, _ => none
  | n + 1, x0, x1, x2, x3, x4 => (if (9 : Int32) < x4 then some (1 : Int32) else b1 (f_X9_gainOfOne σ x0 x4 x3) (fun (r2 : Int32) => b1 (f_X9_gainOfOne σ x0 x2 x3) (fun (r4 : Int32) => (if r2 ≤ r4 then b1 (f_X9_gainOfOther σ x1 x2 x4) (fun (r6 : Int32) => b1 (f_X9_gainOfOther σ x1 x2 x3) (fun (r8 : Int32) => (if r6 ≤ r8 then (f_X9_rests_p3 σ n) x0 x1 x2 x3 (x4 + (1 : Int32)) else some (0 : Int32)))) else some (0 : Int32)))))
def f_X9_rests (σ : Mm) (x0 : Int32) (x1 : Int32) (x2 : Int32) (x3 : Int32) : Option (Int32) := f_X9_rests_p3 σ FU x0 x1 x2 x3 (0 : Int32)
set_option maxRecDepth 20000 in
theorem a_X9_rests_p3 {l : Launch} {G : Gg} {v : Int32} {σ : Mm} : ∀ (n : Nat) (x0 : Int32) (x1 : Int32) (x2 : Int32) (x3 : Int32) (x4 : Int32), f_X9_rests_p3 σ n x0 x1 x2 x3 x4 = some v → AW l G 1 M_X9_rests (some (.int v)) σ 3 [(0, .int x0), (1, .int x1), (2, .int x2), (3, .int x3), (4, .int x4)] [] σ := by
  intro n
  induction n with
  | zero => intro x0 x1 x2 x3 x4 h; exact no_some h
  | succ n ih =>
    intro x0 x1 x2 x3 x4 h
    rw [f_X9_rests_p3] at h
    refine AW.iload dX9_rests_3 (.refl 5) 4 rfl ?_
    refine AW.bipush (v := (9 : Int32)) dX9_rests_5 (.refl 7) (by decide) ?_
    refine AW.icmp_gt (tgt := 52) dX9_rests_7 (by decide) (fun c11 => ?_) (fun c11 => ?_)
    · have h := ifp c11 h
      refine AW.iconst (v := (1 : Int32)) dX9_rests_52 (.refl 53) (by decide) ?_
      cases h
      exact AW.zreturn rfl (by decide) dX9_rests_53
    · have h := ifn c11 h
      refine AW.iload_n dX9_rests_10 (.refl 11) 0 rfl ?_
      refine AW.iload dX9_rests_11 (.refl 13) 4 rfl ?_
      refine AW.iload_n dX9_rests_13 (.refl 14) 3 rfl ?_
      obtain ⟨r2, e1, h⟩ := b1_s h
      refine AW.callS (r' := (some (.int r2))) (σ' := σ) (rest := []) lm_X9_307 (c_X9_gainOfOne e1) (by decide) (by decide) rfl rfl (Nat.le_of_ble_eq_true rfl) dX9_rests_14 (.refl 17) (st' := [.int r2]) rfl ?_
      refine AW.iload_n dX9_rests_17 (.refl 18) 0 rfl ?_
      refine AW.iload_n dX9_rests_18 (.refl 19) 2 rfl ?_
      refine AW.iload_n dX9_rests_19 (.refl 20) 3 rfl ?_
      obtain ⟨r4, e3, h⟩ := b1_s h
      refine AW.callS (r' := (some (.int r4))) (σ' := σ) (rest := [.int r2]) lm_X9_307 (c_X9_gainOfOne e3) (by decide) (by decide) rfl rfl (Nat.le_of_ble_eq_true rfl) dX9_rests_20 (.refl 23) (st' := [.int r4, .int r2]) rfl ?_
      refine AW.icmp_le (tgt := 28) dX9_rests_23 (by decide) (fun c10 => ?_) (fun c10 => ?_)
      · have h := ifp c10 h
        refine AW.iload_n dX9_rests_28 (.refl 29) 1 rfl ?_
        refine AW.iload_n dX9_rests_29 (.refl 30) 2 rfl ?_
        refine AW.iload dX9_rests_30 (.refl 32) 4 rfl ?_
        obtain ⟨r6, e5, h⟩ := b1_s h
        refine AW.callS (r' := (some (.int r6))) (σ' := σ) (rest := []) lm_X9_311 (c_X9_gainOfOther e5) (by decide) (by decide) rfl rfl (Nat.le_of_ble_eq_true rfl) dX9_rests_32 (.refl 35) (st' := [.int r6]) rfl ?_
        refine AW.iload_n dX9_rests_35 (.refl 36) 1 rfl ?_
        refine AW.iload_n dX9_rests_36 (.refl 37) 2 rfl ?_
        refine AW.iload_n dX9_rests_37 (.refl 38) 3 rfl ?_
        obtain ⟨r8, e7, h⟩ := b1_s h
        refine AW.callS (r' := (some (.int r8))) (σ' := σ) (rest := [.int r6]) lm_X9_311 (c_X9_gainOfOther e7) (by decide) (by decide) rfl rfl (Nat.le_of_ble_eq_true rfl) dX9_rests_38 (.refl 41) (st' := [.int r8, .int r6]) rfl ?_
        refine AW.icmp_le (tgt := 46) dX9_rests_41 (by decide) (fun c9 => ?_) (fun c9 => ?_)
        · have h := ifp c9 h
          refine AW.iinc (v := (x4 + (1 : Int32))) (L' := [(4, .int (x4 + (1 : Int32))), (0, .int x0), (1, .int x1), (2, .int x2), (3, .int x3)]) dX9_rests_46 (.refl 49) 4 rfl rfl (by decide) rfl ?_
          refine AW.goto (tgt := 3) dX9_rests_49 (by decide) ?_
          refine AW.sub (L' := [(0, .int x0), (1, .int x1), (2, .int x2), (3, .int x3), (4, .int (x4 + (1 : Int32)))]) [1, 2, 3, 4, 0] rfl ?_
          exact ih x0 x1 x2 x3 (x4 + (1 : Int32)) h
        · have h := ifn c9 h
          refine AW.iconst (v := (0 : Int32)) dX9_rests_44 (.refl 45) (by decide) ?_
          cases h
          exact AW.zreturn rfl (by decide) dX9_rests_45
      · have h := ifn c10 h
        refine AW.iconst (v := (0 : Int32)) dX9_rests_26 (.refl 27) (by decide) ?_
        cases h
        exact AW.zreturn rfl (by decide) dX9_rests_27
set_option maxRecDepth 20000 in
theorem c_X9_rests {l : Launch} {G : Gg} {x0 : Int32} {x1 : Int32} {x2 : Int32} {x3 : Int32} {σ : Mm} {v : Int32} (h : f_X9_rests σ x0 x1 x2 x3 = some v) : MR l G 1 M_X9_rests [.int x0, .int x1, .int x2, .int x3] σ (some (.int v)) σ := by
  unfold f_X9_rests at h
  refine MR.of (by decide +kernel) (Nat.le_of_ble_eq_true rfl) ?_
  show AW l G 1 M_X9_rests (some (.int v)) σ 0 [(0, .int x0), (1, .int x1), (2, .int x2), (3, .int x3)] [] σ
  refine AW.iconst (v := (0 : Int32)) dX9_rests_0 (.refl 1) (by decide) ?_
  refine AW.istore (L' := [(4, .int (0 : Int32)), (0, .int x0), (1, .int x1), (2, .int x2), (3, .int x3)]) dX9_rests_1 (.refl 3) (by decide) rfl ?_
  refine AW.sub (L' := [(0, .int x0), (1, .int x1), (2, .int x2), (3, .int x3), (4, .int (0 : Int32))]) [1, 2, 3, 4, 0] rfl ?_
  exact a_X9_rests_p3 FU x0 x1 x2 x3 (0 : Int32) h
def f_X9_sealed_p46 (σ : Mm) (ke96 : Int32 → Int32 → Int32 → Int32 → Int32 → Int32 → Option (Int32)) : Nat → Int32 → Int32 → Int32 → Int32 → Int32 → Int32 → Int32 → Option (Int32)
  | 0, _, _, _, _, _, _, _ => none
  | n + 1, x1, x2, x3, x4, x5, x6, x7 => (if (9 : Int32) < x7 then ke96 x1 x2 x3 x4 x5 x6 else b1 (f_X9_rests σ x1 x2 x6 x7) (fun (r2 : Int32) => (if r2 = 0 then (f_X9_sealed_p46 σ ke96 n) x1 x2 x3 x4 x5 x6 (x7 + (1 : Int32)) else (if x5 = (-9 : Int32) then (f_X9_sealed_p46 σ ke96 n) x1 x2 x3 (x4 + (1 : Int32)) (((10 : Int32) * x6) + x7) x6 (x7 + (1 : Int32)) else (f_X9_sealed_p46 σ ke96 n) x1 x2 x3 (x4 + (1 : Int32)) x5 x6 (x7 + (1 : Int32))))))
def f_X9_sealed_p96 (σ : Mm) (kh : Int32 → Int32 → Int32 → Int32 → Int32 → Int32 → Option (Int32)) (ke102 : Int32 → Int32 → Int32 → Option (Int32)) (x1 : Int32) (x2 : Int32) (x3 : Int32) (x4 : Int32) (x5 : Int32) (x6 : Int32) : Option (Int32) := kh x1 x2 x3 x4 x5 (x6 + (1 : Int32))
def f_X9_sealed_p36 (σ : Mm) (ke102 : Int32 → Int32 → Int32 → Option (Int32)) : Nat → Int32 → Int32 → Int32 → Int32 → Int32 → Int32 → Option (Int32)
  | 0, _, _, _, _, _, _ => none
  | n + 1, x1, x2, x3, x4, x5, x6 => (if (9 : Int32) < x6 then ke102 x3 x4 x5 else f_X9_sealed_p46 σ (f_X9_sealed_p96 σ (f_X9_sealed_p36 σ ke102 n) ke102) FU x1 x2 x3 x4 x5 x6 (0 : Int32))
def f_X9_sealed_p102 (σ : Mm) (x3 : Int32) (x4 : Int32) (x5 : Int32) : Option (Int32) := (if x3 = 0 then some x4 else some x5)
def f_X9_sealed (σ : Mm) (x1 : Int32) (x2 : Int32) (x3 : Int32) : Option (Int32) := b1 (f_X9_isBid σ x1) (fun (r2 : Int32) => (if r2 = 0 then some (-2 : Int32) else b1 (f_X9_isBid σ x2) (fun (r4 : Int32) => (if r4 = 0 then some (-2 : Int32) else (if x3 < 0 then some (-2 : Int32) else (if x3 ≤ (1 : Int32) then f_X9_sealed_p36 σ (f_X9_sealed_p102 σ) FU x1 x2 x3 (0 : Int32) (-9 : Int32) (0 : Int32) else some (-2 : Int32)))))))
set_option maxRecDepth 20000 in
theorem a_X9_sealed_p46 {l : Launch} {G : Gg} {v : Int32} {σ : Mm} {ke96 : Int32 → Int32 → Int32 → Int32 → Int32 → Int32 → Option (Int32)} (he96 : ∀ (x1 : Int32) (x2 : Int32) (x3 : Int32) (x4 : Int32) (x5 : Int32) (x6 : Int32), ke96 x1 x2 x3 x4 x5 x6 = some v → AW l G 2 M_X9_sealed (some (.int v)) σ 96 [(1, .int x1), (2, .int x2), (3, .int x3), (4, .int x4), (5, .int x5), (6, .int x6)] [] σ) : ∀ (n : Nat) (x1 : Int32) (x2 : Int32) (x3 : Int32) (x4 : Int32) (x5 : Int32) (x6 : Int32) (x7 : Int32), f_X9_sealed_p46 σ ke96 n x1 x2 x3 x4 x5 x6 x7 = some v → AW l G 2 M_X9_sealed (some (.int v)) σ 46 [(1, .int x1), (2, .int x2), (3, .int x3), (4, .int x4), (5, .int x5), (6, .int x6), (7, .int x7)] [] σ := by
  intro n
  induction n with
  | zero => intro x1 x2 x3 x4 x5 x6 x7 h; exact no_some h
  | succ n ih =>
    intro x1 x2 x3 x4 x5 x6 x7 h
    rw [f_X9_sealed_p46] at h
    refine AW.iload dX9_sealed_46 (.refl 48) 6 rfl ?_
    refine AW.bipush (v := (9 : Int32)) dX9_sealed_48 (.refl 50) (by decide) ?_
    refine AW.icmp_gt (tgt := 96) dX9_sealed_50 (by decide) (fun c5 => ?_) (fun c5 => ?_)
    · have h := ifp c5 h
      refine AW.sub (L' := [(1, .int x1), (2, .int x2), (3, .int x3), (4, .int x4), (5, .int x5), (6, .int x6)]) [0, 1, 2, 3, 4, 5] rfl ?_
      exact he96 x1 x2 x3 x4 x5 x6 h
    · have h := ifn c5 h
      refine AW.iload_n dX9_sealed_53 (.refl 54) 0 rfl ?_
      refine AW.iload_n dX9_sealed_54 (.refl 55) 1 rfl ?_
      refine AW.iload dX9_sealed_55 (.refl 57) 5 rfl ?_
      refine AW.iload dX9_sealed_57 (.refl 59) 6 rfl ?_
      obtain ⟨r2, e1, h⟩ := b1_s h
      refine AW.callS (r' := (some (.int r2))) (σ' := σ) (rest := []) lm_X9_273 (c_X9_rests e1) (by decide) (by decide) rfl rfl (Nat.le_of_ble_eq_true rfl) dX9_sealed_59 (.refl 62) (st' := [.int r2]) rfl ?_
      refine AW.if_eq (tgt := 90) dX9_sealed_62 (by decide) (fun c4 => ?_) (fun c4 => ?_)
      · have h := ifp c4 h
        refine AW.iinc (v := (x7 + (1 : Int32))) (L' := [(7, .int (x7 + (1 : Int32))), (1, .int x1), (2, .int x2), (3, .int x3), (4, .int x4), (5, .int x5), (6, .int x6)]) dX9_sealed_90 (.refl 93) 6 rfl rfl (by decide) rfl ?_
        refine AW.goto (tgt := 46) dX9_sealed_93 (by decide) ?_
        refine AW.sub (L' := [(1, .int x1), (2, .int x2), (3, .int x3), (4, .int x4), (5, .int x5), (6, .int x6), (7, .int (x7 + (1 : Int32)))]) [1, 2, 3, 4, 5, 6, 0] rfl ?_
        exact ih x1 x2 x3 x4 x5 x6 (x7 + (1 : Int32)) h
      · have h := ifn c4 h
        refine AW.iinc (v := (x4 + (1 : Int32))) (L' := [(4, .int (x4 + (1 : Int32))), (1, .int x1), (2, .int x2), (3, .int x3), (5, .int x5), (6, .int x6), (7, .int x7)]) dX9_sealed_65 (.refl 68) 3 rfl rfl (by decide) rfl ?_
        refine AW.iload dX9_sealed_68 (.refl 70) 4 rfl ?_
        refine AW.bipush (v := (-9 : Int32)) dX9_sealed_70 (.refl 72) (by decide) ?_
        refine AW.icmp_ne (tgt := 86) dX9_sealed_72 (by decide) (fun c3 => ?_) (fun c3 => ?_)
        · have h := ifn c3 h
          refine AW.iload dX9_sealed_86 (.refl 88) 4 rfl ?_
          refine AW.istore (L' := [(5, .int x5), (4, .int (x4 + (1 : Int32))), (1, .int x1), (2, .int x2), (3, .int x3), (6, .int x6), (7, .int x7)]) dX9_sealed_88 (.refl 90) (by decide) rfl ?_
          refine AW.iinc (v := (x7 + (1 : Int32))) (L' := [(7, .int (x7 + (1 : Int32))), (5, .int x5), (4, .int (x4 + (1 : Int32))), (1, .int x1), (2, .int x2), (3, .int x3), (6, .int x6)]) dX9_sealed_90 (.refl 93) 6 rfl rfl (by decide) rfl ?_
          refine AW.goto (tgt := 46) dX9_sealed_93 (by decide) ?_
          refine AW.sub (L' := [(1, .int x1), (2, .int x2), (3, .int x3), (4, .int (x4 + (1 : Int32))), (5, .int x5), (6, .int x6), (7, .int (x7 + (1 : Int32)))]) [3, 4, 5, 2, 1, 6, 0] rfl ?_
          exact ih x1 x2 x3 (x4 + (1 : Int32)) x5 x6 (x7 + (1 : Int32)) h
        · have h := ifp c3 h
          refine AW.bipush (v := (10 : Int32)) dX9_sealed_75 (.refl 77) (by decide) ?_
          refine AW.iload dX9_sealed_77 (.refl 79) 5 rfl ?_
          refine AW.imul dX9_sealed_79 (.refl 80) ?_
          refine AW.iload dX9_sealed_80 (.refl 82) 6 rfl ?_
          refine AW.iadd dX9_sealed_82 (.refl 83) ?_
          refine AW.goto (tgt := 88) dX9_sealed_83 (by decide) ?_
          refine AW.istore (L' := [(5, .int (((10 : Int32) * x6) + x7)), (4, .int (x4 + (1 : Int32))), (1, .int x1), (2, .int x2), (3, .int x3), (6, .int x6), (7, .int x7)]) dX9_sealed_88 (.refl 90) (by decide) rfl ?_
          refine AW.iinc (v := (x7 + (1 : Int32))) (L' := [(7, .int (x7 + (1 : Int32))), (5, .int (((10 : Int32) * x6) + x7)), (4, .int (x4 + (1 : Int32))), (1, .int x1), (2, .int x2), (3, .int x3), (6, .int x6)]) dX9_sealed_90 (.refl 93) 6 rfl rfl (by decide) rfl ?_
          refine AW.goto (tgt := 46) dX9_sealed_93 (by decide) ?_
          refine AW.sub (L' := [(1, .int x1), (2, .int x2), (3, .int x3), (4, .int (x4 + (1 : Int32))), (5, .int (((10 : Int32) * x6) + x7)), (6, .int x6), (7, .int (x7 + (1 : Int32)))]) [3, 4, 5, 2, 1, 6, 0] rfl ?_
          exact ih x1 x2 x3 (x4 + (1 : Int32)) (((10 : Int32) * x6) + x7) x6 (x7 + (1 : Int32)) h
set_option maxRecDepth 20000 in
theorem a_X9_sealed_p96 {l : Launch} {G : Gg} {v : Int32} {σ : Mm} {kh : Int32 → Int32 → Int32 → Int32 → Int32 → Int32 → Option (Int32)} (hkh : ∀ (x1 : Int32) (x2 : Int32) (x3 : Int32) (x4 : Int32) (x5 : Int32) (x6 : Int32), kh x1 x2 x3 x4 x5 x6 = some v → AW l G 2 M_X9_sealed (some (.int v)) σ 36 [(1, .int x1), (2, .int x2), (3, .int x3), (4, .int x4), (5, .int x5), (6, .int x6)] [] σ) {ke102 : Int32 → Int32 → Int32 → Option (Int32)} (he102 : ∀ (x3 : Int32) (x4 : Int32) (x5 : Int32), ke102 x3 x4 x5 = some v → AW l G 2 M_X9_sealed (some (.int v)) σ 102 [(3, .int x3), (4, .int x4), (5, .int x5)] [] σ) (x1 : Int32) (x2 : Int32) (x3 : Int32) (x4 : Int32) (x5 : Int32) (x6 : Int32) (h : f_X9_sealed_p96 σ kh ke102 x1 x2 x3 x4 x5 x6 = some v) : AW l G 2 M_X9_sealed (some (.int v)) σ 96 [(1, .int x1), (2, .int x2), (3, .int x3), (4, .int x4), (5, .int x5), (6, .int x6)] [] σ := by
  unfold f_X9_sealed_p96 at h
  refine AW.iinc (v := (x6 + (1 : Int32))) (L' := [(6, .int (x6 + (1 : Int32))), (1, .int x1), (2, .int x2), (3, .int x3), (4, .int x4), (5, .int x5)]) dX9_sealed_96 (.refl 99) 5 rfl rfl (by decide) rfl ?_
  refine AW.goto (tgt := 36) dX9_sealed_99 (by decide) ?_
  refine AW.sub (L' := [(1, .int x1), (2, .int x2), (3, .int x3), (4, .int x4), (5, .int x5), (6, .int (x6 + (1 : Int32)))]) [1, 2, 3, 4, 5, 0] rfl ?_
  exact hkh x1 x2 x3 x4 x5 (x6 + (1 : Int32)) h
set_option maxRecDepth 20000 in
theorem a_X9_sealed_p36 {l : Launch} {G : Gg} {v : Int32} {σ : Mm} {ke102 : Int32 → Int32 → Int32 → Option (Int32)} (he102 : ∀ (x3 : Int32) (x4 : Int32) (x5 : Int32), ke102 x3 x4 x5 = some v → AW l G 2 M_X9_sealed (some (.int v)) σ 102 [(3, .int x3), (4, .int x4), (5, .int x5)] [] σ) : ∀ (n : Nat) (x1 : Int32) (x2 : Int32) (x3 : Int32) (x4 : Int32) (x5 : Int32) (x6 : Int32), f_X9_sealed_p36 σ ke102 n x1 x2 x3 x4 x5 x6 = some v → AW l G 2 M_X9_sealed (some (.int v)) σ 36 [(1, .int x1), (2, .int x2), (3, .int x3), (4, .int x4), (5, .int x5), (6, .int x6)] [] σ := by
  intro n
  induction n with
  | zero => intro x1 x2 x3 x4 x5 x6 h; exact no_some h
  | succ n ih =>
    intro x1 x2 x3 x4 x5 x6 h
    rw [f_X9_sealed_p36] at h
    refine AW.iload dX9_sealed_36 (.refl 38) 5 rfl ?_
    refine AW.bipush (v := (9 : Int32)) dX9_sealed_38 (.refl 40) (by decide) ?_
    refine AW.icmp_gt (tgt := 102) dX9_sealed_40 (by decide) (fun c1 => ?_) (fun c1 => ?_)
    · have h := ifp c1 h
      refine AW.sub (L' := [(3, .int x3), (4, .int x4), (5, .int x5)]) [2, 3, 4] rfl ?_
      exact he102 x3 x4 x5 h
    · have h := ifn c1 h
      refine AW.iconst (v := (0 : Int32)) dX9_sealed_43 (.refl 44) (by decide) ?_
      refine AW.istore (L' := [(7, .int (0 : Int32)), (1, .int x1), (2, .int x2), (3, .int x3), (4, .int x4), (5, .int x5), (6, .int x6)]) dX9_sealed_44 (.refl 46) (by decide) rfl ?_
      refine AW.sub (L' := [(1, .int x1), (2, .int x2), (3, .int x3), (4, .int x4), (5, .int x5), (6, .int x6), (7, .int (0 : Int32))]) [1, 2, 3, 4, 5, 6, 0] rfl ?_
      exact a_X9_sealed_p46 (a_X9_sealed_p96 ih he102) FU x1 x2 x3 x4 x5 x6 (0 : Int32) h
set_option maxRecDepth 20000 in
theorem a_X9_sealed_p102 {l : Launch} {G : Gg} {v : Int32} {σ : Mm} (x3 : Int32) (x4 : Int32) (x5 : Int32) (h : f_X9_sealed_p102 σ x3 x4 x5 = some v) : AW l G 2 M_X9_sealed (some (.int v)) σ 102 [(3, .int x3), (4, .int x4), (5, .int x5)] [] σ := by
  unfold f_X9_sealed_p102 at h
  refine AW.iload_n dX9_sealed_102 (.refl 103) 0 rfl ?_
  refine AW.if_ne (tgt := 111) dX9_sealed_103 (by decide) (fun c1 => ?_) (fun c1 => ?_)
  · have h := ifn c1 h
    refine AW.iload dX9_sealed_111 (.refl 113) 2 rfl ?_
    cases h
    exact AW.ireturn rfl dX9_sealed_113
  · have h := ifp c1 h
    refine AW.iload dX9_sealed_106 (.refl 108) 1 rfl ?_
    refine AW.goto (tgt := 113) dX9_sealed_108 (by decide) ?_
    cases h
    exact AW.ireturn rfl dX9_sealed_113
set_option maxRecDepth 20000 in
theorem c_X9_sealed {l : Launch} {G : Gg} {x1 : Int32} {x2 : Int32} {x3 : Int32} {σ : Mm} {v : Int32} (h : f_X9_sealed σ x1 x2 x3 = some v) : MR l G 2 M_X9_sealed [.ref 0, .int x1, .int x2, .int x3] σ (some (.int v)) σ := by
  unfold f_X9_sealed at h
  refine MR.of (by decide +kernel) (Nat.le_of_ble_eq_true rfl) ?_
  show AW l G 2 M_X9_sealed (some (.int v)) σ 0 [(0, .ref 0), (1, .int x1), (2, .int x2), (3, .int x3)] [] σ
  refine AW.iload_n dX9_sealed_0 (.refl 1) 1 rfl ?_
  obtain ⟨r2, e1, h⟩ := b1_s h
  refine AW.callS (r' := (some (.int r2))) (σ' := σ) (rest := []) lm_X9_270 (c_X9_isBid e1) (by decide) (by decide) rfl rfl (Nat.le_of_ble_eq_true rfl) dX9_sealed_1 (.refl 4) (st' := [.int r2]) rfl ?_
  refine AW.if_eq (tgt := 23) dX9_sealed_4 (by decide) (fun c8 => ?_) (fun c8 => ?_)
  · have h := ifp c8 h
    refine AW.bipush (v := (-2 : Int32)) dX9_sealed_23 (.refl 25) (by decide) ?_
    cases h
    exact AW.ireturn rfl dX9_sealed_25
  · have h := ifn c8 h
    refine AW.iload_n dX9_sealed_7 (.refl 8) 2 rfl ?_
    obtain ⟨r4, e3, h⟩ := b1_s h
    refine AW.callS (r' := (some (.int r4))) (σ' := σ) (rest := []) lm_X9_270 (c_X9_isBid e3) (by decide) (by decide) rfl rfl (Nat.le_of_ble_eq_true rfl) dX9_sealed_8 (.refl 11) (st' := [.int r4]) rfl ?_
    refine AW.if_eq (tgt := 23) dX9_sealed_11 (by decide) (fun c7 => ?_) (fun c7 => ?_)
    · have h := ifp c7 h
      refine AW.bipush (v := (-2 : Int32)) dX9_sealed_23 (.refl 25) (by decide) ?_
      cases h
      exact AW.ireturn rfl dX9_sealed_25
    · have h := ifn c7 h
      refine AW.iload_n dX9_sealed_14 (.refl 15) 3 rfl ?_
      refine AW.if_lt (tgt := 23) dX9_sealed_15 (by decide) (fun c6 => ?_) (fun c6 => ?_)
      · have h := ifp c6 h
        refine AW.bipush (v := (-2 : Int32)) dX9_sealed_23 (.refl 25) (by decide) ?_
        cases h
        exact AW.ireturn rfl dX9_sealed_25
      · have h := ifn c6 h
        refine AW.iload_n dX9_sealed_18 (.refl 19) 3 rfl ?_
        refine AW.iconst (v := (1 : Int32)) dX9_sealed_19 (.refl 20) (by decide) ?_
        refine AW.icmp_le (tgt := 26) dX9_sealed_20 (by decide) (fun c5 => ?_) (fun c5 => ?_)
        · have h := ifp c5 h
          refine AW.iconst (v := (0 : Int32)) dX9_sealed_26 (.refl 27) (by decide) ?_
          refine AW.istore (L' := [(4, .int (0 : Int32)), (0, .ref 0), (1, .int x1), (2, .int x2), (3, .int x3)]) dX9_sealed_27 (.refl 29) (by decide) rfl ?_
          refine AW.bipush (v := (-9 : Int32)) dX9_sealed_29 (.refl 31) (by decide) ?_
          refine AW.istore (L' := [(5, .int (-9 : Int32)), (4, .int (0 : Int32)), (0, .ref 0), (1, .int x1), (2, .int x2), (3, .int x3)]) dX9_sealed_31 (.refl 33) (by decide) rfl ?_
          refine AW.iconst (v := (0 : Int32)) dX9_sealed_33 (.refl 34) (by decide) ?_
          refine AW.istore (L' := [(6, .int (0 : Int32)), (5, .int (-9 : Int32)), (4, .int (0 : Int32)), (0, .ref 0), (1, .int x1), (2, .int x2), (3, .int x3)]) dX9_sealed_34 (.refl 36) (by decide) rfl ?_
          refine AW.sub (L' := [(1, .int x1), (2, .int x2), (3, .int x3), (4, .int (0 : Int32)), (5, .int (-9 : Int32)), (6, .int (0 : Int32))]) [4, 5, 6, 2, 1, 0] rfl ?_
          exact a_X9_sealed_p36 (a_X9_sealed_p102) FU x1 x2 x3 (0 : Int32) (-9 : Int32) (0 : Int32) h
        · have h := ifn c5 h
          refine AW.bipush (v := (-2 : Int32)) dX9_sealed_23 (.refl 25) (by decide) ?_
          cases h
          exact AW.ireturn rfl dX9_sealed_25
def f_X9_seed (x1 : Int64) (σ : Mm) : Option (Int64 × Mm) := some ((σ.2 0 12), (sJ σ 0 12 x1))
set_option maxRecDepth 20000 in
theorem c_X9_seed {l : Launch} {G : Gg} {x1 : Int64} {σ : Mm} {v : Int64} {τ : Mm} (h : f_X9_seed x1 σ = some (v, τ)) : MR l G 0 M_X9_seed [.ref 0, .long x1] σ (some (.long v)) τ := by
  unfold f_X9_seed at h
  refine MR.of (by decide +kernel) (Nat.le_of_ble_eq_true rfl) ?_
  show AW l G 0 M_X9_seed (some (.long v)) τ 0 [(0, .ref 0), (1, .long x1)] [] σ
  refine AW.aload_n dX9_seed_0 (.refl 1) 0 rfl ?_
  refine AW.getJ lk_X9_84 rfl rfl (by decide) dX9_seed_1 (.refl 4) ?_
  refine AW.lstore_n (L' := [(3, .long (σ.2 0 12)), (0, .ref 0), (1, .long x1)]) dX9_seed_4 (.refl 5) (by decide) rfl ?_
  refine AW.aload_n dX9_seed_5 (.refl 6) 1 rfl ?_
  refine AW.lload_n dX9_seed_6 (.refl 7) 2 rfl ?_
  refine AW.putJ lp_X9_84 rfl rfl (by decide) dX9_seed_7 (.refl 10) ?_
  refine AW.lload_n dX9_seed_10 (.refl 11) 0 rfl ?_
  cases h
  exact AW.lreturn rfl dX9_seed_11
