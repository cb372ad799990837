def f_X9_let (x1 : Int32) (x2 : Int32) (σ : Mm) : Option (Int32 × Mm) := b1 (f_X8_hasBidder σ x1) (fun (r2 : Int32) => (if r2 = 0 then some ((-1 : Int32), σ) else b1 (f_X9_isSecond σ x2) (fun (r4 : Int32) => (if r4 = 0 then some ((-2 : Int32), σ) else b1 (f_X1_isLet σ 16 x1) (fun (r6 : Int32) => (if r6 = 0 then b1 (f_X1_fits σ 16 x1 x2) (fun (r8 : Int32) => (if r8 = 0 then some ((-3 : Int32), σ) else b1 (f_X9_act x1 (x2 + (1 : Int32)) σ) (fun (τ10 : Mm) => b1 (f_X1_worth τ10 16) (fun (r12 : Int32) => some (r12, τ10))))) else some ((-3 : Int32), σ)))))))
set_option maxRecDepth 20000 in
theorem c_X9_let {l : Launch} {G : Gg} {x1 : Int32} {x2 : Int32} {σ : Mm} {v : Int32} {τ : Mm} (h : f_X9_let x1 x2 σ = some (v, τ)) : MR l G 4 M_X9_let [.ref 0, .int x1, .int x2] σ (some (.int v)) τ := by
  unfold f_X9_let at h
  refine MR.of (by decide +kernel) (Nat.le_of_ble_eq_true rfl) ?_
  show AW l G 4 M_X9_let (some (.int v)) τ 0 [(0, .ref 0), (1, .int x1), (2, .int x2)] [] σ
  refine AW.aload_n dX9_let_0 (.refl 1) 0 rfl ?_
  refine AW.getR (z := 3) lk_X9_19 rfl rfl (by decide) rfl dX9_let_1 (.refl 4) ?_
  refine AW.iload_n dX9_let_4 (.refl 5) 1 rfl ?_
  obtain ⟨r2, e1, h⟩ := b1_s h
  refine AW.callV (r' := (some (.int r2))) (σ' := σ) (rest := []) lm_X9_137 (c_X8_hasBidder e1) (by decide) (by decide) rfl rfl (by decide) rfl rfl (Nat.le_of_ble_eq_true rfl) dX9_let_5 (.refl 8) (st' := [.int r2]) rfl ?_
  refine AW.if_ne (tgt := 13) dX9_let_8 (by decide) (fun c16 => ?_) (fun c16 => ?_)
  · have h := ifn c16 h
    refine AW.iload_n dX9_let_13 (.refl 14) 2 rfl ?_
    obtain ⟨r4, e3, h⟩ := b1_s h
    refine AW.callS (r' := (some (.int r4))) (σ' := σ) (rest := []) lm_X9_164 (c_X9_isSecond e3) (by decide) (by decide) rfl rfl (Nat.le_of_ble_eq_true rfl) dX9_let_14 (.refl 17) (st' := [.int r4]) rfl ?_
    refine AW.if_ne (tgt := 23) dX9_let_17 (by decide) (fun c15 => ?_) (fun c15 => ?_)
    · have h := ifn c15 h
      refine AW.aload_n dX9_let_23 (.refl 24) 0 rfl ?_
      refine AW.getR (z := 16) lk_X9_28 rfl rfl (by decide) rfl dX9_let_24 (.refl 27) ?_
      refine AW.iload_n dX9_let_27 (.refl 28) 1 rfl ?_
      obtain ⟨r6, e5, h⟩ := b1_s h
      refine AW.callV (r' := (some (.int r6))) (σ' := σ) (rest := []) lm_X9_177 (c_X1_isLet rfl e5) (by decide) (by decide) rfl rfl (by decide) rfl rfl (Nat.le_of_ble_eq_true rfl) dX9_let_28 (.refl 31) (st' := [.int r6]) rfl ?_
      refine AW.if_ne (tgt := 46) dX9_let_31 (by decide) (fun c14 => ?_) (fun c14 => ?_)
      · have h := ifn c14 h
        refine AW.bipush (v := (-3 : Int32)) dX9_let_46 (.refl 48) (by decide) ?_
        cases h
        exact AW.ireturn rfl dX9_let_48
      · have h := ifp c14 h
        refine AW.aload_n dX9_let_34 (.refl 35) 0 rfl ?_
        refine AW.getR (z := 16) lk_X9_28 rfl rfl (by decide) rfl dX9_let_35 (.refl 38) ?_
        refine AW.iload_n dX9_let_38 (.refl 39) 1 rfl ?_
        refine AW.iload_n dX9_let_39 (.refl 40) 2 rfl ?_
        obtain ⟨r8, e7, h⟩ := b1_s h
        refine AW.callV (r' := (some (.int r8))) (σ' := σ) (rest := []) lm_X9_180 (c_X1_fits rfl e7) (by decide) (by decide) rfl rfl (by decide) rfl rfl (Nat.le_of_ble_eq_true rfl) dX9_let_40 (.refl 43) (st' := [.int r8]) rfl ?_
        refine AW.if_ne (tgt := 49) dX9_let_43 (by decide) (fun c13 => ?_) (fun c13 => ?_)
        · have h := ifn c13 h
          refine AW.aload_n dX9_let_49 (.refl 50) 0 rfl ?_
          refine AW.iload_n dX9_let_50 (.refl 51) 1 rfl ?_
          refine AW.iload_n dX9_let_51 (.refl 52) 2 rfl ?_
          refine AW.iconst (v := (1 : Int32)) dX9_let_52 (.refl 53) (by decide) ?_
          refine AW.iadd dX9_let_53 (.refl 54) ?_
          obtain ⟨τ10, e9, h⟩ := b1_s h
          refine AW.callV (r' := none) (σ' := τ10) (rest := []) lm_X9_183 (c_X9_act e9) (by decide) (by decide) rfl rfl (by decide) rfl rfl (Nat.le_of_ble_eq_true rfl) dX9_let_54 (.refl 57) (st' := []) rfl ?_
          refine AW.aload_n dX9_let_57 (.refl 58) 0 rfl ?_
          refine AW.getR (z := 16) lk_X9_28 rfl rfl (by decide) rfl dX9_let_58 (.refl 61) ?_
          obtain ⟨r12, e11, h⟩ := b1_s h
          refine AW.callV (r' := (some (.int r12))) (σ' := τ10) (rest := []) lm_X9_187 (c_X1_worth rfl e11) (by decide) (by decide) rfl rfl (by decide) rfl rfl (Nat.le_of_ble_eq_true rfl) dX9_let_61 (.refl 64) (st' := [.int r12]) rfl ?_
          cases h
          exact AW.ireturn rfl dX9_let_64
        · have h := ifp c13 h
          refine AW.bipush (v := (-3 : Int32)) dX9_let_46 (.refl 48) (by decide) ?_
          cases h
          exact AW.ireturn rfl dX9_let_48
    · have h := ifp c15 h
      refine AW.bipush (v := (-2 : Int32)) dX9_let_20 (.refl 22) (by decide) ?_
      cases h
      exact AW.ireturn rfl dX9_let_22
  · have h := ifp c16 h
    refine AW.iconst (v := (-1 : Int32)) dX9_let_11 (.refl 12) (by decide) ?_
    cases h
    exact AW.ireturn rfl dX9_let_12
def f_X9_revoke (x1 : Int32) (σ : Mm) : Option (Int32 × Mm) := b1 (f_X8_hasBidder σ x1) (fun (r2 : Int32) => (if r2 = 0 then some ((-1 : Int32), σ) else b1 (f_X1_isLet σ 16 x1) (fun (r4 : Int32) => (if r4 = 0 then some ((-3 : Int32), σ) else b1 (f_X9_act x1 (0 : Int32) σ) (fun (τ6 : Mm) => b1 (f_X1_worth τ6 16) (fun (r8 : Int32) => some (r8, τ6)))))))
set_option maxRecDepth 20000 in
theorem c_X9_revoke {l : Launch} {G : Gg} {x1 : Int32} {σ : Mm} {v : Int32} {τ : Mm} (h : f_X9_revoke x1 σ = some (v, τ)) : MR l G 4 M_X9_revoke [.ref 0, .int x1] σ (some (.int v)) τ := by
  unfold f_X9_revoke at h
  refine MR.of (by decide +kernel) (Nat.le_of_ble_eq_true rfl) ?_
  show AW l G 4 M_X9_revoke (some (.int v)) τ 0 [(0, .ref 0), (1, .int x1)] [] σ
  refine AW.aload_n dX9_revoke_0 (.refl 1) 0 rfl ?_
  refine AW.getR (z := 3) lk_X9_19 rfl rfl (by decide) rfl dX9_revoke_1 (.refl 4) ?_
  refine AW.iload_n dX9_revoke_4 (.refl 5) 1 rfl ?_
  obtain ⟨r2, e1, h⟩ := b1_s h
  refine AW.callV (r' := (some (.int r2))) (σ' := σ) (rest := []) lm_X9_137 (c_X8_hasBidder e1) (by decide) (by decide) rfl rfl (by decide) rfl rfl (Nat.le_of_ble_eq_true rfl) dX9_revoke_5 (.refl 8) (st' := [.int r2]) rfl ?_
  refine AW.if_ne (tgt := 13) dX9_revoke_8 (by decide) (fun c10 => ?_) (fun c10 => ?_)
  · have h := ifn c10 h
    refine AW.aload_n dX9_revoke_13 (.refl 14) 0 rfl ?_
    refine AW.getR (z := 16) lk_X9_28 rfl rfl (by decide) rfl dX9_revoke_14 (.refl 17) ?_
    refine AW.iload_n dX9_revoke_17 (.refl 18) 1 rfl ?_
    obtain ⟨r4, e3, h⟩ := b1_s h
    refine AW.callV (r' := (some (.int r4))) (σ' := σ) (rest := []) lm_X9_177 (c_X1_isLet rfl e3) (by decide) (by decide) rfl rfl (by decide) rfl rfl (Nat.le_of_ble_eq_true rfl) dX9_revoke_18 (.refl 21) (st' := [.int r4]) rfl ?_
    refine AW.if_ne (tgt := 27) dX9_revoke_21 (by decide) (fun c9 => ?_) (fun c9 => ?_)
    · have h := ifn c9 h
      refine AW.aload_n dX9_revoke_27 (.refl 28) 0 rfl ?_
      refine AW.iload_n dX9_revoke_28 (.refl 29) 1 rfl ?_
      refine AW.iconst (v := (0 : Int32)) dX9_revoke_29 (.refl 30) (by decide) ?_
      obtain ⟨τ6, e5, h⟩ := b1_s h
      refine AW.callV (r' := none) (σ' := τ6) (rest := []) lm_X9_183 (c_X9_act e5) (by decide) (by decide) rfl rfl (by decide) rfl rfl (Nat.le_of_ble_eq_true rfl) dX9_revoke_30 (.refl 33) (st' := []) rfl ?_
      refine AW.aload_n dX9_revoke_33 (.refl 34) 0 rfl ?_
      refine AW.getR (z := 16) lk_X9_28 rfl rfl (by decide) rfl dX9_revoke_34 (.refl 37) ?_
      obtain ⟨r8, e7, h⟩ := b1_s h
      refine AW.callV (r' := (some (.int r8))) (σ' := τ6) (rest := []) lm_X9_187 (c_X1_worth rfl e7) (by decide) (by decide) rfl rfl (by decide) rfl rfl (Nat.le_of_ble_eq_true rfl) dX9_revoke_37 (.refl 40) (st' := [.int r8]) rfl ?_
      cases h
      exact AW.ireturn rfl dX9_revoke_40
    · have h := ifp c9 h
      refine AW.bipush (v := (-3 : Int32)) dX9_revoke_24 (.refl 26) (by decide) ?_
      cases h
      exact AW.ireturn rfl dX9_revoke_26
  · have h := ifp c10 h
    refine AW.iconst (v := (-1 : Int32)) dX9_revoke_11 (.refl 12) (by decide) ?_
    cases h
    exact AW.ireturn rfl dX9_revoke_12
def f_X9_move (x1 : Int32) (x2 : Int32) (σ : Mm) : Option (Int32 × Mm) := b1 (f_X8_hasBidder σ x1) (fun (r2 : Int32) => (if r2 = 0 then some ((-1 : Int32), σ) else b1 (f_X9_isSecond σ x2) (fun (r4 : Int32) => (if r4 = 0 then some ((-2 : Int32), σ) else b1 (f_X1_isLet σ 16 x1) (fun (r6 : Int32) => (if r6 = 0 then some ((-3 : Int32), σ) else b1 (f_X1_secondOf σ 16 x1) (fun (r8 : Int32) => (if r8 = x2 then some ((-3 : Int32), σ) else b1 (f_X1_fits σ 16 x1 x2) (fun (r10 : Int32) => (if r10 = 0 then some ((-3 : Int32), σ) else b1 (f_X1_secondOf σ 16 x1) (fun (r12 : Int32) => b1 (f_X9_act x1 (x2 + (1 : Int32)) σ) (fun (τ14 : Mm) => some (r12, τ14)))))))))))))
set_option maxRecDepth 20000 in
theorem c_X9_move {l : Launch} {G : Gg} {x1 : Int32} {x2 : Int32} {σ : Mm} {v : Int32} {τ : Mm} (h : f_X9_move x1 x2 σ = some (v, τ)) : MR l G 4 M_X9_move [.ref 0, .int x1, .int x2] σ (some (.int v)) τ := by
  unfold f_X9_move at h
  refine MR.of (by decide +kernel) (Nat.le_of_ble_eq_true rfl) ?_
  show AW l G 4 M_X9_move (some (.int v)) τ 0 [(0, .ref 0), (1, .int x1), (2, .int x2)] [] σ
  refine AW.aload_n dX9_move_0 (.refl 1) 0 rfl ?_
  refine AW.getR (z := 3) lk_X9_19 rfl rfl (by decide) rfl dX9_move_1 (.refl 4) ?_
  refine AW.iload_n dX9_move_4 (.refl 5) 1 rfl ?_
  obtain ⟨r2, e1, h⟩ := b1_s h
  refine AW.callV (r' := (some (.int r2))) (σ' := σ) (rest := []) lm_X9_137 (c_X8_hasBidder e1) (by decide) (by decide) rfl rfl (by decide) rfl rfl (Nat.le_of_ble_eq_true rfl) dX9_move_5 (.refl 8) (st' := [.int r2]) rfl ?_
  refine AW.if_ne (tgt := 13) dX9_move_8 (by decide) (fun c19 => ?_) (fun c19 => ?_)
  · have h := ifn c19 h
    refine AW.iload_n dX9_move_13 (.refl 14) 2 rfl ?_
    obtain ⟨r4, e3, h⟩ := b1_s h
    refine AW.callS (r' := (some (.int r4))) (σ' := σ) (rest := []) lm_X9_164 (c_X9_isSecond e3) (by decide) (by decide) rfl rfl (Nat.le_of_ble_eq_true rfl) dX9_move_14 (.refl 17) (st' := [.int r4]) rfl ?_
    refine AW.if_ne (tgt := 23) dX9_move_17 (by decide) (fun c18 => ?_) (fun c18 => ?_)
    · have h := ifn c18 h
      refine AW.aload_n dX9_move_23 (.refl 24) 0 rfl ?_
      refine AW.getR (z := 16) lk_X9_28 rfl rfl (by decide) rfl dX9_move_24 (.refl 27) ?_
      refine AW.iload_n dX9_move_27 (.refl 28) 1 rfl ?_
      obtain ⟨r6, e5, h⟩ := b1_s h
      refine AW.callV (r' := (some (.int r6))) (σ' := σ) (rest := []) lm_X9_177 (c_X1_isLet rfl e5) (by decide) (by decide) rfl rfl (by decide) rfl rfl (Nat.le_of_ble_eq_true rfl) dX9_move_28 (.refl 31) (st' := [.int r6]) rfl ?_
      refine AW.if_eq (tgt := 58) dX9_move_31 (by decide) (fun c17 => ?_) (fun c17 => ?_)
      · have h := ifp c17 h
        refine AW.bipush (v := (-3 : Int32)) dX9_move_58 (.refl 60) (by decide) ?_
        cases h
        exact AW.ireturn rfl dX9_move_60
      · have h := ifn c17 h
        refine AW.aload_n dX9_move_34 (.refl 35) 0 rfl ?_
        refine AW.getR (z := 16) lk_X9_28 rfl rfl (by decide) rfl dX9_move_35 (.refl 38) ?_
        refine AW.iload_n dX9_move_38 (.refl 39) 1 rfl ?_
        obtain ⟨r8, e7, h⟩ := b1_s h
        refine AW.callV (r' := (some (.int r8))) (σ' := σ) (rest := []) lm_X9_158 (c_X1_secondOf rfl e7) (by decide) (by decide) rfl rfl (by decide) rfl rfl (Nat.le_of_ble_eq_true rfl) dX9_move_39 (.refl 42) (st' := [.int r8]) rfl ?_
        refine AW.iload_n dX9_move_42 (.refl 43) 2 rfl ?_
        refine AW.icmp_eq (tgt := 58) dX9_move_43 (by decide) (fun c16 => ?_) (fun c16 => ?_)
        · have h := ifp c16 h
          refine AW.bipush (v := (-3 : Int32)) dX9_move_58 (.refl 60) (by decide) ?_
          cases h
          exact AW.ireturn rfl dX9_move_60
        · have h := ifn c16 h
          refine AW.aload_n dX9_move_46 (.refl 47) 0 rfl ?_
          refine AW.getR (z := 16) lk_X9_28 rfl rfl (by decide) rfl dX9_move_47 (.refl 50) ?_
          refine AW.iload_n dX9_move_50 (.refl 51) 1 rfl ?_
          refine AW.iload_n dX9_move_51 (.refl 52) 2 rfl ?_
          obtain ⟨r10, e9, h⟩ := b1_s h
          refine AW.callV (r' := (some (.int r10))) (σ' := σ) (rest := []) lm_X9_180 (c_X1_fits rfl e9) (by decide) (by decide) rfl rfl (by decide) rfl rfl (Nat.le_of_ble_eq_true rfl) dX9_move_52 (.refl 55) (st' := [.int r10]) rfl ?_
          refine AW.if_ne (tgt := 61) dX9_move_55 (by decide) (fun c15 => ?_) (fun c15 => ?_)
          · have h := ifn c15 h
            refine AW.aload_n dX9_move_61 (.refl 62) 0 rfl ?_
            refine AW.getR (z := 16) lk_X9_28 rfl rfl (by decide) rfl dX9_move_62 (.refl 65) ?_
            refine AW.iload_n dX9_move_65 (.refl 66) 1 rfl ?_
            obtain ⟨r12, e11, h⟩ := b1_s h
            refine AW.callV (r' := (some (.int r12))) (σ' := σ) (rest := []) lm_X9_158 (c_X1_secondOf rfl e11) (by decide) (by decide) rfl rfl (by decide) rfl rfl (Nat.le_of_ble_eq_true rfl) dX9_move_66 (.refl 69) (st' := [.int r12]) rfl ?_
            refine AW.istore_n (L' := [(3, .int r12), (0, .ref 0), (1, .int x1), (2, .int x2)]) dX9_move_69 (.refl 70) (by decide) rfl ?_
            refine AW.aload_n dX9_move_70 (.refl 71) 1 rfl ?_
            refine AW.iload_n dX9_move_71 (.refl 72) 2 rfl ?_
            refine AW.iload_n dX9_move_72 (.refl 73) 3 rfl ?_
            refine AW.iconst (v := (1 : Int32)) dX9_move_73 (.refl 74) (by decide) ?_
            refine AW.iadd dX9_move_74 (.refl 75) ?_
            obtain ⟨τ14, e13, h⟩ := b1_s h
            refine AW.callV (r' := none) (σ' := τ14) (rest := []) lm_X9_183 (c_X9_act e13) (by decide) (by decide) rfl rfl (by decide) rfl rfl (Nat.le_of_ble_eq_true rfl) dX9_move_75 (.refl 78) (st' := []) rfl ?_
            refine AW.iload_n dX9_move_78 (.refl 79) 0 rfl ?_
            cases h
            exact AW.ireturn rfl dX9_move_79
          · have h := ifp c15 h
            refine AW.bipush (v := (-3 : Int32)) dX9_move_58 (.refl 60) (by decide) ?_
            cases h
            exact AW.ireturn rfl dX9_move_60
    · have h := ifp c18 h
      refine AW.bipush (v := (-2 : Int32)) dX9_move_20 (.refl 22) (by decide) ?_
      cases h
      exact AW.ireturn rfl dX9_move_22
  · have h := ifp c19 h
    refine AW.iconst (v := (-1 : Int32)) dX9_move_11 (.refl 12) (by decide) ?_
    cases h
    exact AW.ireturn rfl dX9_move_12
def f_X0_takeBack (k1 : Nat)  (σ : Mm) : Option (Mm) := (if (σ.1 26 2) ≤ 0 then some σ else (if (16 : Int32) < (σ.1 26 2) then some σ else gd (inB ((sI σ 26 2 ((σ.1 26 2) - (1 : Int32))).1 26 2) 16) (gd (inB ((sI σ 26 2 ((σ.1 26 2) - (1 : Int32))).1 26 2) 16) (b1 (f_X1_tell k1 ((sI σ 26 2 ((σ.1 26 2) - (1 : Int32))).1 27 (((sI σ 26 2 ((σ.1 26 2) - (1 : Int32))).1 26 2)).toNatClampNeg) ((sI σ 26 2 ((σ.1 26 2) - (1 : Int32))).1 28 (((sI σ 26 2 ((σ.1 26 2) - (1 : Int32))).1 26 2)).toNatClampNeg) (sI σ 26 2 ((σ.1 26 2) - (1 : Int32)))) (fun (τ4 : Mm) => some τ4)))))
set_option maxRecDepth 20000 in
theorem c_X0_takeBack {l : Launch} {G : Gg} {k1 : Nat} (hk1 : cTag k1 = 1)  {σ : Mm} {τ : Mm} (h : f_X0_takeBack k1  σ = some τ) : MR l G 1 M_X0_takeBack [.ref 26, .ref k1] σ none τ := by
  unfold f_X0_takeBack at h
  refine MR.of (by decide +kernel) (Nat.le_of_ble_eq_true rfl) ?_
  show AW l G 1 M_X0_takeBack none τ 0 [(0, .ref 26), (1, .ref k1)] [] σ
  refine AW.aload_n dX0_takeBack_0 (.refl 1) 0 rfl ?_
  refine AW.getI lk_X0_18 rfl rfl (by decide) dX0_takeBack_1 (.refl 4) ?_
  refine AW.if_le (tgt := 48) dX0_takeBack_4 (by decide) (fun c6 => ?_) (fun c6 => ?_)
  · have h := ifp c6 h
    cases h
    exact AW.vreturn rfl dX0_takeBack_48
  · have h := ifn c6 h
    refine AW.aload_n dX0_takeBack_7 (.refl 8) 0 rfl ?_
    refine AW.getI lk_X0_18 rfl rfl (by decide) dX0_takeBack_8 (.refl 11) ?_
    refine AW.bipush (v := (16 : Int32)) dX0_takeBack_11 (.refl 13) (by decide) ?_
    refine AW.icmp_gt (tgt := 48) dX0_takeBack_13 (by decide) (fun c5 => ?_) (fun c5 => ?_)
    · have h := ifp c5 h
      cases h
      exact AW.vreturn rfl dX0_takeBack_48
    · have h := ifn c5 h
      refine AW.aload_n dX0_takeBack_16 (.refl 17) 0 rfl ?_
      refine AW.dup dX0_takeBack_17 (.refl 18) rfl ?_
      refine AW.getI lk_X0_18 rfl rfl (by decide) dX0_takeBack_18 (.refl 21) ?_
      refine AW.iconst (v := (1 : Int32)) dX0_takeBack_21 (.refl 22) (by decide) ?_
      refine AW.isub dX0_takeBack_22 (.refl 23) ?_
      refine AW.putI lp_X0_18 rfl rfl (by decide) dX0_takeBack_23 (.refl 26) ?_
      refine AW.aload_n dX0_takeBack_26 (.refl 27) 1 rfl ?_
      refine AW.aload_n dX0_takeBack_27 (.refl 28) 0 rfl ?_
      refine AW.getR (z := 27) lk_X0_9 rfl rfl (by decide) rfl dX0_takeBack_28 (.refl 31) ?_
      refine AW.aload_n dX0_takeBack_31 (.refl 32) 0 rfl ?_
      refine AW.getI lk_X0_18 rfl rfl (by decide) dX0_takeBack_32 (.refl 35) ?_
      obtain ⟨g1, h⟩ := gd_s h
      refine AW.iaload rfl g1 dX0_takeBack_35 (.refl 36) ?_
      refine AW.aload_n dX0_takeBack_36 (.refl 37) 0 rfl ?_
      refine AW.getR (z := 28) lk_X0_15 rfl rfl (by decide) rfl dX0_takeBack_37 (.refl 40) ?_
      refine AW.aload_n dX0_takeBack_40 (.refl 41) 0 rfl ?_
      refine AW.getI lk_X0_18 rfl rfl (by decide) dX0_takeBack_41 (.refl 44) ?_
      obtain ⟨g2, h⟩ := gd_s h
      refine AW.iaload rfl g2 dX0_takeBack_44 (.refl 45) ?_
      obtain ⟨τ4, e3, h⟩ := b1_s h
      refine AW.callV (r' := none) (σ' := τ4) (rest := []) lm_X0_25 (c_X1_tell hk1 e3) (by decide) (by decide) hk1 rfl (by decide) rfl rfl (Nat.le_of_ble_eq_true rfl) dX0_takeBack_45 (.refl 48) (st' := []) rfl ?_
      cases h
      exact AW.vreturn rfl dX0_takeBack_48
def f_X9_undo  (σ : Mm) : Option (Int32 × Mm) := (if (σ.1 26 2) = 0 then some ((-3 : Int32), σ) else b1 (f_X0_takeBack 16 σ) (fun (τ2 : Mm) => some ((τ2.1 26 2), τ2)))
set_option maxRecDepth 20000 in
theorem c_X9_undo {l : Launch} {G : Gg}  {σ : Mm} {v : Int32} {τ : Mm} (h : f_X9_undo  σ = some (v, τ)) : MR l G 2 M_X9_undo [.ref 0] σ (some (.int v)) τ := by
  unfold f_X9_undo at h
  refine MR.of (by decide +kernel) (Nat.le_of_ble_eq_true rfl) ?_
  show AW l G 2 M_X9_undo (some (.int v)) τ 0 [(0, .ref 0)] [] σ
  refine AW.aload_n dX9_undo_0 (.refl 1) 0 rfl ?_
  refine AW.getR (z := 26) lk_X9_48 rfl rfl (by decide) rfl dX9_undo_1 (.refl 4) ?_
  refine AW.getI lk_X9_190 rfl rfl (by decide) dX9_undo_4 (.refl 7) ?_
  refine AW.if_ne (tgt := 13) dX9_undo_7 (by decide) (fun c3 => ?_) (fun c3 => ?_)
  · have h := ifn c3 h
    refine AW.aload_n dX9_undo_13 (.refl 14) 0 rfl ?_
    refine AW.getR (z := 26) lk_X9_48 rfl rfl (by decide) rfl dX9_undo_14 (.refl 17) ?_
    refine AW.aload_n dX9_undo_17 (.refl 18) 0 rfl ?_
    refine AW.getR (z := 16) lk_X9_28 rfl rfl (by decide) rfl dX9_undo_18 (.refl 21) ?_
    obtain ⟨τ2, e1, h⟩ := b1_s h
    refine AW.callV (r' := none) (σ' := τ2) (rest := []) lm_X9_193 (c_X0_takeBack rfl e1) (by decide) (by decide) rfl rfl (by decide) rfl rfl (Nat.le_of_ble_eq_true rfl) dX9_undo_21 (.refl 24) (st' := []) rfl ?_
    refine AW.aload_n dX9_undo_24 (.refl 25) 0 rfl ?_
    refine AW.getR (z := 26) lk_X9_48 rfl rfl (by decide) rfl dX9_undo_25 (.refl 28) ?_
    refine AW.getI lk_X9_190 rfl rfl (by decide) dX9_undo_28 (.refl 31) ?_
    cases h
    exact AW.ireturn rfl dX9_undo_31
  · have h := ifp c3 h
    refine AW.bipush (v := (-3 : Int32)) dX9_undo_10 (.refl 12) (by decide) ?_
    cases h
    exact AW.ireturn rfl dX9_undo_12
def f_X1_copy_p2 (k0 : Nat) (k1 : Nat) : Nat → Int32 → Mm → Option (Mm)
  | 0, _, _ => none
  | n + 1, x2, σ => (if (5 : Int32) ≤ x2 then some σ else gd (inB x2 5) (gd (inB x2 5) (bnd ((sI σ (cRef k0 1) (x2).toNatClampNeg (σ.1 (cRef k1 1) (x2).toNatClampNeg))) (fun (σ3 : Mm) => (f_X1_copy_p2 k0 k1 n) (x2 + (1 : Int32)) σ3))))
def f_X1_copy (k0 : Nat) (k1 : Nat)  (σ : Mm) : Option (Mm) := f_X1_copy_p2 k0 k1 FU (0 : Int32) σ
set_option maxRecDepth 20000 in
theorem a_X1_copy_p2 {l : Launch} {G : Gg} {τ : Mm} {k0 : Nat} (hk0 : cTag k0 = 1) {k1 : Nat} (hk1 : cTag k1 = 1) : ∀ (n : Nat) (x2 : Int32) (σ : Mm), f_X1_copy_p2 k0 k1 n x2 σ = some τ → AW l G 0 M_X1_copy none τ 2 [(0, .ref k0), (1, .ref k1), (2, .int x2)] [] σ := by
  intro n
  induction n with
  | zero => intro x2 σ h; exact no_some h
  | succ n ih =>
    intro x2 σ h
    rw [f_X1_copy_p2] at h
    refine AW.iload_n dX1_copy_2 (.refl 3) 2 rfl ?_
    refine AW.iconst (v := (5 : Int32)) dX1_copy_3 (.refl 4) (by decide) ?_
    refine AW.icmp_ge (tgt := 25) dX1_copy_4 (by decide) (fun c5 => ?_) (fun c5 => ?_)
    · have h := ifp c5 h
      cases h
      exact AW.vreturn rfl dX1_copy_25
    · have h := ifn c5 h
      refine AW.aload_n dX1_copy_7 (.refl 8) 0 rfl ?_
      refine AW.getR (z := (cRef k0 1)) lk_X1_9 hk0 rfl (by decide) rfl dX1_copy_8 (.refl 11) ?_
      refine AW.iload_n dX1_copy_11 (.refl 12) 2 rfl ?_
      refine AW.aload_n dX1_copy_12 (.refl 13) 1 rfl ?_
      refine AW.getR (z := (cRef k1 1)) lk_X1_9 hk1 rfl (by decide) rfl dX1_copy_13 (.refl 16) ?_
      refine AW.iload_n dX1_copy_16 (.refl 17) 2 rfl ?_
      obtain ⟨g1, h⟩ := gd_s h
      refine AW.iaload (tg_1_1 hk1) (by rw [ln_1_1 hk1]; exact g1) dX1_copy_17 (.refl 18) ?_
      obtain ⟨g2, h⟩ := gd_s h
      refine AW.iastore (tg_1_1 hk0) (by rw [ln_1_1 hk0]; exact g2) dX1_copy_18 (.refl 19) ?_
      obtain ⟨σ3, e4, h⟩ := bnd_s h
      refine AW.nmM e4 ?_
      refine AW.iinc (v := (x2 + (1 : Int32))) (L' := [(2, .int (x2 + (1 : Int32))), (0, .ref k0), (1, .ref k1)]) dX1_copy_19 (.refl 22) 2 rfl rfl (by decide) rfl ?_
      refine AW.goto (tgt := 2) dX1_copy_22 (by decide) ?_
      refine AW.sub (L' := [(0, .ref k0), (1, .ref k1), (2, .int (x2 + (1 : Int32)))]) [1, 2, 0] rfl ?_
      exact ih (x2 + (1 : Int32)) σ3 h
set_option maxRecDepth 20000 in
theorem c_X1_copy {l : Launch} {G : Gg} {k0 : Nat} (hk0 : cTag k0 = 1) {k1 : Nat} (hk1 : cTag k1 = 1)  {σ : Mm} {τ : Mm} (h : f_X1_copy k0 k1  σ = some τ) : MR l G 0 M_X1_copy [.ref k0, .ref k1] σ none τ := by
  unfold f_X1_copy at h
  refine MR.of (by decide +kernel) (Nat.le_of_ble_eq_true rfl) ?_
  show AW l G 0 M_X1_copy none τ 0 [(0, .ref k0), (1, .ref k1)] [] σ
  refine AW.iconst (v := (0 : Int32)) dX1_copy_0 (.refl 1) (by decide) ?_
  refine AW.istore_n (L' := [(2, .int (0 : Int32)), (0, .ref k0), (1, .ref k1)]) dX1_copy_1 (.refl 2) (by decide) rfl ?_
  refine AW.sub (L' := [(0, .ref k0), (1, .ref k1), (2, .int (0 : Int32))]) [1, 2, 0] rfl ?_
  exact a_X1_copy_p2 hk0 hk1 FU (0 : Int32) σ h
def f_X4_walk_p72 (fr : Int32 → Int32 → Int64 → Int32 → Int32 → Mm → Option (Mm)) : Nat → Int32 → Int32 → Int64 → Int32 → Int32 → Int32 → Mm → Option (Mm)
  | 0, _, _, _, _, _, _, _ => none
  | n + 1, x1, x2, x3, x5, x6, x7, σ => (if (10 : Int32) ≤ x7 then some σ else gd (inB x1 5) ((if (σ.1 30 (x1).toNatClampNeg) ≤ 0 then some σ else b1 (f_X8_mayBegin σ x1 x7) (fun (r3 : Int32) => (if r3 = 0 then (f_X4_walk_p72 fr n) x1 x2 x3 x5 x6 (x7 + (1 : Int32)) σ else b1 (f_X8_takes σ x1 x7) (fun (r5 : Int64) => (if (lg_cmp (r5 &&& x3) (0 : Int64)) = 0 then b1 (f_X8_ringing σ x1 x7) (fun (r7 : Int32) => (if (r7 &&& x6) = 0 then b1 (f_X8_wants σ x1) (fun (r9 : Int32) => (if (r9 &&& x5) = 0 then b1 (f_X1_tell 32 x1 (x7 + (1 : Int32)) σ) (fun (τ11 : Mm) => gd (inB x1 5) (b1 (f_X8_takes τ11 x1 x7) (fun (r14 : Int64) => b1 (f_X8_ringing τ11 x1 x7) (fun (r16 : Int32) => b1 (f_X8_wants τ11 x1) (fun (r18 : Int32) => b1 (fr (x1 + (1 : Int32)) (x2 + (τ11.1 30 (x1).toNatClampNeg)) (x3 ||| r14) (x5 ||| r16) (x6 ||| r18) τ11) (fun (τ20 : Mm) => (f_X4_walk_p72 fr n) x1 x2 x3 x5 x6 (x7 + (1 : Int32)) τ20)))))) else (f_X4_walk_p72 fr n) x1 x2 x3 x5 x6 (x7 + (1 : Int32)) σ)) else (f_X4_walk_p72 fr n) x1 x2 x3 x5 x6 (x7 + (1 : Int32)) σ)) else (f_X4_walk_p72 fr n) x1 x2 x3 x5 x6 (x7 + (1 : Int32)) σ)))))))
def f_X4_walk_e (fr : Int32 → Int32 → Int64 → Int32 → Int32 → Mm → Option (Mm)) (x1 : Int32) (x2 : Int32) (x3 : Int64) (x5 : Int32) (x6 : Int32) (σ : Mm) : Option (Mm) := (if x1 < 0 then some σ else (if (5 : Int32) < x1 then some σ else gd (inB x1 6) ((if (σ.1 29 5) < (x2 + (σ.1 31 (x1).toNatClampNeg)) then (if x1 = (5 : Int32) then b1 (f_X1_copy 34 32 (sI σ 29 5 x2)) (fun (τ7 : Mm) => some τ7) else b1 (f_X1_tell 32 x1 (0 : Int32) σ) (fun (τ3 : Mm) => b1 (fr (x1 + (1 : Int32)) x2 x3 x5 x6 τ3) (fun (τ5 : Mm) => f_X4_walk_p72 fr FU x1 x2 x3 x5 x6 (0 : Int32) τ5))) else some σ))))
def f_X4_walk : Nat → Int32 → Int32 → Int64 → Int32 → Int32 → Mm → Option (Mm)
  | 0, _, _, _, _, _, _ => none
  | n + 1, x1, x2, x3, x5, x6, σ => f_X4_walk_e (f_X4_walk n) x1 x2 x3 x5 x6 σ
set_option maxRecDepth 20000 in
theorem a_X4_walk_p72 {l : Launch} {G : Gg} {τ : Mm} {fr : Int32 → Int32 → Int64 → Int32 → Int32 → Mm → Option (Mm)} {d d0 : Nat} (hB : 1 ≤ d) (hd0 : d0 + 1 ≤ d) (hfr : ∀ (x1 : Int32) (x2 : Int32) (x3 : Int64) (x5 : Int32) (x6 : Int32) (σ : Mm) (τ : Mm), fr x1 x2 x3 x5 x6 σ = some τ → MR l G d0 M_X4_walk [.ref 29, .int x1, .int x2, .long x3, .int x5, .int x6] σ none τ) : ∀ (n : Nat) (x1 : Int32) (x2 : Int32) (x3 : Int64) (x5 : Int32) (x6 : Int32) (x7 : Int32) (σ : Mm), f_X4_walk_p72 fr n x1 x2 x3 x5 x6 x7 σ = some τ → AW l G d M_X4_walk none τ 72 [(0, .ref 29), (1, .int x1), (2, .int x2), (3, .long x3), (5, .int x5), (6, .int x6), (7, .int x7)] [] σ := by
  intro n
  induction n with
  | zero => intro x1 x2 x3 x5 x6 x7 σ h; exact no_some h
  | succ n ih =>
    intro x1 x2 x3 x5 x6 x7 σ h
    rw [f_X4_walk_p72] at h
    refine AW.iload dX4_walk_72 (.refl 74) 6 rfl ?_
    refine AW.bipush (v := (10 : Int32)) dX4_walk_74 (.refl 76) (by decide) ?_
    refine AW.icmp_ge (tgt := 217) dX4_walk_76 (by decide) (fun c26 => ?_) (fun c26 => ?_)
    · have h := ifp c26 h
      cases h
      exact AW.vreturn rfl dX4_walk_217
    · have h := ifn c26 h
      refine AW.aload_n dX4_walk_79 (.refl 80) 0 rfl ?_
      refine AW.getR (z := 30) lk_X4_9 rfl rfl (by decide) rfl dX4_walk_80 (.refl 83) ?_
      refine AW.iload_n dX4_walk_83 (.refl 84) 1 rfl ?_
      obtain ⟨g1, h⟩ := gd_s h
      refine AW.iaload rfl g1 dX4_walk_84 (.refl 85) ?_
      refine AW.if_le (tgt := 217) dX4_walk_85 (by decide) (fun c25 => ?_) (fun c25 => ?_)
      · have h := ifp c25 h
        cases h
        exact AW.vreturn rfl dX4_walk_217
      · have h := ifn c25 h
        refine AW.aload_n dX4_walk_88 (.refl 89) 0 rfl ?_
        refine AW.getR (z := 3) lk_X4_22 rfl rfl (by decide) rfl dX4_walk_89 (.refl 92) ?_
        refine AW.iload_n dX4_walk_92 (.refl 93) 1 rfl ?_
        refine AW.iload dX4_walk_93 (.refl 95) 6 rfl ?_
        obtain ⟨r3, e2, h⟩ := b1_s h
        refine AW.callV (r' := (some (.int r3))) (σ' := σ) (rest := []) lm_X4_88 (c_X8_mayBegin e2) (by omega) (by decide) rfl rfl (by decide) rfl rfl (Nat.le_of_ble_eq_true rfl) dX4_walk_95 (.refl 98) (st' := [.int r3]) rfl ?_
        refine AW.if_eq (tgt := 211) dX4_walk_98 (by decide) (fun c24 => ?_) (fun c24 => ?_)
        · have h := ifp c24 h
          refine AW.iinc (v := (x7 + (1 : Int32))) (L' := [(7, .int (x7 + (1 : Int32))), (0, .ref 29), (1, .int x1), (2, .int x2), (3, .long x3), (5, .int x5), (6, .int x6)]) dX4_walk_211 (.refl 214) 6 rfl rfl (by decide) rfl ?_
          refine AW.goto (tgt := 72) dX4_walk_214 (by decide) ?_
          refine AW.sub (L' := [(0, .ref 29), (1, .int x1), (2, .int x2), (3, .long x3), (5, .int x5), (6, .int x6), (7, .int (x7 + (1 : Int32)))]) [1, 2, 3, 4, 5, 6, 0] rfl ?_
          exact ih x1 x2 x3 x5 x6 (x7 + (1 : Int32)) σ h
        · have h := ifn c24 h
          refine AW.aload_n dX4_walk_101 (.refl 102) 0 rfl ?_
          refine AW.getR (z := 3) lk_X4_22 rfl rfl (by decide) rfl dX4_walk_102 (.refl 105) ?_
          refine AW.iload_n dX4_walk_105 (.refl 106) 1 rfl ?_
          refine AW.iload dX4_walk_106 (.refl 108) 6 rfl ?_
          obtain ⟨r5, e4, h⟩ := b1_s h
          refine AW.callV (r' := (some (.long r5))) (σ' := σ) (rest := []) lm_X4_58 (c_X8_takes e4) (by omega) (by decide) rfl rfl (by decide) rfl rfl (Nat.le_of_ble_eq_true rfl) dX4_walk_108 (.refl 111) (st' := [.long r5]) rfl ?_
          refine AW.lload_n dX4_walk_111 (.refl 112) 3 rfl ?_
          refine AW.land dX4_walk_112 (.refl 113) ?_
          refine AW.lconst (v := (0 : Int64)) dX4_walk_113 (.refl 114) (by decide) ?_
          refine AW.lcmp dX4_walk_114 (.refl 115) ?_
          refine AW.if_ne (tgt := 211) dX4_walk_115 (by decide) (fun c23 => ?_) (fun c23 => ?_)
          · have h := ifn c23 h
            refine AW.iinc (v := (x7 + (1 : Int32))) (L' := [(7, .int (x7 + (1 : Int32))), (0, .ref 29), (1, .int x1), (2, .int x2), (3, .long x3), (5, .int x5), (6, .int x6)]) dX4_walk_211 (.refl 214) 6 rfl rfl (by decide) rfl ?_
            refine AW.goto (tgt := 72) dX4_walk_214 (by decide) ?_
            refine AW.sub (L' := [(0, .ref 29), (1, .int x1), (2, .int x2), (3, .long x3), (5, .int x5), (6, .int x6), (7, .int (x7 + (1 : Int32)))]) [1, 2, 3, 4, 5, 6, 0] rfl ?_
            exact ih x1 x2 x3 x5 x6 (x7 + (1 : Int32)) σ h
          · have h := ifp c23 h
            refine AW.aload_n dX4_walk_118 (.refl 119) 0 rfl ?_
            refine AW.getR (z := 3) lk_X4_22 rfl rfl (by decide) rfl dX4_walk_119 (.refl 122) ?_
            refine AW.iload_n dX4_walk_122 (.refl 123) 1 rfl ?_
            refine AW.iload dX4_walk_123 (.refl 125) 6 rfl ?_
            obtain ⟨r7, e6, h⟩ := b1_s h
            refine AW.callV (r' := (some (.int r7))) (σ' := σ) (rest := []) lm_X4_92 (c_X8_ringing e6) (by omega) (by decide) rfl rfl (by decide) rfl rfl (Nat.le_of_ble_eq_true rfl) dX4_walk_125 (.refl 128) (st' := [.int r7]) rfl ?_
            refine AW.iload dX4_walk_128 (.refl 130) 5 rfl ?_
            refine AW.iand dX4_walk_130 (.refl 131) ?_
            refine AW.if_ne (tgt := 211) dX4_walk_131 (by decide) (fun c22 => ?_) (fun c22 => ?_)
            · have h := ifn c22 h
              refine AW.iinc (v := (x7 + (1 : Int32))) (L' := [(7, .int (x7 + (1 : Int32))), (0, .ref 29), (1, .int x1), (2, .int x2), (3, .long x3), (5, .int x5), (6, .int x6)]) dX4_walk_211 (.refl 214) 6 rfl rfl (by decide) rfl ?_
              refine AW.goto (tgt := 72) dX4_walk_214 (by decide) ?_
              refine AW.sub (L' := [(0, .ref 29), (1, .int x1), (2, .int x2), (3, .long x3), (5, .int x5), (6, .int x6), (7, .int (x7 + (1 : Int32)))]) [1, 2, 3, 4, 5, 6, 0] rfl ?_
              exact ih x1 x2 x3 x5 x6 (x7 + (1 : Int32)) σ h
            · have h := ifp c22 h
              refine AW.aload_n dX4_walk_134 (.refl 135) 0 rfl ?_
              refine AW.getR (z := 3) lk_X4_22 rfl rfl (by decide) rfl dX4_walk_135 (.refl 138) ?_
              refine AW.iload_n dX4_walk_138 (.refl 139) 1 rfl ?_
              obtain ⟨r9, e8, h⟩ := b1_s h
              refine AW.callV (r' := (some (.int r9))) (σ' := σ) (rest := []) lm_X4_64 (c_X8_wants e8) (by omega) (by decide) rfl rfl (by decide) rfl rfl (Nat.le_of_ble_eq_true rfl) dX4_walk_139 (.refl 142) (st' := [.int r9]) rfl ?_
              refine AW.iload dX4_walk_142 (.refl 144) 4 rfl ?_
              refine AW.iand dX4_walk_144 (.refl 145) ?_
              refine AW.if_ne (tgt := 211) dX4_walk_145 (by decide) (fun c21 => ?_) (fun c21 => ?_)
              · have h := ifn c21 h
                refine AW.iinc (v := (x7 + (1 : Int32))) (L' := [(7, .int (x7 + (1 : Int32))), (0, .ref 29), (1, .int x1), (2, .int x2), (3, .long x3), (5, .int x5), (6, .int x6)]) dX4_walk_211 (.refl 214) 6 rfl rfl (by decide) rfl ?_
                refine AW.goto (tgt := 72) dX4_walk_214 (by decide) ?_
                refine AW.sub (L' := [(0, .ref 29), (1, .int x1), (2, .int x2), (3, .long x3), (5, .int x5), (6, .int x6), (7, .int (x7 + (1 : Int32)))]) [1, 2, 3, 4, 5, 6, 0] rfl ?_
                exact ih x1 x2 x3 x5 x6 (x7 + (1 : Int32)) σ h
              · have h := ifp c21 h
                refine AW.aload_n dX4_walk_148 (.refl 149) 0 rfl ?_
                refine AW.getR (z := 32) lk_X4_31 rfl rfl (by decide) rfl dX4_walk_149 (.refl 152) ?_
                refine AW.iload_n dX4_walk_152 (.refl 153) 1 rfl ?_
                refine AW.iload dX4_walk_153 (.refl 155) 6 rfl ?_
                refine AW.iconst (v := (1 : Int32)) dX4_walk_155 (.refl 156) (by decide) ?_
                refine AW.iadd dX4_walk_156 (.refl 157) ?_
                obtain ⟨τ11, e10, h⟩ := b1_s h
                refine AW.callV (r' := none) (σ' := τ11) (rest := []) lm_X4_84 (c_X1_tell rfl e10) (by omega) (by decide) rfl rfl (by decide) rfl rfl (Nat.le_of_ble_eq_true rfl) dX4_walk_157 (.refl 160) (st' := []) rfl ?_
                refine AW.aload_n dX4_walk_160 (.refl 161) 0 rfl ?_
                refine AW.iload_n dX4_walk_161 (.refl 162) 1 rfl ?_
                refine AW.iconst (v := (1 : Int32)) dX4_walk_162 (.refl 163) (by decide) ?_
                refine AW.iadd dX4_walk_163 (.refl 164) ?_
                refine AW.iload_n dX4_walk_164 (.refl 165) 2 rfl ?_
                refine AW.aload_n dX4_walk_165 (.refl 166) 0 rfl ?_
                refine AW.getR (z := 30) lk_X4_9 rfl rfl (by decide) rfl dX4_walk_166 (.refl 169) ?_
                refine AW.iload_n dX4_walk_169 (.refl 170) 1 rfl ?_
                obtain ⟨g12, h⟩ := gd_s h
                refine AW.iaload rfl g12 dX4_walk_170 (.refl 171) ?_
                refine AW.iadd dX4_walk_171 (.refl 172) ?_
                refine AW.lload_n dX4_walk_172 (.refl 173) 3 rfl ?_
                refine AW.aload_n dX4_walk_173 (.refl 174) 0 rfl ?_
                refine AW.getR (z := 3) lk_X4_22 rfl rfl (by decide) rfl dX4_walk_174 (.refl 177) ?_
                refine AW.iload_n dX4_walk_177 (.refl 178) 1 rfl ?_
                refine AW.iload dX4_walk_178 (.refl 180) 6 rfl ?_
                obtain ⟨r14, e13, h⟩ := b1_s h
                refine AW.callV (r' := (some (.long r14))) (σ' := τ11) (rest := [.long x3, .int (x2 + (τ11.1 30 (x1).toNatClampNeg)), .int (x1 + (1 : Int32)), .ref 29]) lm_X4_58 (c_X8_takes e13) (by omega) (by decide) rfl rfl (by decide) rfl rfl (Nat.le_of_ble_eq_true rfl) dX4_walk_180 (.refl 183) (st' := [.long r14, .long x3, .int (x2 + (τ11.1 30 (x1).toNatClampNeg)), .int (x1 + (1 : Int32)), .ref 29]) rfl ?_
                refine AW.lor dX4_walk_183 (.refl 184) ?_
                refine AW.iload dX4_walk_184 (.refl 186) 4 rfl ?_
                refine AW.aload_n dX4_walk_186 (.refl 187) 0 rfl ?_
                refine AW.getR (z := 3) lk_X4_22 rfl rfl (by decide) rfl dX4_walk_187 (.refl 190) ?_
                refine AW.iload_n dX4_walk_190 (.refl 191) 1 rfl ?_
                refine AW.iload dX4_walk_191 (.refl 193) 6 rfl ?_
                obtain ⟨r16, e15, h⟩ := b1_s h
                refine AW.callV (r' := (some (.int r16))) (σ' := τ11) (rest := [.int x5, .long (x3 ||| r14), .int (x2 + (τ11.1 30 (x1).toNatClampNeg)), .int (x1 + (1 : Int32)), .ref 29]) lm_X4_92 (c_X8_ringing e15) (by omega) (by decide) rfl rfl (by decide) rfl rfl (Nat.le_of_ble_eq_true rfl) dX4_walk_193 (.refl 196) (st' := [.int r16, .int x5, .long (x3 ||| r14), .int (x2 + (τ11.1 30 (x1).toNatClampNeg)), .int (x1 + (1 : Int32)), .ref 29]) rfl ?_
                refine AW.ior dX4_walk_196 (.refl 197) ?_
                refine AW.iload dX4_walk_197 (.refl 199) 5 rfl ?_
                refine AW.aload_n dX4_walk_199 (.refl 200) 0 rfl ?_
                refine AW.getR (z := 3) lk_X4_22 rfl rfl (by decide) rfl dX4_walk_200 (.refl 203) ?_
                refine AW.iload_n dX4_walk_203 (.refl 204) 1 rfl ?_
                obtain ⟨r18, e17, h⟩ := b1_s h
                refine AW.callV (r' := (some (.int r18))) (σ' := τ11) (rest := [.int x6, .int (x5 ||| r16), .long (x3 ||| r14), .int (x2 + (τ11.1 30 (x1).toNatClampNeg)), .int (x1 + (1 : Int32)), .ref 29]) lm_X4_64 (c_X8_wants e17) (by omega) (by decide) rfl rfl (by decide) rfl rfl (Nat.le_of_ble_eq_true rfl) dX4_walk_204 (.refl 207) (st' := [.int r18, .int x6, .int (x5 ||| r16), .long (x3 ||| r14), .int (x2 + (τ11.1 30 (x1).toNatClampNeg)), .int (x1 + (1 : Int32)), .ref 29]) rfl ?_
                refine AW.ior dX4_walk_207 (.refl 208) ?_
                obtain ⟨τ20, e19, h⟩ := b1_s h
                refine AW.callV (r' := none) (σ' := τ20) (rest := []) lm_X4_76 (hfr _ _ _ _ _ _ _ e19) hd0 (by decide) rfl rfl (by decide) rfl rfl (Nat.le_of_ble_eq_true rfl) dX4_walk_208 (.refl 211) (st' := []) rfl ?_
                refine AW.iinc (v := (x7 + (1 : Int32))) (L' := [(7, .int (x7 + (1 : Int32))), (0, .ref 29), (1, .int x1), (2, .int x2), (3, .long x3), (5, .int x5), (6, .int x6)]) dX4_walk_211 (.refl 214) 6 rfl rfl (by decide) rfl ?_
                refine AW.goto (tgt := 72) dX4_walk_214 (by decide) ?_
                refine AW.sub (L' := [(0, .ref 29), (1, .int x1), (2, .int x2), (3, .long x3), (5, .int x5), (6, .int x6), (7, .int (x7 + (1 : Int32)))]) [1, 2, 3, 4, 5, 6, 0] rfl ?_
                exact ih x1 x2 x3 x5 x6 (x7 + (1 : Int32)) τ20 h
set_option maxRecDepth 20000 in
theorem a_X4_walk_e {l : Launch} {G : Gg} {τ : Mm} {fr : Int32 → Int32 → Int64 → Int32 → Int32 → Mm → Option (Mm)} {d d0 : Nat} (hB : 1 ≤ d) (hd0 : d0 + 1 ≤ d) (hfr : ∀ (x1 : Int32) (x2 : Int32) (x3 : Int64) (x5 : Int32) (x6 : Int32) (σ : Mm) (τ : Mm), fr x1 x2 x3 x5 x6 σ = some τ → MR l G d0 M_X4_walk [.ref 29, .int x1, .int x2, .long x3, .int x5, .int x6] σ none τ) (x1 : Int32) (x2 : Int32) (x3 : Int64) (x5 : Int32) (x6 : Int32) (σ : Mm) (h : f_X4_walk_e fr x1 x2 x3 x5 x6 σ = some τ) : AW l G d M_X4_walk none τ 0 [(0, .ref 29), (1, .int x1), (2, .int x2), (3, .long x3), (5, .int x5), (6, .int x6)] [] σ := by
  unfold f_X4_walk_e at h
  refine AW.iload_n dX4_walk_0 (.refl 1) 1 rfl ?_
  refine AW.if_lt (tgt := 24) dX4_walk_1 (by decide) (fun c11 => ?_) (fun c11 => ?_)
  · have h := ifp c11 h
    cases h
    exact AW.vreturn rfl dX4_walk_24
  · have h := ifn c11 h
    refine AW.iload_n dX4_walk_4 (.refl 5) 1 rfl ?_
    refine AW.iconst (v := (5 : Int32)) dX4_walk_5 (.refl 6) (by decide) ?_
    refine AW.icmp_gt (tgt := 24) dX4_walk_6 (by decide) (fun c10 => ?_) (fun c10 => ?_)
    · have h := ifp c10 h
      cases h
      exact AW.vreturn rfl dX4_walk_24
    · have h := ifn c10 h
      refine AW.iload_n dX4_walk_9 (.refl 10) 2 rfl ?_
      refine AW.aload_n dX4_walk_10 (.refl 11) 0 rfl ?_
      refine AW.getR (z := 31) lk_X4_15 rfl rfl (by decide) rfl dX4_walk_11 (.refl 14) ?_
      refine AW.iload_n dX4_walk_14 (.refl 15) 1 rfl ?_
      obtain ⟨g1, h⟩ := gd_s h
      refine AW.iaload rfl g1 dX4_walk_15 (.refl 16) ?_
      refine AW.iadd dX4_walk_16 (.refl 17) ?_
      refine AW.aload_n dX4_walk_17 (.refl 18) 0 rfl ?_
      refine AW.getI lk_X4_18 rfl rfl (by decide) dX4_walk_18 (.refl 21) ?_
      refine AW.icmp_gt (tgt := 25) dX4_walk_21 (by decide) (fun c9 => ?_) (fun c9 => ?_)
      · have h := ifp c9 h
        refine AW.iload_n dX4_walk_25 (.refl 26) 1 rfl ?_
        refine AW.iconst (v := (5 : Int32)) dX4_walk_26 (.refl 27) (by decide) ?_
        refine AW.icmp_ne (tgt := 47) dX4_walk_27 (by decide) (fun c8 => ?_) (fun c8 => ?_)
        · have h := ifn c8 h
          refine AW.aload_n dX4_walk_47 (.refl 48) 0 rfl ?_
          refine AW.getR (z := 32) lk_X4_31 rfl rfl (by decide) rfl dX4_walk_48 (.refl 51) ?_
          refine AW.iload_n dX4_walk_51 (.refl 52) 1 rfl ?_
          refine AW.iconst (v := (0 : Int32)) dX4_walk_52 (.refl 53) (by decide) ?_
          obtain ⟨τ3, e2, h⟩ := b1_s h
          refine AW.callV (r' := none) (σ' := τ3) (rest := []) lm_X4_84 (c_X1_tell rfl e2) (by omega) (by decide) rfl rfl (by decide) rfl rfl (Nat.le_of_ble_eq_true rfl) dX4_walk_53 (.refl 56) (st' := []) rfl ?_
          refine AW.aload_n dX4_walk_56 (.refl 57) 0 rfl ?_
          refine AW.iload_n dX4_walk_57 (.refl 58) 1 rfl ?_
          refine AW.iconst (v := (1 : Int32)) dX4_walk_58 (.refl 59) (by decide) ?_
          refine AW.iadd dX4_walk_59 (.refl 60) ?_
          refine AW.iload_n dX4_walk_60 (.refl 61) 2 rfl ?_
          refine AW.lload_n dX4_walk_61 (.refl 62) 3 rfl ?_
          refine AW.iload dX4_walk_62 (.refl 64) 4 rfl ?_
          refine AW.iload dX4_walk_64 (.refl 66) 5 rfl ?_
          obtain ⟨τ5, e4, h⟩ := b1_s h
          refine AW.callV (r' := none) (σ' := τ5) (rest := []) lm_X4_76 (hfr _ _ _ _ _ _ _ e4) hd0 (by decide) rfl rfl (by decide) rfl rfl (Nat.le_of_ble_eq_true rfl) dX4_walk_66 (.refl 69) (st' := []) rfl ?_
          refine AW.iconst (v := (0 : Int32)) dX4_walk_69 (.refl 70) (by decide) ?_
          refine AW.istore (L' := [(7, .int (0 : Int32)), (0, .ref 29), (1, .int x1), (2, .int x2), (3, .long x3), (5, .int x5), (6, .int x6)]) dX4_walk_70 (.refl 72) (by decide) rfl ?_
          refine AW.sub (L' := [(0, .ref 29), (1, .int x1), (2, .int x2), (3, .long x3), (5, .int x5), (6, .int x6), (7, .int (0 : Int32))]) [1, 2, 3, 4, 5, 6, 0] rfl ?_
          exact a_X4_walk_p72 hB hd0 hfr FU x1 x2 x3 x5 x6 (0 : Int32) τ5 h
        · have h := ifp c8 h
          refine AW.aload_n dX4_walk_30 (.refl 31) 0 rfl ?_
          refine AW.iload_n dX4_walk_31 (.refl 32) 2 rfl ?_
          refine AW.putI lp_X4_18 rfl rfl (by decide) dX4_walk_32 (.refl 35) ?_
          refine AW.aload_n dX4_walk_35 (.refl 36) 0 rfl ?_
          refine AW.getR (z := 34) lk_X4_35 rfl rfl (by decide) rfl dX4_walk_36 (.refl 39) ?_
          refine AW.aload_n dX4_walk_39 (.refl 40) 0 rfl ?_
          refine AW.getR (z := 32) lk_X4_31 rfl rfl (by decide) rfl dX4_walk_40 (.refl 43) ?_
          obtain ⟨τ7, e6, h⟩ := b1_s h
          refine AW.callV (r' := none) (σ' := τ7) (rest := []) lm_X4_80 (c_X1_copy rfl rfl e6) (by omega) (by decide) rfl rfl (by decide) rfl rfl (Nat.le_of_ble_eq_true rfl) dX4_walk_43 (.refl 46) (st' := []) rfl ?_
          cases h
          exact AW.vreturn rfl dX4_walk_46
      · have h := ifn c9 h
        cases h
        exact AW.vreturn rfl dX4_walk_24
theorem c_X4_walk_n {l : Launch} {G : Gg} : ∀ (n : Nat) (x1 : Int32) (x2 : Int32) (x3 : Int64) (x5 : Int32) (x6 : Int32) (σ : Mm) (τ : Mm), f_X4_walk n x1 x2 x3 x5 x6 σ = some τ → MR l G (1 + n) M_X4_walk [.ref 29, .int x1, .int x2, .long x3, .int x5, .int x6] σ none τ := by
  intro n
  induction n with
  | zero => intro x1 x2 x3 x5 x6 σ τ h; exact no_some h
  | succ n ih =>
    intro x1 x2 x3 x5 x6 σ τ h
    rw [f_X4_walk] at h
    exact MR.of (by decide +kernel) (Nat.le_of_ble_eq_true rfl) (a_X4_walk_e (d := 1 + (n + 1)) (d0 := 1 + n) (by omega) (by omega) ih x1 x2 x3 x5 x6 σ h)
theorem c_X4_walk {l : Launch} {G : Gg} {x1 : Int32} {x2 : Int32} {x3 : Int64} {x5 : Int32} {x6 : Int32} {σ : Mm} {τ : Mm} (h : f_X4_walk 40 x1 x2 x3 x5 x6 σ = some τ) : MR l G 41 M_X4_walk [.ref 29, .int x1, .int x2, .long x3, .int x5, .int x6] σ none τ := c_X4_walk_n 40 x1 x2 x3 x5 x6 σ τ h
def f_X4_search (x1 : Int64) (x3 : Int32) (x4 : Int32) (σ : Mm) : Option (Int32 × Mm) := b1 (f_X4_walk 40 (0 : Int32) (0 : Int32) x1 x3 x4 (sI σ 29 5 (-9 : Int32))) (fun (τ2 : Mm) => some ((τ2.1 29 5), τ2))
set_option maxRecDepth 20000 in
theorem c_X4_search {l : Launch} {G : Gg} {x1 : Int64} {x3 : Int32} {x4 : Int32} {σ : Mm} {v : Int32} {τ : Mm} (h : f_X4_search x1 x3 x4 σ = some (v, τ)) : MR l G 42 M_X4_search [.ref 29, .long x1, .int x3, .int x4] σ (some (.int v)) τ := by
  unfold f_X4_search at h
  refine MR.of (by decide +kernel) (Nat.le_of_ble_eq_true rfl) ?_
  show AW l G 42 M_X4_search (some (.int v)) τ 0 [(0, .ref 29), (1, .long x1), (3, .int x3), (4, .int x4)] [] σ
  refine AW.aload_n dX4_search_0 (.refl 1) 0 rfl ?_
  refine AW.bipush (v := (-9 : Int32)) dX4_search_1 (.refl 3) (by decide) ?_
  refine AW.putI lp_X4_18 rfl rfl (by decide) dX4_search_3 (.refl 6) ?_
  refine AW.aload_n dX4_search_6 (.refl 7) 0 rfl ?_
  refine AW.iconst (v := (0 : Int32)) dX4_search_7 (.refl 8) (by decide) ?_
  refine AW.iconst (v := (0 : Int32)) dX4_search_8 (.refl 9) (by decide) ?_
  refine AW.lload_n dX4_search_9 (.refl 10) 1 rfl ?_
  refine AW.iload_n dX4_search_10 (.refl 11) 2 rfl ?_
  refine AW.iload dX4_search_11 (.refl 13) 3 rfl ?_
  obtain ⟨τ2, e1, h⟩ := b1_s h
  refine AW.callV (r' := none) (σ' := τ2) (rest := []) lm_X4_76 (c_X4_walk e1) (by decide) (by decide) rfl rfl (by decide) rfl rfl (Nat.le_of_ble_eq_true rfl) dX4_search_13 (.refl 16) (st' := []) rfl ?_
  refine AW.aload_n dX4_search_16 (.refl 17) 0 rfl ?_
  refine AW.getI lk_X4_18 rfl rfl (by decide) dX4_search_17 (.refl 20) ?_
  cases h
  exact AW.ireturn rfl dX4_search_20
def f_X4_weigh_p71 (kh : Int32 → Int32 → Int32 → Mm → Option (Mm)) (x1 : Int32) (x2 : Int32) (x3 : Int32) (s0 : Int32) (s1 : Int32) (σ : Mm) : Option (Mm) := gd (inB s1 5) (gd (inB (x3 + (1 : Int32)) 6) (gd (inB x3 5) (gd (inB x3 6) (bnd ((sI (sI σ 30 (s1).toNatClampNeg s0) 31 (x3).toNatClampNeg (((sI σ 30 (s1).toNatClampNeg s0).1 31 ((x3 + (1 : Int32))).toNatClampNeg) + ((sI σ 30 (s1).toNatClampNeg s0).1 30 (x3).toNatClampNeg)))) (fun (σ5 : Mm) => kh x1 x2 (x3 + (-1 : Int32)) σ5)))))
def f_X4_weigh_p38 (kh : Int32 → Int32 → Int32 → Mm → Option (Mm)) (x1 : Int32) (x2 : Int32) (x3 : Int32) (s0 : Int32) (σ : Mm) : Option (Mm) := (if s0 = 0 then (f_X4_weigh_p71 kh) x1 x2 x3 (0 : Int32) x3 σ else (if x2 = 0 then (f_X4_weigh_p71 kh) x1 x2 x3 (1 : Int32) x3 σ else gd (inB x3 5) ((f_X4_weigh_p71 kh) x1 x2 x3 (σ.1 11 (x3).toNatClampNeg) x3 σ)))
def f_X4_weigh_p37 (kh : Int32 → Int32 → Int32 → Mm → Option (Mm)) (x1 : Int32) (x2 : Int32) (x3 : Int32) (σ : Mm) : Option (Mm) := (f_X4_weigh_p38 kh) x1 x2 x3 (0 : Int32) σ
def f_X4_weigh_p9 : Nat → Int32 → Int32 → Int32 → Mm → Option (Mm)
  | 0, _, _, _, _ => none
  | n + 1, x1, x2, x3, σ => (if x3 < 0 then some σ else b1 (f_X8_hasBidder σ x3) (fun (r2 : Int32) => (if r2 = 0 then (f_X4_weigh_p37 (f_X4_weigh_p9 n)) x1 x2 x3 σ else (if ((jushr x1 x3) &&& (1 : Int32)) = (1 : Int32) then (f_X4_weigh_p38 (f_X4_weigh_p9 n)) x1 x2 x3 (1 : Int32) σ else (f_X4_weigh_p37 (f_X4_weigh_p9 n)) x1 x2 x3 σ))))
def f_X4_weigh (x1 : Int32) (x2 : Int32) (σ : Mm) : Option (Mm) := gd (inB (5 : Int32) 6) (f_X4_weigh_p9 FU x1 x2 (4 : Int32) (sI σ 31 ((5 : Int32)).toNatClampNeg (0 : Int32)))
set_option maxRecDepth 20000 in
theorem a_X4_weigh_p71 {l : Launch} {G : Gg} {τ : Mm} {kh : Int32 → Int32 → Int32 → Mm → Option (Mm)} (hkh : ∀ (x1 : Int32) (x2 : Int32) (x3 : Int32) (σ : Mm), kh x1 x2 x3 σ = some τ → AW l G 1 M_X4_weigh none τ 9 [(0, .ref 29), (1, .int x1), (2, .int x2), (3, .int x3)] [] σ) (x1 : Int32) (x2 : Int32) (x3 : Int32) (s0 : Int32) (s1 : Int32) (σ : Mm) (h : f_X4_weigh_p71 kh x1 x2 x3 s0 s1 σ = some τ) : AW l G 1 M_X4_weigh none τ 71 [(0, .ref 29), (1, .int x1), (2, .int x2), (3, .int x3)] [.int s0, .int s1, .ref 30] σ := by
  unfold f_X4_weigh_p71 at h
  obtain ⟨g1, h⟩ := gd_s h
  refine AW.iastore rfl g1 dX4_weigh_71 (.refl 72) ?_
  refine AW.aload_n dX4_weigh_72 (.refl 73) 0 rfl ?_
  refine AW.getR (z := 31) lk_X4_15 rfl rfl (by decide) rfl dX4_weigh_73 (.refl 76) ?_
  refine AW.iload_n dX4_weigh_76 (.refl 77) 3 rfl ?_
  refine AW.aload_n dX4_weigh_77 (.refl 78) 0 rfl ?_
  refine AW.getR (z := 31) lk_X4_15 rfl rfl (by decide) rfl dX4_weigh_78 (.refl 81) ?_
  refine AW.iload_n dX4_weigh_81 (.refl 82) 3 rfl ?_
  refine AW.iconst (v := (1 : Int32)) dX4_weigh_82 (.refl 83) (by decide) ?_
  refine AW.iadd dX4_weigh_83 (.refl 84) ?_
  obtain ⟨g2, h⟩ := gd_s h
  refine AW.iaload rfl g2 dX4_weigh_84 (.refl 85) ?_
  refine AW.aload_n dX4_weigh_85 (.refl 86) 0 rfl ?_
  refine AW.getR (z := 30) lk_X4_9 rfl rfl (by decide) rfl dX4_weigh_86 (.refl 89) ?_
  refine AW.iload_n dX4_weigh_89 (.refl 90) 3 rfl ?_
  obtain ⟨g3, h⟩ := gd_s h
  refine AW.iaload rfl g3 dX4_weigh_90 (.refl 91) ?_
  refine AW.iadd dX4_weigh_91 (.refl 92) ?_
  obtain ⟨g4, h⟩ := gd_s h
  refine AW.iastore rfl g4 dX4_weigh_92 (.refl 93) ?_
  obtain ⟨σ5, e6, h⟩ := bnd_s h
  refine AW.nmM e6 ?_
  refine AW.iinc (v := (x3 + (-1 : Int32))) (L' := [(3, .int (x3 + (-1 : Int32))), (0, .ref 29), (1, .int x1), (2, .int x2)]) dX4_weigh_93 (.refl 96) 3 rfl rfl (by decide) rfl ?_
  refine AW.goto (tgt := 9) dX4_weigh_96 (by decide) ?_
  refine AW.sub (L' := [(0, .ref 29), (1, .int x1), (2, .int x2), (3, .int (x3 + (-1 : Int32)))]) [1, 2, 3, 0] rfl ?_
  exact hkh x1 x2 (x3 + (-1 : Int32)) σ5 h
set_option maxRecDepth 20000 in
theorem a_X4_weigh_p38 {l : Launch} {G : Gg} {τ : Mm} {kh : Int32 → Int32 → Int32 → Mm → Option (Mm)} (hkh : ∀ (x1 : Int32) (x2 : Int32) (x3 : Int32) (σ : Mm), kh x1 x2 x3 σ = some τ → AW l G 1 M_X4_weigh none τ 9 [(0, .ref 29), (1, .int x1), (2, .int x2), (3, .int x3)] [] σ) (x1 : Int32) (x2 : Int32) (x3 : Int32) (s0 : Int32) (σ : Mm) (h : f_X4_weigh_p38 kh x1 x2 x3 s0 σ = some τ) : AW l G 1 M_X4_weigh none τ 38 [(0, .ref 29), (1, .int x1), (2, .int x2), (3, .int x3)] [.int s0] σ := by
  unfold f_X4_weigh_p38 at h
  refine AW.istore (L' := [(4, .int s0), (0, .ref 29), (1, .int x1), (2, .int x2), (3, .int x3)]) dX4_weigh_38 (.refl 40) (by decide) rfl ?_
  refine AW.aload_n dX4_weigh_40 (.refl 41) 1 rfl ?_
  refine AW.getR (z := 30) lk_X4_9 rfl rfl (by decide) rfl dX4_weigh_41 (.refl 44) ?_
  refine AW.iload_n dX4_weigh_44 (.refl 45) 4 rfl ?_
  refine AW.iload dX4_weigh_45 (.refl 47) 0 rfl ?_
  refine AW.if_ne (tgt := 54) dX4_weigh_47 (by decide) (fun c3 => ?_) (fun c3 => ?_)
  · have h := ifn c3 h
    refine AW.iload_n dX4_weigh_54 (.refl 55) 3 rfl ?_
    refine AW.if_eq (tgt := 70) dX4_weigh_55 (by decide) (fun c2 => ?_) (fun c2 => ?_)
    · have h := ifp c2 h
      refine AW.iconst (v := (1 : Int32)) dX4_weigh_70 (.refl 71) (by decide) ?_
      refine AW.sub (L' := [(0, .ref 29), (1, .int x1), (2, .int x2), (3, .int x3)]) [1, 2, 3, 4] rfl ?_
      exact (a_X4_weigh_p71 hkh) x1 x2 x3 (1 : Int32) x3 σ h
    · have h := ifn c2 h
      refine AW.aload_n dX4_weigh_58 (.refl 59) 1 rfl ?_
      refine AW.getR (z := 3) lk_X4_22 rfl rfl (by decide) rfl dX4_weigh_59 (.refl 62) ?_
      refine AW.getR (z := 11) lk_X4_73 rfl rfl (by decide) rfl dX4_weigh_62 (.refl 65) ?_
      refine AW.iload_n dX4_weigh_65 (.refl 66) 4 rfl ?_
      obtain ⟨g1, h⟩ := gd_s h
      refine AW.iaload rfl g1 dX4_weigh_66 (.refl 67) ?_
      refine AW.goto (tgt := 71) dX4_weigh_67 (by decide) ?_
      refine AW.sub (L' := [(0, .ref 29), (1, .int x1), (2, .int x2), (3, .int x3)]) [1, 2, 3, 4] rfl ?_
      exact (a_X4_weigh_p71 hkh) x1 x2 x3 (σ.1 11 (x3).toNatClampNeg) x3 σ h
  · have h := ifp c3 h
    refine AW.iconst (v := (0 : Int32)) dX4_weigh_50 (.refl 51) (by decide) ?_
    refine AW.goto (tgt := 71) dX4_weigh_51 (by decide) ?_
    refine AW.sub (L' := [(0, .ref 29), (1, .int x1), (2, .int x2), (3, .int x3)]) [1, 2, 3, 4] rfl ?_
    exact (a_X4_weigh_p71 hkh) x1 x2 x3 (0 : Int32) x3 σ h
set_option maxRecDepth 20000 in
theorem a_X4_weigh_p37 {l : Launch} {G : Gg} {τ : Mm} {kh : Int32 → Int32 → Int32 → Mm → Option (Mm)} (hkh : ∀ (x1 : Int32) (x2 : Int32) (x3 : Int32) (σ : Mm), kh x1 x2 x3 σ = some τ → AW l G 1 M_X4_weigh none τ 9 [(0, .ref 29), (1, .int x1), (2, .int x2), (3, .int x3)] [] σ) (x1 : Int32) (x2 : Int32) (x3 : Int32) (σ : Mm) (h : f_X4_weigh_p37 kh x1 x2 x3 σ = some τ) : AW l G 1 M_X4_weigh none τ 37 [(0, .ref 29), (1, .int x1), (2, .int x2), (3, .int x3)] [] σ := by
  unfold f_X4_weigh_p37 at h
  refine AW.iconst (v := (0 : Int32)) dX4_weigh_37 (.refl 38) (by decide) ?_
  exact (a_X4_weigh_p38 hkh) x1 x2 x3 (0 : Int32) σ h
set_option maxRecDepth 20000 in
theorem a_X4_weigh_p9 {l : Launch} {G : Gg} {τ : Mm} : ∀ (n : Nat) (x1 : Int32) (x2 : Int32) (x3 : Int32) (σ : Mm), f_X4_weigh_p9 n x1 x2 x3 σ = some τ → AW l G 1 M_X4_weigh none τ 9 [(0, .ref 29), (1, .int x1), (2, .int x2), (3, .int x3)] [] σ := by
  intro n
  induction n with
  | zero => intro x1 x2 x3 σ h; exact no_some h
  | succ n ih =>
    intro x1 x2 x3 σ h
    rw [f_X4_weigh_p9] at h
    refine AW.iload_n dX4_weigh_9 (.refl 10) 3 rfl ?_
    refine AW.if_lt (tgt := 99) dX4_weigh_10 (by decide) (fun c5 => ?_) (fun c5 => ?_)
    · have h := ifp c5 h
      cases h
      exact AW.vreturn rfl dX4_weigh_99
    · have h := ifn c5 h
      refine AW.aload_n dX4_weigh_13 (.refl 14) 0 rfl ?_
      refine AW.getR (z := 3) lk_X4_22 rfl rfl (by decide) rfl dX4_weigh_14 (.refl 17) ?_
      refine AW.iload_n dX4_weigh_17 (.refl 18) 3 rfl ?_
      obtain ⟨r2, e1, h⟩ := b1_s h
      refine AW.callV (r' := (some (.int r2))) (σ' := σ) (rest := []) lm_X4_70 (c_X8_hasBidder e1) (by decide) (by decide) rfl rfl (by decide) rfl rfl (Nat.le_of_ble_eq_true rfl) dX4_weigh_18 (.refl 21) (st' := [.int r2]) rfl ?_
      refine AW.if_eq (tgt := 37) dX4_weigh_21 (by decide) (fun c4 => ?_) (fun c4 => ?_)
      · have h := ifp c4 h
        exact (a_X4_weigh_p37 ih) x1 x2 x3 σ h
      · have h := ifn c4 h
        refine AW.iload_n dX4_weigh_24 (.refl 25) 1 rfl ?_
        refine AW.iload_n dX4_weigh_25 (.refl 26) 3 rfl ?_
        refine AW.iushr dX4_weigh_26 (.refl 27) ?_
        refine AW.iconst (v := (1 : Int32)) dX4_weigh_27 (.refl 28) (by decide) ?_
        refine AW.iand dX4_weigh_28 (.refl 29) ?_
        refine AW.iconst (v := (1 : Int32)) dX4_weigh_29 (.refl 30) (by decide) ?_
        refine AW.icmp_ne (tgt := 37) dX4_weigh_30 (by decide) (fun c3 => ?_) (fun c3 => ?_)
        · have h := ifn c3 h
          exact (a_X4_weigh_p37 ih) x1 x2 x3 σ h
        · have h := ifp c3 h
          refine AW.iconst (v := (1 : Int32)) dX4_weigh_33 (.refl 34) (by decide) ?_
          refine AW.goto (tgt := 38) dX4_weigh_34 (by decide) ?_
          exact (a_X4_weigh_p38 ih) x1 x2 x3 (1 : Int32) σ h
set_option maxRecDepth 20000 in
theorem c_X4_weigh {l : Launch} {G : Gg} {x1 : Int32} {x2 : Int32} {σ : Mm} {τ : Mm} (h : f_X4_weigh x1 x2 σ = some τ) : MR l G 1 M_X4_weigh [.ref 29, .int x1, .int x2] σ none τ := by
  unfold f_X4_weigh at h
  refine MR.of (by decide +kernel) (Nat.le_of_ble_eq_true rfl) ?_
  show AW l G 1 M_X4_weigh none τ 0 [(0, .ref 29), (1, .int x1), (2, .int x2)] [] σ
  refine AW.aload_n dX4_weigh_0 (.refl 1) 0 rfl ?_
  refine AW.getR (z := 31) lk_X4_15 rfl rfl (by decide) rfl dX4_weigh_1 (.refl 4) ?_
  refine AW.iconst (v := (5 : Int32)) dX4_weigh_4 (.refl 5) (by decide) ?_
  refine AW.iconst (v := (0 : Int32)) dX4_weigh_5 (.refl 6) (by decide) ?_
  obtain ⟨g1, h⟩ := gd_s h
  refine AW.iastore rfl g1 dX4_weigh_6 (.refl 7) ?_
  refine AW.iconst (v := (4 : Int32)) dX4_weigh_7 (.refl 8) (by decide) ?_
  refine AW.istore_n (L' := [(3, .int (4 : Int32)), (0, .ref 29), (1, .int x1), (2, .int x2)]) dX4_weigh_8 (.refl 9) (by decide) rfl ?_
  refine AW.sub (L' := [(0, .ref 29), (1, .int x1), (2, .int x2), (3, .int (4 : Int32))]) [1, 2, 3, 0] rfl ?_
  exact a_X4_weigh_p9 FU x1 x2 (4 : Int32) (sI σ 31 ((5 : Int32)).toNatClampNeg (0 : Int32)) h
def f_X4_mostWorth (x1 : Int32) (σ : Mm) : Option (Int32 × Mm) := b1 (f_X4_weigh x1 (1 : Int32) σ) (fun (τ2 : Mm) => b2 (f_X4_search (0 : Int64) (0 : Int32) (0 : Int32) τ2) (fun (r4 : Int32) (τ5 : Mm) => some (r4, τ5)))
set_option maxRecDepth 20000 in
theorem c_X4_mostWorth {l : Launch} {G : Gg} {x1 : Int32} {σ : Mm} {v : Int32} {τ : Mm} (h : f_X4_mostWorth x1 σ = some (v, τ)) : MR l G 43 M_X4_mostWorth [.ref 29, .int x1] σ (some (.int v)) τ := by
  unfold f_X4_mostWorth at h
  refine MR.of (by decide +kernel) (Nat.le_of_ble_eq_true rfl) ?_
  show AW l G 43 M_X4_mostWorth (some (.int v)) τ 0 [(0, .ref 29), (1, .int x1)] [] σ
  refine AW.aload_n dX4_mostWorth_0 (.refl 1) 0 rfl ?_
  refine AW.iload_n dX4_mostWorth_1 (.refl 2) 1 rfl ?_
  refine AW.iconst (v := (1 : Int32)) dX4_mostWorth_2 (.refl 3) (by decide) ?_
  obtain ⟨τ2, e1, h⟩ := b1_s h
  refine AW.callV (r' := none) (σ' := τ2) (rest := []) lm_X4_38 (c_X4_weigh e1) (by decide) (by decide) rfl rfl (by decide) rfl rfl (Nat.le_of_ble_eq_true rfl) dX4_mostWorth_3 (.refl 6) (st' := []) rfl ?_
  refine AW.aload_n dX4_mostWorth_6 (.refl 7) 0 rfl ?_
  refine AW.lconst (v := (0 : Int64)) dX4_mostWorth_7 (.refl 8) (by decide) ?_
  refine AW.iconst (v := (0 : Int32)) dX4_mostWorth_8 (.refl 9) (by decide) ?_
  refine AW.iconst (v := (0 : Int32)) dX4_mostWorth_9 (.refl 10) (by decide) ?_
  obtain ⟨r4, τ5, e3, h⟩ := b2_s h
  refine AW.callV (r' := (some (.int r4))) (σ' := τ5) (rest := []) lm_X4_42 (c_X4_search e3) (by decide) (by decide) rfl rfl (by decide) rfl rfl (Nat.le_of_ble_eq_true rfl) dX4_mostWorth_10 (.refl 13) (st' := [.int r4]) rfl ?_
  cases h
  exact AW.ireturn rfl dX4_mostWorth_13
def f_X8_everyone (σ : Mm)  : Option (Int32) := some ((jshl (1 : Int32) (σ.1 3 1)) - (1 : Int32))
set_option maxRecDepth 20000 in
theorem c_X8_everyone {l : Launch} {G : Gg}  {σ : Mm} {v : Int32} (h : f_X8_everyone σ  = some v) : MR l G 0 M_X8_everyone [.ref 3] σ (some (.int v)) σ := by
  unfold f_X8_everyone at h
  refine MR.of (by decide +kernel) (Nat.le_of_ble_eq_true rfl) ?_
  show AW l G 0 M_X8_everyone (some (.int v)) σ 0 [(0, .ref 3)] [] σ
  refine AW.iconst (v := (1 : Int32)) dX8_everyone_0 (.refl 1) (by decide) ?_
  refine AW.aload_n dX8_everyone_1 (.refl 2) 0 rfl ?_
  refine AW.getI lk_X8_15 rfl rfl (by decide) dX8_everyone_2 (.refl 5) ?_
  refine AW.ishl dX8_everyone_5 (.refl 6) ?_
  refine AW.iconst (v := (1 : Int32)) dX8_everyone_6 (.refl 7) (by decide) ?_
  refine AW.isub dX8_everyone_7 (.refl 8) ?_
  cases h
  exact AW.ireturn rfl dX8_everyone_8
