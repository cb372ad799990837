def f_X9_best (x1 : Int32) (σ : Mm) : Option (Int32 × Mm) := (if x1 < 0 then some ((-2 : Int32), σ) else b1 (f_X8_everyone σ) (fun (r2 : Int32) => (if x1 ≤ r2 then b2 (f_X4_mostWorth x1 σ) (fun (r4 : Int32) (τ5 : Mm) => some (r4, τ5)) else some ((-2 : Int32), σ))))
set_option maxRecDepth 20000 in
theorem c_X9_best {l : Launch} {G : Gg} {x1 : Int32} {σ : Mm} {v : Int32} {τ : Mm} (h : f_X9_best x1 σ = some (v, τ)) : MR l G 44 M_X9_best [.ref 0, .int x1] σ (some (.int v)) τ := by
  unfold f_X9_best at h
  refine MR.of (by decide +kernel) (Nat.le_of_ble_eq_true rfl) ?_
  show AW l G 44 M_X9_best (some (.int v)) τ 0 [(0, .ref 0), (1, .int x1)] [] σ
  refine AW.iload_n dX9_best_0 (.refl 1) 1 rfl ?_
  refine AW.if_lt (tgt := 15) dX9_best_1 (by decide) (fun c7 => ?_) (fun c7 => ?_)
  · have h := ifp c7 h
    refine AW.bipush (v := (-2 : Int32)) dX9_best_15 (.refl 17) (by decide) ?_
    cases h
    exact AW.ireturn rfl dX9_best_17
  · have h := ifn c7 h
    refine AW.iload_n dX9_best_4 (.refl 5) 1 rfl ?_
    refine AW.aload_n dX9_best_5 (.refl 6) 0 rfl ?_
    refine AW.getR (z := 3) lk_X9_19 rfl rfl (by decide) rfl dX9_best_6 (.refl 9) ?_
    obtain ⟨r2, e1, h⟩ := b1_s h
    refine AW.callV (r' := (some (.int r2))) (σ' := σ) (rest := [.int x1]) lm_X9_205 (c_X8_everyone e1) (by decide) (by decide) rfl rfl (by decide) rfl rfl (Nat.le_of_ble_eq_true rfl) dX9_best_9 (.refl 12) (st' := [.int r2, .int x1]) rfl ?_
    refine AW.icmp_le (tgt := 18) dX9_best_12 (by decide) (fun c6 => ?_) (fun c6 => ?_)
    · have h := ifp c6 h
      refine AW.aload_n dX9_best_18 (.refl 19) 0 rfl ?_
      refine AW.getR (z := 29) lk_X9_55 rfl rfl (by decide) rfl dX9_best_19 (.refl 22) ?_
      refine AW.iload_n dX9_best_22 (.refl 23) 1 rfl ?_
      obtain ⟨r4, τ5, e3, h⟩ := b2_s h
      refine AW.callV (r' := (some (.int r4))) (σ' := τ5) (rest := []) lm_X9_208 (c_X4_mostWorth e3) (by decide) (by decide) rfl rfl (by decide) rfl rfl (Nat.le_of_ble_eq_true rfl) dX9_best_23 (.refl 26) (st' := [.int r4]) rfl ?_
      cases h
      exact AW.ireturn rfl dX9_best_26
    · have h := ifn c6 h
      refine AW.bipush (v := (-2 : Int32)) dX9_best_15 (.refl 17) (by decide) ?_
      cases h
      exact AW.ireturn rfl dX9_best_17
def f_X9_bestOf (x1 : Int32) (σ : Mm) : Option (Int32 × Mm) := b1 (f_X8_hasBidder σ x1) (fun (r2 : Int32) => (if r2 = 0 then some ((-1 : Int32), σ) else b1 (f_X8_everyone σ) (fun (r4 : Int32) => b2 (f_X4_mostWorth r4 σ) (fun (r6 : Int32) (τ7 : Mm) => b1 (f_X1_secondOf τ7 34 x1) (fun (r9 : Int32) => some (r9, τ7))))))
set_option maxRecDepth 20000 in
theorem c_X9_bestOf {l : Launch} {G : Gg} {x1 : Int32} {σ : Mm} {v : Int32} {τ : Mm} (h : f_X9_bestOf x1 σ = some (v, τ)) : MR l G 44 M_X9_bestOf [.ref 0, .int x1] σ (some (.int v)) τ := by
  unfold f_X9_bestOf at h
  refine MR.of (by decide +kernel) (Nat.le_of_ble_eq_true rfl) ?_
  show AW l G 44 M_X9_bestOf (some (.int v)) τ 0 [(0, .ref 0), (1, .int x1)] [] σ
  refine AW.aload_n dX9_bestOf_0 (.refl 1) 0 rfl ?_
  refine AW.getR (z := 3) lk_X9_19 rfl rfl (by decide) rfl dX9_bestOf_1 (.refl 4) ?_
  refine AW.iload_n dX9_bestOf_4 (.refl 5) 1 rfl ?_
  obtain ⟨r2, e1, h⟩ := b1_s h
  refine AW.callV (r' := (some (.int r2))) (σ' := σ) (rest := []) lm_X9_137 (c_X8_hasBidder e1) (by decide) (by decide) rfl rfl (by decide) rfl rfl (Nat.le_of_ble_eq_true rfl) dX9_bestOf_5 (.refl 8) (st' := [.int r2]) rfl ?_
  refine AW.if_ne (tgt := 13) dX9_bestOf_8 (by decide) (fun c10 => ?_) (fun c10 => ?_)
  · have h := ifn c10 h
    refine AW.aload_n dX9_bestOf_13 (.refl 14) 0 rfl ?_
    refine AW.getR (z := 29) lk_X9_55 rfl rfl (by decide) rfl dX9_bestOf_14 (.refl 17) ?_
    refine AW.aload_n dX9_bestOf_17 (.refl 18) 0 rfl ?_
    refine AW.getR (z := 3) lk_X9_19 rfl rfl (by decide) rfl dX9_bestOf_18 (.refl 21) ?_
    obtain ⟨r4, e3, h⟩ := b1_s h
    refine AW.callV (r' := (some (.int r4))) (σ' := σ) (rest := [.ref 29]) lm_X9_205 (c_X8_everyone e3) (by decide) (by decide) rfl rfl (by decide) rfl rfl (Nat.le_of_ble_eq_true rfl) dX9_bestOf_21 (.refl 24) (st' := [.int r4, .ref 29]) rfl ?_
    obtain ⟨r6, τ7, e5, h⟩ := b2_s h
    refine AW.callV (r' := (some (.int r6))) (σ' := τ7) (rest := []) lm_X9_208 (c_X4_mostWorth e5) (by decide) (by decide) rfl rfl (by decide) rfl rfl (Nat.le_of_ble_eq_true rfl) dX9_bestOf_24 (.refl 27) (st' := [.int r6]) rfl ?_
    refine AW.pop dX9_bestOf_27 (.refl 28) rfl ?_
    refine AW.aload_n dX9_bestOf_28 (.refl 29) 0 rfl ?_
    refine AW.getR (z := 29) lk_X9_55 rfl rfl (by decide) rfl dX9_bestOf_29 (.refl 32) ?_
    refine AW.getR (z := 34) lk_X9_211 rfl rfl (by decide) rfl dX9_bestOf_32 (.refl 35) ?_
    refine AW.iload_n dX9_bestOf_35 (.refl 36) 1 rfl ?_
    obtain ⟨r9, e8, h⟩ := b1_s h
    refine AW.callV (r' := (some (.int r9))) (σ' := τ7) (rest := []) lm_X9_158 (c_X1_secondOf rfl e8) (by decide) (by decide) rfl rfl (by decide) rfl rfl (Nat.le_of_ble_eq_true rfl) dX9_bestOf_36 (.refl 39) (st' := [.int r9]) rfl ?_
    cases h
    exact AW.ireturn rfl dX9_bestOf_39
  · have h := ifp c10 h
    refine AW.iconst (v := (-1 : Int32)) dX9_bestOf_11 (.refl 12) (by decide) ?_
    cases h
    exact AW.ireturn rfl dX9_bestOf_12
def f_X4_mostBeside_p19 (k1 : Nat) : Nat → Int64 → Int32 → Int32 → Mm → Option (Int32 × Mm)
  | 0, _, _, _, _ => none
  | n + 1, x2, x4, x5, σ => (if (5 : Int32) ≤ x5 then b1 (f_X1_ringing σ k1) (fun (r2 : Int32) => b2 (f_X4_search x2 r2 x4 σ) (fun (r4 : Int32) (τ5 : Mm) => some (r4, τ5))) else b1 (f_X1_isLet σ k1 x5) (fun (r7 : Int32) => (if r7 = 0 then (f_X4_mostBeside_p19 k1 n) x2 x4 (x5 + (1 : Int32)) σ else b1 (f_X1_secondOf σ k1 x5) (fun (r9 : Int32) => b1 (f_X8_takes σ x5 r9) (fun (r11 : Int64) => b1 (f_X8_wants σ x5) (fun (r13 : Int32) => (f_X4_mostBeside_p19 k1 n) (x2 ||| r11) (x4 ||| r13) (x5 + (1 : Int32)) σ))))))
def f_X4_mostBeside (k1 : Nat)  (σ : Mm) : Option (Int32 × Mm) := b1 (f_X1_everyoneLet σ k1) (fun (r2 : Int32) => b1 (f_X4_weigh (r2 ^^^ (-1 : Int32)) (1 : Int32) σ) (fun (τ4 : Mm) => f_X4_mostBeside_p19 k1 FU (0 : Int64) (0 : Int32) (0 : Int32) τ4))
set_option maxRecDepth 20000 in
theorem a_X4_mostBeside_p19 {l : Launch} {G : Gg} {v : Int32} {τ : Mm} {k1 : Nat} (hk1 : cTag k1 = 1) : ∀ (n : Nat) (x2 : Int64) (x4 : Int32) (x5 : Int32) (σ : Mm), f_X4_mostBeside_p19 k1 n x2 x4 x5 σ = some (v, τ) → AW l G 43 M_X4_mostBeside (some (.int v)) τ 19 [(0, .ref 29), (1, .ref k1), (2, .long x2), (4, .int x4), (5, .int x5)] [] σ := by
  intro n
  induction n with
  | zero => intro x2 x4 x5 σ h; exact no_some h
  | succ n ih =>
    intro x2 x4 x5 σ h
    rw [f_X4_mostBeside_p19] at h
    refine AW.iload dX4_mostBeside_19 (.refl 21) 4 rfl ?_
    refine AW.iconst (v := (5 : Int32)) dX4_mostBeside_21 (.refl 22) (by decide) ?_
    refine AW.icmp_ge (tgt := 72) dX4_mostBeside_22 (by decide) (fun c15 => ?_) (fun c15 => ?_)
    · have h := ifp c15 h
      refine AW.aload_n dX4_mostBeside_72 (.refl 73) 0 rfl ?_
      refine AW.lload_n dX4_mostBeside_73 (.refl 74) 2 rfl ?_
      refine AW.aload_n dX4_mostBeside_74 (.refl 75) 1 rfl ?_
      obtain ⟨r2, e1, h⟩ := b1_s h
      refine AW.callV (r' := (some (.int r2))) (σ' := σ) (rest := [.long x2, .ref 29]) lm_X4_67 (c_X1_ringing hk1 e1) (by decide) (by decide) hk1 rfl (by decide) rfl rfl (Nat.le_of_ble_eq_true rfl) dX4_mostBeside_75 (.refl 78) (st' := [.int r2, .long x2, .ref 29]) rfl ?_
      refine AW.iload dX4_mostBeside_78 (.refl 80) 3 rfl ?_
      obtain ⟨r4, τ5, e3, h⟩ := b2_s h
      refine AW.callV (r' := (some (.int r4))) (σ' := τ5) (rest := []) lm_X4_42 (c_X4_search e3) (by decide) (by decide) rfl rfl (by decide) rfl rfl (Nat.le_of_ble_eq_true rfl) dX4_mostBeside_80 (.refl 83) (st' := [.int r4]) rfl ?_
      cases h
      exact AW.ireturn rfl dX4_mostBeside_83
    · have h := ifn c15 h
      refine AW.aload_n dX4_mostBeside_25 (.refl 26) 1 rfl ?_
      refine AW.iload dX4_mostBeside_26 (.refl 28) 4 rfl ?_
      obtain ⟨r7, e6, h⟩ := b1_s h
      refine AW.callV (r' := (some (.int r7))) (σ' := σ) (rest := []) lm_X4_50 (c_X1_isLet hk1 e6) (by decide) (by decide) hk1 rfl (by decide) rfl rfl (Nat.le_of_ble_eq_true rfl) dX4_mostBeside_28 (.refl 31) (st' := [.int r7]) rfl ?_
      refine AW.if_eq (tgt := 66) dX4_mostBeside_31 (by decide) (fun c14 => ?_) (fun c14 => ?_)
      · have h := ifp c14 h
        refine AW.iinc (v := (x5 + (1 : Int32))) (L' := [(5, .int (x5 + (1 : Int32))), (0, .ref 29), (1, .ref k1), (2, .long x2), (4, .int x4)]) dX4_mostBeside_66 (.refl 69) 4 rfl rfl (by decide) rfl ?_
        refine AW.goto (tgt := 19) dX4_mostBeside_69 (by decide) ?_
        refine AW.sub (L' := [(0, .ref 29), (1, .ref k1), (2, .long x2), (4, .int x4), (5, .int (x5 + (1 : Int32)))]) [1, 2, 3, 4, 0] rfl ?_
        exact ih x2 x4 (x5 + (1 : Int32)) σ h
      · have h := ifn c14 h
        refine AW.lload_n dX4_mostBeside_34 (.refl 35) 2 rfl ?_
        refine AW.aload_n dX4_mostBeside_35 (.refl 36) 0 rfl ?_
        refine AW.getR (z := 3) lk_X4_22 rfl rfl (by decide) rfl dX4_mostBeside_36 (.refl 39) ?_
        refine AW.iload dX4_mostBeside_39 (.refl 41) 4 rfl ?_
        refine AW.aload_n dX4_mostBeside_41 (.refl 42) 1 rfl ?_
        refine AW.iload dX4_mostBeside_42 (.refl 44) 4 rfl ?_
        obtain ⟨r9, e8, h⟩ := b1_s h
        refine AW.callV (r' := (some (.int r9))) (σ' := σ) (rest := [.int x5, .ref 3, .long x2]) lm_X4_54 (c_X1_secondOf hk1 e8) (by decide) (by decide) hk1 rfl (by decide) rfl rfl (Nat.le_of_ble_eq_true rfl) dX4_mostBeside_44 (.refl 47) (st' := [.int r9, .int x5, .ref 3, .long x2]) rfl ?_
        obtain ⟨r11, e10, h⟩ := b1_s h
        refine AW.callV (r' := (some (.long r11))) (σ' := σ) (rest := [.long x2]) lm_X4_58 (c_X8_takes e10) (by decide) (by decide) rfl rfl (by decide) rfl rfl (Nat.le_of_ble_eq_true rfl) dX4_mostBeside_47 (.refl 50) (st' := [.long r11, .long x2]) rfl ?_
        refine AW.lor dX4_mostBeside_50 (.refl 51) ?_
        refine AW.lstore_n (L' := [(2, .long (x2 ||| r11)), (0, .ref 29), (1, .ref k1), (4, .int x4), (5, .int x5)]) dX4_mostBeside_51 (.refl 52) (by decide) rfl ?_
        refine AW.iload dX4_mostBeside_52 (.refl 54) 3 rfl ?_
        refine AW.aload_n dX4_mostBeside_54 (.refl 55) 1 rfl ?_
        refine AW.getR (z := 3) lk_X4_22 rfl rfl (by decide) rfl dX4_mostBeside_55 (.refl 58) ?_
        refine AW.iload dX4_mostBeside_58 (.refl 60) 4 rfl ?_
        obtain ⟨r13, e12, h⟩ := b1_s h
        refine AW.callV (r' := (some (.int r13))) (σ' := σ) (rest := [.int x4]) lm_X4_64 (c_X8_wants e12) (by decide) (by decide) rfl rfl (by decide) rfl rfl (Nat.le_of_ble_eq_true rfl) dX4_mostBeside_60 (.refl 63) (st' := [.int r13, .int x4]) rfl ?_
        refine AW.ior dX4_mostBeside_63 (.refl 64) ?_
        refine AW.istore (L' := [(4, .int (x4 ||| r13)), (2, .long (x2 ||| r11)), (0, .ref 29), (1, .ref k1), (5, .int x5)]) dX4_mostBeside_64 (.refl 66) (by decide) rfl ?_
        refine AW.iinc (v := (x5 + (1 : Int32))) (L' := [(5, .int (x5 + (1 : Int32))), (4, .int (x4 ||| r13)), (2, .long (x2 ||| r11)), (0, .ref 29), (1, .ref k1)]) dX4_mostBeside_66 (.refl 69) 4 rfl rfl (by decide) rfl ?_
        refine AW.goto (tgt := 19) dX4_mostBeside_69 (by decide) ?_
        refine AW.sub (L' := [(0, .ref 29), (1, .ref k1), (2, .long (x2 ||| r11)), (4, .int (x4 ||| r13)), (5, .int (x5 + (1 : Int32)))]) [3, 4, 2, 1, 0] rfl ?_
        exact ih (x2 ||| r11) (x4 ||| r13) (x5 + (1 : Int32)) σ h
set_option maxRecDepth 20000 in
theorem c_X4_mostBeside {l : Launch} {G : Gg} {k1 : Nat} (hk1 : cTag k1 = 1)  {σ : Mm} {v : Int32} {τ : Mm} (h : f_X4_mostBeside k1  σ = some (v, τ)) : MR l G 43 M_X4_mostBeside [.ref 29, .ref k1] σ (some (.int v)) τ := by
  unfold f_X4_mostBeside at h
  refine MR.of (by decide +kernel) (Nat.le_of_ble_eq_true rfl) ?_
  show AW l G 43 M_X4_mostBeside (some (.int v)) τ 0 [(0, .ref 29), (1, .ref k1)] [] σ
  refine AW.aload_n dX4_mostBeside_0 (.refl 1) 0 rfl ?_
  refine AW.aload_n dX4_mostBeside_1 (.refl 2) 1 rfl ?_
  obtain ⟨r2, e1, h⟩ := b1_s h
  refine AW.callV (r' := (some (.int r2))) (σ' := σ) (rest := [.ref 29]) lm_X4_46 (c_X1_everyoneLet hk1 e1) (by decide) (by decide) hk1 rfl (by decide) rfl rfl (Nat.le_of_ble_eq_true rfl) dX4_mostBeside_2 (.refl 5) (st' := [.int r2, .ref 29]) rfl ?_
  refine AW.iconst (v := (-1 : Int32)) dX4_mostBeside_5 (.refl 6) (by decide) ?_
  refine AW.ixor dX4_mostBeside_6 (.refl 7) ?_
  refine AW.iconst (v := (1 : Int32)) dX4_mostBeside_7 (.refl 8) (by decide) ?_
  obtain ⟨τ4, e3, h⟩ := b1_s h
  refine AW.callV (r' := none) (σ' := τ4) (rest := []) lm_X4_38 (c_X4_weigh e3) (by decide) (by decide) rfl rfl (by decide) rfl rfl (Nat.le_of_ble_eq_true rfl) dX4_mostBeside_8 (.refl 11) (st' := []) rfl ?_
  refine AW.lconst (v := (0 : Int64)) dX4_mostBeside_11 (.refl 12) (by decide) ?_
  refine AW.lstore_n (L' := [(2, .long (0 : Int64)), (0, .ref 29), (1, .ref k1)]) dX4_mostBeside_12 (.refl 13) (by decide) rfl ?_
  refine AW.iconst (v := (0 : Int32)) dX4_mostBeside_13 (.refl 14) (by decide) ?_
  refine AW.istore (L' := [(4, .int (0 : Int32)), (2, .long (0 : Int64)), (0, .ref 29), (1, .ref k1)]) dX4_mostBeside_14 (.refl 16) (by decide) rfl ?_
  refine AW.iconst (v := (0 : Int32)) dX4_mostBeside_16 (.refl 17) (by decide) ?_
  refine AW.istore (L' := [(5, .int (0 : Int32)), (4, .int (0 : Int32)), (2, .long (0 : Int64)), (0, .ref 29), (1, .ref k1)]) dX4_mostBeside_17 (.refl 19) (by decide) rfl ?_
  refine AW.sub (L' := [(0, .ref 29), (1, .ref k1), (2, .long (0 : Int64)), (4, .int (0 : Int32)), (5, .int (0 : Int32))]) [3, 4, 2, 1, 0] rfl ?_
  exact a_X4_mostBeside_p19 hk1 FU (0 : Int64) (0 : Int32) (0 : Int32) τ4 h
def f_X9_beside  (σ : Mm) : Option (Int32 × Mm) := b2 (f_X4_mostBeside 16 σ) (fun (r2 : Int32) (τ3 : Mm) => some (r2, τ3))
set_option maxRecDepth 20000 in
theorem c_X9_beside {l : Launch} {G : Gg}  {σ : Mm} {v : Int32} {τ : Mm} (h : f_X9_beside  σ = some (v, τ)) : MR l G 44 M_X9_beside [.ref 0] σ (some (.int v)) τ := by
  unfold f_X9_beside at h
  refine MR.of (by decide +kernel) (Nat.le_of_ble_eq_true rfl) ?_
  show AW l G 44 M_X9_beside (some (.int v)) τ 0 [(0, .ref 0)] [] σ
  refine AW.aload_n dX9_beside_0 (.refl 1) 0 rfl ?_
  refine AW.getR (z := 29) lk_X9_55 rfl rfl (by decide) rfl dX9_beside_1 (.refl 4) ?_
  refine AW.aload_n dX9_beside_4 (.refl 5) 0 rfl ?_
  refine AW.getR (z := 16) lk_X9_28 rfl rfl (by decide) rfl dX9_beside_5 (.refl 8) ?_
  obtain ⟨r2, τ3, e1, h⟩ := b2_s h
  refine AW.callV (r' := (some (.int r2))) (σ' := τ3) (rest := []) lm_X9_214 (c_X4_mostBeside rfl e1) (by decide) (by decide) rfl rfl (by decide) rfl rfl (Nat.le_of_ble_eq_true rfl) dX9_beside_8 (.refl 11) (st' := [.int r2]) rfl ?_
  cases h
  exact AW.ireturn rfl dX9_beside_11
def f_X9_price (x1 : Int32) (σ : Mm) : Option (Int32 × Mm) := b1 (f_X8_hasBidder σ x1) (fun (r2 : Int32) => (if r2 = 0 then some ((-1 : Int32), σ) else b1 (f_X8_everyone σ) (fun (r4 : Int32) => b2 (f_X4_mostWorth r4 σ) (fun (r6 : Int32) (τ7 : Mm) => b1 (f_X1_isLet τ7 34 x1) (fun (r9 : Int32) => (if r9 = 0 then some ((-9 : Int32), τ7) else b1 (f_X9_at τ7 11 x1) (fun (r11 : Int32) => b1 (f_X8_everyone τ7) (fun (r13 : Int32) => b2 (f_X4_mostWorth (r13 &&& ((jshl (1 : Int32) x1) ^^^ (-1 : Int32))) τ7) (fun (r15 : Int32) (τ16 : Mm) => some ((r15 - (r6 - r11)), τ16))))))))))
set_option maxRecDepth 20000 in
theorem c_X9_price {l : Launch} {G : Gg} {x1 : Int32} {σ : Mm} {v : Int32} {τ : Mm} (h : f_X9_price x1 σ = some (v, τ)) : MR l G 44 M_X9_price [.ref 0, .int x1] σ (some (.int v)) τ := by
  unfold f_X9_price at h
  refine MR.of (by decide +kernel) (Nat.le_of_ble_eq_true rfl) ?_
  show AW l G 44 M_X9_price (some (.int v)) τ 0 [(0, .ref 0), (1, .int x1)] [] σ
  refine AW.aload_n dX9_price_0 (.refl 1) 0 rfl ?_
  refine AW.getR (z := 3) lk_X9_19 rfl rfl (by decide) rfl dX9_price_1 (.refl 4) ?_
  refine AW.iload_n dX9_price_4 (.refl 5) 1 rfl ?_
  obtain ⟨r2, e1, h⟩ := b1_s h
  refine AW.callV (r' := (some (.int r2))) (σ' := σ) (rest := []) lm_X9_137 (c_X8_hasBidder e1) (by decide) (by decide) rfl rfl (by decide) rfl rfl (Nat.le_of_ble_eq_true rfl) dX9_price_5 (.refl 8) (st' := [.int r2]) rfl ?_
  refine AW.if_ne (tgt := 13) dX9_price_8 (by decide) (fun c18 => ?_) (fun c18 => ?_)
  · have h := ifn c18 h
    refine AW.aload_n dX9_price_13 (.refl 14) 0 rfl ?_
    refine AW.getR (z := 29) lk_X9_55 rfl rfl (by decide) rfl dX9_price_14 (.refl 17) ?_
    refine AW.aload_n dX9_price_17 (.refl 18) 0 rfl ?_
    refine AW.getR (z := 3) lk_X9_19 rfl rfl (by decide) rfl dX9_price_18 (.refl 21) ?_
    obtain ⟨r4, e3, h⟩ := b1_s h
    refine AW.callV (r' := (some (.int r4))) (σ' := σ) (rest := [.ref 29]) lm_X9_205 (c_X8_everyone e3) (by decide) (by decide) rfl rfl (by decide) rfl rfl (Nat.le_of_ble_eq_true rfl) dX9_price_21 (.refl 24) (st' := [.int r4, .ref 29]) rfl ?_
    obtain ⟨r6, τ7, e5, h⟩ := b2_s h
    refine AW.callV (r' := (some (.int r6))) (σ' := τ7) (rest := []) lm_X9_208 (c_X4_mostWorth e5) (by decide) (by decide) rfl rfl (by decide) rfl rfl (Nat.le_of_ble_eq_true rfl) dX9_price_24 (.refl 27) (st' := [.int r6]) rfl ?_
    refine AW.istore_n (L' := [(2, .int r6), (0, .ref 0), (1, .int x1)]) dX9_price_27 (.refl 28) (by decide) rfl ?_
    refine AW.aload_n dX9_price_28 (.refl 29) 1 rfl ?_
    refine AW.getR (z := 29) lk_X9_55 rfl rfl (by decide) rfl dX9_price_29 (.refl 32) ?_
    refine AW.getR (z := 34) lk_X9_211 rfl rfl (by decide) rfl dX9_price_32 (.refl 35) ?_
    refine AW.iload_n dX9_price_35 (.refl 36) 2 rfl ?_
    obtain ⟨r9, e8, h⟩ := b1_s h
    refine AW.callV (r' := (some (.int r9))) (σ' := τ7) (rest := []) lm_X9_177 (c_X1_isLet rfl e8) (by decide) (by decide) rfl rfl (by decide) rfl rfl (Nat.le_of_ble_eq_true rfl) dX9_price_36 (.refl 39) (st' := [.int r9]) rfl ?_
    refine AW.if_ne (tgt := 45) dX9_price_39 (by decide) (fun c17 => ?_) (fun c17 => ?_)
    · have h := ifn c17 h
      refine AW.iload_n dX9_price_45 (.refl 46) 0 rfl ?_
      refine AW.aload_n dX9_price_46 (.refl 47) 1 rfl ?_
      refine AW.getR (z := 3) lk_X9_19 rfl rfl (by decide) rfl dX9_price_47 (.refl 50) ?_
      refine AW.getR (z := 11) lk_X9_155 rfl rfl (by decide) rfl dX9_price_50 (.refl 53) ?_
      refine AW.iload_n dX9_price_53 (.refl 54) 2 rfl ?_
      obtain ⟨r11, e10, h⟩ := b1_s h
      refine AW.callS (r' := (some (.int r11))) (σ' := τ7) (rest := [.int r6]) lm_X9_123 (c_X9_at rfl e10) (by decide) (by decide) rfl rfl (Nat.le_of_ble_eq_true rfl) dX9_price_54 (.refl 57) (st' := [.int r11, .int r6]) rfl ?_
      refine AW.isub dX9_price_57 (.refl 58) ?_
      refine AW.istore_n (L' := [(3, .int (r6 - r11)), (2, .int r6), (0, .ref 0), (1, .int x1)]) dX9_price_58 (.refl 59) (by decide) rfl ?_
      refine AW.aload_n dX9_price_59 (.refl 60) 2 rfl ?_
      refine AW.getR (z := 29) lk_X9_55 rfl rfl (by decide) rfl dX9_price_60 (.refl 63) ?_
      refine AW.aload_n dX9_price_63 (.refl 64) 2 rfl ?_
      refine AW.getR (z := 3) lk_X9_19 rfl rfl (by decide) rfl dX9_price_64 (.refl 67) ?_
      obtain ⟨r13, e12, h⟩ := b1_s h
      refine AW.callV (r' := (some (.int r13))) (σ' := τ7) (rest := [.ref 29]) lm_X9_205 (c_X8_everyone e12) (by decide) (by decide) rfl rfl (by decide) rfl rfl (Nat.le_of_ble_eq_true rfl) dX9_price_67 (.refl 70) (st' := [.int r13, .ref 29]) rfl ?_
      refine AW.iconst (v := (1 : Int32)) dX9_price_70 (.refl 71) (by decide) ?_
      refine AW.iload_n dX9_price_71 (.refl 72) 3 rfl ?_
      refine AW.ishl dX9_price_72 (.refl 73) ?_
      refine AW.iconst (v := (-1 : Int32)) dX9_price_73 (.refl 74) (by decide) ?_
      refine AW.ixor dX9_price_74 (.refl 75) ?_
      refine AW.iand dX9_price_75 (.refl 76) ?_
      obtain ⟨r15, τ16, e14, h⟩ := b2_s h
      refine AW.callV (r' := (some (.int r15))) (σ' := τ16) (rest := []) lm_X9_208 (c_X4_mostWorth e14) (by decide) (by decide) rfl rfl (by decide) rfl rfl (Nat.le_of_ble_eq_true rfl) dX9_price_76 (.refl 79) (st' := [.int r15]) rfl ?_
      refine AW.iload_n dX9_price_79 (.refl 80) 0 rfl ?_
      refine AW.isub dX9_price_80 (.refl 81) ?_
      cases h
      exact AW.ireturn rfl dX9_price_81
    · have h := ifp c17 h
      refine AW.bipush (v := (-9 : Int32)) dX9_price_42 (.refl 44) (by decide) ?_
      cases h
      exact AW.ireturn rfl dX9_price_44
  · have h := ifp c18 h
    refine AW.iconst (v := (-1 : Int32)) dX9_price_11 (.refl 12) (by decide) ?_
    cases h
    exact AW.ireturn rfl dX9_price_12
def f_X4_mostAtOnce  (σ : Mm) : Option (Int32 × Mm) := b1 (f_X4_weigh (31 : Int32) (0 : Int32) σ) (fun (τ2 : Mm) => b2 (f_X4_search (0 : Int64) (0 : Int32) (0 : Int32) τ2) (fun (r4 : Int32) (τ5 : Mm) => some (r4, τ5)))
set_option maxRecDepth 20000 in
theorem c_X4_mostAtOnce {l : Launch} {G : Gg}  {σ : Mm} {v : Int32} {τ : Mm} (h : f_X4_mostAtOnce  σ = some (v, τ)) : MR l G 43 M_X4_mostAtOnce [.ref 29] σ (some (.int v)) τ := by
  unfold f_X4_mostAtOnce at h
  refine MR.of (by decide +kernel) (Nat.le_of_ble_eq_true rfl) ?_
  show AW l G 43 M_X4_mostAtOnce (some (.int v)) τ 0 [(0, .ref 29)] [] σ
  refine AW.aload_n dX4_mostAtOnce_0 (.refl 1) 0 rfl ?_
  refine AW.bipush (v := (31 : Int32)) dX4_mostAtOnce_1 (.refl 3) (by decide) ?_
  refine AW.iconst (v := (0 : Int32)) dX4_mostAtOnce_3 (.refl 4) (by decide) ?_
  obtain ⟨τ2, e1, h⟩ := b1_s h
  refine AW.callV (r' := none) (σ' := τ2) (rest := []) lm_X4_38 (c_X4_weigh e1) (by decide) (by decide) rfl rfl (by decide) rfl rfl (Nat.le_of_ble_eq_true rfl) dX4_mostAtOnce_4 (.refl 7) (st' := []) rfl ?_
  refine AW.aload_n dX4_mostAtOnce_7 (.refl 8) 0 rfl ?_
  refine AW.lconst (v := (0 : Int64)) dX4_mostAtOnce_8 (.refl 9) (by decide) ?_
  refine AW.iconst (v := (0 : Int32)) dX4_mostAtOnce_9 (.refl 10) (by decide) ?_
  refine AW.iconst (v := (0 : Int32)) dX4_mostAtOnce_10 (.refl 11) (by decide) ?_
  obtain ⟨r4, τ5, e3, h⟩ := b2_s h
  refine AW.callV (r' := (some (.int r4))) (σ' := τ5) (rest := []) lm_X4_42 (c_X4_search e3) (by decide) (by decide) rfl rfl (by decide) rfl rfl (Nat.le_of_ble_eq_true rfl) dX4_mostAtOnce_11 (.refl 14) (st' := [.int r4]) rfl ?_
  cases h
  exact AW.ireturn rfl dX4_mostAtOnce_14
def f_X9_many  (σ : Mm) : Option (Int32 × Mm) := b2 (f_X4_mostAtOnce σ) (fun (r2 : Int32) (τ3 : Mm) => some (r2, τ3))
set_option maxRecDepth 20000 in
theorem c_X9_many {l : Launch} {G : Gg}  {σ : Mm} {v : Int32} {τ : Mm} (h : f_X9_many  σ = some (v, τ)) : MR l G 44 M_X9_many [.ref 0] σ (some (.int v)) τ := by
  unfold f_X9_many at h
  refine MR.of (by decide +kernel) (Nat.le_of_ble_eq_true rfl) ?_
  show AW l G 44 M_X9_many (some (.int v)) τ 0 [(0, .ref 0)] [] σ
  refine AW.aload_n dX9_many_0 (.refl 1) 0 rfl ?_
  refine AW.getR (z := 29) lk_X9_55 rfl rfl (by decide) rfl dX9_many_1 (.refl 4) ?_
  obtain ⟨r2, τ3, e1, h⟩ := b2_s h
  refine AW.callV (r' := (some (.int r2))) (σ' := τ3) (rest := []) lm_X9_218 (c_X4_mostAtOnce e1) (by decide) (by decide) rfl rfl (by decide) rfl rfl (Nat.le_of_ble_eq_true rfl) dX9_many_4 (.refl 7) (st' := [.int r2]) rfl ?_
  cases h
  exact AW.ireturn rfl dX9_many_7
def f_X1_cheapestBegin_p8 (σ : Mm) (k0 : Nat) : Nat → Int32 → Int32 → Int32 → Int32 → Option (Int32)
  | 0, _, _, _, _ => none
  | n + 1, x1, x2, x3, x4 => (if (10 : Int32) ≤ x4 then some x3 else b1 (f_X8_mayBegin σ x1 x4) (fun (r2 : Int32) => (if r2 = 0 then (f_X1_cheapestBegin_p8 σ k0 n) x1 x2 x3 (x4 + (1 : Int32)) else b1 (f_X1_clashing σ k0 x1 x4) (fun (r4 : Int32) => b1 (f_X1_worthOf σ k0 r4) (fun (r6 : Int32) => (if x3 = (-9 : Int32) then (f_X1_cheapestBegin_p8 σ k0 n) x1 r6 x4 (x4 + (1 : Int32)) else (if x2 ≤ r6 then (f_X1_cheapestBegin_p8 σ k0 n) x1 x2 x3 (x4 + (1 : Int32)) else (f_X1_cheapestBegin_p8 σ k0 n) x1 r6 x4 (x4 + (1 : Int32)))))))))
def f_X1_cheapestBegin (σ : Mm) (k0 : Nat) (x1 : Int32) : Option (Int32) := f_X1_cheapestBegin_p8 σ k0 FU x1 (0 : Int32) (-9 : Int32) (0 : Int32)
set_option maxRecDepth 20000 in
theorem a_X1_cheapestBegin_p8 {l : Launch} {G : Gg} {v : Int32} {σ : Mm} {k0 : Nat} (hk0 : cTag k0 = 1) : ∀ (n : Nat) (x1 : Int32) (x2 : Int32) (x3 : Int32) (x4 : Int32), f_X1_cheapestBegin_p8 σ k0 n x1 x2 x3 x4 = some v → AW l G 3 M_X1_cheapestBegin (some (.int v)) σ 8 [(0, .ref k0), (1, .int x1), (2, .int x2), (3, .int x3), (4, .int x4)] [] σ := by
  intro n
  induction n with
  | zero => intro x1 x2 x3 x4 h; exact no_some h
  | succ n ih =>
    intro x1 x2 x3 x4 h
    rw [f_X1_cheapestBegin_p8] at h
    refine AW.iload dX1_cheapestBegin_8 (.refl 10) 4 rfl ?_
    refine AW.bipush (v := (10 : Int32)) dX1_cheapestBegin_10 (.refl 12) (by decide) ?_
    refine AW.icmp_ge (tgt := 65) dX1_cheapestBegin_12 (by decide) (fun c10 => ?_) (fun c10 => ?_)
    · have h := ifp c10 h
      refine AW.iload_n dX1_cheapestBegin_65 (.refl 66) 3 rfl ?_
      cases h
      exact AW.ireturn rfl dX1_cheapestBegin_66
    · have h := ifn c10 h
      refine AW.aload_n dX1_cheapestBegin_15 (.refl 16) 0 rfl ?_
      refine AW.getR (z := 3) lk_X1_15 hk0 rfl (by decide) (rf_1_0 hk0) dX1_cheapestBegin_16 (.refl 19) ?_
      refine AW.iload_n dX1_cheapestBegin_19 (.refl 20) 1 rfl ?_
      refine AW.iload dX1_cheapestBegin_20 (.refl 22) 4 rfl ?_
      obtain ⟨r2, e1, h⟩ := b1_s h
      refine AW.callV (r' := (some (.int r2))) (σ' := σ) (rest := []) lm_X1_50 (c_X8_mayBegin e1) (by decide) (by decide) rfl rfl (by decide) rfl rfl (Nat.le_of_ble_eq_true rfl) dX1_cheapestBegin_22 (.refl 25) (st' := [.int r2]) rfl ?_
      refine AW.if_eq (tgt := 59) dX1_cheapestBegin_25 (by decide) (fun c9 => ?_) (fun c9 => ?_)
      · have h := ifp c9 h
        refine AW.iinc (v := (x4 + (1 : Int32))) (L' := [(4, .int (x4 + (1 : Int32))), (0, .ref k0), (1, .int x1), (2, .int x2), (3, .int x3)]) dX1_cheapestBegin_59 (.refl 62) 4 rfl rfl (by decide) rfl ?_
        refine AW.goto (tgt := 8) dX1_cheapestBegin_62 (by decide) ?_
        refine AW.sub (L' := [(0, .ref k0), (1, .int x1), (2, .int x2), (3, .int x3), (4, .int (x4 + (1 : Int32)))]) [1, 2, 3, 4, 0] rfl ?_
        exact ih x1 x2 x3 (x4 + (1 : Int32)) h
      · have h := ifn c9 h
        refine AW.aload_n dX1_cheapestBegin_28 (.refl 29) 0 rfl ?_
        refine AW.aload_n dX1_cheapestBegin_29 (.refl 30) 0 rfl ?_
        refine AW.iload_n dX1_cheapestBegin_30 (.refl 31) 1 rfl ?_
        refine AW.iload dX1_cheapestBegin_31 (.refl 33) 4 rfl ?_
        obtain ⟨r4, e3, h⟩ := b1_s h
        refine AW.callV (r' := (some (.int r4))) (σ' := σ) (rest := [.ref k0]) lm_X1_54 (c_X1_clashing hk0 e3) (by decide) (by decide) hk0 rfl (by decide) rfl rfl (Nat.le_of_ble_eq_true rfl) dX1_cheapestBegin_33 (.refl 36) (st' := [.int r4, .ref k0]) rfl ?_
        obtain ⟨r6, e5, h⟩ := b1_s h
        refine AW.callV (r' := (some (.int r6))) (σ' := σ) (rest := []) lm_X1_31 (c_X1_worthOf hk0 e5) (by decide) (by decide) hk0 rfl (by decide) rfl rfl (Nat.le_of_ble_eq_true rfl) dX1_cheapestBegin_36 (.refl 39) (st' := [.int r6]) rfl ?_
        refine AW.istore (L' := [(5, .int r6), (0, .ref k0), (1, .int x1), (2, .int x2), (3, .int x3), (4, .int x4)]) dX1_cheapestBegin_39 (.refl 41) (by decide) rfl ?_
        refine AW.iload_n dX1_cheapestBegin_41 (.refl 42) 4 rfl ?_
        refine AW.bipush (v := (-9 : Int32)) dX1_cheapestBegin_42 (.refl 44) (by decide) ?_
        refine AW.icmp_eq (tgt := 53) dX1_cheapestBegin_44 (by decide) (fun c8 => ?_) (fun c8 => ?_)
        · have h := ifp c8 h
          refine AW.iload dX1_cheapestBegin_53 (.refl 55) 0 rfl ?_
          refine AW.istore_n (L' := [(2, .int r6), (5, .int r6), (0, .ref k0), (1, .int x1), (3, .int x3), (4, .int x4)]) dX1_cheapestBegin_55 (.refl 56) (by decide) rfl ?_
          refine AW.iload dX1_cheapestBegin_56 (.refl 58) 5 rfl ?_
          refine AW.istore_n (L' := [(3, .int x4), (2, .int r6), (5, .int r6), (0, .ref k0), (1, .int x1), (4, .int x4)]) dX1_cheapestBegin_58 (.refl 59) (by decide) rfl ?_
          refine AW.iinc (v := (x4 + (1 : Int32))) (L' := [(4, .int (x4 + (1 : Int32))), (3, .int x4), (2, .int r6), (5, .int r6), (0, .ref k0), (1, .int x1)]) dX1_cheapestBegin_59 (.refl 62) 5 rfl rfl (by decide) rfl ?_
          refine AW.goto (tgt := 8) dX1_cheapestBegin_62 (by decide) ?_
          refine AW.sub (L' := [(0, .ref k0), (1, .int x1), (2, .int r6), (3, .int x4), (4, .int (x4 + (1 : Int32)))]) [4, 5, 2, 1, 0] rfl ?_
          exact ih x1 r6 x4 (x4 + (1 : Int32)) h
        · have h := ifn c8 h
          refine AW.iload dX1_cheapestBegin_47 (.refl 49) 0 rfl ?_
          refine AW.iload_n dX1_cheapestBegin_49 (.refl 50) 3 rfl ?_
          refine AW.icmp_ge (tgt := 59) dX1_cheapestBegin_50 (by decide) (fun c7 => ?_) (fun c7 => ?_)
          · have h := ifp c7 h
            refine AW.iinc (v := (x4 + (1 : Int32))) (L' := [(4, .int (x4 + (1 : Int32))), (5, .int r6), (0, .ref k0), (1, .int x1), (2, .int x2), (3, .int x3)]) dX1_cheapestBegin_59 (.refl 62) 5 rfl rfl (by decide) rfl ?_
            refine AW.goto (tgt := 8) dX1_cheapestBegin_62 (by decide) ?_
            refine AW.sub (L' := [(0, .ref k0), (1, .int x1), (2, .int x2), (3, .int x3), (4, .int (x4 + (1 : Int32)))]) [2, 3, 4, 5, 0] rfl ?_
            exact ih x1 x2 x3 (x4 + (1 : Int32)) h
          · have h := ifn c7 h
            refine AW.iload dX1_cheapestBegin_53 (.refl 55) 0 rfl ?_
            refine AW.istore_n (L' := [(2, .int r6), (5, .int r6), (0, .ref k0), (1, .int x1), (3, .int x3), (4, .int x4)]) dX1_cheapestBegin_55 (.refl 56) (by decide) rfl ?_
            refine AW.iload dX1_cheapestBegin_56 (.refl 58) 5 rfl ?_
            refine AW.istore_n (L' := [(3, .int x4), (2, .int r6), (5, .int r6), (0, .ref k0), (1, .int x1), (4, .int x4)]) dX1_cheapestBegin_58 (.refl 59) (by decide) rfl ?_
            refine AW.iinc (v := (x4 + (1 : Int32))) (L' := [(4, .int (x4 + (1 : Int32))), (3, .int x4), (2, .int r6), (5, .int r6), (0, .ref k0), (1, .int x1)]) dX1_cheapestBegin_59 (.refl 62) 5 rfl rfl (by decide) rfl ?_
            refine AW.goto (tgt := 8) dX1_cheapestBegin_62 (by decide) ?_
            refine AW.sub (L' := [(0, .ref k0), (1, .int x1), (2, .int r6), (3, .int x4), (4, .int (x4 + (1 : Int32)))]) [4, 5, 2, 1, 0] rfl ?_
            exact ih x1 r6 x4 (x4 + (1 : Int32)) h
set_option maxRecDepth 20000 in
theorem c_X1_cheapestBegin {l : Launch} {G : Gg} {k0 : Nat} (hk0 : cTag k0 = 1) {x1 : Int32} {σ : Mm} {v : Int32} (h : f_X1_cheapestBegin σ k0 x1 = some v) : MR l G 3 M_X1_cheapestBegin [.ref k0, .int x1] σ (some (.int v)) σ := by
  unfold f_X1_cheapestBegin at h
  refine MR.of (by decide +kernel) (Nat.le_of_ble_eq_true rfl) ?_
  show AW l G 3 M_X1_cheapestBegin (some (.int v)) σ 0 [(0, .ref k0), (1, .int x1)] [] σ
  refine AW.iconst (v := (0 : Int32)) dX1_cheapestBegin_0 (.refl 1) (by decide) ?_
  refine AW.istore_n (L' := [(2, .int (0 : Int32)), (0, .ref k0), (1, .int x1)]) dX1_cheapestBegin_1 (.refl 2) (by decide) rfl ?_
  refine AW.bipush (v := (-9 : Int32)) dX1_cheapestBegin_2 (.refl 4) (by decide) ?_
  refine AW.istore_n (L' := [(3, .int (-9 : Int32)), (2, .int (0 : Int32)), (0, .ref k0), (1, .int x1)]) dX1_cheapestBegin_4 (.refl 5) (by decide) rfl ?_
  refine AW.iconst (v := (0 : Int32)) dX1_cheapestBegin_5 (.refl 6) (by decide) ?_
  refine AW.istore (L' := [(4, .int (0 : Int32)), (3, .int (-9 : Int32)), (2, .int (0 : Int32)), (0, .ref k0), (1, .int x1)]) dX1_cheapestBegin_6 (.refl 8) (by decide) rfl ?_
  refine AW.sub (L' := [(0, .ref k0), (1, .int x1), (2, .int (0 : Int32)), (3, .int (-9 : Int32)), (4, .int (0 : Int32))]) [3, 4, 2, 1, 0] rfl ?_
  exact a_X1_cheapestBegin_p8 hk0 FU x1 (0 : Int32) (-9 : Int32) (0 : Int32) h
def f_X9_room (σ : Mm) (x1 : Int32) (x2 : Int32) : Option (Int32) := b1 (f_X8_hasBidder σ x1) (fun (r2 : Int32) => (if r2 = 0 then some (-1 : Int32) else (if x2 < 0 then some (-2 : Int32) else (if x2 ≤ (1 : Int32) then b1 (f_X1_isLet σ 16 x1) (fun (r4 : Int32) => (if r4 = 0 then b1 (f_X1_cheapestBegin σ 16 x1) (fun (r6 : Int32) => (if r6 = (-9 : Int32) then some r6 else (if x2 = (1 : Int32) then some r6 else b1 (f_X1_clashing σ 16 x1 r6) (fun (r8 : Int32) => b1 (f_X1_worthOf σ 16 r8) (fun (r10 : Int32) => some r10))))) else some (-3 : Int32))) else some (-2 : Int32)))))
set_option maxRecDepth 20000 in
theorem c_X9_room {l : Launch} {G : Gg} {x1 : Int32} {x2 : Int32} {σ : Mm} {v : Int32} (h : f_X9_room σ x1 x2 = some v) : MR l G 4 M_X9_room [.ref 0, .int x1, .int x2] σ (some (.int v)) σ := by
  unfold f_X9_room at h
  refine MR.of (by decide +kernel) (Nat.le_of_ble_eq_true rfl) ?_
  show AW l G 4 M_X9_room (some (.int v)) σ 0 [(0, .ref 0), (1, .int x1), (2, .int x2)] [] σ
  refine AW.aload_n dX9_room_0 (.refl 1) 0 rfl ?_
  refine AW.getR (z := 3) lk_X9_19 rfl rfl (by decide) rfl dX9_room_1 (.refl 4) ?_
  refine AW.iload_n dX9_room_4 (.refl 5) 1 rfl ?_
  obtain ⟨r2, e1, h⟩ := b1_s h
  refine AW.callV (r' := (some (.int r2))) (σ' := σ) (rest := []) lm_X9_137 (c_X8_hasBidder e1) (by decide) (by decide) rfl rfl (by decide) rfl rfl (Nat.le_of_ble_eq_true rfl) dX9_room_5 (.refl 8) (st' := [.int r2]) rfl ?_
  refine AW.if_ne (tgt := 13) dX9_room_8 (by decide) (fun c16 => ?_) (fun c16 => ?_)
  · have h := ifn c16 h
    refine AW.iload_n dX9_room_13 (.refl 14) 2 rfl ?_
    refine AW.if_lt (tgt := 22) dX9_room_14 (by decide) (fun c15 => ?_) (fun c15 => ?_)
    · have h := ifp c15 h
      refine AW.bipush (v := (-2 : Int32)) dX9_room_22 (.refl 24) (by decide) ?_
      cases h
      exact AW.ireturn rfl dX9_room_24
    · have h := ifn c15 h
      refine AW.iload_n dX9_room_17 (.refl 18) 2 rfl ?_
      refine AW.iconst (v := (1 : Int32)) dX9_room_18 (.refl 19) (by decide) ?_
      refine AW.icmp_le (tgt := 25) dX9_room_19 (by decide) (fun c14 => ?_) (fun c14 => ?_)
      · have h := ifp c14 h
        refine AW.aload_n dX9_room_25 (.refl 26) 0 rfl ?_
        refine AW.getR (z := 16) lk_X9_28 rfl rfl (by decide) rfl dX9_room_26 (.refl 29) ?_
        refine AW.iload_n dX9_room_29 (.refl 30) 1 rfl ?_
        obtain ⟨r4, e3, h⟩ := b1_s h
        refine AW.callV (r' := (some (.int r4))) (σ' := σ) (rest := []) lm_X9_177 (c_X1_isLet rfl e3) (by decide) (by decide) rfl rfl (by decide) rfl rfl (Nat.le_of_ble_eq_true rfl) dX9_room_30 (.refl 33) (st' := [.int r4]) rfl ?_
        refine AW.if_eq (tgt := 39) dX9_room_33 (by decide) (fun c13 => ?_) (fun c13 => ?_)
        · have h := ifp c13 h
          refine AW.aload_n dX9_room_39 (.refl 40) 0 rfl ?_
          refine AW.getR (z := 16) lk_X9_28 rfl rfl (by decide) rfl dX9_room_40 (.refl 43) ?_
          refine AW.iload_n dX9_room_43 (.refl 44) 1 rfl ?_
          obtain ⟨r6, e5, h⟩ := b1_s h
          refine AW.callV (r' := (some (.int r6))) (σ' := σ) (rest := []) lm_X9_221 (c_X1_cheapestBegin rfl e5) (by decide) (by decide) rfl rfl (by decide) rfl rfl (Nat.le_of_ble_eq_true rfl) dX9_room_44 (.refl 47) (st' := [.int r6]) rfl ?_
          refine AW.istore_n (L' := [(3, .int r6), (0, .ref 0), (1, .int x1), (2, .int x2)]) dX9_room_47 (.refl 48) (by decide) rfl ?_
          refine AW.iload_n dX9_room_48 (.refl 49) 0 rfl ?_
          refine AW.bipush (v := (-9 : Int32)) dX9_room_49 (.refl 51) (by decide) ?_
          refine AW.icmp_eq (tgt := 59) dX9_room_51 (by decide) (fun c12 => ?_) (fun c12 => ?_)
          · have h := ifp c12 h
            refine AW.iload_n dX9_room_59 (.refl 60) 0 rfl ?_
            refine AW.goto (tgt := 79) dX9_room_60 (by decide) ?_
            cases h
            exact AW.ireturn rfl dX9_room_79
          · have h := ifn c12 h
            refine AW.iload_n dX9_room_54 (.refl 55) 3 rfl ?_
            refine AW.iconst (v := (1 : Int32)) dX9_room_55 (.refl 56) (by decide) ?_
            refine AW.icmp_ne (tgt := 63) dX9_room_56 (by decide) (fun c11 => ?_) (fun c11 => ?_)
            · have h := ifn c11 h
              refine AW.aload_n dX9_room_63 (.refl 64) 1 rfl ?_
              refine AW.getR (z := 16) lk_X9_28 rfl rfl (by decide) rfl dX9_room_64 (.refl 67) ?_
              refine AW.aload_n dX9_room_67 (.refl 68) 1 rfl ?_
              refine AW.getR (z := 16) lk_X9_28 rfl rfl (by decide) rfl dX9_room_68 (.refl 71) ?_
              refine AW.iload_n dX9_room_71 (.refl 72) 2 rfl ?_
              refine AW.iload_n dX9_room_72 (.refl 73) 0 rfl ?_
              obtain ⟨r8, e7, h⟩ := b1_s h
              refine AW.callV (r' := (some (.int r8))) (σ' := σ) (rest := [.ref 16]) lm_X9_174 (c_X1_clashing rfl e7) (by decide) (by decide) rfl rfl (by decide) rfl rfl (Nat.le_of_ble_eq_true rfl) dX9_room_73 (.refl 76) (st' := [.int r8, .ref 16]) rfl ?_
              obtain ⟨r10, e9, h⟩ := b1_s h
              refine AW.callV (r' := (some (.int r10))) (σ' := σ) (rest := []) lm_X9_224 (c_X1_worthOf rfl e9) (by decide) (by decide) rfl rfl (by decide) rfl rfl (Nat.le_of_ble_eq_true rfl) dX9_room_76 (.refl 79) (st' := [.int r10]) rfl ?_
              cases h
              exact AW.ireturn rfl dX9_room_79
            · have h := ifp c11 h
              refine AW.iload_n dX9_room_59 (.refl 60) 0 rfl ?_
              refine AW.goto (tgt := 79) dX9_room_60 (by decide) ?_
              cases h
              exact AW.ireturn rfl dX9_room_79
        · have h := ifn c13 h
          refine AW.bipush (v := (-3 : Int32)) dX9_room_36 (.refl 38) (by decide) ?_
          cases h
          exact AW.ireturn rfl dX9_room_38
      · have h := ifn c14 h
        refine AW.bipush (v := (-2 : Int32)) dX9_room_22 (.refl 24) (by decide) ?_
        cases h
        exact AW.ireturn rfl dX9_room_24
  · have h := ifp c16 h
    refine AW.iconst (v := (-1 : Int32)) dX9_room_11 (.refl 12) (by decide) ?_
    cases h
    exact AW.ireturn rfl dX9_room_12
def f_X5_addStrokes_p41 : Nat → Int32 → Int32 → Int32 → Int32 → Int32 → Int32 → Mm → Option (Mm)
  | 0, _, _, _, _, _, _, _ => none
  | n + 1, x1, x2, x3, x4, x5, x6, σ => (if x5 ≤ x6 then some σ else (if (σ.1 40 5) < 0 then some σ else (if (15 : Int32) ≤ (σ.1 40 5) then some σ else b1 (f_X9_at σ 8 x1) (fun (r2 : Int32) => gd (inB (σ.1 40 5) 15) (gd (inB ((sI σ 41 ((σ.1 40 5)).toNatClampNeg (x2 + (x6 * (x4 + r2)))).1 40 5) 15) (gd (inB ((sI σ 41 ((σ.1 40 5)).toNatClampNeg (x2 + (x6 * (x4 + r2)))).1 40 5) 15) (bnd ((sI (sI σ 41 ((σ.1 40 5)).toNatClampNeg (x2 + (x6 * (x4 + r2)))) 42 (((sI σ 41 ((σ.1 40 5)).toNatClampNeg (x2 + (x6 * (x4 + r2)))).1 40 5)).toNatClampNeg (((sI σ 41 ((σ.1 40 5)).toNatClampNeg (x2 + (x6 * (x4 + r2)))).1 41 (((sI σ 41 ((σ.1 40 5)).toNatClampNeg (x2 + (x6 * (x4 + r2)))).1 40 5)).toNatClampNeg) + x4))) (fun (σ6 : Mm) => gd (inB (σ6.1 40 5) 15) (gd (inB ((sI σ6 43 ((σ6.1 40 5)).toNatClampNeg x3).1 40 5) 15) (bnd ((sI (sI σ6 43 ((σ6.1 40 5)).toNatClampNeg x3) 44 (((sI σ6 43 ((σ6.1 40 5)).toNatClampNeg x3).1 40 5)).toNatClampNeg (-9 : Int32))) (fun (σ10 : Mm) => (f_X5_addStrokes_p41 n) x1 x2 x3 x4 x5 (x6 + (1 : Int32)) (sI σ10 40 5 ((σ10.1 40 5) + (1 : Int32))))))))))))))
def f_X5_addStrokes (x1 : Int32) (x2 : Int32) (σ : Mm) : Option (Mm) := b1 (f_X9_at σ 6 x1) (fun (r2 : Int32) => b1 (f_X9_at σ 4 r2) (fun (r4 : Int32) => b1 (f_X9_at σ 7 x1) (fun (r6 : Int32) => f_X5_addStrokes_p41 FU x1 x2 r2 r4 r6 (0 : Int32) σ)))
set_option maxRecDepth 20000 in
theorem a_X5_addStrokes_p41 {l : Launch} {G : Gg} {τ : Mm} : ∀ (n : Nat) (x1 : Int32) (x2 : Int32) (x3 : Int32) (x4 : Int32) (x5 : Int32) (x6 : Int32) (σ : Mm), f_X5_addStrokes_p41 n x1 x2 x3 x4 x5 x6 σ = some τ → AW l G 1 M_X5_addStrokes none τ 41 [(0, .ref 40), (1, .int x1), (2, .int x2), (3, .int x3), (4, .int x4), (5, .int x5), (6, .int x6)] [] σ := by
  intro n
  induction n with
  | zero => intro x1 x2 x3 x4 x5 x6 σ h; exact no_some h
  | succ n ih =>
    intro x1 x2 x3 x4 x5 x6 σ h
    rw [f_X5_addStrokes_p41] at h
    refine AW.iload dX5_addStrokes_41 (.refl 43) 6 rfl ?_
    refine AW.iload dX5_addStrokes_43 (.refl 45) 5 rfl ?_
    refine AW.icmp_ge (tgt := 150) dX5_addStrokes_45 (by decide) (fun c14 => ?_) (fun c14 => ?_)
    · have h := ifp c14 h
      cases h
      exact AW.vreturn rfl dX5_addStrokes_150
    · have h := ifn c14 h
      refine AW.aload_n dX5_addStrokes_48 (.refl 49) 0 rfl ?_
      refine AW.getI lk_X5_24 rfl rfl (by decide) dX5_addStrokes_49 (.refl 52) ?_
      refine AW.if_lt (tgt := 150) dX5_addStrokes_52 (by decide) (fun c13 => ?_) (fun c13 => ?_)
      · have h := ifp c13 h
        cases h
        exact AW.vreturn rfl dX5_addStrokes_150
      · have h := ifn c13 h
        refine AW.aload_n dX5_addStrokes_55 (.refl 56) 0 rfl ?_
        refine AW.getI lk_X5_24 rfl rfl (by decide) dX5_addStrokes_56 (.refl 59) ?_
        refine AW.bipush (v := (15 : Int32)) dX5_addStrokes_59 (.refl 61) (by decide) ?_
        refine AW.icmp_ge (tgt := 150) dX5_addStrokes_61 (by decide) (fun c12 => ?_) (fun c12 => ?_)
        · have h := ifp c12 h
          cases h
          exact AW.vreturn rfl dX5_addStrokes_150
        · have h := ifn c12 h
          refine AW.aload_n dX5_addStrokes_64 (.refl 65) 0 rfl ?_
          refine AW.getR (z := 41) lk_X5_9 rfl rfl (by decide) rfl dX5_addStrokes_65 (.refl 68) ?_
          refine AW.aload_n dX5_addStrokes_68 (.refl 69) 0 rfl ?_
          refine AW.getI lk_X5_24 rfl rfl (by decide) dX5_addStrokes_69 (.refl 72) ?_
          refine AW.iload_n dX5_addStrokes_72 (.refl 73) 2 rfl ?_
          refine AW.iload dX5_addStrokes_73 (.refl 75) 6 rfl ?_
          refine AW.iload dX5_addStrokes_75 (.refl 77) 4 rfl ?_
          refine AW.aload_n dX5_addStrokes_77 (.refl 78) 0 rfl ?_
          refine AW.getR (z := 3) lk_X5_31 rfl rfl (by decide) rfl dX5_addStrokes_78 (.refl 81) ?_
          refine AW.getR (z := 8) lk_X5_68 rfl rfl (by decide) rfl dX5_addStrokes_81 (.refl 84) ?_
          refine AW.iload_n dX5_addStrokes_84 (.refl 85) 1 rfl ?_
          obtain ⟨r2, e1, h⟩ := b1_s h
          refine AW.callN (r' := (some (.int r2))) (σ' := σ) (rest := [.int x4, .int x6, .int x2, .int (σ.1 40 5), .ref 41]) lm_X5_58 (c_X9_at rfl e1) (by decide) (by decide) rfl rfl (Nat.le_of_ble_eq_true rfl) dX5_addStrokes_85 (.refl 88) (st' := [.int r2, .int x4, .int x6, .int x2, .int (σ.1 40 5), .ref 41]) rfl ?_
          refine AW.iadd dX5_addStrokes_88 (.refl 89) ?_
          refine AW.imul dX5_addStrokes_89 (.refl 90) ?_
          refine AW.iadd dX5_addStrokes_90 (.refl 91) ?_
          obtain ⟨g3, h⟩ := gd_s h
          refine AW.iastore rfl g3 dX5_addStrokes_91 (.refl 92) ?_
          refine AW.aload_n dX5_addStrokes_92 (.refl 93) 0 rfl ?_
          refine AW.getR (z := 42) lk_X5_15 rfl rfl (by decide) rfl dX5_addStrokes_93 (.refl 96) ?_
          refine AW.aload_n dX5_addStrokes_96 (.refl 97) 0 rfl ?_
          refine AW.getI lk_X5_24 rfl rfl (by decide) dX5_addStrokes_97 (.refl 100) ?_
          refine AW.aload_n dX5_addStrokes_100 (.refl 101) 0 rfl ?_
          refine AW.getR (z := 41) lk_X5_9 rfl rfl (by decide) rfl dX5_addStrokes_101 (.refl 104) ?_
          refine AW.aload_n dX5_addStrokes_104 (.refl 105) 0 rfl ?_
          refine AW.getI lk_X5_24 rfl rfl (by decide) dX5_addStrokes_105 (.refl 108) ?_
          obtain ⟨g4, h⟩ := gd_s h
          refine AW.iaload rfl g4 dX5_addStrokes_108 (.refl 109) ?_
          refine AW.iload dX5_addStrokes_109 (.refl 111) 4 rfl ?_
          refine AW.iadd dX5_addStrokes_111 (.refl 112) ?_
          obtain ⟨g5, h⟩ := gd_s h
          refine AW.iastore rfl g5 dX5_addStrokes_112 (.refl 113) ?_
          obtain ⟨σ6, e7, h⟩ := bnd_s h
          refine AW.nmM e7 ?_
          refine AW.aload_n dX5_addStrokes_113 (.refl 114) 0 rfl ?_
          refine AW.getR (z := 43) lk_X5_18 rfl rfl (by decide) rfl dX5_addStrokes_114 (.refl 117) ?_
          refine AW.aload_n dX5_addStrokes_117 (.refl 118) 0 rfl ?_
          refine AW.getI lk_X5_24 rfl rfl (by decide) dX5_addStrokes_118 (.refl 121) ?_
          refine AW.iload_n dX5_addStrokes_121 (.refl 122) 3 rfl ?_
          obtain ⟨g8, h⟩ := gd_s h
          refine AW.iastore rfl g8 dX5_addStrokes_122 (.refl 123) ?_
          refine AW.aload_n dX5_addStrokes_123 (.refl 124) 0 rfl ?_
          refine AW.getR (z := 44) lk_X5_21 rfl rfl (by decide) rfl dX5_addStrokes_124 (.refl 127) ?_
          refine AW.aload_n dX5_addStrokes_127 (.refl 128) 0 rfl ?_
          refine AW.getI lk_X5_24 rfl rfl (by decide) dX5_addStrokes_128 (.refl 131) ?_
          refine AW.bipush (v := (-9 : Int32)) dX5_addStrokes_131 (.refl 133) (by decide) ?_
          obtain ⟨g9, h⟩ := gd_s h
          refine AW.iastore rfl g9 dX5_addStrokes_133 (.refl 134) ?_
          obtain ⟨σ10, e11, h⟩ := bnd_s h
          refine AW.nmM e11 ?_
          refine AW.aload_n dX5_addStrokes_134 (.refl 135) 0 rfl ?_
          refine AW.dup dX5_addStrokes_135 (.refl 136) rfl ?_
          refine AW.getI lk_X5_24 rfl rfl (by decide) dX5_addStrokes_136 (.refl 139) ?_
          refine AW.iconst (v := (1 : Int32)) dX5_addStrokes_139 (.refl 140) (by decide) ?_
          refine AW.iadd dX5_addStrokes_140 (.refl 141) ?_
          refine AW.putI lp_X5_24 rfl rfl (by decide) dX5_addStrokes_141 (.refl 144) ?_
          refine AW.iinc (v := (x6 + (1 : Int32))) (L' := [(6, .int (x6 + (1 : Int32))), (0, .ref 40), (1, .int x1), (2, .int x2), (3, .int x3), (4, .int x4), (5, .int x5)]) dX5_addStrokes_144 (.refl 147) 6 rfl rfl (by decide) rfl ?_
          refine AW.goto (tgt := 41) dX5_addStrokes_147 (by decide) ?_
          refine AW.sub (L' := [(0, .ref 40), (1, .int x1), (2, .int x2), (3, .int x3), (4, .int x4), (5, .int x5), (6, .int (x6 + (1 : Int32)))]) [1, 2, 3, 4, 5, 6, 0] rfl ?_
          exact ih x1 x2 x3 x4 x5 (x6 + (1 : Int32)) (sI σ10 40 5 ((σ10.1 40 5) + (1 : Int32))) h
set_option maxRecDepth 20000 in
theorem c_X5_addStrokes {l : Launch} {G : Gg} {x1 : Int32} {x2 : Int32} {σ : Mm} {τ : Mm} (h : f_X5_addStrokes x1 x2 σ = some τ) : MR l G 1 M_X5_addStrokes [.ref 40, .int x1, .int x2] σ none τ := by
  unfold f_X5_addStrokes at h
  refine MR.of (by decide +kernel) (Nat.le_of_ble_eq_true rfl) ?_
  show AW l G 1 M_X5_addStrokes none τ 0 [(0, .ref 40), (1, .int x1), (2, .int x2)] [] σ
  refine AW.aload_n dX5_addStrokes_0 (.refl 1) 0 rfl ?_
  refine AW.getR (z := 3) lk_X5_31 rfl rfl (by decide) rfl dX5_addStrokes_1 (.refl 4) ?_
  refine AW.getR (z := 6) lk_X5_53 rfl rfl (by decide) rfl dX5_addStrokes_4 (.refl 7) ?_
  refine AW.iload_n dX5_addStrokes_7 (.refl 8) 1 rfl ?_
  obtain ⟨r2, e1, h⟩ := b1_s h
  refine AW.callN (r' := (some (.int r2))) (σ' := σ) (rest := []) lm_X5_58 (c_X9_at rfl e1) (by decide) (by decide) rfl rfl (Nat.le_of_ble_eq_true rfl) dX5_addStrokes_8 (.refl 11) (st' := [.int r2]) rfl ?_
  refine AW.istore_n (L' := [(3, .int r2), (0, .ref 40), (1, .int x1), (2, .int x2)]) dX5_addStrokes_11 (.refl 12) (by decide) rfl ?_
  refine AW.aload_n dX5_addStrokes_12 (.refl 13) 1 rfl ?_
  refine AW.getR (z := 3) lk_X5_31 rfl rfl (by decide) rfl dX5_addStrokes_13 (.refl 16) ?_
  refine AW.getR (z := 4) lk_X5_62 rfl rfl (by decide) rfl dX5_addStrokes_16 (.refl 19) ?_
  refine AW.iload_n dX5_addStrokes_19 (.refl 20) 0 rfl ?_
  obtain ⟨r4, e3, h⟩ := b1_s h
  refine AW.callN (r' := (some (.int r4))) (σ' := σ) (rest := []) lm_X5_58 (c_X9_at rfl e3) (by decide) (by decide) rfl rfl (Nat.le_of_ble_eq_true rfl) dX5_addStrokes_20 (.refl 23) (st' := [.int r4]) rfl ?_
  refine AW.istore (L' := [(4, .int r4), (3, .int r2), (0, .ref 40), (1, .int x1), (2, .int x2)]) dX5_addStrokes_23 (.refl 25) (by decide) rfl ?_
  refine AW.aload_n dX5_addStrokes_25 (.refl 26) 2 rfl ?_
  refine AW.getR (z := 3) lk_X5_31 rfl rfl (by decide) rfl dX5_addStrokes_26 (.refl 29) ?_
  refine AW.getR (z := 7) lk_X5_65 rfl rfl (by decide) rfl dX5_addStrokes_29 (.refl 32) ?_
  refine AW.iload_n dX5_addStrokes_32 (.refl 33) 3 rfl ?_
  obtain ⟨r6, e5, h⟩ := b1_s h
  refine AW.callN (r' := (some (.int r6))) (σ' := σ) (rest := []) lm_X5_58 (c_X9_at rfl e5) (by decide) (by decide) rfl rfl (Nat.le_of_ble_eq_true rfl) dX5_addStrokes_33 (.refl 36) (st' := [.int r6]) rfl ?_
  refine AW.istore (L' := [(5, .int r6), (4, .int r4), (3, .int r2), (0, .ref 40), (1, .int x1), (2, .int x2)]) dX5_addStrokes_36 (.refl 38) (by decide) rfl ?_
  refine AW.iconst (v := (0 : Int32)) dX5_addStrokes_38 (.refl 39) (by decide) ?_
  refine AW.istore (L' := [(6, .int (0 : Int32)), (5, .int r6), (4, .int r4), (3, .int r2), (0, .ref 40), (1, .int x1), (2, .int x2)]) dX5_addStrokes_39 (.refl 41) (by decide) rfl ?_
  refine AW.sub (L' := [(0, .ref 40), (1, .int x1), (2, .int x2), (3, .int r2), (4, .int r4), (5, .int r6), (6, .int (0 : Int32))]) [4, 5, 6, 3, 2, 1, 0] rfl ?_
  exact a_X5_addStrokes_p41 FU x1 x2 r2 r4 r6 (0 : Int32) σ h
def f_X5_isInTime (σ : Mm) (x1 : Int32) (x2 : Int32) : Option (Int32) := b1 (f_X9_at σ 42 x1) (fun (r2 : Int32) => b1 (f_X9_at σ 43 x1) (fun (r4 : Int32) => b1 (f_X9_at σ 43 x2) (fun (r6 : Int32) => b1 (f_X9_at σ 41 x2) (fun (r8 : Int32) => (if r8 < (r2 + (jabs (r4 - r6))) then some (0 : Int32) else some (1 : Int32))))))
set_option maxRecDepth 20000 in
theorem c_X5_isInTime {l : Launch} {G : Gg} {x1 : Int32} {x2 : Int32} {σ : Mm} {v : Int32} (h : f_X5_isInTime σ x1 x2 = some v) : MR l G 1 M_X5_isInTime [.ref 40, .int x1, .int x2] σ (some (.int v)) σ := by
  unfold f_X5_isInTime at h
  refine MR.of (by decide +kernel) (Nat.le_of_ble_eq_true rfl) ?_
  show AW l G 1 M_X5_isInTime (some (.int v)) σ 0 [(0, .ref 40), (1, .int x1), (2, .int x2)] [] σ
  refine AW.aload_n dX5_isInTime_0 (.refl 1) 0 rfl ?_
  refine AW.getR (z := 42) lk_X5_15 rfl rfl (by decide) rfl dX5_isInTime_1 (.refl 4) ?_
  refine AW.iload_n dX5_isInTime_4 (.refl 5) 1 rfl ?_
  obtain ⟨r2, e1, h⟩ := b1_s h
  refine AW.callN (r' := (some (.int r2))) (σ' := σ) (rest := []) lm_X5_58 (c_X9_at rfl e1) (by decide) (by decide) rfl rfl (Nat.le_of_ble_eq_true rfl) dX5_isInTime_5 (.refl 8) (st' := [.int r2]) rfl ?_
  refine AW.aload_n dX5_isInTime_8 (.refl 9) 0 rfl ?_
  refine AW.getR (z := 43) lk_X5_18 rfl rfl (by decide) rfl dX5_isInTime_9 (.refl 12) ?_
  refine AW.iload_n dX5_isInTime_12 (.refl 13) 1 rfl ?_
  obtain ⟨r4, e3, h⟩ := b1_s h
  refine AW.callN (r' := (some (.int r4))) (σ' := σ) (rest := [.int r2]) lm_X5_58 (c_X9_at rfl e3) (by decide) (by decide) rfl rfl (Nat.le_of_ble_eq_true rfl) dX5_isInTime_13 (.refl 16) (st' := [.int r4, .int r2]) rfl ?_
  refine AW.aload_n dX5_isInTime_16 (.refl 17) 0 rfl ?_
  refine AW.getR (z := 43) lk_X5_18 rfl rfl (by decide) rfl dX5_isInTime_17 (.refl 20) ?_
  refine AW.iload_n dX5_isInTime_20 (.refl 21) 2 rfl ?_
  obtain ⟨r6, e5, h⟩ := b1_s h
  refine AW.callN (r' := (some (.int r6))) (σ' := σ) (rest := [.int r4, .int r2]) lm_X5_58 (c_X9_at rfl e5) (by decide) (by decide) rfl rfl (Nat.le_of_ble_eq_true rfl) dX5_isInTime_21 (.refl 24) (st' := [.int r6, .int r4, .int r2]) rfl ?_
  refine AW.isub dX5_isInTime_24 (.refl 25) ?_
  refine AW.mabs lm_X5_74 (by decide) (Nat.le_of_ble_eq_true rfl) dX5_isInTime_25 (.refl 28) ?_
  refine AW.iadd dX5_isInTime_28 (.refl 29) ?_
  refine AW.aload_n dX5_isInTime_29 (.refl 30) 0 rfl ?_
  refine AW.getR (z := 41) lk_X5_9 rfl rfl (by decide) rfl dX5_isInTime_30 (.refl 33) ?_
  refine AW.iload_n dX5_isInTime_33 (.refl 34) 2 rfl ?_
  obtain ⟨r8, e7, h⟩ := b1_s h
  refine AW.callN (r' := (some (.int r8))) (σ' := σ) (rest := [.int (r2 + (jabs (r4 - r6)))]) lm_X5_58 (c_X9_at rfl e7) (by decide) (by decide) rfl rfl (Nat.le_of_ble_eq_true rfl) dX5_isInTime_34 (.refl 37) (st' := [.int r8, .int (r2 + (jabs (r4 - r6)))]) rfl ?_
  refine AW.icmp_gt (tgt := 44) dX5_isInTime_37 (by decide) (fun c9 => ?_) (fun c9 => ?_)
  · have h := ifp c9 h
    refine AW.iconst (v := (0 : Int32)) dX5_isInTime_44 (.refl 45) (by decide) ?_
    cases h
    exact AW.zreturn rfl (by decide) dX5_isInTime_45
  · have h := ifn c9 h
    refine AW.iconst (v := (1 : Int32)) dX5_isInTime_40 (.refl 41) (by decide) ?_
    refine AW.goto (tgt := 45) dX5_isInTime_41 (by decide) ?_
    cases h
    exact AW.zreturn rfl (by decide) dX5_isInTime_45
