def f_X8_build_p8 : Nat → Int32 → Int32 → Mm → Option (Mm)
  | 0, _, _, _ => none
  | n + 1, x2, x3, σ => (if (48 : Int32) ≤ x3 then some σ else (if (σ.1 1 1) ≤ x2 then some σ else b1 (f_X7_letterAt σ x2) (fun (r2 : Int32) => (if r2 = (66 : Int32) then b1 (f_X7_figureAt σ (x2 + (1 : Int32))) (fun (r8 : Int32) => b1 (f_X7_figureAt σ (x2 + (2 : Int32))) (fun (r10 : Int32) => b1 (f_X8_addBell r8 r10 σ) (fun (τ12 : Mm) => b1 (f_X7_sizeOf τ12 r2) (fun (r14 : Int32) => (f_X8_build_p8 n) (x2 + r14) (x3 + (1 : Int32)) τ12)))) else b1 (f_X8_addBidder r2 x2 σ) (fun (τ4 : Mm) => b1 (f_X7_sizeOf τ4 r2) (fun (r6 : Int32) => (f_X8_build_p8 n) (x2 + r6) (x3 + (1 : Int32)) τ4))))))
def f_X8_build  (σ : Mm) : Option (Mm) := b1 (f_X8_clear σ) (fun (τ2 : Mm) => f_X8_build_p8 FU (1 : Int32) (0 : Int32) τ2)
set_option maxRecDepth 20000 in
theorem a_X8_build_p8 {l : Launch} {G : Gg} {τ : Mm} : ∀ (n : Nat) (x2 : Int32) (x3 : Int32) (σ : Mm), f_X8_build_p8 n x2 x3 σ = some τ → AW l G 4 M_X8_build none τ 8 [(0, .ref 3), (1, .ref 1), (2, .int x2), (3, .int x3)] [] σ := by
  intro n
  induction n with
  | zero => intro x2 x3 σ h; exact no_some h
  | succ n ih =>
    intro x2 x3 σ h
    rw [f_X8_build_p8] at h
    refine AW.iload_n dX8_build_8 (.refl 9) 3 rfl ?_
    refine AW.bipush (v := (48 : Int32)) dX8_build_9 (.refl 11) (by decide) ?_
    refine AW.icmp_ge (tgt := 79) dX8_build_11 (by decide) (fun c17 => ?_) (fun c17 => ?_)
    · have h := ifp c17 h
      cases h
      exact AW.vreturn rfl dX8_build_79
    · have h := ifn c17 h
      refine AW.iload_n dX8_build_14 (.refl 15) 2 rfl ?_
      refine AW.aload_n dX8_build_15 (.refl 16) 1 rfl ?_
      refine AW.getI lk_X8_78 rfl rfl (by decide) dX8_build_16 (.refl 19) ?_
      refine AW.icmp_ge (tgt := 79) dX8_build_19 (by decide) (fun c16 => ?_) (fun c16 => ?_)
      · have h := ifp c16 h
        cases h
        exact AW.vreturn rfl dX8_build_79
      · have h := ifn c16 h
        refine AW.aload_n dX8_build_22 (.refl 23) 1 rfl ?_
        refine AW.iload_n dX8_build_23 (.refl 24) 2 rfl ?_
        obtain ⟨r2, e1, h⟩ := b1_s h
        refine AW.callV (r' := (some (.int r2))) (σ' := σ) (rest := []) lm_X8_83 (c_X7_letterAt e1) (by decide) (by decide) rfl rfl (by decide) rfl rfl (Nat.le_of_ble_eq_true rfl) dX8_build_24 (.refl 27) (st' := [.int r2]) rfl ?_
        refine AW.istore (L' := [(4, .int r2), (0, .ref 3), (1, .ref 1), (2, .int x2), (3, .int x3)]) dX8_build_27 (.refl 29) (by decide) rfl ?_
        refine AW.iload dX8_build_29 (.refl 31) 0 rfl ?_
        refine AW.bipush (v := (66 : Int32)) dX8_build_31 (.refl 33) (by decide) ?_
        refine AW.icmp_ne (tgt := 57) dX8_build_33 (by decide) (fun c15 => ?_) (fun c15 => ?_)
        · have h := ifn c15 h
          refine AW.aload_n dX8_build_57 (.refl 58) 1 rfl ?_
          refine AW.iload dX8_build_58 (.refl 60) 0 rfl ?_
          refine AW.aload_n dX8_build_60 (.refl 61) 2 rfl ?_
          refine AW.iload_n dX8_build_61 (.refl 62) 3 rfl ?_
          obtain ⟨τ4, e3, h⟩ := b1_s h
          refine AW.callV (r' := none) (σ' := τ4) (rest := []) lm_X8_93 (c_X8_addBidder e3) (by decide) (by decide) rfl rfl (by decide) rfl rfl (Nat.le_of_ble_eq_true rfl) dX8_build_62 (.refl 65) (st' := []) rfl ?_
          refine AW.iload_n dX8_build_65 (.refl 66) 3 rfl ?_
          refine AW.iload dX8_build_66 (.refl 68) 0 rfl ?_
          obtain ⟨r6, e5, h⟩ := b1_s h
          refine AW.callS (r' := (some (.int r6))) (σ' := τ4) (rest := [.int x2]) lm_X8_97 (c_X7_sizeOf e5) (by decide) (by decide) rfl rfl (Nat.le_of_ble_eq_true rfl) dX8_build_68 (.refl 71) (st' := [.int r6, .int x2]) rfl ?_
          refine AW.iadd dX8_build_71 (.refl 72) ?_
          refine AW.istore_n (L' := [(2, .int (x2 + r6)), (4, .int r2), (0, .ref 3), (1, .ref 1), (3, .int x3)]) dX8_build_72 (.refl 73) (by decide) rfl ?_
          refine AW.iinc (v := (x3 + (1 : Int32))) (L' := [(3, .int (x3 + (1 : Int32))), (2, .int (x2 + r6)), (4, .int r2), (0, .ref 3), (1, .ref 1)]) dX8_build_73 (.refl 76) 4 rfl rfl (by decide) rfl ?_
          refine AW.goto (tgt := 8) dX8_build_76 (by decide) ?_
          refine AW.sub (L' := [(0, .ref 3), (1, .ref 1), (2, .int (x2 + r6)), (3, .int (x3 + (1 : Int32)))]) [3, 4, 1, 0] rfl ?_
          exact ih (x2 + r6) (x3 + (1 : Int32)) τ4 h
        · have h := ifp c15 h
          refine AW.aload_n dX8_build_36 (.refl 37) 1 rfl ?_
          refine AW.aload_n dX8_build_37 (.refl 38) 2 rfl ?_
          refine AW.iload_n dX8_build_38 (.refl 39) 3 rfl ?_
          refine AW.iconst (v := (1 : Int32)) dX8_build_39 (.refl 40) (by decide) ?_
          refine AW.iadd dX8_build_40 (.refl 41) ?_
          obtain ⟨r8, e7, h⟩ := b1_s h
          refine AW.callV (r' := (some (.int r8))) (σ' := σ) (rest := [.ref 3]) lm_X8_86 (c_X7_figureAt e7) (by decide) (by decide) rfl rfl (by decide) rfl rfl (Nat.le_of_ble_eq_true rfl) dX8_build_41 (.refl 44) (st' := [.int r8, .ref 3]) rfl ?_
          refine AW.aload_n dX8_build_44 (.refl 45) 2 rfl ?_
          refine AW.iload_n dX8_build_45 (.refl 46) 3 rfl ?_
          refine AW.iconst (v := (2 : Int32)) dX8_build_46 (.refl 47) (by decide) ?_
          refine AW.iadd dX8_build_47 (.refl 48) ?_
          obtain ⟨r10, e9, h⟩ := b1_s h
          refine AW.callV (r' := (some (.int r10))) (σ' := σ) (rest := [.int r8, .ref 3]) lm_X8_86 (c_X7_figureAt e9) (by decide) (by decide) rfl rfl (by decide) rfl rfl (Nat.le_of_ble_eq_true rfl) dX8_build_48 (.refl 51) (st' := [.int r10, .int r8, .ref 3]) rfl ?_
          obtain ⟨τ12, e11, h⟩ := b1_s h
          refine AW.callV (r' := none) (σ' := τ12) (rest := []) lm_X8_89 (c_X8_addBell e11) (by decide) (by decide) rfl rfl (by decide) rfl rfl (Nat.le_of_ble_eq_true rfl) dX8_build_51 (.refl 54) (st' := []) rfl ?_
          refine AW.goto (tgt := 65) dX8_build_54 (by decide) ?_
          refine AW.iload_n dX8_build_65 (.refl 66) 3 rfl ?_
          refine AW.iload dX8_build_66 (.refl 68) 0 rfl ?_
          obtain ⟨r14, e13, h⟩ := b1_s h
          refine AW.callS (r' := (some (.int r14))) (σ' := τ12) (rest := [.int x2]) lm_X8_97 (c_X7_sizeOf e13) (by decide) (by decide) rfl rfl (Nat.le_of_ble_eq_true rfl) dX8_build_68 (.refl 71) (st' := [.int r14, .int x2]) rfl ?_
          refine AW.iadd dX8_build_71 (.refl 72) ?_
          refine AW.istore_n (L' := [(2, .int (x2 + r14)), (4, .int r2), (0, .ref 3), (1, .ref 1), (3, .int x3)]) dX8_build_72 (.refl 73) (by decide) rfl ?_
          refine AW.iinc (v := (x3 + (1 : Int32))) (L' := [(3, .int (x3 + (1 : Int32))), (2, .int (x2 + r14)), (4, .int r2), (0, .ref 3), (1, .ref 1)]) dX8_build_73 (.refl 76) 4 rfl rfl (by decide) rfl ?_
          refine AW.goto (tgt := 8) dX8_build_76 (by decide) ?_
          refine AW.sub (L' := [(0, .ref 3), (1, .ref 1), (2, .int (x2 + r14)), (3, .int (x3 + (1 : Int32)))]) [3, 4, 1, 0] rfl ?_
          exact ih (x2 + r14) (x3 + (1 : Int32)) τ12 h
set_option maxRecDepth 20000 in
theorem c_X8_build {l : Launch} {G : Gg}  {σ : Mm} {τ : Mm} (h : f_X8_build  σ = some τ) : MR l G 4 M_X8_build [.ref 3, .ref 1] σ none τ := by
  unfold f_X8_build at h
  refine MR.of (by decide +kernel) (Nat.le_of_ble_eq_true rfl) ?_
  show AW l G 4 M_X8_build none τ 0 [(0, .ref 3), (1, .ref 1)] [] σ
  refine AW.aload_n dX8_build_0 (.refl 1) 0 rfl ?_
  obtain ⟨τ2, e1, h⟩ := b1_s h
  refine AW.callV (r' := none) (σ' := τ2) (rest := []) lm_X8_75 (c_X8_clear e1) (by decide) (by decide) rfl rfl (by decide) rfl rfl (Nat.le_of_ble_eq_true rfl) dX8_build_1 (.refl 4) (st' := []) rfl ?_
  refine AW.iconst (v := (1 : Int32)) dX8_build_4 (.refl 5) (by decide) ?_
  refine AW.istore_n (L' := [(2, .int (1 : Int32)), (0, .ref 3), (1, .ref 1)]) dX8_build_5 (.refl 6) (by decide) rfl ?_
  refine AW.iconst (v := (0 : Int32)) dX8_build_6 (.refl 7) (by decide) ?_
  refine AW.istore_n (L' := [(3, .int (0 : Int32)), (2, .int (1 : Int32)), (0, .ref 3), (1, .ref 1)]) dX8_build_7 (.refl 8) (by decide) rfl ?_
  refine AW.sub (L' := [(0, .ref 3), (1, .ref 1), (2, .int (1 : Int32)), (3, .int (0 : Int32))]) [2, 3, 1, 0] rfl ?_
  exact a_X8_build_p8 FU (1 : Int32) (0 : Int32) τ2 h
def f_X9_tower  (σ : Mm) : Option (Int32 × Mm) := b1 (f_X7_firstFault σ) (fun (r2 : Int32) => (if r2 = (-9 : Int32) then b1 (f_X8_build σ) (fun (τ4 : Mm) => b1 (f_X1_clear 16 τ4) (fun (τ6 : Mm) => b1 (f_X0_clear τ6) (fun (τ8 : Mm) => b1 (f_X6_forget 20 τ8) (fun (τ10 : Mm) => b1 (f_X6_forget 23 τ10) (fun (τ12 : Mm) => some ((((10 : Int32) * (τ12.1 3 0)) + (τ12.1 3 1)), τ12)))))) else some ((-3 : Int32), σ)))
set_option maxRecDepth 20000 in
theorem c_X9_tower {l : Launch} {G : Gg}  {σ : Mm} {v : Int32} {τ : Mm} (h : f_X9_tower  σ = some (v, τ)) : MR l G 5 M_X9_tower [.ref 0] σ (some (.int v)) τ := by
  unfold f_X9_tower at h
  refine MR.of (by decide +kernel) (Nat.le_of_ble_eq_true rfl) ?_
  show AW l G 5 M_X9_tower (some (.int v)) τ 0 [(0, .ref 0)] [] σ
  refine AW.aload_n dX9_tower_0 (.refl 1) 0 rfl ?_
  refine AW.getR (z := 1) lk_X9_10 rfl rfl (by decide) rfl dX9_tower_1 (.refl 4) ?_
  obtain ⟨r2, e1, h⟩ := b1_s h
  refine AW.callV (r' := (some (.int r2))) (σ' := σ) (rest := []) lm_X9_96 (c_X7_firstFault e1) (by decide) (by decide) rfl rfl (by decide) rfl rfl (Nat.le_of_ble_eq_true rfl) dX9_tower_4 (.refl 7) (st' := [.int r2]) rfl ?_
  refine AW.bipush (v := (-9 : Int32)) dX9_tower_7 (.refl 9) (by decide) ?_
  refine AW.icmp_eq (tgt := 15) dX9_tower_9 (by decide) (fun c13 => ?_) (fun c13 => ?_)
  · have h := ifp c13 h
    refine AW.aload_n dX9_tower_15 (.refl 16) 0 rfl ?_
    refine AW.getR (z := 3) lk_X9_19 rfl rfl (by decide) rfl dX9_tower_16 (.refl 19) ?_
    refine AW.aload_n dX9_tower_19 (.refl 20) 0 rfl ?_
    refine AW.getR (z := 1) lk_X9_10 rfl rfl (by decide) rfl dX9_tower_20 (.refl 23) ?_
    obtain ⟨τ4, e3, h⟩ := b1_s h
    refine AW.callV (r' := none) (σ' := τ4) (rest := []) lm_X9_99 (c_X8_build e3) (by decide) (by decide) rfl rfl (by decide) rfl rfl (Nat.le_of_ble_eq_true rfl) dX9_tower_23 (.refl 26) (st' := []) rfl ?_
    refine AW.aload_n dX9_tower_26 (.refl 27) 0 rfl ?_
    refine AW.getR (z := 16) lk_X9_28 rfl rfl (by decide) rfl dX9_tower_27 (.refl 30) ?_
    obtain ⟨τ6, e5, h⟩ := b1_s h
    refine AW.callV (r' := none) (σ' := τ6) (rest := []) lm_X9_103 (c_X1_clear rfl e5) (by decide) (by decide) rfl rfl (by decide) rfl rfl (Nat.le_of_ble_eq_true rfl) dX9_tower_30 (.refl 33) (st' := []) rfl ?_
    refine AW.aload_n dX9_tower_33 (.refl 34) 0 rfl ?_
    refine AW.getR (z := 26) lk_X9_48 rfl rfl (by decide) rfl dX9_tower_34 (.refl 37) ?_
    obtain ⟨τ8, e7, h⟩ := b1_s h
    refine AW.callV (r' := none) (σ' := τ8) (rest := []) lm_X9_105 (c_X0_clear e7) (by decide) (by decide) rfl rfl (by decide) rfl rfl (Nat.le_of_ble_eq_true rfl) dX9_tower_37 (.refl 40) (st' := []) rfl ?_
    refine AW.aload_n dX9_tower_40 (.refl 41) 0 rfl ?_
    refine AW.getR (z := 20) lk_X9_38 rfl rfl (by decide) rfl dX9_tower_41 (.refl 44) ?_
    obtain ⟨τ10, e9, h⟩ := b1_s h
    refine AW.callV (r' := none) (σ' := τ10) (rest := []) lm_X9_106 (c_X6_forget rfl e9) (by decide) (by decide) rfl rfl (by decide) rfl rfl (Nat.le_of_ble_eq_true rfl) dX9_tower_44 (.refl 47) (st' := []) rfl ?_
    refine AW.aload_n dX9_tower_47 (.refl 48) 0 rfl ?_
    refine AW.getR (z := 23) lk_X9_42 rfl rfl (by decide) rfl dX9_tower_48 (.refl 51) ?_
    obtain ⟨τ12, e11, h⟩ := b1_s h
    refine AW.callV (r' := none) (σ' := τ12) (rest := []) lm_X9_106 (c_X6_forget rfl e11) (by decide) (by decide) rfl rfl (by decide) rfl rfl (Nat.le_of_ble_eq_true rfl) dX9_tower_51 (.refl 54) (st' := []) rfl ?_
    refine AW.bipush (v := (10 : Int32)) dX9_tower_54 (.refl 56) (by decide) ?_
    refine AW.aload_n dX9_tower_56 (.refl 57) 0 rfl ?_
    refine AW.getR (z := 3) lk_X9_19 rfl rfl (by decide) rfl dX9_tower_57 (.refl 60) ?_
    refine AW.getI lk_X9_109 rfl rfl (by decide) dX9_tower_60 (.refl 63) ?_
    refine AW.imul dX9_tower_63 (.refl 64) ?_
    refine AW.aload_n dX9_tower_64 (.refl 65) 0 rfl ?_
    refine AW.getR (z := 3) lk_X9_19 rfl rfl (by decide) rfl dX9_tower_65 (.refl 68) ?_
    refine AW.getI lk_X9_113 rfl rfl (by decide) dX9_tower_68 (.refl 71) ?_
    refine AW.iadd dX9_tower_71 (.refl 72) ?_
    cases h
    exact AW.ireturn rfl dX9_tower_72
  · have h := ifn c13 h
    refine AW.bipush (v := (-3 : Int32)) dX9_tower_12 (.refl 14) (by decide) ?_
    cases h
    exact AW.ireturn rfl dX9_tower_14
def f_X9_secondsOf (σ : Mm) (x0 : Int32) (x1 : Int32) : Option (Int32) := some ((jushr x0 ((10 : Int32) * x1)) &&& (1023 : Int32))
set_option maxRecDepth 20000 in
theorem c_X9_secondsOf {l : Launch} {G : Gg} {x0 : Int32} {x1 : Int32} {σ : Mm} {v : Int32} (h : f_X9_secondsOf σ x0 x1 = some v) : MR l G 0 M_X9_secondsOf [.int x0, .int x1] σ (some (.int v)) σ := by
  unfold f_X9_secondsOf at h
  refine MR.of (by decide +kernel) (Nat.le_of_ble_eq_true rfl) ?_
  show AW l G 0 M_X9_secondsOf (some (.int v)) σ 0 [(0, .int x0), (1, .int x1)] [] σ
  refine AW.iload_n dX9_secondsOf_0 (.refl 1) 0 rfl ?_
  refine AW.bipush (v := (10 : Int32)) dX9_secondsOf_1 (.refl 3) (by decide) ?_
  refine AW.iload_n dX9_secondsOf_3 (.refl 4) 1 rfl ?_
  refine AW.imul dX9_secondsOf_4 (.refl 5) ?_
  refine AW.iushr dX9_secondsOf_5 (.refl 6) ?_
  refine AW.sipush (v := (1023 : Int32)) dX9_secondsOf_6 (.refl 9) (by decide) ?_
  refine AW.iand dX9_secondsOf_9 (.refl 10) ?_
  cases h
  exact AW.ireturn rfl dX9_secondsOf_10
def f_X1_toldOf (σ : Mm) (k0 : Nat) (x1 : Int32) : Option (Int32) := (if x1 < 0 then some (0 : Int32) else (if (5 : Int32) ≤ x1 then some (0 : Int32) else gd (inB x1 5) (some (σ.1 (cRef k0 1) (x1).toNatClampNeg))))
set_option maxRecDepth 20000 in
theorem c_X1_toldOf {l : Launch} {G : Gg} {k0 : Nat} (hk0 : cTag k0 = 1) {x1 : Int32} {σ : Mm} {v : Int32} (h : f_X1_toldOf σ k0 x1 = some v) : MR l G 0 M_X1_toldOf [.ref k0, .int x1] σ (some (.int v)) σ := by
  unfold f_X1_toldOf at h
  refine MR.of (by decide +kernel) (Nat.le_of_ble_eq_true rfl) ?_
  show AW l G 0 M_X1_toldOf (some (.int v)) σ 0 [(0, .ref k0), (1, .int x1)] [] σ
  refine AW.iload_n dX1_toldOf_0 (.refl 1) 1 rfl ?_
  refine AW.if_lt (tgt := 18) dX1_toldOf_1 (by decide) (fun c3 => ?_) (fun c3 => ?_)
  · have h := ifp c3 h
    refine AW.iconst (v := (0 : Int32)) dX1_toldOf_18 (.refl 19) (by decide) ?_
    cases h
    exact AW.ireturn rfl dX1_toldOf_19
  · have h := ifn c3 h
    refine AW.iload_n dX1_toldOf_4 (.refl 5) 1 rfl ?_
    refine AW.iconst (v := (5 : Int32)) dX1_toldOf_5 (.refl 6) (by decide) ?_
    refine AW.icmp_ge (tgt := 18) dX1_toldOf_6 (by decide) (fun c2 => ?_) (fun c2 => ?_)
    · have h := ifp c2 h
      refine AW.iconst (v := (0 : Int32)) dX1_toldOf_18 (.refl 19) (by decide) ?_
      cases h
      exact AW.ireturn rfl dX1_toldOf_19
    · have h := ifn c2 h
      refine AW.aload_n dX1_toldOf_9 (.refl 10) 0 rfl ?_
      refine AW.getR (z := (cRef k0 1)) lk_X1_9 hk0 rfl (by decide) rfl dX1_toldOf_10 (.refl 13) ?_
      refine AW.iload_n dX1_toldOf_13 (.refl 14) 1 rfl ?_
      obtain ⟨g1, h⟩ := gd_s h
      refine AW.iaload (tg_1_1 hk0) (by rw [ln_1_1 hk0]; exact g1) dX1_toldOf_14 (.refl 15) ?_
      refine AW.goto (tgt := 19) dX1_toldOf_15 (by decide) ?_
      cases h
      exact AW.ireturn rfl dX1_toldOf_19
def f_X1_secondOf (σ : Mm) (k0 : Nat) (x1 : Int32) : Option (Int32) := b1 (f_X1_toldOf σ k0 x1) (fun (r2 : Int32) => (if r2 = 0 then some (-9 : Int32) else some (r2 - (1 : Int32))))
set_option maxRecDepth 20000 in
theorem c_X1_secondOf {l : Launch} {G : Gg} {k0 : Nat} (hk0 : cTag k0 = 1) {x1 : Int32} {σ : Mm} {v : Int32} (h : f_X1_secondOf σ k0 x1 = some v) : MR l G 1 M_X1_secondOf [.ref k0, .int x1] σ (some (.int v)) σ := by
  unfold f_X1_secondOf at h
  refine MR.of (by decide +kernel) (Nat.le_of_ble_eq_true rfl) ?_
  show AW l G 1 M_X1_secondOf (some (.int v)) σ 0 [(0, .ref k0), (1, .int x1)] [] σ
  refine AW.aload_n dX1_secondOf_0 (.refl 1) 0 rfl ?_
  refine AW.iload_n dX1_secondOf_1 (.refl 2) 1 rfl ?_
  obtain ⟨r2, e1, h⟩ := b1_s h
  refine AW.callV (r' := (some (.int r2))) (σ' := σ) (rest := []) lm_X1_19 (c_X1_toldOf hk0 e1) (by decide) (by decide) hk0 rfl (by decide) rfl rfl (Nat.le_of_ble_eq_true rfl) dX1_secondOf_2 (.refl 5) (st' := [.int r2]) rfl ?_
  refine AW.istore_n (L' := [(2, .int r2), (0, .ref k0), (1, .int x1)]) dX1_secondOf_5 (.refl 6) (by decide) rfl ?_
  refine AW.iload_n dX1_secondOf_6 (.refl 7) 0 rfl ?_
  refine AW.if_eq (tgt := 16) dX1_secondOf_7 (by decide) (fun c3 => ?_) (fun c3 => ?_)
  · have h := ifp c3 h
    refine AW.bipush (v := (-9 : Int32)) dX1_secondOf_16 (.refl 18) (by decide) ?_
    cases h
    exact AW.ireturn rfl dX1_secondOf_18
  · have h := ifn c3 h
    refine AW.iload_n dX1_secondOf_10 (.refl 11) 0 rfl ?_
    refine AW.iconst (v := (1 : Int32)) dX1_secondOf_11 (.refl 12) (by decide) ?_
    refine AW.isub dX1_secondOf_12 (.refl 13) ?_
    refine AW.goto (tgt := 18) dX1_secondOf_13 (by decide) ?_
    cases h
    exact AW.ireturn rfl dX1_secondOf_18
def f_X8_ringing_p24 (σ : Mm) (x1 : Int32) (x2 : Int32) (s0 : Int32) : Option (Int32) := (if s0 = 0 then some (0 : Int32) else gd (inB (((10 : Int32) * x1) + x2) 50) (some (σ.1 15 ((((10 : Int32) * x1) + x2)).toNatClampNeg)))
def f_X8_ringing_p23 (σ : Mm) (x1 : Int32) (x2 : Int32) : Option (Int32) := (f_X8_ringing_p24 σ) x1 x2 (0 : Int32)
def f_X8_ringing (σ : Mm) (x1 : Int32) (x2 : Int32) : Option (Int32) := (if x1 < 0 then (f_X8_ringing_p23 σ) x1 x2 else (if (5 : Int32) ≤ x1 then (f_X8_ringing_p23 σ) x1 x2 else (if x2 < 0 then (f_X8_ringing_p23 σ) x1 x2 else (if (10 : Int32) ≤ x2 then (f_X8_ringing_p23 σ) x1 x2 else (f_X8_ringing_p24 σ) x1 x2 (1 : Int32)))))
set_option maxRecDepth 20000 in
theorem a_X8_ringing_p24 {l : Launch} {G : Gg} {v : Int32} {σ : Mm} (x1 : Int32) (x2 : Int32) (s0 : Int32) (h : f_X8_ringing_p24 σ x1 x2 s0 = some v) : AW l G 0 M_X8_ringing (some (.int v)) σ 24 [(0, .ref 3), (1, .int x1), (2, .int x2)] [.int s0] σ := by
  unfold f_X8_ringing_p24 at h
  refine AW.istore_n (L' := [(3, .int s0), (0, .ref 3), (1, .int x1), (2, .int x2)]) dX8_ringing_24 (.refl 25) (by decide) rfl ?_
  refine AW.iload_n dX8_ringing_25 (.refl 26) 0 rfl ?_
  refine AW.if_eq (tgt := 43) dX8_ringing_26 (by decide) (fun c2 => ?_) (fun c2 => ?_)
  · have h := ifp c2 h
    refine AW.iconst (v := (0 : Int32)) dX8_ringing_43 (.refl 44) (by decide) ?_
    cases h
    exact AW.ireturn rfl dX8_ringing_44
  · have h := ifn c2 h
    refine AW.aload_n dX8_ringing_29 (.refl 30) 1 rfl ?_
    refine AW.getR (z := 15) lk_X8_53 rfl rfl (by decide) rfl dX8_ringing_30 (.refl 33) ?_
    refine AW.bipush (v := (10 : Int32)) dX8_ringing_33 (.refl 35) (by decide) ?_
    refine AW.iload_n dX8_ringing_35 (.refl 36) 2 rfl ?_
    refine AW.imul dX8_ringing_36 (.refl 37) ?_
    refine AW.iload_n dX8_ringing_37 (.refl 38) 3 rfl ?_
    refine AW.iadd dX8_ringing_38 (.refl 39) ?_
    obtain ⟨g1, h⟩ := gd_s h
    refine AW.iaload rfl g1 dX8_ringing_39 (.refl 40) ?_
    refine AW.goto (tgt := 44) dX8_ringing_40 (by decide) ?_
    cases h
    exact AW.ireturn rfl dX8_ringing_44
set_option maxRecDepth 20000 in
theorem a_X8_ringing_p23 {l : Launch} {G : Gg} {v : Int32} {σ : Mm} (x1 : Int32) (x2 : Int32) (h : f_X8_ringing_p23 σ x1 x2 = some v) : AW l G 0 M_X8_ringing (some (.int v)) σ 23 [(0, .ref 3), (1, .int x1), (2, .int x2)] [] σ := by
  unfold f_X8_ringing_p23 at h
  refine AW.iconst (v := (0 : Int32)) dX8_ringing_23 (.refl 24) (by decide) ?_
  exact (a_X8_ringing_p24) x1 x2 (0 : Int32) h
set_option maxRecDepth 20000 in
theorem c_X8_ringing {l : Launch} {G : Gg} {x1 : Int32} {x2 : Int32} {σ : Mm} {v : Int32} (h : f_X8_ringing σ x1 x2 = some v) : MR l G 0 M_X8_ringing [.ref 3, .int x1, .int x2] σ (some (.int v)) σ := by
  unfold f_X8_ringing at h
  refine MR.of (by decide +kernel) (Nat.le_of_ble_eq_true rfl) ?_
  show AW l G 0 M_X8_ringing (some (.int v)) σ 0 [(0, .ref 3), (1, .int x1), (2, .int x2)] [] σ
  refine AW.iload_n dX8_ringing_0 (.refl 1) 1 rfl ?_
  refine AW.if_lt (tgt := 23) dX8_ringing_1 (by decide) (fun c4 => ?_) (fun c4 => ?_)
  · have h := ifp c4 h
    exact (a_X8_ringing_p23) x1 x2 h
  · have h := ifn c4 h
    refine AW.iload_n dX8_ringing_4 (.refl 5) 1 rfl ?_
    refine AW.iconst (v := (5 : Int32)) dX8_ringing_5 (.refl 6) (by decide) ?_
    refine AW.icmp_ge (tgt := 23) dX8_ringing_6 (by decide) (fun c3 => ?_) (fun c3 => ?_)
    · have h := ifp c3 h
      exact (a_X8_ringing_p23) x1 x2 h
    · have h := ifn c3 h
      refine AW.iload_n dX8_ringing_9 (.refl 10) 2 rfl ?_
      refine AW.if_lt (tgt := 23) dX8_ringing_10 (by decide) (fun c2 => ?_) (fun c2 => ?_)
      · have h := ifp c2 h
        exact (a_X8_ringing_p23) x1 x2 h
      · have h := ifn c2 h
        refine AW.iload_n dX8_ringing_13 (.refl 14) 2 rfl ?_
        refine AW.bipush (v := (10 : Int32)) dX8_ringing_14 (.refl 16) (by decide) ?_
        refine AW.icmp_ge (tgt := 23) dX8_ringing_16 (by decide) (fun c1 => ?_) (fun c1 => ?_)
        · have h := ifp c1 h
          exact (a_X8_ringing_p23) x1 x2 h
        · have h := ifn c1 h
          refine AW.iconst (v := (1 : Int32)) dX8_ringing_19 (.refl 20) (by decide) ?_
          refine AW.goto (tgt := 24) dX8_ringing_20 (by decide) ?_
          exact (a_X8_ringing_p24) x1 x2 (1 : Int32) h
def f_X1_ringing_p4 (σ : Mm) (k0 : Nat) : Nat → Int32 → Int32 → Option (Int32)
  | 0, _, _ => none
  | n + 1, x1, x2 => (if (5 : Int32) ≤ x2 then some x1 else b1 (f_X1_secondOf σ k0 x2) (fun (r2 : Int32) => b1 (f_X8_ringing σ x2 r2) (fun (r4 : Int32) => (f_X1_ringing_p4 σ k0 n) (x1 ||| r4) (x2 + (1 : Int32)))))
def f_X1_ringing (σ : Mm) (k0 : Nat)  : Option (Int32) := f_X1_ringing_p4 σ k0 FU (0 : Int32) (0 : Int32)
set_option maxRecDepth 20000 in
theorem a_X1_ringing_p4 {l : Launch} {G : Gg} {v : Int32} {σ : Mm} {k0 : Nat} (hk0 : cTag k0 = 1) : ∀ (n : Nat) (x1 : Int32) (x2 : Int32), f_X1_ringing_p4 σ k0 n x1 x2 = some v → AW l G 2 M_X1_ringing (some (.int v)) σ 4 [(0, .ref k0), (1, .int x1), (2, .int x2)] [] σ := by
  intro n
  induction n with
  | zero => intro x1 x2 h; exact no_some h
  | succ n ih =>
    intro x1 x2 h
    rw [f_X1_ringing_p4] at h
    refine AW.iload_n dX1_ringing_4 (.refl 5) 2 rfl ?_
    refine AW.iconst (v := (5 : Int32)) dX1_ringing_5 (.refl 6) (by decide) ?_
    refine AW.icmp_ge (tgt := 31) dX1_ringing_6 (by decide) (fun c5 => ?_) (fun c5 => ?_)
    · have h := ifp c5 h
      refine AW.iload_n dX1_ringing_31 (.refl 32) 1 rfl ?_
      cases h
      exact AW.ireturn rfl dX1_ringing_32
    · have h := ifn c5 h
      refine AW.iload_n dX1_ringing_9 (.refl 10) 1 rfl ?_
      refine AW.aload_n dX1_ringing_10 (.refl 11) 0 rfl ?_
      refine AW.getR (z := 3) lk_X1_15 hk0 rfl (by decide) (rf_1_0 hk0) dX1_ringing_11 (.refl 14) ?_
      refine AW.iload_n dX1_ringing_14 (.refl 15) 2 rfl ?_
      refine AW.aload_n dX1_ringing_15 (.refl 16) 0 rfl ?_
      refine AW.iload_n dX1_ringing_16 (.refl 17) 2 rfl ?_
      obtain ⟨r2, e1, h⟩ := b1_s h
      refine AW.callV (r' := (some (.int r2))) (σ' := σ) (rest := [.int x2, .ref 3, .int x1]) lm_X1_39 (c_X1_secondOf hk0 e1) (by decide) (by decide) hk0 rfl (by decide) rfl rfl (Nat.le_of_ble_eq_true rfl) dX1_ringing_17 (.refl 20) (st' := [.int r2, .int x2, .ref 3, .int x1]) rfl ?_
      obtain ⟨r4, e3, h⟩ := b1_s h
      refine AW.callV (r' := (some (.int r4))) (σ' := σ) (rest := [.int x1]) lm_X1_42 (c_X8_ringing e3) (by decide) (by decide) rfl rfl (by decide) rfl rfl (Nat.le_of_ble_eq_true rfl) dX1_ringing_20 (.refl 23) (st' := [.int r4, .int x1]) rfl ?_
      refine AW.ior dX1_ringing_23 (.refl 24) ?_
      refine AW.istore_n (L' := [(1, .int (x1 ||| r4)), (0, .ref k0), (2, .int x2)]) dX1_ringing_24 (.refl 25) (by decide) rfl ?_
      refine AW.iinc (v := (x2 + (1 : Int32))) (L' := [(2, .int (x2 + (1 : Int32))), (1, .int (x1 ||| r4)), (0, .ref k0)]) dX1_ringing_25 (.refl 28) 2 rfl rfl (by decide) rfl ?_
      refine AW.goto (tgt := 4) dX1_ringing_28 (by decide) ?_
      refine AW.sub (L' := [(0, .ref k0), (1, .int (x1 ||| r4)), (2, .int (x2 + (1 : Int32)))]) [2, 1, 0] rfl ?_
      exact ih (x1 ||| r4) (x2 + (1 : Int32)) h
set_option maxRecDepth 20000 in
theorem c_X1_ringing {l : Launch} {G : Gg} {k0 : Nat} (hk0 : cTag k0 = 1)  {σ : Mm} {v : Int32} (h : f_X1_ringing σ k0  = some v) : MR l G 2 M_X1_ringing [.ref k0] σ (some (.int v)) σ := by
  unfold f_X1_ringing at h
  refine MR.of (by decide +kernel) (Nat.le_of_ble_eq_true rfl) ?_
  show AW l G 2 M_X1_ringing (some (.int v)) σ 0 [(0, .ref k0)] [] σ
  refine AW.iconst (v := (0 : Int32)) dX1_ringing_0 (.refl 1) (by decide) ?_
  refine AW.istore_n (L' := [(1, .int (0 : Int32)), (0, .ref k0)]) dX1_ringing_1 (.refl 2) (by decide) rfl ?_
  refine AW.iconst (v := (0 : Int32)) dX1_ringing_2 (.refl 3) (by decide) ?_
  refine AW.istore_n (L' := [(2, .int (0 : Int32)), (1, .int (0 : Int32)), (0, .ref k0)]) dX1_ringing_3 (.refl 4) (by decide) rfl ?_
  refine AW.sub (L' := [(0, .ref k0), (1, .int (0 : Int32)), (2, .int (0 : Int32))]) [2, 1, 0] rfl ?_
  exact a_X1_ringing_p4 hk0 FU (0 : Int32) (0 : Int32) h
def f_X8_hasBell (σ : Mm) (x1 : Int32) : Option (Int32) := (if x1 < 0 then some (0 : Int32) else (if (σ.1 3 0) ≤ x1 then some (0 : Int32) else some (1 : Int32)))
set_option maxRecDepth 20000 in
theorem c_X8_hasBell {l : Launch} {G : Gg} {x1 : Int32} {σ : Mm} {v : Int32} (h : f_X8_hasBell σ x1 = some v) : MR l G 0 M_X8_hasBell [.ref 3, .int x1] σ (some (.int v)) σ := by
  unfold f_X8_hasBell at h
  refine MR.of (by decide +kernel) (Nat.le_of_ble_eq_true rfl) ?_
  show AW l G 0 M_X8_hasBell (some (.int v)) σ 0 [(0, .ref 3), (1, .int x1)] [] σ
  refine AW.iload_n dX8_hasBell_0 (.refl 1) 1 rfl ?_
  refine AW.if_lt (tgt := 16) dX8_hasBell_1 (by decide) (fun c2 => ?_) (fun c2 => ?_)
  · have h := ifp c2 h
    refine AW.iconst (v := (0 : Int32)) dX8_hasBell_16 (.refl 17) (by decide) ?_
    cases h
    exact AW.zreturn rfl (by decide) dX8_hasBell_17
  · have h := ifn c2 h
    refine AW.iload_n dX8_hasBell_4 (.refl 5) 1 rfl ?_
    refine AW.aload_n dX8_hasBell_5 (.refl 6) 0 rfl ?_
    refine AW.getI lk_X8_9 rfl rfl (by decide) dX8_hasBell_6 (.refl 9) ?_
    refine AW.icmp_ge (tgt := 16) dX8_hasBell_9 (by decide) (fun c1 => ?_) (fun c1 => ?_)
    · have h := ifp c1 h
      refine AW.iconst (v := (0 : Int32)) dX8_hasBell_16 (.refl 17) (by decide) ?_
      cases h
      exact AW.zreturn rfl (by decide) dX8_hasBell_17
    · have h := ifn c1 h
      refine AW.iconst (v := (1 : Int32)) dX8_hasBell_12 (.refl 13) (by decide) ?_
      refine AW.goto (tgt := 17) dX8_hasBell_13 (by decide) ?_
      cases h
      exact AW.zreturn rfl (by decide) dX8_hasBell_17
def f_X9_bell (σ : Mm) (x1 : Int32) (x2 : Int32) : Option (Int32) := b1 (f_X8_hasBell σ x1) (fun (r2 : Int32) => (if r2 = 0 then some (-1 : Int32) else (if x2 = (0 : Int32) then b1 (f_X9_at σ 4 x1) (fun (r4 : Int32) => some r4) else (if x2 = (1 : Int32) then b1 (f_X9_at σ 5 x1) (fun (r7 : Int32) => some r7) else (if x2 = (2 : Int32) then b1 (f_X1_ringing σ 16) (fun (r10 : Int32) => b1 (f_X9_secondsOf σ r10 x1) (fun (r12 : Int32) => some r12)) else some (-2 : Int32))))))
set_option maxRecDepth 20000 in
theorem c_X9_bell {l : Launch} {G : Gg} {x1 : Int32} {x2 : Int32} {σ : Mm} {v : Int32} (h : f_X9_bell σ x1 x2 = some v) : MR l G 3 M_X9_bell [.ref 0, .int x1, .int x2] σ (some (.int v)) σ := by
  unfold f_X9_bell at h
  refine MR.of (by decide +kernel) (Nat.le_of_ble_eq_true rfl) ?_
  show AW l G 3 M_X9_bell (some (.int v)) σ 0 [(0, .ref 0), (1, .int x1), (2, .int x2)] [] σ
  refine AW.aload_n dX9_bell_0 (.refl 1) 0 rfl ?_
  refine AW.getR (z := 3) lk_X9_19 rfl rfl (by decide) rfl dX9_bell_1 (.refl 4) ?_
  refine AW.iload_n dX9_bell_4 (.refl 5) 1 rfl ?_
  obtain ⟨r2, e1, h⟩ := b1_s h
  refine AW.callV (r' := (some (.int r2))) (σ' := σ) (rest := []) lm_X9_116 (c_X8_hasBell e1) (by decide) (by decide) rfl rfl (by decide) rfl rfl (Nat.le_of_ble_eq_true rfl) dX9_bell_5 (.refl 8) (st' := [.int r2]) rfl ?_
  refine AW.if_ne (tgt := 13) dX9_bell_8 (by decide) (fun c14 => ?_) (fun c14 => ?_)
  · have h := ifn c14 h
    refine AW.iload_n dX9_bell_13 (.refl 14) 2 rfl ?_
    by_cases c5 : x2 = (0 : Int32)
    · have h := ifp c5 h
      refine AW.tabIn (v := (0 : Int32)) (off := 26) (tgt := 40) dX9_bell_14 c5 (by decide) (by decide) (by decide) (by decide) ?_
      refine AW.aload_n dX9_bell_40 (.refl 41) 0 rfl ?_
      refine AW.getR (z := 3) lk_X9_19 rfl rfl (by decide) rfl dX9_bell_41 (.refl 44) ?_
      refine AW.getR (z := 4) lk_X9_120 rfl rfl (by decide) rfl dX9_bell_44 (.refl 47) ?_
      refine AW.iload_n dX9_bell_47 (.refl 48) 1 rfl ?_
      obtain ⟨r4, e3, h⟩ := b1_s h
      refine AW.callS (r' := (some (.int r4))) (σ' := σ) (rest := []) lm_X9_123 (c_X9_at rfl e3) (by decide) (by decide) rfl rfl (Nat.le_of_ble_eq_true rfl) dX9_bell_48 (.refl 51) (st' := [.int r4]) rfl ?_
      cases h
      exact AW.ireturn rfl dX9_bell_51
    have h := ifn c5 h
    by_cases c8 : x2 = (1 : Int32)
    · have h := ifp c8 h
      refine AW.tabIn (v := (1 : Int32)) (off := 38) (tgt := 52) dX9_bell_14 c8 (by decide) (by decide) (by decide) (by decide) ?_
      refine AW.aload_n dX9_bell_52 (.refl 53) 0 rfl ?_
      refine AW.getR (z := 3) lk_X9_19 rfl rfl (by decide) rfl dX9_bell_53 (.refl 56) ?_
      refine AW.getR (z := 5) lk_X9_127 rfl rfl (by decide) rfl dX9_bell_56 (.refl 59) ?_
      refine AW.iload_n dX9_bell_59 (.refl 60) 1 rfl ?_
      obtain ⟨r7, e6, h⟩ := b1_s h
      refine AW.callS (r' := (some (.int r7))) (σ' := σ) (rest := []) lm_X9_123 (c_X9_at rfl e6) (by decide) (by decide) rfl rfl (Nat.le_of_ble_eq_true rfl) dX9_bell_60 (.refl 63) (st' := [.int r7]) rfl ?_
      cases h
      exact AW.ireturn rfl dX9_bell_63
    have h := ifn c8 h
    by_cases c13 : x2 = (2 : Int32)
    · have h := ifp c13 h
      refine AW.tabIn (v := (2 : Int32)) (off := 50) (tgt := 64) dX9_bell_14 c13 (by decide) (by decide) (by decide) (by decide) ?_
      refine AW.aload_n dX9_bell_64 (.refl 65) 0 rfl ?_
      refine AW.getR (z := 16) lk_X9_28 rfl rfl (by decide) rfl dX9_bell_65 (.refl 68) ?_
      obtain ⟨r10, e9, h⟩ := b1_s h
      refine AW.callV (r' := (some (.int r10))) (σ' := σ) (rest := []) lm_X9_130 (c_X1_ringing rfl e9) (by decide) (by decide) rfl rfl (by decide) rfl rfl (Nat.le_of_ble_eq_true rfl) dX9_bell_68 (.refl 71) (st' := [.int r10]) rfl ?_
      refine AW.iload_n dX9_bell_71 (.refl 72) 1 rfl ?_
      obtain ⟨r12, e11, h⟩ := b1_s h
      refine AW.callS (r' := (some (.int r12))) (σ' := σ) (rest := []) lm_X9_133 (c_X9_secondsOf e11) (by decide) (by decide) rfl rfl (Nat.le_of_ble_eq_true rfl) dX9_bell_72 (.refl 75) (st' := [.int r12]) rfl ?_
      cases h
      exact AW.ireturn rfl dX9_bell_75
    have h := ifn c13 h
    refine AW.tabOut (tgt := 76) dX9_bell_14 (tab_out _ 2 (fun i hi => by
      rcases (show i = 0 ∨ i = 1 ∨ i = 2 by omega) with rfl | rfl | rfl
      · exact c5
      · exact c8
      · exact c13) (by decide)) (by decide) ?_
    refine AW.bipush (v := (-2 : Int32)) dX9_bell_76 (.refl 78) (by decide) ?_
    cases h
    exact AW.ireturn rfl dX9_bell_78
  · have h := ifp c14 h
    refine AW.iconst (v := (-1 : Int32)) dX9_bell_11 (.refl 12) (by decide) ?_
    cases h
    exact AW.ireturn rfl dX9_bell_12
def f_X8_hasBidder (σ : Mm) (x1 : Int32) : Option (Int32) := (if x1 < 0 then some (0 : Int32) else (if (σ.1 3 1) ≤ x1 then some (0 : Int32) else some (1 : Int32)))
set_option maxRecDepth 20000 in
theorem c_X8_hasBidder {l : Launch} {G : Gg} {x1 : Int32} {σ : Mm} {v : Int32} (h : f_X8_hasBidder σ x1 = some v) : MR l G 0 M_X8_hasBidder [.ref 3, .int x1] σ (some (.int v)) σ := by
  unfold f_X8_hasBidder at h
  refine MR.of (by decide +kernel) (Nat.le_of_ble_eq_true rfl) ?_
  show AW l G 0 M_X8_hasBidder (some (.int v)) σ 0 [(0, .ref 3), (1, .int x1)] [] σ
  refine AW.iload_n dX8_hasBidder_0 (.refl 1) 1 rfl ?_
  refine AW.if_lt (tgt := 16) dX8_hasBidder_1 (by decide) (fun c2 => ?_) (fun c2 => ?_)
  · have h := ifp c2 h
    refine AW.iconst (v := (0 : Int32)) dX8_hasBidder_16 (.refl 17) (by decide) ?_
    cases h
    exact AW.zreturn rfl (by decide) dX8_hasBidder_17
  · have h := ifn c2 h
    refine AW.iload_n dX8_hasBidder_4 (.refl 5) 1 rfl ?_
    refine AW.aload_n dX8_hasBidder_5 (.refl 6) 0 rfl ?_
    refine AW.getI lk_X8_15 rfl rfl (by decide) dX8_hasBidder_6 (.refl 9) ?_
    refine AW.icmp_ge (tgt := 16) dX8_hasBidder_9 (by decide) (fun c1 => ?_) (fun c1 => ?_)
    · have h := ifp c1 h
      refine AW.iconst (v := (0 : Int32)) dX8_hasBidder_16 (.refl 17) (by decide) ?_
      cases h
      exact AW.zreturn rfl (by decide) dX8_hasBidder_17
    · have h := ifn c1 h
      refine AW.iconst (v := (1 : Int32)) dX8_hasBidder_12 (.refl 13) (by decide) ?_
      refine AW.goto (tgt := 17) dX8_hasBidder_13 (by decide) ?_
      cases h
      exact AW.zreturn rfl (by decide) dX8_hasBidder_17
def f_X9_bidder (σ : Mm) (x1 : Int32) (x2 : Int32) : Option (Int32) := b1 (f_X8_hasBidder σ x1) (fun (r2 : Int32) => (if r2 = 0 then some (-1 : Int32) else (if x2 = (0 : Int32) then b1 (f_X9_at σ 6 x1) (fun (r4 : Int32) => some r4) else (if x2 = (1 : Int32) then b1 (f_X9_at σ 7 x1) (fun (r7 : Int32) => some r7) else (if x2 = (2 : Int32) then b1 (f_X9_at σ 8 x1) (fun (r10 : Int32) => some r10) else (if x2 = (3 : Int32) then b1 (f_X9_at σ 9 x1) (fun (r13 : Int32) => some r13) else (if x2 = (4 : Int32) then b1 (f_X9_at σ 10 x1) (fun (r16 : Int32) => some r16) else (if x2 = (5 : Int32) then b1 (f_X9_at σ 11 x1) (fun (r19 : Int32) => some r19) else (if x2 = (6 : Int32) then b1 (f_X1_secondOf σ 16 x1) (fun (r22 : Int32) => some r22) else (if x2 = (7 : Int32) then b1 (f_X9_at σ 12 x1) (fun (r25 : Int32) => some r25) else some (-2 : Int32)))))))))))
set_option maxRecDepth 20000 in
theorem c_X9_bidder {l : Launch} {G : Gg} {x1 : Int32} {x2 : Int32} {σ : Mm} {v : Int32} (h : f_X9_bidder σ x1 x2 = some v) : MR l G 2 M_X9_bidder [.ref 0, .int x1, .int x2] σ (some (.int v)) σ := by
  unfold f_X9_bidder at h
  refine MR.of (by decide +kernel) (Nat.le_of_ble_eq_true rfl) ?_
  show AW l G 2 M_X9_bidder (some (.int v)) σ 0 [(0, .ref 0), (1, .int x1), (2, .int x2)] [] σ
  refine AW.aload_n dX9_bidder_0 (.refl 1) 0 rfl ?_
  refine AW.getR (z := 3) lk_X9_19 rfl rfl (by decide) rfl dX9_bidder_1 (.refl 4) ?_
  refine AW.iload_n dX9_bidder_4 (.refl 5) 1 rfl ?_
  obtain ⟨r2, e1, h⟩ := b1_s h
  refine AW.callV (r' := (some (.int r2))) (σ' := σ) (rest := []) lm_X9_137 (c_X8_hasBidder e1) (by decide) (by decide) rfl rfl (by decide) rfl rfl (Nat.le_of_ble_eq_true rfl) dX9_bidder_5 (.refl 8) (st' := [.int r2]) rfl ?_
  refine AW.if_ne (tgt := 13) dX9_bidder_8 (by decide) (fun c27 => ?_) (fun c27 => ?_)
  · have h := ifn c27 h
    refine AW.iload_n dX9_bidder_13 (.refl 14) 2 rfl ?_
    by_cases c5 : x2 = (0 : Int32)
    · have h := ifp c5 h
      refine AW.tabIn (v := (0 : Int32)) (off := 46) (tgt := 60) dX9_bidder_14 c5 (by decide) (by decide) (by decide) (by decide) ?_
      refine AW.aload_n dX9_bidder_60 (.refl 61) 0 rfl ?_
      refine AW.getR (z := 3) lk_X9_19 rfl rfl (by decide) rfl dX9_bidder_61 (.refl 64) ?_
      refine AW.getR (z := 6) lk_X9_140 rfl rfl (by decide) rfl dX9_bidder_64 (.refl 67) ?_
      refine AW.iload_n dX9_bidder_67 (.refl 68) 1 rfl ?_
      obtain ⟨r4, e3, h⟩ := b1_s h
      refine AW.callS (r' := (some (.int r4))) (σ' := σ) (rest := []) lm_X9_123 (c_X9_at rfl e3) (by decide) (by decide) rfl rfl (Nat.le_of_ble_eq_true rfl) dX9_bidder_68 (.refl 71) (st' := [.int r4]) rfl ?_
      cases h
      exact AW.ireturn rfl dX9_bidder_71
    have h := ifn c5 h
    by_cases c8 : x2 = (1 : Int32)
    · have h := ifp c8 h
      refine AW.tabIn (v := (1 : Int32)) (off := 58) (tgt := 72) dX9_bidder_14 c8 (by decide) (by decide) (by decide) (by decide) ?_
      refine AW.aload_n dX9_bidder_72 (.refl 73) 0 rfl ?_
      refine AW.getR (z := 3) lk_X9_19 rfl rfl (by decide) rfl dX9_bidder_73 (.refl 76) ?_
      refine AW.getR (z := 7) lk_X9_143 rfl rfl (by decide) rfl dX9_bidder_76 (.refl 79) ?_
      refine AW.iload_n dX9_bidder_79 (.refl 80) 1 rfl ?_
      obtain ⟨r7, e6, h⟩ := b1_s h
      refine AW.callS (r' := (some (.int r7))) (σ' := σ) (rest := []) lm_X9_123 (c_X9_at rfl e6) (by decide) (by decide) rfl rfl (Nat.le_of_ble_eq_true rfl) dX9_bidder_80 (.refl 83) (st' := [.int r7]) rfl ?_
      cases h
      exact AW.ireturn rfl dX9_bidder_83
    have h := ifn c8 h
    by_cases c11 : x2 = (2 : Int32)
    · have h := ifp c11 h
      refine AW.tabIn (v := (2 : Int32)) (off := 70) (tgt := 84) dX9_bidder_14 c11 (by decide) (by decide) (by decide) (by decide) ?_
      refine AW.aload_n dX9_bidder_84 (.refl 85) 0 rfl ?_
      refine AW.getR (z := 3) lk_X9_19 rfl rfl (by decide) rfl dX9_bidder_85 (.refl 88) ?_
      refine AW.getR (z := 8) lk_X9_146 rfl rfl (by decide) rfl dX9_bidder_88 (.refl 91) ?_
      refine AW.iload_n dX9_bidder_91 (.refl 92) 1 rfl ?_
      obtain ⟨r10, e9, h⟩ := b1_s h
      refine AW.callS (r' := (some (.int r10))) (σ' := σ) (rest := []) lm_X9_123 (c_X9_at rfl e9) (by decide) (by decide) rfl rfl (Nat.le_of_ble_eq_true rfl) dX9_bidder_92 (.refl 95) (st' := [.int r10]) rfl ?_
      cases h
      exact AW.ireturn rfl dX9_bidder_95
    have h := ifn c11 h
    by_cases c14 : x2 = (3 : Int32)
    · have h := ifp c14 h
      refine AW.tabIn (v := (3 : Int32)) (off := 82) (tgt := 96) dX9_bidder_14 c14 (by decide) (by decide) (by decide) (by decide) ?_
      refine AW.aload_n dX9_bidder_96 (.refl 97) 0 rfl ?_
      refine AW.getR (z := 3) lk_X9_19 rfl rfl (by decide) rfl dX9_bidder_97 (.refl 100) ?_
      refine AW.getR (z := 9) lk_X9_149 rfl rfl (by decide) rfl dX9_bidder_100 (.refl 103) ?_
      refine AW.iload_n dX9_bidder_103 (.refl 104) 1 rfl ?_
      obtain ⟨r13, e12, h⟩ := b1_s h
      refine AW.callS (r' := (some (.int r13))) (σ' := σ) (rest := []) lm_X9_123 (c_X9_at rfl e12) (by decide) (by decide) rfl rfl (Nat.le_of_ble_eq_true rfl) dX9_bidder_104 (.refl 107) (st' := [.int r13]) rfl ?_
      cases h
      exact AW.ireturn rfl dX9_bidder_107
    have h := ifn c14 h
    by_cases c17 : x2 = (4 : Int32)
    · have h := ifp c17 h
      refine AW.tabIn (v := (4 : Int32)) (off := 94) (tgt := 108) dX9_bidder_14 c17 (by decide) (by decide) (by decide) (by decide) ?_
      refine AW.aload_n dX9_bidder_108 (.refl 109) 0 rfl ?_
      refine AW.getR (z := 3) lk_X9_19 rfl rfl (by decide) rfl dX9_bidder_109 (.refl 112) ?_
      refine AW.getR (z := 10) lk_X9_152 rfl rfl (by decide) rfl dX9_bidder_112 (.refl 115) ?_
      refine AW.iload_n dX9_bidder_115 (.refl 116) 1 rfl ?_
      obtain ⟨r16, e15, h⟩ := b1_s h
      refine AW.callS (r' := (some (.int r16))) (σ' := σ) (rest := []) lm_X9_123 (c_X9_at rfl e15) (by decide) (by decide) rfl rfl (Nat.le_of_ble_eq_true rfl) dX9_bidder_116 (.refl 119) (st' := [.int r16]) rfl ?_
      cases h
      exact AW.ireturn rfl dX9_bidder_119
    have h := ifn c17 h
    by_cases c20 : x2 = (5 : Int32)
    · have h := ifp c20 h
      refine AW.tabIn (v := (5 : Int32)) (off := 106) (tgt := 120) dX9_bidder_14 c20 (by decide) (by decide) (by decide) (by decide) ?_
      refine AW.aload_n dX9_bidder_120 (.refl 121) 0 rfl ?_
      refine AW.getR (z := 3) lk_X9_19 rfl rfl (by decide) rfl dX9_bidder_121 (.refl 124) ?_
      refine AW.getR (z := 11) lk_X9_155 rfl rfl (by decide) rfl dX9_bidder_124 (.refl 127) ?_
      refine AW.iload_n dX9_bidder_127 (.refl 128) 1 rfl ?_
      obtain ⟨r19, e18, h⟩ := b1_s h
      refine AW.callS (r' := (some (.int r19))) (σ' := σ) (rest := []) lm_X9_123 (c_X9_at rfl e18) (by decide) (by decide) rfl rfl (Nat.le_of_ble_eq_true rfl) dX9_bidder_128 (.refl 131) (st' := [.int r19]) rfl ?_
      cases h
      exact AW.ireturn rfl dX9_bidder_131
    have h := ifn c20 h
    by_cases c23 : x2 = (6 : Int32)
    · have h := ifp c23 h
      refine AW.tabIn (v := (6 : Int32)) (off := 118) (tgt := 132) dX9_bidder_14 c23 (by decide) (by decide) (by decide) (by decide) ?_
      refine AW.aload_n dX9_bidder_132 (.refl 133) 0 rfl ?_
      refine AW.getR (z := 16) lk_X9_28 rfl rfl (by decide) rfl dX9_bidder_133 (.refl 136) ?_
      refine AW.iload_n dX9_bidder_136 (.refl 137) 1 rfl ?_
      obtain ⟨r22, e21, h⟩ := b1_s h
      refine AW.callV (r' := (some (.int r22))) (σ' := σ) (rest := []) lm_X9_158 (c_X1_secondOf rfl e21) (by decide) (by decide) rfl rfl (by decide) rfl rfl (Nat.le_of_ble_eq_true rfl) dX9_bidder_137 (.refl 140) (st' := [.int r22]) rfl ?_
      cases h
      exact AW.ireturn rfl dX9_bidder_140
    have h := ifn c23 h
    by_cases c26 : x2 = (7 : Int32)
    · have h := ifp c26 h
      refine AW.tabIn (v := (7 : Int32)) (off := 127) (tgt := 141) dX9_bidder_14 c26 (by decide) (by decide) (by decide) (by decide) ?_
      refine AW.aload_n dX9_bidder_141 (.refl 142) 0 rfl ?_
      refine AW.getR (z := 3) lk_X9_19 rfl rfl (by decide) rfl dX9_bidder_142 (.refl 145) ?_
      refine AW.getR (z := 12) lk_X9_161 rfl rfl (by decide) rfl dX9_bidder_145 (.refl 148) ?_
      refine AW.iload_n dX9_bidder_148 (.refl 149) 1 rfl ?_
      obtain ⟨r25, e24, h⟩ := b1_s h
      refine AW.callS (r' := (some (.int r25))) (σ' := σ) (rest := []) lm_X9_123 (c_X9_at rfl e24) (by decide) (by decide) rfl rfl (Nat.le_of_ble_eq_true rfl) dX9_bidder_149 (.refl 152) (st' := [.int r25]) rfl ?_
      cases h
      exact AW.ireturn rfl dX9_bidder_152
    have h := ifn c26 h
    refine AW.tabOut (tgt := 153) dX9_bidder_14 (tab_out _ 7 (fun i hi => by
      rcases (show i = 0 ∨ i = 1 ∨ i = 2 ∨ i = 3 ∨ i = 4 ∨ i = 5 ∨ i = 6 ∨ i = 7 by omega) with rfl | rfl | rfl | rfl | rfl | rfl | rfl | rfl
      · exact c5
      · exact c8
      · exact c11
      · exact c14
      · exact c17
      · exact c20
      · exact c23
      · exact c26) (by decide)) (by decide) ?_
    refine AW.bipush (v := (-2 : Int32)) dX9_bidder_153 (.refl 155) (by decide) ?_
    cases h
    exact AW.ireturn rfl dX9_bidder_155
  · have h := ifp c27 h
    refine AW.iconst (v := (-1 : Int32)) dX9_bidder_11 (.refl 12) (by decide) ?_
    cases h
    exact AW.ireturn rfl dX9_bidder_12
def f_X9_bellsAt_p4 (σ : Mm) : Nat → Int32 → Int32 → Int32 → Int32 → Option (Int32)
  | 0, _, _, _, _ => none
  | n + 1, x0, x1, x2, x3 => (if (3 : Int32) ≤ x3 then some x2 else b1 (f_X9_secondsOf σ x0 x3) (fun (r2 : Int32) => bnd ((x2 ||| (jshl ((jushr r2 x1) &&& (1 : Int32)) x3))) (fun (y3 : Int32) => (f_X9_bellsAt_p4 σ n) x0 x1 y3 (x3 + (1 : Int32)))))
def f_X9_bellsAt (σ : Mm) (x0 : Int32) (x1 : Int32) : Option (Int32) := f_X9_bellsAt_p4 σ FU x0 x1 (0 : Int32) (0 : Int32)
set_option maxRecDepth 20000 in
theorem a_X9_bellsAt_p4 {l : Launch} {G : Gg} {v : Int32} {σ : Mm} : ∀ (n : Nat) (x0 : Int32) (x1 : Int32) (x2 : Int32) (x3 : Int32), f_X9_bellsAt_p4 σ n x0 x1 x2 x3 = some v → AW l G 1 M_X9_bellsAt (some (.int v)) σ 4 [(0, .int x0), (1, .int x1), (2, .int x2), (3, .int x3)] [] σ := by
  intro n
  induction n with
  | zero => intro x0 x1 x2 x3 h; exact no_some h
  | succ n ih =>
    intro x0 x1 x2 x3 h
    rw [f_X9_bellsAt_p4] at h
    refine AW.iload_n dX9_bellsAt_4 (.refl 5) 3 rfl ?_
    refine AW.iconst (v := (3 : Int32)) dX9_bellsAt_5 (.refl 6) (by decide) ?_
    refine AW.icmp_ge (tgt := 29) dX9_bellsAt_6 (by decide) (fun c5 => ?_) (fun c5 => ?_)
    · have h := ifp c5 h
      refine AW.iload_n dX9_bellsAt_29 (.refl 30) 2 rfl ?_
      cases h
      exact AW.ireturn rfl dX9_bellsAt_30
    · have h := ifn c5 h
      refine AW.iload_n dX9_bellsAt_9 (.refl 10) 2 rfl ?_
      refine AW.iload_n dX9_bellsAt_10 (.refl 11) 0 rfl ?_
      refine AW.iload_n dX9_bellsAt_11 (.refl 12) 3 rfl ?_
      obtain ⟨r2, e1, h⟩ := b1_s h
      refine AW.callS (r' := (some (.int r2))) (σ' := σ) (rest := [.int x2]) lm_X9_133 (c_X9_secondsOf e1) (by decide) (by decide) rfl rfl (Nat.le_of_ble_eq_true rfl) dX9_bellsAt_12 (.refl 15) (st' := [.int r2, .int x2]) rfl ?_
      refine AW.iload_n dX9_bellsAt_15 (.refl 16) 1 rfl ?_
      refine AW.iushr dX9_bellsAt_16 (.refl 17) ?_
      refine AW.iconst (v := (1 : Int32)) dX9_bellsAt_17 (.refl 18) (by decide) ?_
      refine AW.iand dX9_bellsAt_18 (.refl 19) ?_
      refine AW.iload_n dX9_bellsAt_19 (.refl 20) 3 rfl ?_
      refine AW.ishl dX9_bellsAt_20 (.refl 21) ?_
      refine AW.ior dX9_bellsAt_21 (.refl 22) ?_
      obtain ⟨y3, e4, h⟩ := bnd_s h
      refine AW.nmI e4 ?_
      refine AW.istore_n (L' := [(2, .int y3), (0, .int x0), (1, .int x1), (3, .int x3)]) dX9_bellsAt_22 (.refl 23) (by decide) rfl ?_
      refine AW.iinc (v := (x3 + (1 : Int32))) (L' := [(3, .int (x3 + (1 : Int32))), (2, .int y3), (0, .int x0), (1, .int x1)]) dX9_bellsAt_23 (.refl 26) 3 rfl rfl (by decide) rfl ?_
      refine AW.goto (tgt := 4) dX9_bellsAt_26 (by decide) ?_
      refine AW.sub (L' := [(0, .int x0), (1, .int x1), (2, .int y3), (3, .int (x3 + (1 : Int32)))]) [2, 3, 1, 0] rfl ?_
      exact ih x0 x1 y3 (x3 + (1 : Int32)) h
set_option maxRecDepth 20000 in
theorem c_X9_bellsAt {l : Launch} {G : Gg} {x0 : Int32} {x1 : Int32} {σ : Mm} {v : Int32} (h : f_X9_bellsAt σ x0 x1 = some v) : MR l G 1 M_X9_bellsAt [.int x0, .int x1] σ (some (.int v)) σ := by
  unfold f_X9_bellsAt at h
  refine MR.of (by decide +kernel) (Nat.le_of_ble_eq_true rfl) ?_
  show AW l G 1 M_X9_bellsAt (some (.int v)) σ 0 [(0, .int x0), (1, .int x1)] [] σ
  refine AW.iconst (v := (0 : Int32)) dX9_bellsAt_0 (.refl 1) (by decide) ?_
  refine AW.istore_n (L' := [(2, .int (0 : Int32)), (0, .int x0), (1, .int x1)]) dX9_bellsAt_1 (.refl 2) (by decide) rfl ?_
  refine AW.iconst (v := (0 : Int32)) dX9_bellsAt_2 (.refl 3) (by decide) ?_
  refine AW.istore_n (L' := [(3, .int (0 : Int32)), (2, .int (0 : Int32)), (0, .int x0), (1, .int x1)]) dX9_bellsAt_3 (.refl 4) (by decide) rfl ?_
  refine AW.sub (L' := [(0, .int x0), (1, .int x1), (2, .int (0 : Int32)), (3, .int (0 : Int32))]) [2, 3, 1, 0] rfl ?_
  exact a_X9_bellsAt_p4 FU x0 x1 (0 : Int32) (0 : Int32) h
def f_X9_isSecond (σ : Mm) (x0 : Int32) : Option (Int32) := (if x0 < 0 then some (0 : Int32) else (if (10 : Int32) ≤ x0 then some (0 : Int32) else some (1 : Int32)))
set_option maxRecDepth 20000 in
theorem c_X9_isSecond {l : Launch} {G : Gg} {x0 : Int32} {σ : Mm} {v : Int32} (h : f_X9_isSecond σ x0 = some v) : MR l G 0 M_X9_isSecond [.int x0] σ (some (.int v)) σ := by
  unfold f_X9_isSecond at h
  refine MR.of (by decide +kernel) (Nat.le_of_ble_eq_true rfl) ?_
  show AW l G 0 M_X9_isSecond (some (.int v)) σ 0 [(0, .int x0)] [] σ
  refine AW.iload_n dX9_isSecond_0 (.refl 1) 0 rfl ?_
  refine AW.if_lt (tgt := 14) dX9_isSecond_1 (by decide) (fun c2 => ?_) (fun c2 => ?_)
  · have h := ifp c2 h
    refine AW.iconst (v := (0 : Int32)) dX9_isSecond_14 (.refl 15) (by decide) ?_
    cases h
    exact AW.zreturn rfl (by decide) dX9_isSecond_15
  · have h := ifn c2 h
    refine AW.iload_n dX9_isSecond_4 (.refl 5) 0 rfl ?_
    refine AW.bipush (v := (10 : Int32)) dX9_isSecond_5 (.refl 7) (by decide) ?_
    refine AW.icmp_ge (tgt := 14) dX9_isSecond_7 (by decide) (fun c1 => ?_) (fun c1 => ?_)
    · have h := ifp c1 h
      refine AW.iconst (v := (0 : Int32)) dX9_isSecond_14 (.refl 15) (by decide) ?_
      cases h
      exact AW.zreturn rfl (by decide) dX9_isSecond_15
    · have h := ifn c1 h
      refine AW.iconst (v := (1 : Int32)) dX9_isSecond_10 (.refl 11) (by decide) ?_
      refine AW.goto (tgt := 15) dX9_isSecond_11 (by decide) ?_
      cases h
      exact AW.zreturn rfl (by decide) dX9_isSecond_15
def f_X9_rings (σ : Mm) (x1 : Int32) : Option (Int32) := b1 (f_X9_isSecond σ x1) (fun (r2 : Int32) => (if r2 = 0 then some (-2 : Int32) else b1 (f_X1_ringing σ 16) (fun (r4 : Int32) => b1 (f_X9_bellsAt σ r4 x1) (fun (r6 : Int32) => some r6))))
set_option maxRecDepth 20000 in
theorem c_X9_rings {l : Launch} {G : Gg} {x1 : Int32} {σ : Mm} {v : Int32} (h : f_X9_rings σ x1 = some v) : MR l G 3 M_X9_rings [.ref 0, .int x1] σ (some (.int v)) σ := by
  unfold f_X9_rings at h
  refine MR.of (by decide +kernel) (Nat.le_of_ble_eq_true rfl) ?_
  show AW l G 3 M_X9_rings (some (.int v)) σ 0 [(0, .ref 0), (1, .int x1)] [] σ
  refine AW.iload_n dX9_rings_0 (.refl 1) 1 rfl ?_
  obtain ⟨r2, e1, h⟩ := b1_s h
  refine AW.callS (r' := (some (.int r2))) (σ' := σ) (rest := []) lm_X9_164 (c_X9_isSecond e1) (by decide) (by decide) rfl rfl (Nat.le_of_ble_eq_true rfl) dX9_rings_1 (.refl 4) (st' := [.int r2]) rfl ?_
  refine AW.if_ne (tgt := 10) dX9_rings_4 (by decide) (fun c7 => ?_) (fun c7 => ?_)
  · have h := ifn c7 h
    refine AW.aload_n dX9_rings_10 (.refl 11) 0 rfl ?_
    refine AW.getR (z := 16) lk_X9_28 rfl rfl (by decide) rfl dX9_rings_11 (.refl 14) ?_
    obtain ⟨r4, e3, h⟩ := b1_s h
    refine AW.callV (r' := (some (.int r4))) (σ' := σ) (rest := []) lm_X9_130 (c_X1_ringing rfl e3) (by decide) (by decide) rfl rfl (by decide) rfl rfl (Nat.le_of_ble_eq_true rfl) dX9_rings_14 (.refl 17) (st' := [.int r4]) rfl ?_
    refine AW.iload_n dX9_rings_17 (.refl 18) 1 rfl ?_
    obtain ⟨r6, e5, h⟩ := b1_s h
    refine AW.callS (r' := (some (.int r6))) (σ' := σ) (rest := []) lm_X9_167 (c_X9_bellsAt e5) (by decide) (by decide) rfl rfl (Nat.le_of_ble_eq_true rfl) dX9_rings_18 (.refl 21) (st' := [.int r6]) rfl ?_
    cases h
    exact AW.ireturn rfl dX9_rings_21
  · have h := ifp c7 h
    refine AW.bipush (v := (-2 : Int32)) dX9_rings_7 (.refl 9) (by decide) ?_
    cases h
    exact AW.ireturn rfl dX9_rings_9
