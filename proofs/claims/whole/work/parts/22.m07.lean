def f_X10_hands_p6 (ke36 : Mm → Option (Int32 × Mm)) : Nat → Int32 → Mm → Option (Int32 × Mm)
  | 0, _, _ => none
  | n + 1, x1, σ => (if (σ.1 46 29) ≤ x1 then ke36 σ else gd (inB x1 15) (gd (inB x1 15) (bnd ((sI (sI σ 66 (x1).toNatClampNeg (-9 : Int32)) 67 (x1).toNatClampNeg (-9 : Int32))) (fun (σ3 : Mm) => (f_X10_hands_p6 ke36 n) (x1 + (1 : Int32)) σ3))))
def f_X10_hands_p43 : Nat → Int32 → Int32 → Mm → Option (Int32 × Mm)
  | 0, _, _, _ => none
  | n + 1, x1, x2, σ => (if (σ.1 46 29) ≤ x2 then some (x1, σ) else b2 (f_X10_grow x2 σ) (fun (r2 : Int32) (τ3 : Mm) => (if r2 = 0 then (f_X10_hands_p43 n) (x1 - (0 : Int32)) (x2 + (1 : Int32)) τ3 else (f_X10_hands_p43 n) (x1 - (1 : Int32)) (x2 + (1 : Int32)) τ3)))
def f_X10_hands_p36 (σ : Mm) : Option (Int32 × Mm) := f_X10_hands_p43 FU (σ.1 46 29) (0 : Int32) σ
def f_X10_hands  (σ : Mm) : Option (Int32 × Mm) := b1 (f_X10_layStrokes σ) (fun (τ2 : Mm) => f_X10_hands_p6 (f_X10_hands_p36) FU (0 : Int32) τ2)
set_option maxRecDepth 20000 in
theorem a_X10_hands_p6 {l : Launch} {G : Gg} {v : Int32} {τ : Mm} {ke36 : Mm → Option (Int32 × Mm)} (he36 : ∀  (σ : Mm), ke36  σ = some (v, τ) → AW l G 2 M_X10_hands (some (.int v)) τ 36 [(0, .ref 46)] [] σ) : ∀ (n : Nat) (x1 : Int32) (σ : Mm), f_X10_hands_p6 ke36 n x1 σ = some (v, τ) → AW l G 2 M_X10_hands (some (.int v)) τ 6 [(0, .ref 46), (1, .int x1)] [] σ := by
  intro n
  induction n with
  | zero => intro x1 σ h; exact no_some h
  | succ n ih =>
    intro x1 σ h
    rw [f_X10_hands_p6] at h
    refine AW.iload_n dX10_hands_6 (.refl 7) 1 rfl ?_
    refine AW.aload_n dX10_hands_7 (.refl 8) 0 rfl ?_
    refine AW.getI lk_X10_247 rfl rfl (by decide) dX10_hands_8 (.refl 11) ?_
    refine AW.icmp_ge (tgt := 36) dX10_hands_11 (by decide) (fun c5 => ?_) (fun c5 => ?_)
    · have h := ifp c5 h
      refine AW.sub (L' := [(0, .ref 46)]) [0] rfl ?_
      exact he36 σ h
    · have h := ifn c5 h
      refine AW.aload_n dX10_hands_14 (.refl 15) 0 rfl ?_
      refine AW.getR (z := 66) lk_X10_68 rfl rfl (by decide) rfl dX10_hands_15 (.refl 18) ?_
      refine AW.iload_n dX10_hands_18 (.refl 19) 1 rfl ?_
      refine AW.bipush (v := (-9 : Int32)) dX10_hands_19 (.refl 21) (by decide) ?_
      obtain ⟨g1, h⟩ := gd_s h
      refine AW.iastore rfl g1 dX10_hands_21 (.refl 22) ?_
      refine AW.aload_n dX10_hands_22 (.refl 23) 0 rfl ?_
      refine AW.getR (z := 67) lk_X10_71 rfl rfl (by decide) rfl dX10_hands_23 (.refl 26) ?_
      refine AW.iload_n dX10_hands_26 (.refl 27) 1 rfl ?_
      refine AW.bipush (v := (-9 : Int32)) dX10_hands_27 (.refl 29) (by decide) ?_
      obtain ⟨g2, h⟩ := gd_s h
      refine AW.iastore rfl g2 dX10_hands_29 (.refl 30) ?_
      obtain ⟨σ3, e4, h⟩ := bnd_s h
      refine AW.nmM e4 ?_
      refine AW.iinc (v := (x1 + (1 : Int32))) (L' := [(1, .int (x1 + (1 : Int32))), (0, .ref 46)]) dX10_hands_30 (.refl 33) 1 rfl rfl (by decide) rfl ?_
      refine AW.goto (tgt := 6) dX10_hands_33 (by decide) ?_
      refine AW.sub (L' := [(0, .ref 46), (1, .int (x1 + (1 : Int32)))]) [1, 0] rfl ?_
      exact ih (x1 + (1 : Int32)) σ3 h
set_option maxRecDepth 20000 in
theorem a_X10_hands_p43 {l : Launch} {G : Gg} {v : Int32} {τ : Mm} : ∀ (n : Nat) (x1 : Int32) (x2 : Int32) (σ : Mm), f_X10_hands_p43 n x1 x2 σ = some (v, τ) → AW l G 2 M_X10_hands (some (.int v)) τ 43 [(0, .ref 46), (1, .int x1), (2, .int x2)] [] σ := by
  intro n
  induction n with
  | zero => intro x1 x2 σ h; exact no_some h
  | succ n ih =>
    intro x1 x2 σ h
    rw [f_X10_hands_p43] at h
    refine AW.iload_n dX10_hands_43 (.refl 44) 2 rfl ?_
    refine AW.aload_n dX10_hands_44 (.refl 45) 0 rfl ?_
    refine AW.getI lk_X10_247 rfl rfl (by decide) dX10_hands_45 (.refl 48) ?_
    refine AW.icmp_ge (tgt := 73) dX10_hands_48 (by decide) (fun c5 => ?_) (fun c5 => ?_)
    · have h := ifp c5 h
      refine AW.iload_n dX10_hands_73 (.refl 74) 1 rfl ?_
      cases h
      exact AW.ireturn rfl dX10_hands_74
    · have h := ifn c5 h
      refine AW.iload_n dX10_hands_51 (.refl 52) 1 rfl ?_
      refine AW.aload_n dX10_hands_52 (.refl 53) 0 rfl ?_
      refine AW.iload_n dX10_hands_53 (.refl 54) 2 rfl ?_
      obtain ⟨r2, τ3, e1, h⟩ := b2_s h
      refine AW.callV (r' := (some (.int r2))) (σ' := τ3) (rest := [.int x1]) lm_X10_259 (c_X10_grow e1) (by decide) (by decide) rfl rfl (by decide) rfl rfl (Nat.le_of_ble_eq_true rfl) dX10_hands_54 (.refl 57) (st' := [.int r2, .int x1]) rfl ?_
      refine AW.if_eq (tgt := 64) dX10_hands_57 (by decide) (fun c4 => ?_) (fun c4 => ?_)
      · have h := ifp c4 h
        refine AW.iconst (v := (0 : Int32)) dX10_hands_64 (.refl 65) (by decide) ?_
        refine AW.isub dX10_hands_65 (.refl 66) ?_
        refine AW.istore_n (L' := [(1, .int (x1 - (0 : Int32))), (0, .ref 46), (2, .int x2)]) dX10_hands_66 (.refl 67) (by decide) rfl ?_
        refine AW.iinc (v := (x2 + (1 : Int32))) (L' := [(2, .int (x2 + (1 : Int32))), (1, .int (x1 - (0 : Int32))), (0, .ref 46)]) dX10_hands_67 (.refl 70) 2 rfl rfl (by decide) rfl ?_
        refine AW.goto (tgt := 43) dX10_hands_70 (by decide) ?_
        refine AW.sub (L' := [(0, .ref 46), (1, .int (x1 - (0 : Int32))), (2, .int (x2 + (1 : Int32)))]) [2, 1, 0] rfl ?_
        exact ih (x1 - (0 : Int32)) (x2 + (1 : Int32)) τ3 h
      · have h := ifn c4 h
        refine AW.iconst (v := (1 : Int32)) dX10_hands_60 (.refl 61) (by decide) ?_
        refine AW.goto (tgt := 65) dX10_hands_61 (by decide) ?_
        refine AW.isub dX10_hands_65 (.refl 66) ?_
        refine AW.istore_n (L' := [(1, .int (x1 - (1 : Int32))), (0, .ref 46), (2, .int x2)]) dX10_hands_66 (.refl 67) (by decide) rfl ?_
        refine AW.iinc (v := (x2 + (1 : Int32))) (L' := [(2, .int (x2 + (1 : Int32))), (1, .int (x1 - (1 : Int32))), (0, .ref 46)]) dX10_hands_67 (.refl 70) 2 rfl rfl (by decide) rfl ?_
        refine AW.goto (tgt := 43) dX10_hands_70 (by decide) ?_
        refine AW.sub (L' := [(0, .ref 46), (1, .int (x1 - (1 : Int32))), (2, .int (x2 + (1 : Int32)))]) [2, 1, 0] rfl ?_
        exact ih (x1 - (1 : Int32)) (x2 + (1 : Int32)) τ3 h
set_option maxRecDepth 20000 in
theorem a_X10_hands_p36 {l : Launch} {G : Gg} {v : Int32} {τ : Mm} (σ : Mm) (h : f_X10_hands_p36 σ = some (v, τ)) : AW l G 2 M_X10_hands (some (.int v)) τ 36 [(0, .ref 46)] [] σ := by
  unfold f_X10_hands_p36 at h
  refine AW.aload_n dX10_hands_36 (.refl 37) 0 rfl ?_
  refine AW.getI lk_X10_247 rfl rfl (by decide) dX10_hands_37 (.refl 40) ?_
  refine AW.istore_n (L' := [(1, .int (σ.1 46 29)), (0, .ref 46)]) dX10_hands_40 (.refl 41) (by decide) rfl ?_
  refine AW.iconst (v := (0 : Int32)) dX10_hands_41 (.refl 42) (by decide) ?_
  refine AW.istore_n (L' := [(2, .int (0 : Int32)), (1, .int (σ.1 46 29)), (0, .ref 46)]) dX10_hands_42 (.refl 43) (by decide) rfl ?_
  refine AW.sub (L' := [(0, .ref 46), (1, .int (σ.1 46 29)), (2, .int (0 : Int32))]) [2, 1, 0] rfl ?_
  exact a_X10_hands_p43 FU (σ.1 46 29) (0 : Int32) σ h
set_option maxRecDepth 20000 in
theorem c_X10_hands {l : Launch} {G : Gg}  {σ : Mm} {v : Int32} {τ : Mm} (h : f_X10_hands  σ = some (v, τ)) : MR l G 2 M_X10_hands [.ref 46] σ (some (.int v)) τ := by
  unfold f_X10_hands at h
  refine MR.of (by decide +kernel) (Nat.le_of_ble_eq_true rfl) ?_
  show AW l G 2 M_X10_hands (some (.int v)) τ 0 [(0, .ref 46)] [] σ
  refine AW.aload_n dX10_hands_0 (.refl 1) 0 rfl ?_
  obtain ⟨τ2, e1, h⟩ := b1_s h
  refine AW.callV (r' := none) (σ' := τ2) (rest := []) lm_X10_256 (c_X10_layStrokes e1) (by decide) (by decide) rfl rfl (by decide) rfl rfl (Nat.le_of_ble_eq_true rfl) dX10_hands_1 (.refl 4) (st' := []) rfl ?_
  refine AW.iconst (v := (0 : Int32)) dX10_hands_4 (.refl 5) (by decide) ?_
  refine AW.istore_n (L' := [(1, .int (0 : Int32)), (0, .ref 46)]) dX10_hands_5 (.refl 6) (by decide) rfl ?_
  refine AW.sub (L' := [(0, .ref 46), (1, .int (0 : Int32))]) [1, 0] rfl ?_
  exact a_X10_hands_p6 (a_X10_hands_p36) FU (0 : Int32) τ2 h
def f_X10_tenTo_p4 (σ : Mm) : Nat → Int32 → Int64 → Int32 → Option (Int64)
  | 0, _, _, _ => none
  | n + 1, x0, x1, x3 => (if x0 ≤ x3 then some x1 else (f_X10_tenTo_p4 σ n) x0 (x1 * (10 : Int64)) (x3 + (1 : Int32)))
def f_X10_tenTo (σ : Mm) (x0 : Int32) : Option (Int64) := f_X10_tenTo_p4 σ FU x0 (1 : Int64) (0 : Int32)
set_option maxRecDepth 20000 in
theorem a_X10_tenTo_p4 {l : Launch} {G : Gg} {v : Int64} {σ : Mm} : ∀ (n : Nat) (x0 : Int32) (x1 : Int64) (x3 : Int32), f_X10_tenTo_p4 σ n x0 x1 x3 = some v → AW l G 0 M_X10_tenTo (some (.long v)) σ 4 [(0, .int x0), (1, .long x1), (3, .int x3)] [] σ := by
  intro n
  induction n with
  | zero => intro x0 x1 x3 h; exact no_some h
  | succ n ih =>
    intro x0 x1 x3 h
    rw [f_X10_tenTo_p4] at h
    refine AW.iload_n dX10_tenTo_4 (.refl 5) 2 rfl ?_
    refine AW.iload_n dX10_tenTo_5 (.refl 6) 0 rfl ?_
    refine AW.icmp_ge (tgt := 21) dX10_tenTo_6 (by decide) (fun c1 => ?_) (fun c1 => ?_)
    · have h := ifp c1 h
      refine AW.lload_n dX10_tenTo_21 (.refl 22) 1 rfl ?_
      cases h
      exact AW.lreturn rfl dX10_tenTo_22
    · have h := ifn c1 h
      refine AW.lload_n dX10_tenTo_9 (.refl 10) 1 rfl ?_
      refine AW.ldc2_w lc_X10_262 dX10_tenTo_10 (.refl 13) ?_
      refine AW.lmul dX10_tenTo_13 (.refl 14) ?_
      refine AW.lstore_n (L' := [(1, .long (x1 * (10 : Int64))), (0, .int x0), (3, .int x3)]) dX10_tenTo_14 (.refl 15) (by decide) rfl ?_
      refine AW.iinc (v := (x3 + (1 : Int32))) (L' := [(3, .int (x3 + (1 : Int32))), (1, .long (x1 * (10 : Int64))), (0, .int x0)]) dX10_tenTo_15 (.refl 18) 2 rfl rfl (by decide) rfl ?_
      refine AW.goto (tgt := 4) dX10_tenTo_18 (by decide) ?_
      refine AW.sub (L' := [(0, .int x0), (1, .long (x1 * (10 : Int64))), (3, .int (x3 + (1 : Int32)))]) [2, 1, 0] rfl ?_
      exact ih x0 (x1 * (10 : Int64)) (x3 + (1 : Int32)) h
set_option maxRecDepth 20000 in
theorem c_X10_tenTo {l : Launch} {G : Gg} {x0 : Int32} {σ : Mm} {v : Int64} (h : f_X10_tenTo σ x0 = some v) : MR l G 0 M_X10_tenTo [.int x0] σ (some (.long v)) σ := by
  unfold f_X10_tenTo at h
  refine MR.of (by decide +kernel) (Nat.le_of_ble_eq_true rfl) ?_
  show AW l G 0 M_X10_tenTo (some (.long v)) σ 0 [(0, .int x0)] [] σ
  refine AW.lconst (v := (1 : Int64)) dX10_tenTo_0 (.refl 1) (by decide) ?_
  refine AW.lstore_n (L' := [(1, .long (1 : Int64)), (0, .int x0)]) dX10_tenTo_1 (.refl 2) (by decide) rfl ?_
  refine AW.iconst (v := (0 : Int32)) dX10_tenTo_2 (.refl 3) (by decide) ?_
  refine AW.istore_n (L' := [(3, .int (0 : Int32)), (1, .long (1 : Int64)), (0, .int x0)]) dX10_tenTo_3 (.refl 4) (by decide) rfl ?_
  refine AW.sub (L' := [(0, .int x0), (1, .long (1 : Int64)), (3, .int (0 : Int32))]) [2, 1, 0] rfl ?_
  exact a_X10_tenTo_p4 FU x0 (1 : Int64) (0 : Int32) h
def f_X10_hold_p2 : Nat → Int32 → Int32 → Mm → Option (Mm)
  | 0, _, _, _ => none
  | n + 1, x1, x2, σ => (if (5 : Int32) ≤ x2 then some σ else (if x1 = 0 then gd (inB x2 5) (gd (inB x2 5) ((f_X10_hold_p2 n) x1 (x2 + (1 : Int32)) (sI σ 70 (x2).toNatClampNeg (σ.1 52 (x2).toNatClampNeg)))) else gd (inB x2 5) (gd (inB x2 5) ((f_X10_hold_p2 n) x1 (x2 + (1 : Int32)) (sI σ 52 (x2).toNatClampNeg (σ.1 70 (x2).toNatClampNeg))))))
def f_X10_hold (x1 : Int32) (σ : Mm) : Option (Mm) := f_X10_hold_p2 FU x1 (0 : Int32) σ
set_option maxRecDepth 20000 in
theorem a_X10_hold_p2 {l : Launch} {G : Gg} {τ : Mm} : ∀ (n : Nat) (x1 : Int32) (x2 : Int32) (σ : Mm), f_X10_hold_p2 n x1 x2 σ = some τ → AW l G 0 M_X10_hold none τ 2 [(0, .ref 46), (1, .int x1), (2, .int x2)] [] σ := by
  intro n
  induction n with
  | zero => intro x1 x2 σ h; exact no_some h
  | succ n ih =>
    intro x1 x2 σ h
    rw [f_X10_hold_p2] at h
    refine AW.iload_n dX10_hold_2 (.refl 3) 2 rfl ?_
    refine AW.iconst (v := (5 : Int32)) dX10_hold_3 (.refl 4) (by decide) ?_
    refine AW.icmp_ge (tgt := 44) dX10_hold_4 (by decide) (fun c6 => ?_) (fun c6 => ?_)
    · have h := ifp c6 h
      cases h
      exact AW.vreturn rfl dX10_hold_44
    · have h := ifn c6 h
      refine AW.iload_n dX10_hold_7 (.refl 8) 1 rfl ?_
      refine AW.if_eq (tgt := 26) dX10_hold_8 (by decide) (fun c5 => ?_) (fun c5 => ?_)
      · have h := ifp c5 h
        refine AW.aload_n dX10_hold_26 (.refl 27) 0 rfl ?_
        refine AW.getR (z := 70) lk_X10_80 rfl rfl (by decide) rfl dX10_hold_27 (.refl 30) ?_
        refine AW.iload_n dX10_hold_30 (.refl 31) 2 rfl ?_
        refine AW.aload_n dX10_hold_31 (.refl 32) 0 rfl ?_
        refine AW.getR (z := 52) lk_X10_25 rfl rfl (by decide) rfl dX10_hold_32 (.refl 35) ?_
        refine AW.iload_n dX10_hold_35 (.refl 36) 2 rfl ?_
        obtain ⟨g1, h⟩ := gd_s h
        refine AW.iaload rfl g1 dX10_hold_36 (.refl 37) ?_
        obtain ⟨g2, h⟩ := gd_s h
        refine AW.iastore rfl g2 dX10_hold_37 (.refl 38) ?_
        refine AW.iinc (v := (x2 + (1 : Int32))) (L' := [(2, .int (x2 + (1 : Int32))), (0, .ref 46), (1, .int x1)]) dX10_hold_38 (.refl 41) 2 rfl rfl (by decide) rfl ?_
        refine AW.goto (tgt := 2) dX10_hold_41 (by decide) ?_
        refine AW.sub (L' := [(0, .ref 46), (1, .int x1), (2, .int (x2 + (1 : Int32)))]) [1, 2, 0] rfl ?_
        exact ih x1 (x2 + (1 : Int32)) (sI σ 70 (x2).toNatClampNeg (σ.1 52 (x2).toNatClampNeg)) h
      · have h := ifn c5 h
        refine AW.aload_n dX10_hold_11 (.refl 12) 0 rfl ?_
        refine AW.getR (z := 52) lk_X10_25 rfl rfl (by decide) rfl dX10_hold_12 (.refl 15) ?_
        refine AW.iload_n dX10_hold_15 (.refl 16) 2 rfl ?_
        refine AW.aload_n dX10_hold_16 (.refl 17) 0 rfl ?_
        refine AW.getR (z := 70) lk_X10_80 rfl rfl (by decide) rfl dX10_hold_17 (.refl 20) ?_
        refine AW.iload_n dX10_hold_20 (.refl 21) 2 rfl ?_
        obtain ⟨g3, h⟩ := gd_s h
        refine AW.iaload rfl g3 dX10_hold_21 (.refl 22) ?_
        obtain ⟨g4, h⟩ := gd_s h
        refine AW.iastore rfl g4 dX10_hold_22 (.refl 23) ?_
        refine AW.goto (tgt := 38) dX10_hold_23 (by decide) ?_
        refine AW.iinc (v := (x2 + (1 : Int32))) (L' := [(2, .int (x2 + (1 : Int32))), (0, .ref 46), (1, .int x1)]) dX10_hold_38 (.refl 41) 2 rfl rfl (by decide) rfl ?_
        refine AW.goto (tgt := 2) dX10_hold_41 (by decide) ?_
        refine AW.sub (L' := [(0, .ref 46), (1, .int x1), (2, .int (x2 + (1 : Int32)))]) [1, 2, 0] rfl ?_
        exact ih x1 (x2 + (1 : Int32)) (sI σ 52 (x2).toNatClampNeg (σ.1 70 (x2).toNatClampNeg)) h
set_option maxRecDepth 20000 in
theorem c_X10_hold {l : Launch} {G : Gg} {x1 : Int32} {σ : Mm} {τ : Mm} (h : f_X10_hold x1 σ = some τ) : MR l G 0 M_X10_hold [.ref 46, .int x1] σ none τ := by
  unfold f_X10_hold at h
  refine MR.of (by decide +kernel) (Nat.le_of_ble_eq_true rfl) ?_
  show AW l G 0 M_X10_hold none τ 0 [(0, .ref 46), (1, .int x1)] [] σ
  refine AW.iconst (v := (0 : Int32)) dX10_hold_0 (.refl 1) (by decide) ?_
  refine AW.istore_n (L' := [(2, .int (0 : Int32)), (0, .ref 46), (1, .int x1)]) dX10_hold_1 (.refl 2) (by decide) rfl ?_
  refine AW.sub (L' := [(0, .ref 46), (1, .int x1), (2, .int (0 : Int32))]) [1, 2, 0] rfl ?_
  exact a_X10_hold_p2 FU x1 (0 : Int32) σ h
def f_X10_judge_p139 (kh : Int32 → Int64 → Int32 → Int32 → Mm → Option (Int32 × Mm)) (x1 : Int32) (x2 : Int64) (x5 : Int32) (x6 : Int32) (x7 : Int32) (s0 : Int32) (σ : Mm) : Option (Int32 × Mm) := (if x7 = 0 then kh x1 x2 s0 (x5 + (1 : Int32)) σ else gd (inB (x6 / (10 : Int32)) 5) (kh x1 x2 s0 (x5 + (1 : Int32)) (sI σ 52 ((x6 / (10 : Int32))).toNatClampNeg (jrem x6 (10 : Int32)))))
def f_X10_judge_p125 (kh : Int32 → Int64 → Int32 → Int32 → Mm → Option (Int32 × Mm)) (x1 : Int32) (x2 : Int64) (x5 : Int32) (x6 : Int32) (s0 : Int32) (σ : Mm) : Option (Int32 × Mm) := (if s0 = 0 then (f_X10_judge_p139 kh) x1 x2 x5 x6 s0 x5 σ else (f_X10_judge_p139 kh) x1 x2 x5 x6 s0 (-9 : Int32) σ)
def f_X10_judge_p124 (kh : Int32 → Int64 → Int32 → Int32 → Mm → Option (Int32 × Mm)) (x1 : Int32) (x2 : Int64) (x5 : Int32) (x6 : Int32) (σ : Mm) : Option (Int32 × Mm) := (f_X10_judge_p125 kh) x1 x2 x5 x6 (0 : Int32) σ
def f_X10_judge_p43 : Nat → Int32 → Int64 → Int32 → Int32 → Mm → Option (Int32 × Mm)
  | 0, _, _, _, _, _ => none
  | n + 1, x1, x2, x4, x5, σ => (if x1 ≤ x5 then b1 (f_X10_hold (1 : Int32) σ) (fun (τ2 : Mm) => some (x4, τ2)) else (if x4 = (-9 : Int32) then b1 (f_X10_tenTo σ ((2 : Int32) * ((x1 - (1 : Int32)) - x5))) (fun (r6 : Int64) => gd (decide (¬ r6 = 0)) (b1 (f_X10_isBidder σ ((jlrem (x2 / r6) (100 : Int64)).toInt32 / (10 : Int32))) (fun (r9 : Int32) => (if r9 = 0 then (f_X10_judge_p124 (f_X10_judge_p43 n)) x1 x2 x5 ((jlrem (x2 / r6) (100 : Int64)).toInt32) σ else gd (inB ((jlrem (x2 / r6) (100 : Int64)).toInt32 / (10 : Int32)) 5) ((if (σ.1 52 (((jlrem (x2 / r6) (100 : Int64)).toInt32 / (10 : Int32))).toNatClampNeg) = (-9 : Int32) then b1 (f_X10_canBe σ ((jlrem (x2 / r6) (100 : Int64)).toInt32 / (10 : Int32)) (jrem (jlrem (x2 / r6) (100 : Int64)).toInt32 (10 : Int32))) (fun (r12 : Int32) => (if r12 = 0 then (f_X10_judge_p124 (f_X10_judge_p43 n)) x1 x2 x5 ((jlrem (x2 / r6) (100 : Int64)).toInt32) σ else (f_X10_judge_p125 (f_X10_judge_p43 n)) x1 x2 x5 ((jlrem (x2 / r6) (100 : Int64)).toInt32) (1 : Int32) σ)) else (f_X10_judge_p124 (f_X10_judge_p43 n)) x1 x2 x5 ((jlrem (x2 / r6) (100 : Int64)).toInt32) σ)))))) else b1 (f_X10_hold (1 : Int32) σ) (fun (τ4 : Mm) => some (x4, τ4))))
def f_X10_judge (x1 : Int32) (x2 : Int64) (σ : Mm) : Option (Int32 × Mm) := b1 (f_X10_in σ x1.toInt64 (1 : Int64) (5 : Int64)) (fun (r2 : Int32) => (if r2 = 0 then some ((-2 : Int32), σ) else b1 (f_X10_tenTo σ ((2 : Int32) * x1)) (fun (r4 : Int64) => b1 (f_X10_in σ x2 (0 : Int64) (r4 - (1 : Int64))) (fun (r6 : Int32) => (if r6 = 0 then some ((-2 : Int32), σ) else b1 (f_X10_hold (0 : Int32) σ) (fun (τ8 : Mm) => f_X10_judge_p43 FU x1 x2 (-9 : Int32) (0 : Int32) τ8))))))
set_option maxRecDepth 20000 in
theorem a_X10_judge_p139 {l : Launch} {G : Gg} {v : Int32} {τ : Mm} {kh : Int32 → Int64 → Int32 → Int32 → Mm → Option (Int32 × Mm)} (hkh : ∀ (x1 : Int32) (x2 : Int64) (x4 : Int32) (x5 : Int32) (σ : Mm), kh x1 x2 x4 x5 σ = some (v, τ) → AW l G 5 M_X10_judge (some (.int v)) τ 43 [(0, .ref 46), (1, .int x1), (2, .long x2), (4, .int x4), (5, .int x5)] [] σ) (x1 : Int32) (x2 : Int64) (x5 : Int32) (x6 : Int32) (x7 : Int32) (s0 : Int32) (σ : Mm) (h : f_X10_judge_p139 kh x1 x2 x5 x6 x7 s0 σ = some (v, τ)) : AW l G 5 M_X10_judge (some (.int v)) τ 139 [(0, .ref 46), (1, .int x1), (2, .long x2), (5, .int x5), (6, .int x6), (7, .int x7)] [.int s0] σ := by
  unfold f_X10_judge_p139 at h
  refine AW.istore (L' := [(4, .int s0), (0, .ref 46), (1, .int x1), (2, .long x2), (5, .int x5), (6, .int x6), (7, .int x7)]) dX10_judge_139 (.refl 141) (by decide) rfl ?_
  refine AW.iload dX10_judge_141 (.refl 143) 6 rfl ?_
  refine AW.if_eq (tgt := 161) dX10_judge_143 (by decide) (fun c2 => ?_) (fun c2 => ?_)
  · have h := ifp c2 h
    refine AW.iinc (v := (x5 + (1 : Int32))) (L' := [(5, .int (x5 + (1 : Int32))), (4, .int s0), (0, .ref 46), (1, .int x1), (2, .long x2), (6, .int x6), (7, .int x7)]) dX10_judge_161 (.refl 164) 4 rfl rfl (by decide) rfl ?_
    refine AW.goto (tgt := 43) dX10_judge_164 (by decide) ?_
    refine AW.sub (L' := [(0, .ref 46), (1, .int x1), (2, .long x2), (4, .int s0), (5, .int (x5 + (1 : Int32)))]) [2, 3, 4, 1, 0] rfl ?_
    exact hkh x1 x2 s0 (x5 + (1 : Int32)) σ h
  · have h := ifn c2 h
    refine AW.aload_n dX10_judge_146 (.refl 147) 1 rfl ?_
    refine AW.getR (z := 52) lk_X10_25 rfl rfl (by decide) rfl dX10_judge_147 (.refl 150) ?_
    refine AW.iload dX10_judge_150 (.refl 152) 5 rfl ?_
    refine AW.bipush (v := (10 : Int32)) dX10_judge_152 (.refl 154) (by decide) ?_
    refine AW.idiv dX10_judge_154 (.refl 155) (by decide) ?_
    refine AW.iload dX10_judge_155 (.refl 157) 5 rfl ?_
    refine AW.bipush (v := (10 : Int32)) dX10_judge_157 (.refl 159) (by decide) ?_
    refine AW.irem dX10_judge_159 (.refl 160) (by decide) ?_
    obtain ⟨g1, h⟩ := gd_s h
    refine AW.iastore rfl g1 dX10_judge_160 (.refl 161) ?_
    refine AW.iinc (v := (x5 + (1 : Int32))) (L' := [(5, .int (x5 + (1 : Int32))), (4, .int s0), (0, .ref 46), (1, .int x1), (2, .long x2), (6, .int x6), (7, .int x7)]) dX10_judge_161 (.refl 164) 4 rfl rfl (by decide) rfl ?_
    refine AW.goto (tgt := 43) dX10_judge_164 (by decide) ?_
    refine AW.sub (L' := [(0, .ref 46), (1, .int x1), (2, .long x2), (4, .int s0), (5, .int (x5 + (1 : Int32)))]) [2, 3, 4, 1, 0] rfl ?_
    exact hkh x1 x2 s0 (x5 + (1 : Int32)) (sI σ 52 ((x6 / (10 : Int32))).toNatClampNeg (jrem x6 (10 : Int32))) h
set_option maxRecDepth 20000 in
theorem a_X10_judge_p125 {l : Launch} {G : Gg} {v : Int32} {τ : Mm} {kh : Int32 → Int64 → Int32 → Int32 → Mm → Option (Int32 × Mm)} (hkh : ∀ (x1 : Int32) (x2 : Int64) (x4 : Int32) (x5 : Int32) (σ : Mm), kh x1 x2 x4 x5 σ = some (v, τ) → AW l G 5 M_X10_judge (some (.int v)) τ 43 [(0, .ref 46), (1, .int x1), (2, .long x2), (4, .int x4), (5, .int x5)] [] σ) (x1 : Int32) (x2 : Int64) (x5 : Int32) (x6 : Int32) (s0 : Int32) (σ : Mm) (h : f_X10_judge_p125 kh x1 x2 x5 x6 s0 σ = some (v, τ)) : AW l G 5 M_X10_judge (some (.int v)) τ 125 [(0, .ref 46), (1, .int x1), (2, .long x2), (5, .int x5), (6, .int x6)] [.int s0] σ := by
  unfold f_X10_judge_p125 at h
  refine AW.istore (L' := [(7, .int s0), (0, .ref 46), (1, .int x1), (2, .long x2), (5, .int x5), (6, .int x6)]) dX10_judge_125 (.refl 127) (by decide) rfl ?_
  refine AW.iload dX10_judge_127 (.refl 129) 0 rfl ?_
  refine AW.if_eq (tgt := 137) dX10_judge_129 (by decide) (fun c1 => ?_) (fun c1 => ?_)
  · have h := ifp c1 h
    refine AW.iload dX10_judge_137 (.refl 139) 4 rfl ?_
    refine AW.sub (L' := [(0, .ref 46), (1, .int x1), (2, .long x2), (5, .int x5), (6, .int x6), (7, .int s0)]) [1, 2, 3, 4, 5, 0] rfl ?_
    exact (a_X10_judge_p139 hkh) x1 x2 x5 x6 s0 x5 σ h
  · have h := ifn c1 h
    refine AW.bipush (v := (-9 : Int32)) dX10_judge_132 (.refl 134) (by decide) ?_
    refine AW.goto (tgt := 139) dX10_judge_134 (by decide) ?_
    refine AW.sub (L' := [(0, .ref 46), (1, .int x1), (2, .long x2), (5, .int x5), (6, .int x6), (7, .int s0)]) [1, 2, 3, 4, 5, 0] rfl ?_
    exact (a_X10_judge_p139 hkh) x1 x2 x5 x6 s0 (-9 : Int32) σ h
set_option maxRecDepth 20000 in
theorem a_X10_judge_p124 {l : Launch} {G : Gg} {v : Int32} {τ : Mm} {kh : Int32 → Int64 → Int32 → Int32 → Mm → Option (Int32 × Mm)} (hkh : ∀ (x1 : Int32) (x2 : Int64) (x4 : Int32) (x5 : Int32) (σ : Mm), kh x1 x2 x4 x5 σ = some (v, τ) → AW l G 5 M_X10_judge (some (.int v)) τ 43 [(0, .ref 46), (1, .int x1), (2, .long x2), (4, .int x4), (5, .int x5)] [] σ) (x1 : Int32) (x2 : Int64) (x5 : Int32) (x6 : Int32) (σ : Mm) (h : f_X10_judge_p124 kh x1 x2 x5 x6 σ = some (v, τ)) : AW l G 5 M_X10_judge (some (.int v)) τ 124 [(0, .ref 46), (1, .int x1), (2, .long x2), (5, .int x5), (6, .int x6)] [] σ := by
  unfold f_X10_judge_p124 at h
  refine AW.iconst (v := (0 : Int32)) dX10_judge_124 (.refl 125) (by decide) ?_
  exact (a_X10_judge_p125 hkh) x1 x2 x5 x6 (0 : Int32) σ h
set_option maxRecDepth 20000 in
theorem a_X10_judge_p43 {l : Launch} {G : Gg} {v : Int32} {τ : Mm} : ∀ (n : Nat) (x1 : Int32) (x2 : Int64) (x4 : Int32) (x5 : Int32) (σ : Mm), f_X10_judge_p43 n x1 x2 x4 x5 σ = some (v, τ) → AW l G 5 M_X10_judge (some (.int v)) τ 43 [(0, .ref 46), (1, .int x1), (2, .long x2), (4, .int x4), (5, .int x5)] [] σ := by
  intro n
  induction n with
  | zero => intro x1 x2 x4 x5 σ h; exact no_some h
  | succ n ih =>
    intro x1 x2 x4 x5 σ h
    rw [f_X10_judge_p43] at h
    refine AW.iload dX10_judge_43 (.refl 45) 4 rfl ?_
    refine AW.iload_n dX10_judge_45 (.refl 46) 1 rfl ?_
    refine AW.icmp_ge (tgt := 167) dX10_judge_46 (by decide) (fun c17 => ?_) (fun c17 => ?_)
    · have h := ifp c17 h
      refine AW.aload_n dX10_judge_167 (.refl 168) 0 rfl ?_
      refine AW.iconst (v := (1 : Int32)) dX10_judge_168 (.refl 169) (by decide) ?_
      obtain ⟨τ2, e1, h⟩ := b1_s h
      refine AW.callV (r' := none) (σ' := τ2) (rest := []) lm_X10_268 (c_X10_hold e1) (by decide) (by decide) rfl rfl (by decide) rfl rfl (Nat.le_of_ble_eq_true rfl) dX10_judge_169 (.refl 172) (st' := []) rfl ?_
      refine AW.iload dX10_judge_172 (.refl 174) 3 rfl ?_
      cases h
      exact AW.ireturn rfl dX10_judge_174
    · have h := ifn c17 h
      refine AW.iload dX10_judge_49 (.refl 51) 3 rfl ?_
      refine AW.bipush (v := (-9 : Int32)) dX10_judge_51 (.refl 53) (by decide) ?_
      refine AW.icmp_ne (tgt := 167) dX10_judge_53 (by decide) (fun c16 => ?_) (fun c16 => ?_)
      · have h := ifn c16 h
        refine AW.aload_n dX10_judge_167 (.refl 168) 0 rfl ?_
        refine AW.iconst (v := (1 : Int32)) dX10_judge_168 (.refl 169) (by decide) ?_
        obtain ⟨τ4, e3, h⟩ := b1_s h
        refine AW.callV (r' := none) (σ' := τ4) (rest := []) lm_X10_268 (c_X10_hold e3) (by decide) (by decide) rfl rfl (by decide) rfl rfl (Nat.le_of_ble_eq_true rfl) dX10_judge_169 (.refl 172) (st' := []) rfl ?_
        refine AW.iload dX10_judge_172 (.refl 174) 3 rfl ?_
        cases h
        exact AW.ireturn rfl dX10_judge_174
      · have h := ifp c16 h
        refine AW.lload_n dX10_judge_56 (.refl 57) 2 rfl ?_
        refine AW.iconst (v := (2 : Int32)) dX10_judge_57 (.refl 58) (by decide) ?_
        refine AW.iload_n dX10_judge_58 (.refl 59) 1 rfl ?_
        refine AW.iconst (v := (1 : Int32)) dX10_judge_59 (.refl 60) (by decide) ?_
        refine AW.isub dX10_judge_60 (.refl 61) ?_
        refine AW.iload dX10_judge_61 (.refl 63) 4 rfl ?_
        refine AW.isub dX10_judge_63 (.refl 64) ?_
        refine AW.imul dX10_judge_64 (.refl 65) ?_
        obtain ⟨r6, e5, h⟩ := b1_s h
        refine AW.callS (r' := (some (.long r6))) (σ' := σ) (rest := [.long x2]) lm_X10_264 (c_X10_tenTo e5) (by decide) (by decide) rfl rfl (Nat.le_of_ble_eq_true rfl) dX10_judge_65 (.refl 68) (st' := [.long r6, .long x2]) rfl ?_
        obtain ⟨g7, h⟩ := gd_s h
        refine AW.ldiv dX10_judge_68 (.refl 69) (of_decide_eq_true g7) ?_
        refine AW.ldc2_w lc_X10_271 dX10_judge_69 (.refl 72) ?_
        refine AW.lrem dX10_judge_72 (.refl 73) (by decide) ?_
        refine AW.l2i dX10_judge_73 (.refl 74) ?_
        refine AW.istore (L' := [(6, .int (jlrem (x2 / r6) (100 : Int64)).toInt32), (0, .ref 46), (1, .int x1), (2, .long x2), (4, .int x4), (5, .int x5)]) dX10_judge_74 (.refl 76) (by decide) rfl ?_
        refine AW.aload_n dX10_judge_76 (.refl 77) 1 rfl ?_
        refine AW.iload dX10_judge_77 (.refl 79) 0 rfl ?_
        refine AW.bipush (v := (10 : Int32)) dX10_judge_79 (.refl 81) (by decide) ?_
        refine AW.idiv dX10_judge_81 (.refl 82) (by decide) ?_
        obtain ⟨r9, e8, h⟩ := b1_s h
        refine AW.callV (r' := (some (.int r9))) (σ' := σ) (rest := []) lm_X10_174 (c_X10_isBidder e8) (by decide) (by decide) rfl rfl (by decide) rfl rfl (Nat.le_of_ble_eq_true rfl) dX10_judge_82 (.refl 85) (st' := [.int r9]) rfl ?_
        refine AW.if_eq (tgt := 124) dX10_judge_85 (by decide) (fun c15 => ?_) (fun c15 => ?_)
        · have h := ifp c15 h
          refine AW.sub (L' := [(0, .ref 46), (1, .int x1), (2, .long x2), (5, .int x5), (6, .int (jlrem (x2 / r6) (100 : Int64)).toInt32)]) [1, 2, 3, 5, 0] rfl ?_
          exact (a_X10_judge_p124 ih) x1 x2 x5 ((jlrem (x2 / r6) (100 : Int64)).toInt32) σ h
        · have h := ifn c15 h
          refine AW.aload_n dX10_judge_88 (.refl 89) 1 rfl ?_
          refine AW.getR (z := 52) lk_X10_25 rfl rfl (by decide) rfl dX10_judge_89 (.refl 92) ?_
          refine AW.iload dX10_judge_92 (.refl 94) 0 rfl ?_
          refine AW.bipush (v := (10 : Int32)) dX10_judge_94 (.refl 96) (by decide) ?_
          refine AW.idiv dX10_judge_96 (.refl 97) (by decide) ?_
          obtain ⟨g10, h⟩ := gd_s h
          refine AW.iaload rfl g10 dX10_judge_97 (.refl 98) ?_
          refine AW.bipush (v := (-9 : Int32)) dX10_judge_98 (.refl 100) (by decide) ?_
          refine AW.icmp_ne (tgt := 124) dX10_judge_100 (by decide) (fun c14 => ?_) (fun c14 => ?_)
          · have h := ifn c14 h
            refine AW.sub (L' := [(0, .ref 46), (1, .int x1), (2, .long x2), (5, .int x5), (6, .int (jlrem (x2 / r6) (100 : Int64)).toInt32)]) [1, 2, 3, 5, 0] rfl ?_
            exact (a_X10_judge_p124 ih) x1 x2 x5 ((jlrem (x2 / r6) (100 : Int64)).toInt32) σ h
          · have h := ifp c14 h
            refine AW.aload_n dX10_judge_103 (.refl 104) 1 rfl ?_
            refine AW.iload dX10_judge_104 (.refl 106) 0 rfl ?_
            refine AW.bipush (v := (10 : Int32)) dX10_judge_106 (.refl 108) (by decide) ?_
            refine AW.idiv dX10_judge_108 (.refl 109) (by decide) ?_
            refine AW.iload dX10_judge_109 (.refl 111) 0 rfl ?_
            refine AW.bipush (v := (10 : Int32)) dX10_judge_111 (.refl 113) (by decide) ?_
            refine AW.irem dX10_judge_113 (.refl 114) (by decide) ?_
            obtain ⟨r12, e11, h⟩ := b1_s h
            refine AW.callV (r' := (some (.int r12))) (σ' := σ) (rest := []) lm_X10_190 (c_X10_canBe e11) (by decide) (by decide) rfl rfl (by decide) rfl rfl (Nat.le_of_ble_eq_true rfl) dX10_judge_114 (.refl 117) (st' := [.int r12]) rfl ?_
            refine AW.if_eq (tgt := 124) dX10_judge_117 (by decide) (fun c13 => ?_) (fun c13 => ?_)
            · have h := ifp c13 h
              refine AW.sub (L' := [(0, .ref 46), (1, .int x1), (2, .long x2), (5, .int x5), (6, .int (jlrem (x2 / r6) (100 : Int64)).toInt32)]) [1, 2, 3, 5, 0] rfl ?_
              exact (a_X10_judge_p124 ih) x1 x2 x5 ((jlrem (x2 / r6) (100 : Int64)).toInt32) σ h
            · have h := ifn c13 h
              refine AW.iconst (v := (1 : Int32)) dX10_judge_120 (.refl 121) (by decide) ?_
              refine AW.goto (tgt := 125) dX10_judge_121 (by decide) ?_
              refine AW.sub (L' := [(0, .ref 46), (1, .int x1), (2, .long x2), (5, .int x5), (6, .int (jlrem (x2 / r6) (100 : Int64)).toInt32)]) [1, 2, 3, 5, 0] rfl ?_
              exact (a_X10_judge_p125 ih) x1 x2 x5 ((jlrem (x2 / r6) (100 : Int64)).toInt32) (1 : Int32) σ h
set_option maxRecDepth 20000 in
theorem c_X10_judge {l : Launch} {G : Gg} {x1 : Int32} {x2 : Int64} {σ : Mm} {v : Int32} {τ : Mm} (h : f_X10_judge x1 x2 σ = some (v, τ)) : MR l G 5 M_X10_judge [.ref 46, .int x1, .long x2] σ (some (.int v)) τ := by
  unfold f_X10_judge at h
  refine MR.of (by decide +kernel) (Nat.le_of_ble_eq_true rfl) ?_
  show AW l G 5 M_X10_judge (some (.int v)) τ 0 [(0, .ref 46), (1, .int x1), (2, .long x2)] [] σ
  refine AW.iload_n dX10_judge_0 (.refl 1) 1 rfl ?_
  refine AW.i2l dX10_judge_1 (.refl 2) ?_
  refine AW.lconst (v := (1 : Int64)) dX10_judge_2 (.refl 3) (by decide) ?_
  refine AW.ldc2_w lc_X10_177 dX10_judge_3 (.refl 6) ?_
  obtain ⟨r2, e1, h⟩ := b1_s h
  refine AW.callS (r' := (some (.int r2))) (σ' := σ) (rest := []) lm_X10_97 (c_X10_in e1) (by decide) (by decide) rfl rfl (Nat.le_of_ble_eq_true rfl) dX10_judge_6 (.refl 9) (st' := [.int r2]) rfl ?_
  refine AW.if_eq (tgt := 28) dX10_judge_9 (by decide) (fun c10 => ?_) (fun c10 => ?_)
  · have h := ifp c10 h
    refine AW.bipush (v := (-2 : Int32)) dX10_judge_28 (.refl 30) (by decide) ?_
    cases h
    exact AW.ireturn rfl dX10_judge_30
  · have h := ifn c10 h
    refine AW.lload_n dX10_judge_12 (.refl 13) 2 rfl ?_
    refine AW.lconst (v := (0 : Int64)) dX10_judge_13 (.refl 14) (by decide) ?_
    refine AW.iconst (v := (2 : Int32)) dX10_judge_14 (.refl 15) (by decide) ?_
    refine AW.iload_n dX10_judge_15 (.refl 16) 1 rfl ?_
    refine AW.imul dX10_judge_16 (.refl 17) ?_
    obtain ⟨r4, e3, h⟩ := b1_s h
    refine AW.callS (r' := (some (.long r4))) (σ' := σ) (rest := [.long (0 : Int64), .long x2]) lm_X10_264 (c_X10_tenTo e3) (by decide) (by decide) rfl rfl (Nat.le_of_ble_eq_true rfl) dX10_judge_17 (.refl 20) (st' := [.long r4, .long (0 : Int64), .long x2]) rfl ?_
    refine AW.lconst (v := (1 : Int64)) dX10_judge_20 (.refl 21) (by decide) ?_
    refine AW.lsub dX10_judge_21 (.refl 22) ?_
    obtain ⟨r6, e5, h⟩ := b1_s h
    refine AW.callS (r' := (some (.int r6))) (σ' := σ) (rest := []) lm_X10_97 (c_X10_in e5) (by decide) (by decide) rfl rfl (Nat.le_of_ble_eq_true rfl) dX10_judge_22 (.refl 25) (st' := [.int r6]) rfl ?_
    refine AW.if_ne (tgt := 31) dX10_judge_25 (by decide) (fun c9 => ?_) (fun c9 => ?_)
    · have h := ifn c9 h
      refine AW.aload_n dX10_judge_31 (.refl 32) 0 rfl ?_
      refine AW.iconst (v := (0 : Int32)) dX10_judge_32 (.refl 33) (by decide) ?_
      obtain ⟨τ8, e7, h⟩ := b1_s h
      refine AW.callV (r' := none) (σ' := τ8) (rest := []) lm_X10_268 (c_X10_hold e7) (by decide) (by decide) rfl rfl (by decide) rfl rfl (Nat.le_of_ble_eq_true rfl) dX10_judge_33 (.refl 36) (st' := []) rfl ?_
      refine AW.bipush (v := (-9 : Int32)) dX10_judge_36 (.refl 38) (by decide) ?_
      refine AW.istore (L' := [(4, .int (-9 : Int32)), (0, .ref 46), (1, .int x1), (2, .long x2)]) dX10_judge_38 (.refl 40) (by decide) rfl ?_
      refine AW.iconst (v := (0 : Int32)) dX10_judge_40 (.refl 41) (by decide) ?_
      refine AW.istore (L' := [(5, .int (0 : Int32)), (4, .int (-9 : Int32)), (0, .ref 46), (1, .int x1), (2, .long x2)]) dX10_judge_41 (.refl 43) (by decide) rfl ?_
      refine AW.sub (L' := [(0, .ref 46), (1, .int x1), (2, .long x2), (4, .int (-9 : Int32)), (5, .int (0 : Int32))]) [2, 3, 4, 1, 0] rfl ?_
      exact a_X10_judge_p43 FU x1 x2 (-9 : Int32) (0 : Int32) τ8 h
    · have h := ifp c9 h
      refine AW.bipush (v := (-2 : Int32)) dX10_judge_28 (.refl 30) (by decide) ?_
      cases h
      exact AW.ireturn rfl dX10_judge_30
def f_X10_hear (x1 : Int32) (x2 : Int32) (σ : Mm) : Option (Int32 × Mm) := b1 (f_X10_in σ x1.toInt64 (0 : Int64) (9 : Int64)) (fun (r2 : Int32) => (if r2 = 0 then some ((-2 : Int32), σ) else b1 (f_X10_in σ x2.toInt64 (0 : Int64) (((jshl (1 : Int32) (σ.1 46 0)) - (1 : Int32)).toInt64)) (fun (r4 : Int32) => (if r4 = 0 then some ((-2 : Int32), σ) else (if (σ.1 46 38) = (6 : Int32) then some ((-4 : Int32), σ) else gd (inB (σ.1 46 38) 6) (gd (inB ((sI σ 71 ((σ.1 46 38)).toNatClampNeg x1).1 46 38) 6) (bnd ((sI (sI σ 71 ((σ.1 46 38)).toNatClampNeg x1) 72 (((sI σ 71 ((σ.1 46 38)).toNatClampNeg x1).1 46 38)).toNatClampNeg x2)) (fun (σ7 : Mm) => some (((sI σ7 46 38 ((σ7.1 46 38) + (1 : Int32))).1 46 38), (sI σ7 46 38 ((σ7.1 46 38) + (1 : Int32))))))))))))
set_option maxRecDepth 20000 in
theorem c_X10_hear {l : Launch} {G : Gg} {x1 : Int32} {x2 : Int32} {σ : Mm} {v : Int32} {τ : Mm} (h : f_X10_hear x1 x2 σ = some (v, τ)) : MR l G 1 M_X10_hear [.ref 46, .int x1, .int x2] σ (some (.int v)) τ := by
  unfold f_X10_hear at h
  refine MR.of (by decide +kernel) (Nat.le_of_ble_eq_true rfl) ?_
  show AW l G 1 M_X10_hear (some (.int v)) τ 0 [(0, .ref 46), (1, .int x1), (2, .int x2)] [] σ
  refine AW.iload_n dX10_hear_0 (.refl 1) 1 rfl ?_
  refine AW.i2l dX10_hear_1 (.refl 2) ?_
  refine AW.lconst (v := (0 : Int64)) dX10_hear_2 (.refl 3) (by decide) ?_
  refine AW.ldc2_w lc_X10_182 dX10_hear_3 (.refl 6) ?_
  obtain ⟨r2, e1, h⟩ := b1_s h
  refine AW.callS (r' := (some (.int r2))) (σ' := σ) (rest := []) lm_X10_97 (c_X10_in e1) (by decide) (by decide) rfl rfl (Nat.le_of_ble_eq_true rfl) dX10_hear_6 (.refl 9) (st' := [.int r2]) rfl ?_
  refine AW.if_eq (tgt := 30) dX10_hear_9 (by decide) (fun c11 => ?_) (fun c11 => ?_)
  · have h := ifp c11 h
    refine AW.bipush (v := (-2 : Int32)) dX10_hear_30 (.refl 32) (by decide) ?_
    cases h
    exact AW.ireturn rfl dX10_hear_32
  · have h := ifn c11 h
    refine AW.iload_n dX10_hear_12 (.refl 13) 2 rfl ?_
    refine AW.i2l dX10_hear_13 (.refl 14) ?_
    refine AW.lconst (v := (0 : Int64)) dX10_hear_14 (.refl 15) (by decide) ?_
    refine AW.iconst (v := (1 : Int32)) dX10_hear_15 (.refl 16) (by decide) ?_
    refine AW.aload_n dX10_hear_16 (.refl 17) 0 rfl ?_
    refine AW.getI lk_X10_132 rfl rfl (by decide) dX10_hear_17 (.refl 20) ?_
    refine AW.ishl dX10_hear_20 (.refl 21) ?_
    refine AW.iconst (v := (1 : Int32)) dX10_hear_21 (.refl 22) (by decide) ?_
    refine AW.isub dX10_hear_22 (.refl 23) ?_
    refine AW.i2l dX10_hear_23 (.refl 24) ?_
    obtain ⟨r4, e3, h⟩ := b1_s h
    refine AW.callS (r' := (some (.int r4))) (σ' := σ) (rest := []) lm_X10_97 (c_X10_in e3) (by decide) (by decide) rfl rfl (Nat.le_of_ble_eq_true rfl) dX10_hear_24 (.refl 27) (st' := [.int r4]) rfl ?_
    refine AW.if_ne (tgt := 33) dX10_hear_27 (by decide) (fun c10 => ?_) (fun c10 => ?_)
    · have h := ifn c10 h
      refine AW.aload_n dX10_hear_33 (.refl 34) 0 rfl ?_
      refine AW.getI lk_X10_273 rfl rfl (by decide) dX10_hear_34 (.refl 37) ?_
      refine AW.bipush (v := (6 : Int32)) dX10_hear_37 (.refl 39) (by decide) ?_
      refine AW.icmp_ne (tgt := 45) dX10_hear_39 (by decide) (fun c9 => ?_) (fun c9 => ?_)
      · have h := ifn c9 h
        refine AW.aload_n dX10_hear_45 (.refl 46) 0 rfl ?_
        refine AW.getR (z := 71) lk_X10_83 rfl rfl (by decide) rfl dX10_hear_46 (.refl 49) ?_
        refine AW.aload_n dX10_hear_49 (.refl 50) 0 rfl ?_
        refine AW.getI lk_X10_273 rfl rfl (by decide) dX10_hear_50 (.refl 53) ?_
        refine AW.iload_n dX10_hear_53 (.refl 54) 1 rfl ?_
        obtain ⟨g5, h⟩ := gd_s h
        refine AW.iastore rfl g5 dX10_hear_54 (.refl 55) ?_
        refine AW.aload_n dX10_hear_55 (.refl 56) 0 rfl ?_
        refine AW.getR (z := 72) lk_X10_86 rfl rfl (by decide) rfl dX10_hear_56 (.refl 59) ?_
        refine AW.aload_n dX10_hear_59 (.refl 60) 0 rfl ?_
        refine AW.getI lk_X10_273 rfl rfl (by decide) dX10_hear_60 (.refl 63) ?_
        refine AW.iload_n dX10_hear_63 (.refl 64) 2 rfl ?_
        obtain ⟨g6, h⟩ := gd_s h
        refine AW.iastore rfl g6 dX10_hear_64 (.refl 65) ?_
        obtain ⟨σ7, e8, h⟩ := bnd_s h
        refine AW.nmM e8 ?_
        refine AW.aload_n dX10_hear_65 (.refl 66) 0 rfl ?_
        refine AW.dup dX10_hear_66 (.refl 67) rfl ?_
        refine AW.getI lk_X10_273 rfl rfl (by decide) dX10_hear_67 (.refl 70) ?_
        refine AW.iconst (v := (1 : Int32)) dX10_hear_70 (.refl 71) (by decide) ?_
        refine AW.iadd dX10_hear_71 (.refl 72) ?_
        refine AW.putI lp_X10_273 rfl rfl (by decide) dX10_hear_72 (.refl 75) ?_
        refine AW.aload_n dX10_hear_75 (.refl 76) 0 rfl ?_
        refine AW.getI lk_X10_273 rfl rfl (by decide) dX10_hear_76 (.refl 79) ?_
        cases h
        exact AW.ireturn rfl dX10_hear_79
      · have h := ifp c9 h
        refine AW.bipush (v := (-4 : Int32)) dX10_hear_42 (.refl 44) (by decide) ?_
        cases h
        exact AW.ireturn rfl dX10_hear_44
    · have h := ifp c10 h
      refine AW.bipush (v := (-2 : Int32)) dX10_hear_30 (.refl 32) (by decide) ?_
      cases h
      exact AW.ireturn rfl dX10_hear_32
def f_X10_unhear  (σ : Mm) : Option (Int32 × Mm) := some ((σ.1 46 38), (sI σ 46 38 (0 : Int32)))
set_option maxRecDepth 20000 in
theorem c_X10_unhear {l : Launch} {G : Gg}  {σ : Mm} {v : Int32} {τ : Mm} (h : f_X10_unhear  σ = some (v, τ)) : MR l G 0 M_X10_unhear [.ref 46] σ (some (.int v)) τ := by
  unfold f_X10_unhear at h
  refine MR.of (by decide +kernel) (Nat.le_of_ble_eq_true rfl) ?_
  show AW l G 0 M_X10_unhear (some (.int v)) τ 0 [(0, .ref 46)] [] σ
  refine AW.aload_n dX10_unhear_0 (.refl 1) 0 rfl ?_
  refine AW.getI lk_X10_273 rfl rfl (by decide) dX10_unhear_1 (.refl 4) ?_
  refine AW.istore_n (L' := [(1, .int (σ.1 46 38)), (0, .ref 46)]) dX10_unhear_4 (.refl 5) (by decide) rfl ?_
  refine AW.aload_n dX10_unhear_5 (.refl 6) 1 rfl ?_
  refine AW.iconst (v := (0 : Int32)) dX10_unhear_6 (.refl 7) (by decide) ?_
  refine AW.putI lp_X10_273 rfl rfl (by decide) dX10_unhear_7 (.refl 10) ?_
  refine AW.iload_n dX10_unhear_10 (.refl 11) 0 rfl ?_
  cases h
  exact AW.ireturn rfl dX10_unhear_11
def f_X10_fit (x1 : Int32) (σ : Mm) : Option (Int32 × Mm) := b1 (f_X10_in σ x1.toInt64 (0 : Int64) (2 : Int64)) (fun (r2 : Int32) => (if r2 = 0 then some ((-2 : Int32), σ) else b1 (f_X10_goThrough (0 : Int32) σ) (fun (τ4 : Mm) => (if x1 = 0 then some ((τ4.1 46 21), τ4) else (if (τ4.1 46 21) = 0 then some ((-9 : Int32), τ4) else (if x1 = (1 : Int32) then some ((τ4.1 46 22), τ4) else some ((((jshl (1 : Int32) (τ4.1 46 1)) - (1 : Int32)) &&& ((τ4.1 46 23) ^^^ (-1 : Int32))), τ4)))))))
set_option maxRecDepth 20000 in
theorem c_X10_fit {l : Launch} {G : Gg} {x1 : Int32} {σ : Mm} {v : Int32} {τ : Mm} (h : f_X10_fit x1 σ = some (v, τ)) : MR l G 4 M_X10_fit [.ref 46, .int x1] σ (some (.int v)) τ := by
  unfold f_X10_fit at h
  refine MR.of (by decide +kernel) (Nat.le_of_ble_eq_true rfl) ?_
  show AW l G 4 M_X10_fit (some (.int v)) τ 0 [(0, .ref 46), (1, .int x1)] [] σ
  refine AW.iload_n dX10_fit_0 (.refl 1) 1 rfl ?_
  refine AW.i2l dX10_fit_1 (.refl 2) ?_
  refine AW.lconst (v := (0 : Int64)) dX10_fit_2 (.refl 3) (by decide) ?_
  refine AW.ldc2_w lc_X10_276 dX10_fit_3 (.refl 6) ?_
  obtain ⟨r2, e1, h⟩ := b1_s h
  refine AW.callS (r' := (some (.int r2))) (σ' := σ) (rest := []) lm_X10_97 (c_X10_in e1) (by decide) (by decide) rfl rfl (Nat.le_of_ble_eq_true rfl) dX10_fit_6 (.refl 9) (st' := [.int r2]) rfl ?_
  refine AW.if_ne (tgt := 15) dX10_fit_9 (by decide) (fun c8 => ?_) (fun c8 => ?_)
  · have h := ifn c8 h
    refine AW.aload_n dX10_fit_15 (.refl 16) 0 rfl ?_
    refine AW.iconst (v := (0 : Int32)) dX10_fit_16 (.refl 17) (by decide) ?_
    obtain ⟨τ4, e3, h⟩ := b1_s h
    refine AW.callV (r' := none) (σ' := τ4) (rest := []) lm_X10_237 (c_X10_goThrough e3) (by decide) (by decide) rfl rfl (by decide) rfl rfl (Nat.le_of_ble_eq_true rfl) dX10_fit_17 (.refl 20) (st' := []) rfl ?_
    refine AW.iload_n dX10_fit_20 (.refl 21) 1 rfl ?_
    refine AW.if_ne (tgt := 31) dX10_fit_21 (by decide) (fun c7 => ?_) (fun c7 => ?_)
    · have h := ifn c7 h
      refine AW.aload_n dX10_fit_31 (.refl 32) 0 rfl ?_
      refine AW.getI lk_X10_218 rfl rfl (by decide) dX10_fit_32 (.refl 35) ?_
      refine AW.if_ne (tgt := 43) dX10_fit_35 (by decide) (fun c6 => ?_) (fun c6 => ?_)
      · have h := ifn c6 h
        refine AW.iload_n dX10_fit_43 (.refl 44) 1 rfl ?_
        refine AW.iconst (v := (1 : Int32)) dX10_fit_44 (.refl 45) (by decide) ?_
        refine AW.icmp_ne (tgt := 55) dX10_fit_45 (by decide) (fun c5 => ?_) (fun c5 => ?_)
        · have h := ifn c5 h
          refine AW.iconst (v := (1 : Int32)) dX10_fit_55 (.refl 56) (by decide) ?_
          refine AW.aload_n dX10_fit_56 (.refl 57) 0 rfl ?_
          refine AW.getI lk_X10_135 rfl rfl (by decide) dX10_fit_57 (.refl 60) ?_
          refine AW.ishl dX10_fit_60 (.refl 61) ?_
          refine AW.iconst (v := (1 : Int32)) dX10_fit_61 (.refl 62) (by decide) ?_
          refine AW.isub dX10_fit_62 (.refl 63) ?_
          refine AW.aload_n dX10_fit_63 (.refl 64) 0 rfl ?_
          refine AW.getI lk_X10_224 rfl rfl (by decide) dX10_fit_64 (.refl 67) ?_
          refine AW.iconst (v := (-1 : Int32)) dX10_fit_67 (.refl 68) (by decide) ?_
          refine AW.ixor dX10_fit_68 (.refl 69) ?_
          refine AW.iand dX10_fit_69 (.refl 70) ?_
          cases h
          exact AW.ireturn rfl dX10_fit_70
        · have h := ifp c5 h
          refine AW.aload_n dX10_fit_48 (.refl 49) 0 rfl ?_
          refine AW.getI lk_X10_221 rfl rfl (by decide) dX10_fit_49 (.refl 52) ?_
          refine AW.goto (tgt := 70) dX10_fit_52 (by decide) ?_
          cases h
          exact AW.ireturn rfl dX10_fit_70
      · have h := ifp c6 h
        refine AW.bipush (v := (-9 : Int32)) dX10_fit_38 (.refl 40) (by decide) ?_
        refine AW.goto (tgt := 70) dX10_fit_40 (by decide) ?_
        cases h
        exact AW.ireturn rfl dX10_fit_70
    · have h := ifp c7 h
      refine AW.aload_n dX10_fit_24 (.refl 25) 0 rfl ?_
      refine AW.getI lk_X10_218 rfl rfl (by decide) dX10_fit_25 (.refl 28) ?_
      refine AW.goto (tgt := 70) dX10_fit_28 (by decide) ?_
      cases h
      exact AW.ireturn rfl dX10_fit_70
  · have h := ifp c8 h
    refine AW.bipush (v := (-2 : Int32)) dX10_fit_12 (.refl 14) (by decide) ?_
    cases h
    exact AW.ireturn rfl dX10_fit_14
def f_X10_common_p4 (σ : Mm) : Nat → Int32 → Int32 → Option (Int32)
  | 0, _, _ => none
  | n + 1, x2, x3 => (if x3 = 0 then some x2 else gd (decide (¬ x3 = 0)) ((f_X10_common_p4 σ n) x3 (jrem x2 x3)))
def f_X10_common (σ : Mm) (x0 : Int32) (x1 : Int32) : Option (Int32) := f_X10_common_p4 σ FU x0 x1
set_option maxRecDepth 20000 in
theorem a_X10_common_p4 {l : Launch} {G : Gg} {v : Int32} {σ : Mm} : ∀ (n : Nat) (x2 : Int32) (x3 : Int32), f_X10_common_p4 σ n x2 x3 = some v → AW l G 0 M_X10_common (some (.int v)) σ 4 [(2, .int x2), (3, .int x3)] [] σ := by
  intro n
  induction n with
  | zero => intro x2 x3 h; exact no_some h
  | succ n ih =>
    intro x2 x3 h
    rw [f_X10_common_p4] at h
    refine AW.iload_n dX10_common_4 (.refl 5) 1 rfl ?_
    refine AW.if_eq (tgt := 21) dX10_common_5 (by decide) (fun c2 => ?_) (fun c2 => ?_)
    · have h := ifp c2 h
      refine AW.iload_n dX10_common_21 (.refl 22) 0 rfl ?_
      cases h
      exact AW.ireturn rfl dX10_common_22
    · have h := ifn c2 h
      refine AW.iload_n dX10_common_8 (.refl 9) 0 rfl ?_
      refine AW.iload_n dX10_common_9 (.refl 10) 1 rfl ?_
      obtain ⟨g1, h⟩ := gd_s h
      refine AW.irem dX10_common_10 (.refl 11) (of_decide_eq_true g1) ?_
      refine AW.istore (L' := [(4, .int (jrem x2 x3)), (2, .int x2), (3, .int x3)]) dX10_common_11 (.refl 13) (by decide) rfl ?_
      refine AW.iload_n dX10_common_13 (.refl 14) 2 rfl ?_
      refine AW.istore_n (L' := [(2, .int x3), (4, .int (jrem x2 x3)), (3, .int x3)]) dX10_common_14 (.refl 15) (by decide) rfl ?_
      refine AW.iload dX10_common_15 (.refl 17) 1 rfl ?_
      refine AW.istore_n (L' := [(3, .int (jrem x2 x3)), (2, .int x3), (4, .int (jrem x2 x3))]) dX10_common_17 (.refl 18) (by decide) rfl ?_
      refine AW.goto (tgt := 4) dX10_common_18 (by decide) ?_
      refine AW.sub (L' := [(2, .int x3), (3, .int (jrem x2 x3))]) [1, 0] rfl ?_
      exact ih x3 (jrem x2 x3) h
set_option maxRecDepth 20000 in
theorem c_X10_common {l : Launch} {G : Gg} {x0 : Int32} {x1 : Int32} {σ : Mm} {v : Int32} (h : f_X10_common σ x0 x1 = some v) : MR l G 0 M_X10_common [.int x0, .int x1] σ (some (.int v)) σ := by
  unfold f_X10_common at h
  refine MR.of (by decide +kernel) (Nat.le_of_ble_eq_true rfl) ?_
  show AW l G 0 M_X10_common (some (.int v)) σ 0 [(0, .int x0), (1, .int x1)] [] σ
  refine AW.iload_n dX10_common_0 (.refl 1) 0 rfl ?_
  refine AW.istore_n (L' := [(2, .int x0), (0, .int x0), (1, .int x1)]) dX10_common_1 (.refl 2) (by decide) rfl ?_
  refine AW.iload_n dX10_common_2 (.refl 3) 2 rfl ?_
  refine AW.istore_n (L' := [(3, .int x1), (2, .int x0), (0, .int x0), (1, .int x1)]) dX10_common_3 (.refl 4) (by decide) rfl ?_
  refine AW.sub (L' := [(2, .int x0), (3, .int x1)]) [1, 0] rfl ?_
  exact a_X10_common_p4 FU x0 x1 h
def f_X10_likely (x1 : Int32) (x2 : Int32) (σ : Mm) : Option (Int32 × Mm) := b1 (f_X10_in σ x1.toInt64 (0 : Int64) (9 : Int64)) (fun (r2 : Int32) => (if r2 = 0 then some ((-2 : Int32), σ) else b1 (f_X10_goThrough (0 : Int32) σ) (fun (τ4 : Mm) => (if (τ4.1 46 21) = 0 then some ((-3 : Int32), τ4) else gd (inB x1 10) (b1 (f_X10_common τ4 (τ4.1 58 (x1).toNatClampNeg) (τ4.1 46 21)) (fun (r7 : Int32) => (if x2 = 0 then gd (decide (¬ r7 = 0)) (some (((τ4.1 46 21) / r7), τ4)) else gd (inB x1 10) (gd (decide (¬ r7 = 0)) (some (((τ4.1 58 (x1).toNatClampNeg) / r7), τ4))))))))))
set_option maxRecDepth 20000 in
theorem c_X10_likely {l : Launch} {G : Gg} {x1 : Int32} {x2 : Int32} {σ : Mm} {v : Int32} {τ : Mm} (h : f_X10_likely x1 x2 σ = some (v, τ)) : MR l G 4 M_X10_likely [.ref 46, .int x1, .int x2] σ (some (.int v)) τ := by
  unfold f_X10_likely at h
  refine MR.of (by decide +kernel) (Nat.le_of_ble_eq_true rfl) ?_
  show AW l G 4 M_X10_likely (some (.int v)) τ 0 [(0, .ref 46), (1, .int x1), (2, .int x2)] [] σ
  refine AW.iload_n dX10_likely_0 (.refl 1) 1 rfl ?_
  refine AW.i2l dX10_likely_1 (.refl 2) ?_
  refine AW.lconst (v := (0 : Int64)) dX10_likely_2 (.refl 3) (by decide) ?_
  refine AW.ldc2_w lc_X10_182 dX10_likely_3 (.refl 6) ?_
  obtain ⟨r2, e1, h⟩ := b1_s h
  refine AW.callS (r' := (some (.int r2))) (σ' := σ) (rest := []) lm_X10_97 (c_X10_in e1) (by decide) (by decide) rfl rfl (Nat.le_of_ble_eq_true rfl) dX10_likely_6 (.refl 9) (st' := [.int r2]) rfl ?_
  refine AW.if_ne (tgt := 15) dX10_likely_9 (by decide) (fun c13 => ?_) (fun c13 => ?_)
  · have h := ifn c13 h
    refine AW.aload_n dX10_likely_15 (.refl 16) 0 rfl ?_
    refine AW.iconst (v := (0 : Int32)) dX10_likely_16 (.refl 17) (by decide) ?_
    obtain ⟨τ4, e3, h⟩ := b1_s h
    refine AW.callV (r' := none) (σ' := τ4) (rest := []) lm_X10_237 (c_X10_goThrough e3) (by decide) (by decide) rfl rfl (by decide) rfl rfl (Nat.le_of_ble_eq_true rfl) dX10_likely_17 (.refl 20) (st' := []) rfl ?_
    refine AW.aload_n dX10_likely_20 (.refl 21) 0 rfl ?_
    refine AW.getI lk_X10_218 rfl rfl (by decide) dX10_likely_21 (.refl 24) ?_
    refine AW.if_ne (tgt := 30) dX10_likely_24 (by decide) (fun c12 => ?_) (fun c12 => ?_)
    · have h := ifn c12 h
      refine AW.aload_n dX10_likely_30 (.refl 31) 0 rfl ?_
      refine AW.getR (z := 58) lk_X10_44 rfl rfl (by decide) rfl dX10_likely_31 (.refl 34) ?_
      refine AW.iload_n dX10_likely_34 (.refl 35) 1 rfl ?_
      obtain ⟨g5, h⟩ := gd_s h
      refine AW.iaload rfl g5 dX10_likely_35 (.refl 36) ?_
      refine AW.aload_n dX10_likely_36 (.refl 37) 0 rfl ?_
      refine AW.getI lk_X10_218 rfl rfl (by decide) dX10_likely_37 (.refl 40) ?_
      obtain ⟨r7, e6, h⟩ := b1_s h
      refine AW.callS (r' := (some (.int r7))) (σ' := τ4) (rest := []) lm_X10_278 (c_X10_common e6) (by decide) (by decide) rfl rfl (Nat.le_of_ble_eq_true rfl) dX10_likely_40 (.refl 43) (st' := [.int r7]) rfl ?_
      refine AW.istore_n (L' := [(3, .int r7), (0, .ref 46), (1, .int x1), (2, .int x2)]) dX10_likely_43 (.refl 44) (by decide) rfl ?_
      refine AW.iload_n dX10_likely_44 (.refl 45) 3 rfl ?_
      refine AW.if_eq (tgt := 59) dX10_likely_45 (by decide) (fun c11 => ?_) (fun c11 => ?_)
      · have h := ifp c11 h
        refine AW.aload_n dX10_likely_59 (.refl 60) 1 rfl ?_
        refine AW.getI lk_X10_218 rfl rfl (by decide) dX10_likely_60 (.refl 63) ?_
        refine AW.iload_n dX10_likely_63 (.refl 64) 0 rfl ?_
        obtain ⟨g8, h⟩ := gd_s h
        refine AW.idiv dX10_likely_64 (.refl 65) (of_decide_eq_true g8) ?_
        cases h
        exact AW.ireturn rfl dX10_likely_65
      · have h := ifn c11 h
        refine AW.aload_n dX10_likely_48 (.refl 49) 1 rfl ?_
        refine AW.getR (z := 58) lk_X10_44 rfl rfl (by decide) rfl dX10_likely_49 (.refl 52) ?_
        refine AW.iload_n dX10_likely_52 (.refl 53) 2 rfl ?_
        obtain ⟨g9, h⟩ := gd_s h
        refine AW.iaload rfl g9 dX10_likely_53 (.refl 54) ?_
        refine AW.iload_n dX10_likely_54 (.refl 55) 0 rfl ?_
        obtain ⟨g10, h⟩ := gd_s h
        refine AW.idiv dX10_likely_55 (.refl 56) (of_decide_eq_true g10) ?_
        refine AW.goto (tgt := 65) dX10_likely_56 (by decide) ?_
        cases h
        exact AW.ireturn rfl dX10_likely_65
    · have h := ifp c12 h
      refine AW.bipush (v := (-3 : Int32)) dX10_likely_27 (.refl 29) (by decide) ?_
      cases h
      exact AW.ireturn rfl dX10_likely_29
  · have h := ifp c13 h
    refine AW.bipush (v := (-2 : Int32)) dX10_likely_12 (.refl 14) (by decide) ?_
    cases h
    exact AW.ireturn rfl dX10_likely_14
