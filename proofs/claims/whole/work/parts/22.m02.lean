def f_X10_clashesOf_p5 (σ : Mm) : Nat → Int32 → Int32 → Int32 → Int32 → Option (Int32)
  | 0, _, _, _, _ => none
  | n + 1, x1, x2, x3, x4 => (if (σ.1 46 1) ≤ x4 then some x3 else (if x4 = x1 then (f_X10_clashesOf_p5 σ n) x1 x2 (x3 ||| (0 : Int32)) (x4 + (1 : Int32)) else gd (inB x4 5) ((if (σ.1 52 (x4).toNatClampNeg) = (-9 : Int32) then (f_X10_clashesOf_p5 σ n) x1 x2 (x3 ||| (0 : Int32)) (x4 + (1 : Int32)) else gd (inB x4 5) (b1 (f_X10_clash σ x1 x2 x4 (σ.1 52 (x4).toNatClampNeg)) (fun (r4 : Int32) => (if r4 = 0 then (f_X10_clashesOf_p5 σ n) x1 x2 (x3 ||| (0 : Int32)) (x4 + (1 : Int32)) else (f_X10_clashesOf_p5 σ n) x1 x2 (x3 ||| (jshl (1 : Int32) x4)) (x4 + (1 : Int32)))))))))
def f_X10_clashesOf (σ : Mm) (x1 : Int32) (x2 : Int32) : Option (Int32) := f_X10_clashesOf_p5 σ FU x1 x2 (0 : Int32) (0 : Int32)
set_option maxRecDepth 20000 in
theorem a_X10_clashesOf_p5 {l : Launch} {G : Gg} {v : Int32} {σ : Mm} : ∀ (n : Nat) (x1 : Int32) (x2 : Int32) (x3 : Int32) (x4 : Int32), f_X10_clashesOf_p5 σ n x1 x2 x3 x4 = some v → AW l G 3 M_X10_clashesOf (some (.int v)) σ 5 [(0, .ref 46), (1, .int x1), (2, .int x2), (3, .int x3), (4, .int x4)] [] σ := by
  intro n
  induction n with
  | zero => intro x1 x2 x3 x4 h; exact no_some h
  | succ n ih =>
    intro x1 x2 x3 x4 h
    rw [f_X10_clashesOf_p5] at h
    refine AW.iload dX10_clashesOf_5 (.refl 7) 4 rfl ?_
    refine AW.aload_n dX10_clashesOf_7 (.refl 8) 0 rfl ?_
    refine AW.getI lk_X10_135 rfl rfl (by decide) dX10_clashesOf_8 (.refl 11) ?_
    refine AW.icmp_ge (tgt := 67) dX10_clashesOf_11 (by decide) (fun c8 => ?_) (fun c8 => ?_)
    · have h := ifp c8 h
      refine AW.iload_n dX10_clashesOf_67 (.refl 68) 3 rfl ?_
      cases h
      exact AW.ireturn rfl dX10_clashesOf_68
    · have h := ifn c8 h
      refine AW.iload_n dX10_clashesOf_14 (.refl 15) 3 rfl ?_
      refine AW.iload dX10_clashesOf_15 (.refl 17) 4 rfl ?_
      refine AW.iload_n dX10_clashesOf_17 (.refl 18) 1 rfl ?_
      refine AW.icmp_eq (tgt := 58) dX10_clashesOf_18 (by decide) (fun c7 => ?_) (fun c7 => ?_)
      · have h := ifp c7 h
        refine AW.iconst (v := (0 : Int32)) dX10_clashesOf_58 (.refl 59) (by decide) ?_
        refine AW.ior dX10_clashesOf_59 (.refl 60) ?_
        refine AW.istore_n (L' := [(3, .int (x3 ||| (0 : Int32))), (0, .ref 46), (1, .int x1), (2, .int x2), (4, .int x4)]) dX10_clashesOf_60 (.refl 61) (by decide) rfl ?_
        refine AW.iinc (v := (x4 + (1 : Int32))) (L' := [(4, .int (x4 + (1 : Int32))), (3, .int (x3 ||| (0 : Int32))), (0, .ref 46), (1, .int x1), (2, .int x2)]) dX10_clashesOf_61 (.refl 64) 4 rfl rfl (by decide) rfl ?_
        refine AW.goto (tgt := 5) dX10_clashesOf_64 (by decide) ?_
        refine AW.sub (L' := [(0, .ref 46), (1, .int x1), (2, .int x2), (3, .int (x3 ||| (0 : Int32))), (4, .int (x4 + (1 : Int32)))]) [2, 3, 4, 1, 0] rfl ?_
        exact ih x1 x2 (x3 ||| (0 : Int32)) (x4 + (1 : Int32)) h
      · have h := ifn c7 h
        refine AW.aload_n dX10_clashesOf_21 (.refl 22) 0 rfl ?_
        refine AW.getR (z := 52) lk_X10_25 rfl rfl (by decide) rfl dX10_clashesOf_22 (.refl 25) ?_
        refine AW.iload dX10_clashesOf_25 (.refl 27) 4 rfl ?_
        obtain ⟨g1, h⟩ := gd_s h
        refine AW.iaload rfl g1 dX10_clashesOf_27 (.refl 28) ?_
        refine AW.bipush (v := (-9 : Int32)) dX10_clashesOf_28 (.refl 30) (by decide) ?_
        refine AW.icmp_eq (tgt := 58) dX10_clashesOf_30 (by decide) (fun c6 => ?_) (fun c6 => ?_)
        · have h := ifp c6 h
          refine AW.iconst (v := (0 : Int32)) dX10_clashesOf_58 (.refl 59) (by decide) ?_
          refine AW.ior dX10_clashesOf_59 (.refl 60) ?_
          refine AW.istore_n (L' := [(3, .int (x3 ||| (0 : Int32))), (0, .ref 46), (1, .int x1), (2, .int x2), (4, .int x4)]) dX10_clashesOf_60 (.refl 61) (by decide) rfl ?_
          refine AW.iinc (v := (x4 + (1 : Int32))) (L' := [(4, .int (x4 + (1 : Int32))), (3, .int (x3 ||| (0 : Int32))), (0, .ref 46), (1, .int x1), (2, .int x2)]) dX10_clashesOf_61 (.refl 64) 4 rfl rfl (by decide) rfl ?_
          refine AW.goto (tgt := 5) dX10_clashesOf_64 (by decide) ?_
          refine AW.sub (L' := [(0, .ref 46), (1, .int x1), (2, .int x2), (3, .int (x3 ||| (0 : Int32))), (4, .int (x4 + (1 : Int32)))]) [2, 3, 4, 1, 0] rfl ?_
          exact ih x1 x2 (x3 ||| (0 : Int32)) (x4 + (1 : Int32)) h
        · have h := ifn c6 h
          refine AW.aload_n dX10_clashesOf_33 (.refl 34) 0 rfl ?_
          refine AW.iload_n dX10_clashesOf_34 (.refl 35) 1 rfl ?_
          refine AW.iload_n dX10_clashesOf_35 (.refl 36) 2 rfl ?_
          refine AW.iload dX10_clashesOf_36 (.refl 38) 4 rfl ?_
          refine AW.aload_n dX10_clashesOf_38 (.refl 39) 0 rfl ?_
          refine AW.getR (z := 52) lk_X10_25 rfl rfl (by decide) rfl dX10_clashesOf_39 (.refl 42) ?_
          refine AW.iload dX10_clashesOf_42 (.refl 44) 4 rfl ?_
          obtain ⟨g2, h⟩ := gd_s h
          refine AW.iaload rfl g2 dX10_clashesOf_44 (.refl 45) ?_
          obtain ⟨r4, e3, h⟩ := b1_s h
          refine AW.callV (r' := (some (.int r4))) (σ' := σ) (rest := [.int x3]) lm_X10_156 (c_X10_clash e3) (by decide) (by decide) rfl rfl (by decide) rfl rfl (Nat.le_of_ble_eq_true rfl) dX10_clashesOf_45 (.refl 48) (st' := [.int r4, .int x3]) rfl ?_
          refine AW.if_eq (tgt := 58) dX10_clashesOf_48 (by decide) (fun c5 => ?_) (fun c5 => ?_)
          · have h := ifp c5 h
            refine AW.iconst (v := (0 : Int32)) dX10_clashesOf_58 (.refl 59) (by decide) ?_
            refine AW.ior dX10_clashesOf_59 (.refl 60) ?_
            refine AW.istore_n (L' := [(3, .int (x3 ||| (0 : Int32))), (0, .ref 46), (1, .int x1), (2, .int x2), (4, .int x4)]) dX10_clashesOf_60 (.refl 61) (by decide) rfl ?_
            refine AW.iinc (v := (x4 + (1 : Int32))) (L' := [(4, .int (x4 + (1 : Int32))), (3, .int (x3 ||| (0 : Int32))), (0, .ref 46), (1, .int x1), (2, .int x2)]) dX10_clashesOf_61 (.refl 64) 4 rfl rfl (by decide) rfl ?_
            refine AW.goto (tgt := 5) dX10_clashesOf_64 (by decide) ?_
            refine AW.sub (L' := [(0, .ref 46), (1, .int x1), (2, .int x2), (3, .int (x3 ||| (0 : Int32))), (4, .int (x4 + (1 : Int32)))]) [2, 3, 4, 1, 0] rfl ?_
            exact ih x1 x2 (x3 ||| (0 : Int32)) (x4 + (1 : Int32)) h
          · have h := ifn c5 h
            refine AW.iconst (v := (1 : Int32)) dX10_clashesOf_51 (.refl 52) (by decide) ?_
            refine AW.iload dX10_clashesOf_52 (.refl 54) 4 rfl ?_
            refine AW.ishl dX10_clashesOf_54 (.refl 55) ?_
            refine AW.goto (tgt := 59) dX10_clashesOf_55 (by decide) ?_
            refine AW.ior dX10_clashesOf_59 (.refl 60) ?_
            refine AW.istore_n (L' := [(3, .int (x3 ||| (jshl (1 : Int32) x4))), (0, .ref 46), (1, .int x1), (2, .int x2), (4, .int x4)]) dX10_clashesOf_60 (.refl 61) (by decide) rfl ?_
            refine AW.iinc (v := (x4 + (1 : Int32))) (L' := [(4, .int (x4 + (1 : Int32))), (3, .int (x3 ||| (jshl (1 : Int32) x4))), (0, .ref 46), (1, .int x1), (2, .int x2)]) dX10_clashesOf_61 (.refl 64) 4 rfl rfl (by decide) rfl ?_
            refine AW.goto (tgt := 5) dX10_clashesOf_64 (by decide) ?_
            refine AW.sub (L' := [(0, .ref 46), (1, .int x1), (2, .int x2), (3, .int (x3 ||| (jshl (1 : Int32) x4))), (4, .int (x4 + (1 : Int32)))]) [2, 3, 4, 1, 0] rfl ?_
            exact ih x1 x2 (x3 ||| (jshl (1 : Int32) x4)) (x4 + (1 : Int32)) h
set_option maxRecDepth 20000 in
theorem c_X10_clashesOf {l : Launch} {G : Gg} {x1 : Int32} {x2 : Int32} {σ : Mm} {v : Int32} (h : f_X10_clashesOf σ x1 x2 = some v) : MR l G 3 M_X10_clashesOf [.ref 46, .int x1, .int x2] σ (some (.int v)) σ := by
  unfold f_X10_clashesOf at h
  refine MR.of (by decide +kernel) (Nat.le_of_ble_eq_true rfl) ?_
  show AW l G 3 M_X10_clashesOf (some (.int v)) σ 0 [(0, .ref 46), (1, .int x1), (2, .int x2)] [] σ
  refine AW.iconst (v := (0 : Int32)) dX10_clashesOf_0 (.refl 1) (by decide) ?_
  refine AW.istore_n (L' := [(3, .int (0 : Int32)), (0, .ref 46), (1, .int x1), (2, .int x2)]) dX10_clashesOf_1 (.refl 2) (by decide) rfl ?_
  refine AW.iconst (v := (0 : Int32)) dX10_clashesOf_2 (.refl 3) (by decide) ?_
  refine AW.istore (L' := [(4, .int (0 : Int32)), (3, .int (0 : Int32)), (0, .ref 46), (1, .int x1), (2, .int x2)]) dX10_clashesOf_3 (.refl 5) (by decide) rfl ?_
  refine AW.sub (L' := [(0, .ref 46), (1, .int x1), (2, .int x2), (3, .int (0 : Int32)), (4, .int (0 : Int32))]) [2, 3, 4, 1, 0] rfl ?_
  exact a_X10_clashesOf_p5 FU x1 x2 (0 : Int32) (0 : Int32) h
def f_X10_coinsOf_p4 (σ : Mm) : Nat → Int32 → Int32 → Int32 → Option (Int32)
  | 0, _, _, _ => none
  | n + 1, x1, x2, x3 => (if (σ.1 46 1) ≤ x3 then some x2 else b1 (f_X10_has σ x1 x3) (fun (r2 : Int32) => (if r2 = 0 then (f_X10_coinsOf_p4 σ n) x1 (x2 + (0 : Int32)) (x3 + (1 : Int32)) else gd (inB (((6 : Int32) * x3) + (5 : Int32)) 30) (bnd ((x2 + (σ.1 49 ((((6 : Int32) * x3) + (5 : Int32))).toNatClampNeg))) (fun (y4 : Int32) => (f_X10_coinsOf_p4 σ n) x1 y4 (x3 + (1 : Int32)))))))
def f_X10_coinsOf (σ : Mm) (x1 : Int32) : Option (Int32) := f_X10_coinsOf_p4 σ FU x1 (0 : Int32) (0 : Int32)
set_option maxRecDepth 20000 in
theorem a_X10_coinsOf_p4 {l : Launch} {G : Gg} {v : Int32} {σ : Mm} : ∀ (n : Nat) (x1 : Int32) (x2 : Int32) (x3 : Int32), f_X10_coinsOf_p4 σ n x1 x2 x3 = some v → AW l G 1 M_X10_coinsOf (some (.int v)) σ 4 [(0, .ref 46), (1, .int x1), (2, .int x2), (3, .int x3)] [] σ := by
  intro n
  induction n with
  | zero => intro x1 x2 x3 h; exact no_some h
  | succ n ih =>
    intro x1 x2 x3 h
    rw [f_X10_coinsOf_p4] at h
    refine AW.iload_n dX10_coinsOf_4 (.refl 5) 3 rfl ?_
    refine AW.aload_n dX10_coinsOf_5 (.refl 6) 0 rfl ?_
    refine AW.getI lk_X10_135 rfl rfl (by decide) dX10_coinsOf_6 (.refl 9) ?_
    refine AW.icmp_ge (tgt := 44) dX10_coinsOf_9 (by decide) (fun c7 => ?_) (fun c7 => ?_)
    · have h := ifp c7 h
      refine AW.iload_n dX10_coinsOf_44 (.refl 45) 2 rfl ?_
      cases h
      exact AW.ireturn rfl dX10_coinsOf_45
    · have h := ifn c7 h
      refine AW.iload_n dX10_coinsOf_12 (.refl 13) 2 rfl ?_
      refine AW.iload_n dX10_coinsOf_13 (.refl 14) 1 rfl ?_
      refine AW.iload_n dX10_coinsOf_14 (.refl 15) 3 rfl ?_
      obtain ⟨r2, e1, h⟩ := b1_s h
      refine AW.callS (r' := (some (.int r2))) (σ' := σ) (rest := [.int x2]) lm_X10_160 (c_X10_has e1) (by decide) (by decide) rfl rfl (Nat.le_of_ble_eq_true rfl) dX10_coinsOf_15 (.refl 18) (st' := [.int r2, .int x2]) rfl ?_
      refine AW.if_eq (tgt := 35) dX10_coinsOf_18 (by decide) (fun c6 => ?_) (fun c6 => ?_)
      · have h := ifp c6 h
        refine AW.iconst (v := (0 : Int32)) dX10_coinsOf_35 (.refl 36) (by decide) ?_
        refine AW.iadd dX10_coinsOf_36 (.refl 37) ?_
        refine AW.istore_n (L' := [(2, .int (x2 + (0 : Int32))), (0, .ref 46), (1, .int x1), (3, .int x3)]) dX10_coinsOf_37 (.refl 38) (by decide) rfl ?_
        refine AW.iinc (v := (x3 + (1 : Int32))) (L' := [(3, .int (x3 + (1 : Int32))), (2, .int (x2 + (0 : Int32))), (0, .ref 46), (1, .int x1)]) dX10_coinsOf_38 (.refl 41) 3 rfl rfl (by decide) rfl ?_
        refine AW.goto (tgt := 4) dX10_coinsOf_41 (by decide) ?_
        refine AW.sub (L' := [(0, .ref 46), (1, .int x1), (2, .int (x2 + (0 : Int32))), (3, .int (x3 + (1 : Int32)))]) [2, 3, 1, 0] rfl ?_
        exact ih x1 (x2 + (0 : Int32)) (x3 + (1 : Int32)) h
      · have h := ifn c6 h
        refine AW.aload_n dX10_coinsOf_21 (.refl 22) 0 rfl ?_
        refine AW.getR (z := 49) lk_X10_16 rfl rfl (by decide) rfl dX10_coinsOf_22 (.refl 25) ?_
        refine AW.bipush (v := (6 : Int32)) dX10_coinsOf_25 (.refl 27) (by decide) ?_
        refine AW.iload_n dX10_coinsOf_27 (.refl 28) 3 rfl ?_
        refine AW.imul dX10_coinsOf_28 (.refl 29) ?_
        refine AW.iconst (v := (5 : Int32)) dX10_coinsOf_29 (.refl 30) (by decide) ?_
        refine AW.iadd dX10_coinsOf_30 (.refl 31) ?_
        obtain ⟨g3, h⟩ := gd_s h
        refine AW.iaload rfl g3 dX10_coinsOf_31 (.refl 32) ?_
        refine AW.goto (tgt := 36) dX10_coinsOf_32 (by decide) ?_
        refine AW.iadd dX10_coinsOf_36 (.refl 37) ?_
        obtain ⟨y4, e5, h⟩ := bnd_s h
        refine AW.nmI e5 ?_
        refine AW.istore_n (L' := [(2, .int y4), (0, .ref 46), (1, .int x1), (3, .int x3)]) dX10_coinsOf_37 (.refl 38) (by decide) rfl ?_
        refine AW.iinc (v := (x3 + (1 : Int32))) (L' := [(3, .int (x3 + (1 : Int32))), (2, .int y4), (0, .ref 46), (1, .int x1)]) dX10_coinsOf_38 (.refl 41) 3 rfl rfl (by decide) rfl ?_
        refine AW.goto (tgt := 4) dX10_coinsOf_41 (by decide) ?_
        refine AW.sub (L' := [(0, .ref 46), (1, .int x1), (2, .int y4), (3, .int (x3 + (1 : Int32)))]) [2, 3, 1, 0] rfl ?_
        exact ih x1 y4 (x3 + (1 : Int32)) h
set_option maxRecDepth 20000 in
theorem c_X10_coinsOf {l : Launch} {G : Gg} {x1 : Int32} {σ : Mm} {v : Int32} (h : f_X10_coinsOf σ x1 = some v) : MR l G 1 M_X10_coinsOf [.ref 46, .int x1] σ (some (.int v)) σ := by
  unfold f_X10_coinsOf at h
  refine MR.of (by decide +kernel) (Nat.le_of_ble_eq_true rfl) ?_
  show AW l G 1 M_X10_coinsOf (some (.int v)) σ 0 [(0, .ref 46), (1, .int x1)] [] σ
  refine AW.iconst (v := (0 : Int32)) dX10_coinsOf_0 (.refl 1) (by decide) ?_
  refine AW.istore_n (L' := [(2, .int (0 : Int32)), (0, .ref 46), (1, .int x1)]) dX10_coinsOf_1 (.refl 2) (by decide) rfl ?_
  refine AW.iconst (v := (0 : Int32)) dX10_coinsOf_2 (.refl 3) (by decide) ?_
  refine AW.istore_n (L' := [(3, .int (0 : Int32)), (2, .int (0 : Int32)), (0, .ref 46), (1, .int x1)]) dX10_coinsOf_3 (.refl 4) (by decide) rfl ?_
  refine AW.sub (L' := [(0, .ref 46), (1, .int x1), (2, .int (0 : Int32)), (3, .int (0 : Int32))]) [2, 3, 1, 0] rfl ?_
  exact a_X10_coinsOf_p4 FU x1 (0 : Int32) (0 : Int32) h
def f_X10_letNow_p4 (σ : Mm) : Nat → Int32 → Int32 → Option (Int32)
  | 0, _, _ => none
  | n + 1, x1, x2 => (if (σ.1 46 1) ≤ x2 then some x1 else gd (inB x2 5) ((if (σ.1 52 (x2).toNatClampNeg) = (-9 : Int32) then (f_X10_letNow_p4 σ n) (x1 ||| (0 : Int32)) (x2 + (1 : Int32)) else (f_X10_letNow_p4 σ n) (x1 ||| (jshl (1 : Int32) x2)) (x2 + (1 : Int32)))))
def f_X10_letNow (σ : Mm)  : Option (Int32) := f_X10_letNow_p4 σ FU (0 : Int32) (0 : Int32)
set_option maxRecDepth 20000 in
theorem a_X10_letNow_p4 {l : Launch} {G : Gg} {v : Int32} {σ : Mm} : ∀ (n : Nat) (x1 : Int32) (x2 : Int32), f_X10_letNow_p4 σ n x1 x2 = some v → AW l G 0 M_X10_letNow (some (.int v)) σ 4 [(0, .ref 46), (1, .int x1), (2, .int x2)] [] σ := by
  intro n
  induction n with
  | zero => intro x1 x2 h; exact no_some h
  | succ n ih =>
    intro x1 x2 h
    rw [f_X10_letNow_p4] at h
    refine AW.iload_n dX10_letNow_4 (.refl 5) 2 rfl ?_
    refine AW.aload_n dX10_letNow_5 (.refl 6) 0 rfl ?_
    refine AW.getI lk_X10_135 rfl rfl (by decide) dX10_letNow_6 (.refl 9) ?_
    refine AW.icmp_ge (tgt := 39) dX10_letNow_9 (by decide) (fun c3 => ?_) (fun c3 => ?_)
    · have h := ifp c3 h
      refine AW.iload_n dX10_letNow_39 (.refl 40) 1 rfl ?_
      cases h
      exact AW.ireturn rfl dX10_letNow_40
    · have h := ifn c3 h
      refine AW.iload_n dX10_letNow_12 (.refl 13) 1 rfl ?_
      refine AW.aload_n dX10_letNow_13 (.refl 14) 0 rfl ?_
      refine AW.getR (z := 52) lk_X10_25 rfl rfl (by decide) rfl dX10_letNow_14 (.refl 17) ?_
      refine AW.iload_n dX10_letNow_17 (.refl 18) 2 rfl ?_
      obtain ⟨g1, h⟩ := gd_s h
      refine AW.iaload rfl g1 dX10_letNow_18 (.refl 19) ?_
      refine AW.bipush (v := (-9 : Int32)) dX10_letNow_19 (.refl 21) (by decide) ?_
      refine AW.icmp_eq (tgt := 30) dX10_letNow_21 (by decide) (fun c2 => ?_) (fun c2 => ?_)
      · have h := ifp c2 h
        refine AW.iconst (v := (0 : Int32)) dX10_letNow_30 (.refl 31) (by decide) ?_
        refine AW.ior dX10_letNow_31 (.refl 32) ?_
        refine AW.istore_n (L' := [(1, .int (x1 ||| (0 : Int32))), (0, .ref 46), (2, .int x2)]) dX10_letNow_32 (.refl 33) (by decide) rfl ?_
        refine AW.iinc (v := (x2 + (1 : Int32))) (L' := [(2, .int (x2 + (1 : Int32))), (1, .int (x1 ||| (0 : Int32))), (0, .ref 46)]) dX10_letNow_33 (.refl 36) 2 rfl rfl (by decide) rfl ?_
        refine AW.goto (tgt := 4) dX10_letNow_36 (by decide) ?_
        refine AW.sub (L' := [(0, .ref 46), (1, .int (x1 ||| (0 : Int32))), (2, .int (x2 + (1 : Int32)))]) [2, 1, 0] rfl ?_
        exact ih (x1 ||| (0 : Int32)) (x2 + (1 : Int32)) h
      · have h := ifn c2 h
        refine AW.iconst (v := (1 : Int32)) dX10_letNow_24 (.refl 25) (by decide) ?_
        refine AW.iload_n dX10_letNow_25 (.refl 26) 2 rfl ?_
        refine AW.ishl dX10_letNow_26 (.refl 27) ?_
        refine AW.goto (tgt := 31) dX10_letNow_27 (by decide) ?_
        refine AW.ior dX10_letNow_31 (.refl 32) ?_
        refine AW.istore_n (L' := [(1, .int (x1 ||| (jshl (1 : Int32) x2))), (0, .ref 46), (2, .int x2)]) dX10_letNow_32 (.refl 33) (by decide) rfl ?_
        refine AW.iinc (v := (x2 + (1 : Int32))) (L' := [(2, .int (x2 + (1 : Int32))), (1, .int (x1 ||| (jshl (1 : Int32) x2))), (0, .ref 46)]) dX10_letNow_33 (.refl 36) 2 rfl rfl (by decide) rfl ?_
        refine AW.goto (tgt := 4) dX10_letNow_36 (by decide) ?_
        refine AW.sub (L' := [(0, .ref 46), (1, .int (x1 ||| (jshl (1 : Int32) x2))), (2, .int (x2 + (1 : Int32)))]) [2, 1, 0] rfl ?_
        exact ih (x1 ||| (jshl (1 : Int32) x2)) (x2 + (1 : Int32)) h
set_option maxRecDepth 20000 in
theorem c_X10_letNow {l : Launch} {G : Gg}  {σ : Mm} {v : Int32} (h : f_X10_letNow σ  = some v) : MR l G 0 M_X10_letNow [.ref 46] σ (some (.int v)) σ := by
  unfold f_X10_letNow at h
  refine MR.of (by decide +kernel) (Nat.le_of_ble_eq_true rfl) ?_
  show AW l G 0 M_X10_letNow (some (.int v)) σ 0 [(0, .ref 46)] [] σ
  refine AW.iconst (v := (0 : Int32)) dX10_letNow_0 (.refl 1) (by decide) ?_
  refine AW.istore_n (L' := [(1, .int (0 : Int32)), (0, .ref 46)]) dX10_letNow_1 (.refl 2) (by decide) rfl ?_
  refine AW.iconst (v := (0 : Int32)) dX10_letNow_2 (.refl 3) (by decide) ?_
  refine AW.istore_n (L' := [(2, .int (0 : Int32)), (1, .int (0 : Int32)), (0, .ref 46)]) dX10_letNow_3 (.refl 4) (by decide) rfl ?_
  refine AW.sub (L' := [(0, .ref 46), (1, .int (0 : Int32)), (2, .int (0 : Int32))]) [2, 1, 0] rfl ?_
  exact a_X10_letNow_p4 FU (0 : Int32) (0 : Int32) h
def f_X10_ringing_p53 (σ : Mm) (kh : Int32 → Int32 → Int32 → Option (Int32)) (x1 : Int32) (x2 : Int32) (x3 : Int32) (s0 : Int32) : Option (Int32) := (if s0 = 0 then kh x1 (x2 ||| (0 : Int32)) (x3 + (1 : Int32)) else gd (inB x3 5) (b1 (f_X10_seconds σ x3 (σ.1 52 (x3).toNatClampNeg) (0 : Int32)) (fun (r3 : Int32) => kh x1 (x2 ||| r3) (x3 + (1 : Int32)))))
def f_X10_ringing_p52 (σ : Mm) (kh : Int32 → Int32 → Int32 → Option (Int32)) (x1 : Int32) (x2 : Int32) (x3 : Int32) : Option (Int32) := (f_X10_ringing_p53 σ kh) x1 x2 x3 (0 : Int32)
def f_X10_ringing_p48 (σ : Mm) (kh : Int32 → Int32 → Int32 → Option (Int32)) (x1 : Int32) (x2 : Int32) (x3 : Int32) : Option (Int32) := (f_X10_ringing_p53 σ kh) x1 x2 x3 (1 : Int32)
def f_X10_ringing_p4 (σ : Mm) : Nat → Int32 → Int32 → Int32 → Option (Int32)
  | 0, _, _, _ => none
  | n + 1, x1, x2, x3 => (if (σ.1 46 1) ≤ x3 then some x2 else gd (inB x3 5) ((if (σ.1 52 (x3).toNatClampNeg) < 0 then (f_X10_ringing_p52 σ (f_X10_ringing_p4 σ n)) x1 x2 x3 else b1 (f_X10_isQuiet σ x3) (fun (r3 : Int32) => (if r3 = 0 then (if x1 = (-9 : Int32) then (f_X10_ringing_p48 σ (f_X10_ringing_p4 σ n)) x1 x2 x3 else gd (inB ((6 : Int32) * x3) 30) ((if (σ.1 49 (((6 : Int32) * x3)).toNatClampNeg) = x1 then (f_X10_ringing_p48 σ (f_X10_ringing_p4 σ n)) x1 x2 x3 else (f_X10_ringing_p52 σ (f_X10_ringing_p4 σ n)) x1 x2 x3))) else (f_X10_ringing_p52 σ (f_X10_ringing_p4 σ n)) x1 x2 x3)))))
def f_X10_ringing (σ : Mm) (x1 : Int32) : Option (Int32) := f_X10_ringing_p4 σ FU x1 (0 : Int32) (0 : Int32)
set_option maxRecDepth 20000 in
theorem a_X10_ringing_p53 {l : Launch} {G : Gg} {v : Int32} {σ : Mm} {kh : Int32 → Int32 → Int32 → Option (Int32)} (hkh : ∀ (x1 : Int32) (x2 : Int32) (x3 : Int32), kh x1 x2 x3 = some v → AW l G 2 M_X10_ringing (some (.int v)) σ 4 [(0, .ref 46), (1, .int x1), (2, .int x2), (3, .int x3)] [] σ) (x1 : Int32) (x2 : Int32) (x3 : Int32) (s0 : Int32) (h : f_X10_ringing_p53 σ kh x1 x2 x3 s0 = some v) : AW l G 2 M_X10_ringing (some (.int v)) σ 53 [(0, .ref 46), (1, .int x1), (2, .int x2), (3, .int x3)] [.int s0] σ := by
  unfold f_X10_ringing_p53 at h
  refine AW.istore (L' := [(4, .int s0), (0, .ref 46), (1, .int x1), (2, .int x2), (3, .int x3)]) dX10_ringing_53 (.refl 55) (by decide) rfl ?_
  refine AW.iload_n dX10_ringing_55 (.refl 56) 3 rfl ?_
  refine AW.iload dX10_ringing_56 (.refl 58) 0 rfl ?_
  refine AW.if_eq (tgt := 76) dX10_ringing_58 (by decide) (fun c4 => ?_) (fun c4 => ?_)
  · have h := ifp c4 h
    refine AW.iconst (v := (0 : Int32)) dX10_ringing_76 (.refl 77) (by decide) ?_
    refine AW.ior dX10_ringing_77 (.refl 78) ?_
    refine AW.istore_n (L' := [(2, .int (x2 ||| (0 : Int32))), (4, .int s0), (0, .ref 46), (1, .int x1), (3, .int x3)]) dX10_ringing_78 (.refl 79) (by decide) rfl ?_
    refine AW.iinc (v := (x3 + (1 : Int32))) (L' := [(3, .int (x3 + (1 : Int32))), (2, .int (x2 ||| (0 : Int32))), (4, .int s0), (0, .ref 46), (1, .int x1)]) dX10_ringing_79 (.refl 82) 4 rfl rfl (by decide) rfl ?_
    refine AW.goto (tgt := 4) dX10_ringing_82 (by decide) ?_
    refine AW.sub (L' := [(0, .ref 46), (1, .int x1), (2, .int (x2 ||| (0 : Int32))), (3, .int (x3 + (1 : Int32)))]) [3, 4, 1, 0] rfl ?_
    exact hkh x1 (x2 ||| (0 : Int32)) (x3 + (1 : Int32)) h
  · have h := ifn c4 h
    refine AW.aload_n dX10_ringing_61 (.refl 62) 1 rfl ?_
    refine AW.iload_n dX10_ringing_62 (.refl 63) 4 rfl ?_
    refine AW.aload_n dX10_ringing_63 (.refl 64) 1 rfl ?_
    refine AW.getR (z := 52) lk_X10_25 rfl rfl (by decide) rfl dX10_ringing_64 (.refl 67) ?_
    refine AW.iload_n dX10_ringing_67 (.refl 68) 4 rfl ?_
    obtain ⟨g1, h⟩ := gd_s h
    refine AW.iaload rfl g1 dX10_ringing_68 (.refl 69) ?_
    refine AW.iconst (v := (0 : Int32)) dX10_ringing_69 (.refl 70) (by decide) ?_
    obtain ⟨r3, e2, h⟩ := b1_s h
    refine AW.callV (r' := (some (.int r3))) (σ' := σ) (rest := [.int x2]) lm_X10_152 (c_X10_seconds e2) (by decide) (by decide) rfl rfl (by decide) rfl rfl (Nat.le_of_ble_eq_true rfl) dX10_ringing_70 (.refl 73) (st' := [.int r3, .int x2]) rfl ?_
    refine AW.goto (tgt := 77) dX10_ringing_73 (by decide) ?_
    refine AW.ior dX10_ringing_77 (.refl 78) ?_
    refine AW.istore_n (L' := [(2, .int (x2 ||| r3)), (4, .int s0), (0, .ref 46), (1, .int x1), (3, .int x3)]) dX10_ringing_78 (.refl 79) (by decide) rfl ?_
    refine AW.iinc (v := (x3 + (1 : Int32))) (L' := [(3, .int (x3 + (1 : Int32))), (2, .int (x2 ||| r3)), (4, .int s0), (0, .ref 46), (1, .int x1)]) dX10_ringing_79 (.refl 82) 4 rfl rfl (by decide) rfl ?_
    refine AW.goto (tgt := 4) dX10_ringing_82 (by decide) ?_
    refine AW.sub (L' := [(0, .ref 46), (1, .int x1), (2, .int (x2 ||| r3)), (3, .int (x3 + (1 : Int32)))]) [3, 4, 1, 0] rfl ?_
    exact hkh x1 (x2 ||| r3) (x3 + (1 : Int32)) h
set_option maxRecDepth 20000 in
theorem a_X10_ringing_p52 {l : Launch} {G : Gg} {v : Int32} {σ : Mm} {kh : Int32 → Int32 → Int32 → Option (Int32)} (hkh : ∀ (x1 : Int32) (x2 : Int32) (x3 : Int32), kh x1 x2 x3 = some v → AW l G 2 M_X10_ringing (some (.int v)) σ 4 [(0, .ref 46), (1, .int x1), (2, .int x2), (3, .int x3)] [] σ) (x1 : Int32) (x2 : Int32) (x3 : Int32) (h : f_X10_ringing_p52 σ kh x1 x2 x3 = some v) : AW l G 2 M_X10_ringing (some (.int v)) σ 52 [(0, .ref 46), (1, .int x1), (2, .int x2), (3, .int x3)] [] σ := by
  unfold f_X10_ringing_p52 at h
  refine AW.iconst (v := (0 : Int32)) dX10_ringing_52 (.refl 53) (by decide) ?_
  exact (a_X10_ringing_p53 hkh) x1 x2 x3 (0 : Int32) h
set_option maxRecDepth 20000 in
theorem a_X10_ringing_p48 {l : Launch} {G : Gg} {v : Int32} {σ : Mm} {kh : Int32 → Int32 → Int32 → Option (Int32)} (hkh : ∀ (x1 : Int32) (x2 : Int32) (x3 : Int32), kh x1 x2 x3 = some v → AW l G 2 M_X10_ringing (some (.int v)) σ 4 [(0, .ref 46), (1, .int x1), (2, .int x2), (3, .int x3)] [] σ) (x1 : Int32) (x2 : Int32) (x3 : Int32) (h : f_X10_ringing_p48 σ kh x1 x2 x3 = some v) : AW l G 2 M_X10_ringing (some (.int v)) σ 48 [(0, .ref 46), (1, .int x1), (2, .int x2), (3, .int x3)] [] σ := by
  unfold f_X10_ringing_p48 at h
  refine AW.iconst (v := (1 : Int32)) dX10_ringing_48 (.refl 49) (by decide) ?_
  refine AW.goto (tgt := 53) dX10_ringing_49 (by decide) ?_
  exact (a_X10_ringing_p53 hkh) x1 x2 x3 (1 : Int32) h
set_option maxRecDepth 20000 in
theorem a_X10_ringing_p4 {l : Launch} {G : Gg} {v : Int32} {σ : Mm} : ∀ (n : Nat) (x1 : Int32) (x2 : Int32) (x3 : Int32), f_X10_ringing_p4 σ n x1 x2 x3 = some v → AW l G 2 M_X10_ringing (some (.int v)) σ 4 [(0, .ref 46), (1, .int x1), (2, .int x2), (3, .int x3)] [] σ := by
  intro n
  induction n with
  | zero => intro x1 x2 x3 h; exact no_some h
  | succ n ih =>
    intro x1 x2 x3 h
    rw [f_X10_ringing_p4] at h
    refine AW.iload_n dX10_ringing_4 (.refl 5) 3 rfl ?_
    refine AW.aload_n dX10_ringing_5 (.refl 6) 0 rfl ?_
    refine AW.getI lk_X10_135 rfl rfl (by decide) dX10_ringing_6 (.refl 9) ?_
    refine AW.icmp_ge (tgt := 85) dX10_ringing_9 (by decide) (fun c9 => ?_) (fun c9 => ?_)
    · have h := ifp c9 h
      refine AW.iload_n dX10_ringing_85 (.refl 86) 2 rfl ?_
      cases h
      exact AW.ireturn rfl dX10_ringing_86
    · have h := ifn c9 h
      refine AW.aload_n dX10_ringing_12 (.refl 13) 0 rfl ?_
      refine AW.getR (z := 52) lk_X10_25 rfl rfl (by decide) rfl dX10_ringing_13 (.refl 16) ?_
      refine AW.iload_n dX10_ringing_16 (.refl 17) 3 rfl ?_
      obtain ⟨g1, h⟩ := gd_s h
      refine AW.iaload rfl g1 dX10_ringing_17 (.refl 18) ?_
      refine AW.if_lt (tgt := 52) dX10_ringing_18 (by decide) (fun c8 => ?_) (fun c8 => ?_)
      · have h := ifp c8 h
        exact (a_X10_ringing_p52 ih) x1 x2 x3 h
      · have h := ifn c8 h
        refine AW.aload_n dX10_ringing_21 (.refl 22) 0 rfl ?_
        refine AW.iload_n dX10_ringing_22 (.refl 23) 3 rfl ?_
        obtain ⟨r3, e2, h⟩ := b1_s h
        refine AW.callV (r' := (some (.int r3))) (σ' := σ) (rest := []) lm_X10_141 (c_X10_isQuiet e2) (by decide) (by decide) rfl rfl (by decide) rfl rfl (Nat.le_of_ble_eq_true rfl) dX10_ringing_23 (.refl 26) (st' := [.int r3]) rfl ?_
        refine AW.if_ne (tgt := 52) dX10_ringing_26 (by decide) (fun c7 => ?_) (fun c7 => ?_)
        · have h := ifn c7 h
          exact (a_X10_ringing_p52 ih) x1 x2 x3 h
        · have h := ifp c7 h
          refine AW.iload_n dX10_ringing_29 (.refl 30) 1 rfl ?_
          refine AW.bipush (v := (-9 : Int32)) dX10_ringing_30 (.refl 32) (by decide) ?_
          refine AW.icmp_eq (tgt := 48) dX10_ringing_32 (by decide) (fun c6 => ?_) (fun c6 => ?_)
          · have h := ifp c6 h
            exact (a_X10_ringing_p48 ih) x1 x2 x3 h
          · have h := ifn c6 h
            refine AW.aload_n dX10_ringing_35 (.refl 36) 0 rfl ?_
            refine AW.getR (z := 49) lk_X10_16 rfl rfl (by decide) rfl dX10_ringing_36 (.refl 39) ?_
            refine AW.bipush (v := (6 : Int32)) dX10_ringing_39 (.refl 41) (by decide) ?_
            refine AW.iload_n dX10_ringing_41 (.refl 42) 3 rfl ?_
            refine AW.imul dX10_ringing_42 (.refl 43) ?_
            obtain ⟨g4, h⟩ := gd_s h
            refine AW.iaload rfl g4 dX10_ringing_43 (.refl 44) ?_
            refine AW.iload_n dX10_ringing_44 (.refl 45) 1 rfl ?_
            refine AW.icmp_ne (tgt := 52) dX10_ringing_45 (by decide) (fun c5 => ?_) (fun c5 => ?_)
            · have h := ifn c5 h
              exact (a_X10_ringing_p52 ih) x1 x2 x3 h
            · have h := ifp c5 h
              exact (a_X10_ringing_p48 ih) x1 x2 x3 h
set_option maxRecDepth 20000 in
theorem c_X10_ringing {l : Launch} {G : Gg} {x1 : Int32} {σ : Mm} {v : Int32} (h : f_X10_ringing σ x1 = some v) : MR l G 2 M_X10_ringing [.ref 46, .int x1] σ (some (.int v)) σ := by
  unfold f_X10_ringing at h
  refine MR.of (by decide +kernel) (Nat.le_of_ble_eq_true rfl) ?_
  show AW l G 2 M_X10_ringing (some (.int v)) σ 0 [(0, .ref 46), (1, .int x1)] [] σ
  refine AW.iconst (v := (0 : Int32)) dX10_ringing_0 (.refl 1) (by decide) ?_
  refine AW.istore_n (L' := [(2, .int (0 : Int32)), (0, .ref 46), (1, .int x1)]) dX10_ringing_1 (.refl 2) (by decide) rfl ?_
  refine AW.iconst (v := (0 : Int32)) dX10_ringing_2 (.refl 3) (by decide) ?_
  refine AW.istore_n (L' := [(3, .int (0 : Int32)), (2, .int (0 : Int32)), (0, .ref 46), (1, .int x1)]) dX10_ringing_3 (.refl 4) (by decide) rfl ?_
  refine AW.sub (L' := [(0, .ref 46), (1, .int x1), (2, .int (0 : Int32)), (3, .int (0 : Int32))]) [2, 3, 1, 0] rfl ?_
  exact a_X10_ringing_p4 FU x1 (0 : Int32) (0 : Int32) h
def f_X10_bell (σ : Mm) (x1 : Int32) (x2 : Int32) : Option (Int32) := b1 (f_X10_isBell σ x1) (fun (r2 : Int32) => (if r2 = 0 then some (-1 : Int32) else (if x2 = (0 : Int32) then gd (inB x1 3) (some (σ.1 47 (x1).toNatClampNeg)) else (if x2 = (1 : Int32) then gd (inB x1 3) (some (σ.1 48 (x1).toNatClampNeg)) else (if x2 = (2 : Int32) then b1 (f_X10_ringing σ x1) (fun (r8 : Int32) => some r8) else some (-2 : Int32))))))
set_option maxRecDepth 20000 in
theorem c_X10_bell {l : Launch} {G : Gg} {x1 : Int32} {x2 : Int32} {σ : Mm} {v : Int32} (h : f_X10_bell σ x1 x2 = some v) : MR l G 3 M_X10_bell [.ref 46, .int x1, .int x2] σ (some (.int v)) σ := by
  unfold f_X10_bell at h
  refine MR.of (by decide +kernel) (Nat.le_of_ble_eq_true rfl) ?_
  show AW l G 3 M_X10_bell (some (.int v)) σ 0 [(0, .ref 46), (1, .int x1), (2, .int x2)] [] σ
  refine AW.aload_n dX10_bell_0 (.refl 1) 0 rfl ?_
  refine AW.iload_n dX10_bell_1 (.refl 2) 1 rfl ?_
  obtain ⟨r2, e1, h⟩ := b1_s h
  refine AW.callV (r' := (some (.int r2))) (σ' := σ) (rest := []) lm_X10_164 (c_X10_isBell e1) (by decide) (by decide) rfl rfl (by decide) rfl rfl (Nat.le_of_ble_eq_true rfl) dX10_bell_2 (.refl 5) (st' := [.int r2]) rfl ?_
  refine AW.if_ne (tgt := 10) dX10_bell_5 (by decide) (fun c10 => ?_) (fun c10 => ?_)
  · have h := ifn c10 h
    refine AW.iload_n dX10_bell_10 (.refl 11) 2 rfl ?_
    by_cases c4 : x2 = (0 : Int32)
    · have h := ifp c4 h
      refine AW.tabIn (v := (0 : Int32)) (off := 25) (tgt := 36) dX10_bell_11 c4 (by decide) (by decide) (by decide) (by decide) ?_
      refine AW.aload_n dX10_bell_36 (.refl 37) 0 rfl ?_
      refine AW.getR (z := 47) lk_X10_7 rfl rfl (by decide) rfl dX10_bell_37 (.refl 40) ?_
      refine AW.iload_n dX10_bell_40 (.refl 41) 1 rfl ?_
      obtain ⟨g3, h⟩ := gd_s h
      refine AW.iaload rfl g3 dX10_bell_41 (.refl 42) ?_
      cases h
      exact AW.ireturn rfl dX10_bell_42
    have h := ifn c4 h
    by_cases c6 : x2 = (1 : Int32)
    · have h := ifp c6 h
      refine AW.tabIn (v := (1 : Int32)) (off := 32) (tgt := 43) dX10_bell_11 c6 (by decide) (by decide) (by decide) (by decide) ?_
      refine AW.aload_n dX10_bell_43 (.refl 44) 0 rfl ?_
      refine AW.getR (z := 48) lk_X10_13 rfl rfl (by decide) rfl dX10_bell_44 (.refl 47) ?_
      refine AW.iload_n dX10_bell_47 (.refl 48) 1 rfl ?_
      obtain ⟨g5, h⟩ := gd_s h
      refine AW.iaload rfl g5 dX10_bell_48 (.refl 49) ?_
      cases h
      exact AW.ireturn rfl dX10_bell_49
    have h := ifn c6 h
    by_cases c9 : x2 = (2 : Int32)
    · have h := ifp c9 h
      refine AW.tabIn (v := (2 : Int32)) (off := 39) (tgt := 50) dX10_bell_11 c9 (by decide) (by decide) (by decide) (by decide) ?_
      refine AW.aload_n dX10_bell_50 (.refl 51) 0 rfl ?_
      refine AW.iload_n dX10_bell_51 (.refl 52) 1 rfl ?_
      obtain ⟨r8, e7, h⟩ := b1_s h
      refine AW.callV (r' := (some (.int r8))) (σ' := σ) (rest := []) lm_X10_167 (c_X10_ringing e7) (by decide) (by decide) rfl rfl (by decide) rfl rfl (Nat.le_of_ble_eq_true rfl) dX10_bell_52 (.refl 55) (st' := [.int r8]) rfl ?_
      cases h
      exact AW.ireturn rfl dX10_bell_55
    have h := ifn c9 h
    refine AW.tabOut (tgt := 56) dX10_bell_11 (tab_out _ 2 (fun i hi => by
      rcases (show i = 0 ∨ i = 1 ∨ i = 2 by omega) with rfl | rfl | rfl
      · exact c4
      · exact c6
      · exact c9) (by decide)) (by decide) ?_
    refine AW.bipush (v := (-2 : Int32)) dX10_bell_56 (.refl 58) (by decide) ?_
    cases h
    exact AW.ireturn rfl dX10_bell_58
  · have h := ifp c10 h
    refine AW.iconst (v := (-1 : Int32)) dX10_bell_8 (.refl 9) (by decide) ?_
    cases h
    exact AW.ireturn rfl dX10_bell_9
def f_X10_begins_p4 (σ : Mm) : Nat → Int32 → Int32 → Int32 → Option (Int32)
  | 0, _, _, _ => none
  | n + 1, x1, x2, x3 => (if (10 : Int32) ≤ x3 then some x2 else b1 (f_X10_mayBegin σ x1 x3) (fun (r2 : Int32) => (if r2 = 0 then (f_X10_begins_p4 σ n) x1 (x2 ||| (0 : Int32)) (x3 + (1 : Int32)) else (f_X10_begins_p4 σ n) x1 (x2 ||| (jshl (1 : Int32) x3)) (x3 + (1 : Int32)))))
def f_X10_begins (σ : Mm) (x1 : Int32) : Option (Int32) := f_X10_begins_p4 σ FU x1 (0 : Int32) (0 : Int32)
set_option maxRecDepth 20000 in
theorem a_X10_begins_p4 {l : Launch} {G : Gg} {v : Int32} {σ : Mm} : ∀ (n : Nat) (x1 : Int32) (x2 : Int32) (x3 : Int32), f_X10_begins_p4 σ n x1 x2 x3 = some v → AW l G 2 M_X10_begins (some (.int v)) σ 4 [(0, .ref 46), (1, .int x1), (2, .int x2), (3, .int x3)] [] σ := by
  intro n
  induction n with
  | zero => intro x1 x2 x3 h; exact no_some h
  | succ n ih =>
    intro x1 x2 x3 h
    rw [f_X10_begins_p4] at h
    refine AW.iload_n dX10_begins_4 (.refl 5) 3 rfl ?_
    refine AW.bipush (v := (10 : Int32)) dX10_begins_5 (.refl 7) (by decide) ?_
    refine AW.icmp_ge (tgt := 35) dX10_begins_7 (by decide) (fun c4 => ?_) (fun c4 => ?_)
    · have h := ifp c4 h
      refine AW.iload_n dX10_begins_35 (.refl 36) 2 rfl ?_
      cases h
      exact AW.ireturn rfl dX10_begins_36
    · have h := ifn c4 h
      refine AW.iload_n dX10_begins_10 (.refl 11) 2 rfl ?_
      refine AW.aload_n dX10_begins_11 (.refl 12) 0 rfl ?_
      refine AW.iload_n dX10_begins_12 (.refl 13) 1 rfl ?_
      refine AW.iload_n dX10_begins_13 (.refl 14) 3 rfl ?_
      obtain ⟨r2, e1, h⟩ := b1_s h
      refine AW.callV (r' := (some (.int r2))) (σ' := σ) (rest := [.int x2]) lm_X10_171 (c_X10_mayBegin e1) (by decide) (by decide) rfl rfl (by decide) rfl rfl (Nat.le_of_ble_eq_true rfl) dX10_begins_14 (.refl 17) (st' := [.int r2, .int x2]) rfl ?_
      refine AW.if_eq (tgt := 26) dX10_begins_17 (by decide) (fun c3 => ?_) (fun c3 => ?_)
      · have h := ifp c3 h
        refine AW.iconst (v := (0 : Int32)) dX10_begins_26 (.refl 27) (by decide) ?_
        refine AW.ior dX10_begins_27 (.refl 28) ?_
        refine AW.istore_n (L' := [(2, .int (x2 ||| (0 : Int32))), (0, .ref 46), (1, .int x1), (3, .int x3)]) dX10_begins_28 (.refl 29) (by decide) rfl ?_
        refine AW.iinc (v := (x3 + (1 : Int32))) (L' := [(3, .int (x3 + (1 : Int32))), (2, .int (x2 ||| (0 : Int32))), (0, .ref 46), (1, .int x1)]) dX10_begins_29 (.refl 32) 3 rfl rfl (by decide) rfl ?_
        refine AW.goto (tgt := 4) dX10_begins_32 (by decide) ?_
        refine AW.sub (L' := [(0, .ref 46), (1, .int x1), (2, .int (x2 ||| (0 : Int32))), (3, .int (x3 + (1 : Int32)))]) [2, 3, 1, 0] rfl ?_
        exact ih x1 (x2 ||| (0 : Int32)) (x3 + (1 : Int32)) h
      · have h := ifn c3 h
        refine AW.iconst (v := (1 : Int32)) dX10_begins_20 (.refl 21) (by decide) ?_
        refine AW.iload_n dX10_begins_21 (.refl 22) 3 rfl ?_
        refine AW.ishl dX10_begins_22 (.refl 23) ?_
        refine AW.goto (tgt := 27) dX10_begins_23 (by decide) ?_
        refine AW.ior dX10_begins_27 (.refl 28) ?_
        refine AW.istore_n (L' := [(2, .int (x2 ||| (jshl (1 : Int32) x3))), (0, .ref 46), (1, .int x1), (3, .int x3)]) dX10_begins_28 (.refl 29) (by decide) rfl ?_
        refine AW.iinc (v := (x3 + (1 : Int32))) (L' := [(3, .int (x3 + (1 : Int32))), (2, .int (x2 ||| (jshl (1 : Int32) x3))), (0, .ref 46), (1, .int x1)]) dX10_begins_29 (.refl 32) 3 rfl rfl (by decide) rfl ?_
        refine AW.goto (tgt := 4) dX10_begins_32 (by decide) ?_
        refine AW.sub (L' := [(0, .ref 46), (1, .int x1), (2, .int (x2 ||| (jshl (1 : Int32) x3))), (3, .int (x3 + (1 : Int32)))]) [2, 3, 1, 0] rfl ?_
        exact ih x1 (x2 ||| (jshl (1 : Int32) x3)) (x3 + (1 : Int32)) h
set_option maxRecDepth 20000 in
theorem c_X10_begins {l : Launch} {G : Gg} {x1 : Int32} {σ : Mm} {v : Int32} (h : f_X10_begins σ x1 = some v) : MR l G 2 M_X10_begins [.ref 46, .int x1] σ (some (.int v)) σ := by
  unfold f_X10_begins at h
  refine MR.of (by decide +kernel) (Nat.le_of_ble_eq_true rfl) ?_
  show AW l G 2 M_X10_begins (some (.int v)) σ 0 [(0, .ref 46), (1, .int x1)] [] σ
  refine AW.iconst (v := (0 : Int32)) dX10_begins_0 (.refl 1) (by decide) ?_
  refine AW.istore_n (L' := [(2, .int (0 : Int32)), (0, .ref 46), (1, .int x1)]) dX10_begins_1 (.refl 2) (by decide) rfl ?_
  refine AW.iconst (v := (0 : Int32)) dX10_begins_2 (.refl 3) (by decide) ?_
  refine AW.istore_n (L' := [(3, .int (0 : Int32)), (2, .int (0 : Int32)), (0, .ref 46), (1, .int x1)]) dX10_begins_3 (.refl 4) (by decide) rfl ?_
  refine AW.sub (L' := [(0, .ref 46), (1, .int x1), (2, .int (0 : Int32)), (3, .int (0 : Int32))]) [2, 3, 1, 0] rfl ?_
  exact a_X10_begins_p4 FU x1 (0 : Int32) (0 : Int32) h
def f_X10_bidder (σ : Mm) (x1 : Int32) (x2 : Int32) : Option (Int32) := b1 (f_X10_isBidder σ x1) (fun (r2 : Int32) => (if r2 = 0 then some (-1 : Int32) else b1 (f_X10_in σ x2.toInt64 (0 : Int64) (5 : Int64)) (fun (r4 : Int32) => (if r4 = 0 then (if x2 = (6 : Int32) then gd (inB x1 5) (some (σ.1 52 (x1).toNatClampNeg)) else (if x2 = (7 : Int32) then b1 (f_X10_begins σ x1) (fun (r6 : Int32) => some r6) else some (-2 : Int32))) else gd (inB (((6 : Int32) * x1) + x2) 30) (some (σ.1 49 ((((6 : Int32) * x1) + x2)).toNatClampNeg))))))
set_option maxRecDepth 20000 in
theorem c_X10_bidder {l : Launch} {G : Gg} {x1 : Int32} {x2 : Int32} {σ : Mm} {v : Int32} (h : f_X10_bidder σ x1 x2 = some v) : MR l G 3 M_X10_bidder [.ref 46, .int x1, .int x2] σ (some (.int v)) σ := by
  unfold f_X10_bidder at h
  refine MR.of (by decide +kernel) (Nat.le_of_ble_eq_true rfl) ?_
  show AW l G 3 M_X10_bidder (some (.int v)) σ 0 [(0, .ref 46), (1, .int x1), (2, .int x2)] [] σ
  refine AW.aload_n dX10_bidder_0 (.refl 1) 0 rfl ?_
  refine AW.iload_n dX10_bidder_1 (.refl 2) 1 rfl ?_
  obtain ⟨r2, e1, h⟩ := b1_s h
  refine AW.callV (r' := (some (.int r2))) (σ' := σ) (rest := []) lm_X10_174 (c_X10_isBidder e1) (by decide) (by decide) rfl rfl (by decide) rfl rfl (Nat.le_of_ble_eq_true rfl) dX10_bidder_2 (.refl 5) (st' := [.int r2]) rfl ?_
  refine AW.if_ne (tgt := 10) dX10_bidder_5 (by decide) (fun c12 => ?_) (fun c12 => ?_)
  · have h := ifn c12 h
    refine AW.iload_n dX10_bidder_10 (.refl 11) 2 rfl ?_
    refine AW.i2l dX10_bidder_11 (.refl 12) ?_
    refine AW.lconst (v := (0 : Int64)) dX10_bidder_12 (.refl 13) (by decide) ?_
    refine AW.ldc2_w lc_X10_177 dX10_bidder_13 (.refl 16) ?_
    obtain ⟨r4, e3, h⟩ := b1_s h
    refine AW.callS (r' := (some (.int r4))) (σ' := σ) (rest := []) lm_X10_97 (c_X10_in e3) (by decide) (by decide) rfl rfl (Nat.le_of_ble_eq_true rfl) dX10_bidder_16 (.refl 19) (st' := [.int r4]) rfl ?_
    refine AW.if_eq (tgt := 34) dX10_bidder_19 (by decide) (fun c11 => ?_) (fun c11 => ?_)
    · have h := ifp c11 h
      refine AW.iload_n dX10_bidder_34 (.refl 35) 2 rfl ?_
      refine AW.bipush (v := (6 : Int32)) dX10_bidder_35 (.refl 37) (by decide) ?_
      refine AW.icmp_ne (tgt := 49) dX10_bidder_37 (by decide) (fun c9 => ?_) (fun c9 => ?_)
      · have h := ifn c9 h
        refine AW.iload_n dX10_bidder_49 (.refl 50) 2 rfl ?_
        refine AW.bipush (v := (7 : Int32)) dX10_bidder_50 (.refl 52) (by decide) ?_
        refine AW.icmp_ne (tgt := 63) dX10_bidder_52 (by decide) (fun c7 => ?_) (fun c7 => ?_)
        · have h := ifn c7 h
          refine AW.bipush (v := (-2 : Int32)) dX10_bidder_63 (.refl 65) (by decide) ?_
          cases h
          exact AW.ireturn rfl dX10_bidder_65
        · have h := ifp c7 h
          refine AW.aload_n dX10_bidder_55 (.refl 56) 0 rfl ?_
          refine AW.iload_n dX10_bidder_56 (.refl 57) 1 rfl ?_
          obtain ⟨r6, e5, h⟩ := b1_s h
          refine AW.callV (r' := (some (.int r6))) (σ' := σ) (rest := []) lm_X10_179 (c_X10_begins e5) (by decide) (by decide) rfl rfl (by decide) rfl rfl (Nat.le_of_ble_eq_true rfl) dX10_bidder_57 (.refl 60) (st' := [.int r6]) rfl ?_
          refine AW.goto (tgt := 65) dX10_bidder_60 (by decide) ?_
          cases h
          exact AW.ireturn rfl dX10_bidder_65
      · have h := ifp c9 h
        refine AW.aload_n dX10_bidder_40 (.refl 41) 0 rfl ?_
        refine AW.getR (z := 52) lk_X10_25 rfl rfl (by decide) rfl dX10_bidder_41 (.refl 44) ?_
        refine AW.iload_n dX10_bidder_44 (.refl 45) 1 rfl ?_
        obtain ⟨g8, h⟩ := gd_s h
        refine AW.iaload rfl g8 dX10_bidder_45 (.refl 46) ?_
        refine AW.goto (tgt := 65) dX10_bidder_46 (by decide) ?_
        cases h
        exact AW.ireturn rfl dX10_bidder_65
    · have h := ifn c11 h
      refine AW.aload_n dX10_bidder_22 (.refl 23) 0 rfl ?_
      refine AW.getR (z := 49) lk_X10_16 rfl rfl (by decide) rfl dX10_bidder_23 (.refl 26) ?_
      refine AW.bipush (v := (6 : Int32)) dX10_bidder_26 (.refl 28) (by decide) ?_
      refine AW.iload_n dX10_bidder_28 (.refl 29) 1 rfl ?_
      refine AW.imul dX10_bidder_29 (.refl 30) ?_
      refine AW.iload_n dX10_bidder_30 (.refl 31) 2 rfl ?_
      refine AW.iadd dX10_bidder_31 (.refl 32) ?_
      obtain ⟨g10, h⟩ := gd_s h
      refine AW.iaload rfl g10 dX10_bidder_32 (.refl 33) ?_
      cases h
      exact AW.ireturn rfl dX10_bidder_33
  · have h := ifp c12 h
    refine AW.iconst (v := (-1 : Int32)) dX10_bidder_8 (.refl 9) (by decide) ?_
    cases h
    exact AW.ireturn rfl dX10_bidder_9
def f_X10_rings_p19 (σ : Mm) : Nat → Int32 → Int32 → Int32 → Option (Int32)
  | 0, _, _, _ => none
  | n + 1, x1, x2, x3 => (if (σ.1 46 0) ≤ x3 then some x2 else b1 (f_X10_ringing σ x3) (fun (r2 : Int32) => b1 (f_X10_has σ r2 x1) (fun (r4 : Int32) => (if r4 = 0 then (f_X10_rings_p19 σ n) x1 (x2 ||| (0 : Int32)) (x3 + (1 : Int32)) else (f_X10_rings_p19 σ n) x1 (x2 ||| (jshl (1 : Int32) x3)) (x3 + (1 : Int32))))))
def f_X10_rings (σ : Mm) (x1 : Int32) : Option (Int32) := b1 (f_X10_in σ x1.toInt64 (0 : Int64) (9 : Int64)) (fun (r2 : Int32) => (if r2 = 0 then some (-2 : Int32) else f_X10_rings_p19 σ FU x1 (0 : Int32) (0 : Int32)))
set_option maxRecDepth 20000 in
theorem a_X10_rings_p19 {l : Launch} {G : Gg} {v : Int32} {σ : Mm} : ∀ (n : Nat) (x1 : Int32) (x2 : Int32) (x3 : Int32), f_X10_rings_p19 σ n x1 x2 x3 = some v → AW l G 3 M_X10_rings (some (.int v)) σ 19 [(0, .ref 46), (1, .int x1), (2, .int x2), (3, .int x3)] [] σ := by
  intro n
  induction n with
  | zero => intro x1 x2 x3 h; exact no_some h
  | succ n ih =>
    intro x1 x2 x3 h
    rw [f_X10_rings_p19] at h
    refine AW.iload_n dX10_rings_19 (.refl 20) 3 rfl ?_
    refine AW.aload_n dX10_rings_20 (.refl 21) 0 rfl ?_
    refine AW.getI lk_X10_132 rfl rfl (by decide) dX10_rings_21 (.refl 24) ?_
    refine AW.icmp_ge (tgt := 55) dX10_rings_24 (by decide) (fun c6 => ?_) (fun c6 => ?_)
    · have h := ifp c6 h
      refine AW.iload_n dX10_rings_55 (.refl 56) 2 rfl ?_
      cases h
      exact AW.ireturn rfl dX10_rings_56
    · have h := ifn c6 h
      refine AW.iload_n dX10_rings_27 (.refl 28) 2 rfl ?_
      refine AW.aload_n dX10_rings_28 (.refl 29) 0 rfl ?_
      refine AW.iload_n dX10_rings_29 (.refl 30) 3 rfl ?_
      obtain ⟨r2, e1, h⟩ := b1_s h
      refine AW.callV (r' := (some (.int r2))) (σ' := σ) (rest := [.int x2]) lm_X10_167 (c_X10_ringing e1) (by decide) (by decide) rfl rfl (by decide) rfl rfl (Nat.le_of_ble_eq_true rfl) dX10_rings_30 (.refl 33) (st' := [.int r2, .int x2]) rfl ?_
      refine AW.iload_n dX10_rings_33 (.refl 34) 1 rfl ?_
      obtain ⟨r4, e3, h⟩ := b1_s h
      refine AW.callS (r' := (some (.int r4))) (σ' := σ) (rest := [.int x2]) lm_X10_160 (c_X10_has e3) (by decide) (by decide) rfl rfl (Nat.le_of_ble_eq_true rfl) dX10_rings_34 (.refl 37) (st' := [.int r4, .int x2]) rfl ?_
      refine AW.if_eq (tgt := 46) dX10_rings_37 (by decide) (fun c5 => ?_) (fun c5 => ?_)
      · have h := ifp c5 h
        refine AW.iconst (v := (0 : Int32)) dX10_rings_46 (.refl 47) (by decide) ?_
        refine AW.ior dX10_rings_47 (.refl 48) ?_
        refine AW.istore_n (L' := [(2, .int (x2 ||| (0 : Int32))), (0, .ref 46), (1, .int x1), (3, .int x3)]) dX10_rings_48 (.refl 49) (by decide) rfl ?_
        refine AW.iinc (v := (x3 + (1 : Int32))) (L' := [(3, .int (x3 + (1 : Int32))), (2, .int (x2 ||| (0 : Int32))), (0, .ref 46), (1, .int x1)]) dX10_rings_49 (.refl 52) 3 rfl rfl (by decide) rfl ?_
        refine AW.goto (tgt := 19) dX10_rings_52 (by decide) ?_
        refine AW.sub (L' := [(0, .ref 46), (1, .int x1), (2, .int (x2 ||| (0 : Int32))), (3, .int (x3 + (1 : Int32)))]) [2, 3, 1, 0] rfl ?_
        exact ih x1 (x2 ||| (0 : Int32)) (x3 + (1 : Int32)) h
      · have h := ifn c5 h
        refine AW.iconst (v := (1 : Int32)) dX10_rings_40 (.refl 41) (by decide) ?_
        refine AW.iload_n dX10_rings_41 (.refl 42) 3 rfl ?_
        refine AW.ishl dX10_rings_42 (.refl 43) ?_
        refine AW.goto (tgt := 47) dX10_rings_43 (by decide) ?_
        refine AW.ior dX10_rings_47 (.refl 48) ?_
        refine AW.istore_n (L' := [(2, .int (x2 ||| (jshl (1 : Int32) x3))), (0, .ref 46), (1, .int x1), (3, .int x3)]) dX10_rings_48 (.refl 49) (by decide) rfl ?_
        refine AW.iinc (v := (x3 + (1 : Int32))) (L' := [(3, .int (x3 + (1 : Int32))), (2, .int (x2 ||| (jshl (1 : Int32) x3))), (0, .ref 46), (1, .int x1)]) dX10_rings_49 (.refl 52) 3 rfl rfl (by decide) rfl ?_
        refine AW.goto (tgt := 19) dX10_rings_52 (by decide) ?_
        refine AW.sub (L' := [(0, .ref 46), (1, .int x1), (2, .int (x2 ||| (jshl (1 : Int32) x3))), (3, .int (x3 + (1 : Int32)))]) [2, 3, 1, 0] rfl ?_
        exact ih x1 (x2 ||| (jshl (1 : Int32) x3)) (x3 + (1 : Int32)) h
set_option maxRecDepth 20000 in
theorem c_X10_rings {l : Launch} {G : Gg} {x1 : Int32} {σ : Mm} {v : Int32} (h : f_X10_rings σ x1 = some v) : MR l G 3 M_X10_rings [.ref 46, .int x1] σ (some (.int v)) σ := by
  unfold f_X10_rings at h
  refine MR.of (by decide +kernel) (Nat.le_of_ble_eq_true rfl) ?_
  show AW l G 3 M_X10_rings (some (.int v)) σ 0 [(0, .ref 46), (1, .int x1)] [] σ
  refine AW.iload_n dX10_rings_0 (.refl 1) 1 rfl ?_
  refine AW.i2l dX10_rings_1 (.refl 2) ?_
  refine AW.lconst (v := (0 : Int64)) dX10_rings_2 (.refl 3) (by decide) ?_
  refine AW.ldc2_w lc_X10_182 dX10_rings_3 (.refl 6) ?_
  obtain ⟨r2, e1, h⟩ := b1_s h
  refine AW.callS (r' := (some (.int r2))) (σ' := σ) (rest := []) lm_X10_97 (c_X10_in e1) (by decide) (by decide) rfl rfl (Nat.le_of_ble_eq_true rfl) dX10_rings_6 (.refl 9) (st' := [.int r2]) rfl ?_
  refine AW.if_ne (tgt := 15) dX10_rings_9 (by decide) (fun c3 => ?_) (fun c3 => ?_)
  · have h := ifn c3 h
    refine AW.iconst (v := (0 : Int32)) dX10_rings_15 (.refl 16) (by decide) ?_
    refine AW.istore_n (L' := [(2, .int (0 : Int32)), (0, .ref 46), (1, .int x1)]) dX10_rings_16 (.refl 17) (by decide) rfl ?_
    refine AW.iconst (v := (0 : Int32)) dX10_rings_17 (.refl 18) (by decide) ?_
    refine AW.istore_n (L' := [(3, .int (0 : Int32)), (2, .int (0 : Int32)), (0, .ref 46), (1, .int x1)]) dX10_rings_18 (.refl 19) (by decide) rfl ?_
    refine AW.sub (L' := [(0, .ref 46), (1, .int x1), (2, .int (0 : Int32)), (3, .int (0 : Int32))]) [2, 3, 1, 0] rfl ?_
    exact a_X10_rings_p19 FU x1 (0 : Int32) (0 : Int32) h
  · have h := ifp c3 h
    refine AW.bipush (v := (-2 : Int32)) dX10_rings_12 (.refl 14) (by decide) ?_
    cases h
    exact AW.ireturn rfl dX10_rings_14
def f_X10_clashes (σ : Mm) (x1 : Int32) (x2 : Int32) : Option (Int32) := b1 (f_X10_isBidder σ x1) (fun (r2 : Int32) => (if r2 = 0 then some (-1 : Int32) else b1 (f_X10_in σ x2.toInt64 (0 : Int64) (9 : Int64)) (fun (r4 : Int32) => (if r4 = 0 then some (-2 : Int32) else b1 (f_X10_mayBegin σ x1 x2) (fun (r6 : Int32) => (if r6 = 0 then some (-3 : Int32) else b1 (f_X10_clashesOf σ x1 x2) (fun (r8 : Int32) => some r8)))))))
set_option maxRecDepth 20000 in
theorem c_X10_clashes {l : Launch} {G : Gg} {x1 : Int32} {x2 : Int32} {σ : Mm} {v : Int32} (h : f_X10_clashes σ x1 x2 = some v) : MR l G 4 M_X10_clashes [.ref 46, .int x1, .int x2] σ (some (.int v)) σ := by
  unfold f_X10_clashes at h
  refine MR.of (by decide +kernel) (Nat.le_of_ble_eq_true rfl) ?_
  show AW l G 4 M_X10_clashes (some (.int v)) σ 0 [(0, .ref 46), (1, .int x1), (2, .int x2)] [] σ
  refine AW.aload_n dX10_clashes_0 (.refl 1) 0 rfl ?_
  refine AW.iload_n dX10_clashes_1 (.refl 2) 1 rfl ?_
  obtain ⟨r2, e1, h⟩ := b1_s h
  refine AW.callV (r' := (some (.int r2))) (σ' := σ) (rest := []) lm_X10_174 (c_X10_isBidder e1) (by decide) (by decide) rfl rfl (by decide) rfl rfl (Nat.le_of_ble_eq_true rfl) dX10_clashes_2 (.refl 5) (st' := [.int r2]) rfl ?_
  refine AW.if_ne (tgt := 10) dX10_clashes_5 (by decide) (fun c11 => ?_) (fun c11 => ?_)
  · have h := ifn c11 h
    refine AW.iload_n dX10_clashes_10 (.refl 11) 2 rfl ?_
    refine AW.i2l dX10_clashes_11 (.refl 12) ?_
    refine AW.lconst (v := (0 : Int64)) dX10_clashes_12 (.refl 13) (by decide) ?_
    refine AW.ldc2_w lc_X10_182 dX10_clashes_13 (.refl 16) ?_
    obtain ⟨r4, e3, h⟩ := b1_s h
    refine AW.callS (r' := (some (.int r4))) (σ' := σ) (rest := []) lm_X10_97 (c_X10_in e3) (by decide) (by decide) rfl rfl (Nat.le_of_ble_eq_true rfl) dX10_clashes_16 (.refl 19) (st' := [.int r4]) rfl ?_
    refine AW.if_ne (tgt := 25) dX10_clashes_19 (by decide) (fun c10 => ?_) (fun c10 => ?_)
    · have h := ifn c10 h
      refine AW.aload_n dX10_clashes_25 (.refl 26) 0 rfl ?_
      refine AW.iload_n dX10_clashes_26 (.refl 27) 1 rfl ?_
      refine AW.iload_n dX10_clashes_27 (.refl 28) 2 rfl ?_
      obtain ⟨r6, e5, h⟩ := b1_s h
      refine AW.callV (r' := (some (.int r6))) (σ' := σ) (rest := []) lm_X10_171 (c_X10_mayBegin e5) (by decide) (by decide) rfl rfl (by decide) rfl rfl (Nat.le_of_ble_eq_true rfl) dX10_clashes_28 (.refl 31) (st' := [.int r6]) rfl ?_
      refine AW.if_eq (tgt := 43) dX10_clashes_31 (by decide) (fun c9 => ?_) (fun c9 => ?_)
      · have h := ifp c9 h
        refine AW.bipush (v := (-3 : Int32)) dX10_clashes_43 (.refl 45) (by decide) ?_
        cases h
        exact AW.ireturn rfl dX10_clashes_45
      · have h := ifn c9 h
        refine AW.aload_n dX10_clashes_34 (.refl 35) 0 rfl ?_
        refine AW.iload_n dX10_clashes_35 (.refl 36) 1 rfl ?_
        refine AW.iload_n dX10_clashes_36 (.refl 37) 2 rfl ?_
        obtain ⟨r8, e7, h⟩ := b1_s h
        refine AW.callV (r' := (some (.int r8))) (σ' := σ) (rest := []) lm_X10_184 (c_X10_clashesOf e7) (by decide) (by decide) rfl rfl (by decide) rfl rfl (Nat.le_of_ble_eq_true rfl) dX10_clashes_37 (.refl 40) (st' := [.int r8]) rfl ?_
        refine AW.goto (tgt := 45) dX10_clashes_40 (by decide) ?_
        cases h
        exact AW.ireturn rfl dX10_clashes_45
    · have h := ifp c10 h
      refine AW.bipush (v := (-2 : Int32)) dX10_clashes_22 (.refl 24) (by decide) ?_
      cases h
      exact AW.ireturn rfl dX10_clashes_24
  · have h := ifp c11 h
    refine AW.iconst (v := (-1 : Int32)) dX10_clashes_8 (.refl 9) (by decide) ?_
    cases h
    exact AW.ireturn rfl dX10_clashes_9
