def f_X10_unwanted_p14 (σ : Mm) (ke49 : Int32 → Int32 → Option (Int32)) : Nat → Int32 → Int32 → Int32 → Option (Int32)
  | 0, _, _, _ => none
  | n + 1, x1, x2, x3 => (if (10 : Int32) ≤ x3 then ke49 x1 x2 else b1 (f_X10_mayBegin σ x2 x3) (fun (r2 : Int32) => (if r2 = 0 then (f_X10_unwanted_p14 σ ke49 n) (x1 ||| (0 : Int32)) x2 (x3 + (1 : Int32)) else b1 (f_X10_seconds σ x2 x3 (0 : Int32)) (fun (r4 : Int32) => (f_X10_unwanted_p14 σ ke49 n) (x1 ||| r4) x2 (x3 + (1 : Int32))))))
def f_X10_unwanted_p49 (σ : Mm) (kh : Int32 → Int32 → Option (Int32)) (x1 : Int32) (x2 : Int32) : Option (Int32) := kh x1 (x2 + (1 : Int32))
def f_X10_unwanted_p4 (σ : Mm) : Nat → Int32 → Int32 → Option (Int32)
  | 0, _, _ => none
  | n + 1, x1, x2 => (if (σ.1 46 1) ≤ x2 then some ((1023 : Int32) &&& (x1 ^^^ (-1 : Int32))) else f_X10_unwanted_p14 σ (f_X10_unwanted_p49 σ (f_X10_unwanted_p4 σ n)) FU x1 x2 (0 : Int32))
def f_X10_unwanted (σ : Mm)  : Option (Int32) := f_X10_unwanted_p4 σ FU (0 : Int32) (0 : Int32)
set_option maxRecDepth 20000 in
theorem a_X10_unwanted_p14 {l : Launch} {G : Gg} {v : Int32} {σ : Mm} {ke49 : Int32 → Int32 → Option (Int32)} (he49 : ∀ (x1 : Int32) (x2 : Int32), ke49 x1 x2 = some v → AW l G 2 M_X10_unwanted (some (.int v)) σ 49 [(0, .ref 46), (1, .int x1), (2, .int x2)] [] σ) : ∀ (n : Nat) (x1 : Int32) (x2 : Int32) (x3 : Int32), f_X10_unwanted_p14 σ ke49 n x1 x2 x3 = some v → AW l G 2 M_X10_unwanted (some (.int v)) σ 14 [(0, .ref 46), (1, .int x1), (2, .int x2), (3, .int x3)] [] σ := by
  intro n
  induction n with
  | zero => intro x1 x2 x3 h; exact no_some h
  | succ n ih =>
    intro x1 x2 x3 h
    rw [f_X10_unwanted_p14] at h
    refine AW.iload_n dX10_unwanted_14 (.refl 15) 3 rfl ?_
    refine AW.bipush (v := (10 : Int32)) dX10_unwanted_15 (.refl 17) (by decide) ?_
    refine AW.icmp_ge (tgt := 49) dX10_unwanted_17 (by decide) (fun c6 => ?_) (fun c6 => ?_)
    · have h := ifp c6 h
      refine AW.sub (L' := [(0, .ref 46), (1, .int x1), (2, .int x2)]) [0, 1, 2] rfl ?_
      exact he49 x1 x2 h
    · have h := ifn c6 h
      refine AW.iload_n dX10_unwanted_20 (.refl 21) 1 rfl ?_
      refine AW.aload_n dX10_unwanted_21 (.refl 22) 0 rfl ?_
      refine AW.iload_n dX10_unwanted_22 (.refl 23) 2 rfl ?_
      refine AW.iload_n dX10_unwanted_23 (.refl 24) 3 rfl ?_
      obtain ⟨r2, e1, h⟩ := b1_s h
      refine AW.callV (r' := (some (.int r2))) (σ' := σ) (rest := [.int x1]) lm_X10_171 (c_X10_mayBegin e1) (by decide) (by decide) rfl rfl (by decide) rfl rfl (Nat.le_of_ble_eq_true rfl) dX10_unwanted_24 (.refl 27) (st' := [.int r2, .int x1]) rfl ?_
      refine AW.if_eq (tgt := 40) dX10_unwanted_27 (by decide) (fun c5 => ?_) (fun c5 => ?_)
      · have h := ifp c5 h
        refine AW.iconst (v := (0 : Int32)) dX10_unwanted_40 (.refl 41) (by decide) ?_
        refine AW.ior dX10_unwanted_41 (.refl 42) ?_
        refine AW.istore_n (L' := [(1, .int (x1 ||| (0 : Int32))), (0, .ref 46), (2, .int x2), (3, .int x3)]) dX10_unwanted_42 (.refl 43) (by decide) rfl ?_
        refine AW.iinc (v := (x3 + (1 : Int32))) (L' := [(3, .int (x3 + (1 : Int32))), (1, .int (x1 ||| (0 : Int32))), (0, .ref 46), (2, .int x2)]) dX10_unwanted_43 (.refl 46) 3 rfl rfl (by decide) rfl ?_
        refine AW.goto (tgt := 14) dX10_unwanted_46 (by decide) ?_
        refine AW.sub (L' := [(0, .ref 46), (1, .int (x1 ||| (0 : Int32))), (2, .int x2), (3, .int (x3 + (1 : Int32)))]) [2, 1, 3, 0] rfl ?_
        exact ih (x1 ||| (0 : Int32)) x2 (x3 + (1 : Int32)) h
      · have h := ifn c5 h
        refine AW.aload_n dX10_unwanted_30 (.refl 31) 0 rfl ?_
        refine AW.iload_n dX10_unwanted_31 (.refl 32) 2 rfl ?_
        refine AW.iload_n dX10_unwanted_32 (.refl 33) 3 rfl ?_
        refine AW.iconst (v := (0 : Int32)) dX10_unwanted_33 (.refl 34) (by decide) ?_
        obtain ⟨r4, e3, h⟩ := b1_s h
        refine AW.callV (r' := (some (.int r4))) (σ' := σ) (rest := [.int x1]) lm_X10_152 (c_X10_seconds e3) (by decide) (by decide) rfl rfl (by decide) rfl rfl (Nat.le_of_ble_eq_true rfl) dX10_unwanted_34 (.refl 37) (st' := [.int r4, .int x1]) rfl ?_
        refine AW.goto (tgt := 41) dX10_unwanted_37 (by decide) ?_
        refine AW.ior dX10_unwanted_41 (.refl 42) ?_
        refine AW.istore_n (L' := [(1, .int (x1 ||| r4)), (0, .ref 46), (2, .int x2), (3, .int x3)]) dX10_unwanted_42 (.refl 43) (by decide) rfl ?_
        refine AW.iinc (v := (x3 + (1 : Int32))) (L' := [(3, .int (x3 + (1 : Int32))), (1, .int (x1 ||| r4)), (0, .ref 46), (2, .int x2)]) dX10_unwanted_43 (.refl 46) 3 rfl rfl (by decide) rfl ?_
        refine AW.goto (tgt := 14) dX10_unwanted_46 (by decide) ?_
        refine AW.sub (L' := [(0, .ref 46), (1, .int (x1 ||| r4)), (2, .int x2), (3, .int (x3 + (1 : Int32)))]) [2, 1, 3, 0] rfl ?_
        exact ih (x1 ||| r4) x2 (x3 + (1 : Int32)) h
set_option maxRecDepth 20000 in
theorem a_X10_unwanted_p49 {l : Launch} {G : Gg} {v : Int32} {σ : Mm} {kh : Int32 → Int32 → Option (Int32)} (hkh : ∀ (x1 : Int32) (x2 : Int32), kh x1 x2 = some v → AW l G 2 M_X10_unwanted (some (.int v)) σ 4 [(0, .ref 46), (1, .int x1), (2, .int x2)] [] σ) (x1 : Int32) (x2 : Int32) (h : f_X10_unwanted_p49 σ kh x1 x2 = some v) : AW l G 2 M_X10_unwanted (some (.int v)) σ 49 [(0, .ref 46), (1, .int x1), (2, .int x2)] [] σ := by
  unfold f_X10_unwanted_p49 at h
  refine AW.iinc (v := (x2 + (1 : Int32))) (L' := [(2, .int (x2 + (1 : Int32))), (0, .ref 46), (1, .int x1)]) dX10_unwanted_49 (.refl 52) 2 rfl rfl (by decide) rfl ?_
  refine AW.goto (tgt := 4) dX10_unwanted_52 (by decide) ?_
  refine AW.sub (L' := [(0, .ref 46), (1, .int x1), (2, .int (x2 + (1 : Int32)))]) [1, 2, 0] rfl ?_
  exact hkh x1 (x2 + (1 : Int32)) h
set_option maxRecDepth 20000 in
theorem a_X10_unwanted_p4 {l : Launch} {G : Gg} {v : Int32} {σ : Mm} : ∀ (n : Nat) (x1 : Int32) (x2 : Int32), f_X10_unwanted_p4 σ n x1 x2 = some v → AW l G 2 M_X10_unwanted (some (.int v)) σ 4 [(0, .ref 46), (1, .int x1), (2, .int x2)] [] σ := by
  intro n
  induction n with
  | zero => intro x1 x2 h; exact no_some h
  | succ n ih =>
    intro x1 x2 h
    rw [f_X10_unwanted_p4] at h
    refine AW.iload_n dX10_unwanted_4 (.refl 5) 2 rfl ?_
    refine AW.aload_n dX10_unwanted_5 (.refl 6) 0 rfl ?_
    refine AW.getI lk_X10_135 rfl rfl (by decide) dX10_unwanted_6 (.refl 9) ?_
    refine AW.icmp_ge (tgt := 55) dX10_unwanted_9 (by decide) (fun c1 => ?_) (fun c1 => ?_)
    · have h := ifp c1 h
      refine AW.sipush (v := (1023 : Int32)) dX10_unwanted_55 (.refl 58) (by decide) ?_
      refine AW.iload_n dX10_unwanted_58 (.refl 59) 1 rfl ?_
      refine AW.iconst (v := (-1 : Int32)) dX10_unwanted_59 (.refl 60) (by decide) ?_
      refine AW.ixor dX10_unwanted_60 (.refl 61) ?_
      refine AW.iand dX10_unwanted_61 (.refl 62) ?_
      cases h
      exact AW.ireturn rfl dX10_unwanted_62
    · have h := ifn c1 h
      refine AW.iconst (v := (0 : Int32)) dX10_unwanted_12 (.refl 13) (by decide) ?_
      refine AW.istore_n (L' := [(3, .int (0 : Int32)), (0, .ref 46), (1, .int x1), (2, .int x2)]) dX10_unwanted_13 (.refl 14) (by decide) rfl ?_
      refine AW.sub (L' := [(0, .ref 46), (1, .int x1), (2, .int x2), (3, .int (0 : Int32))]) [1, 2, 3, 0] rfl ?_
      exact a_X10_unwanted_p14 (a_X10_unwanted_p49 ih) FU x1 x2 (0 : Int32) h
set_option maxRecDepth 20000 in
theorem c_X10_unwanted {l : Launch} {G : Gg}  {σ : Mm} {v : Int32} (h : f_X10_unwanted σ  = some v) : MR l G 2 M_X10_unwanted [.ref 46] σ (some (.int v)) σ := by
  unfold f_X10_unwanted at h
  refine MR.of (by decide +kernel) (Nat.le_of_ble_eq_true rfl) ?_
  show AW l G 2 M_X10_unwanted (some (.int v)) σ 0 [(0, .ref 46)] [] σ
  refine AW.iconst (v := (0 : Int32)) dX10_unwanted_0 (.refl 1) (by decide) ?_
  refine AW.istore_n (L' := [(1, .int (0 : Int32)), (0, .ref 46)]) dX10_unwanted_1 (.refl 2) (by decide) rfl ?_
  refine AW.iconst (v := (0 : Int32)) dX10_unwanted_2 (.refl 3) (by decide) ?_
  refine AW.istore_n (L' := [(2, .int (0 : Int32)), (1, .int (0 : Int32)), (0, .ref 46)]) dX10_unwanted_3 (.refl 4) (by decide) rfl ?_
  refine AW.sub (L' := [(0, .ref 46), (1, .int (0 : Int32)), (2, .int (0 : Int32))]) [2, 1, 0] rfl ?_
  exact a_X10_unwanted_p4 FU (0 : Int32) (0 : Int32) h
def f_X10_gain (σ : Mm) (x0 : Int32) (x1 : Int32) (x2 : Int32) (x3 : Int32) : Option (Int32) := (if x2 < x1 then some (x0 - x1) else (if x1 = x2 then (if x3 = 0 then some (0 : Int32) else some (x0 - x1)) else some (0 : Int32)))
set_option maxRecDepth 20000 in
theorem c_X10_gain {l : Launch} {G : Gg} {x0 : Int32} {x1 : Int32} {x2 : Int32} {x3 : Int32} {σ : Mm} {v : Int32} (h : f_X10_gain σ x0 x1 x2 x3 = some v) : MR l G 0 M_X10_gain [.int x0, .int x1, .int x2, .int x3] σ (some (.int v)) σ := by
  unfold f_X10_gain at h
  refine MR.of (by decide +kernel) (Nat.le_of_ble_eq_true rfl) ?_
  show AW l G 0 M_X10_gain (some (.int v)) σ 0 [(0, .int x0), (1, .int x1), (2, .int x2), (3, .int x3)] [] σ
  refine AW.iload_n dX10_gain_0 (.refl 1) 1 rfl ?_
  refine AW.iload_n dX10_gain_1 (.refl 2) 2 rfl ?_
  refine AW.icmp_gt (tgt := 14) dX10_gain_2 (by decide) (fun c3 => ?_) (fun c3 => ?_)
  · have h := ifp c3 h
    refine AW.iload_n dX10_gain_14 (.refl 15) 0 rfl ?_
    refine AW.iload_n dX10_gain_15 (.refl 16) 1 rfl ?_
    refine AW.isub dX10_gain_16 (.refl 17) ?_
    refine AW.goto (tgt := 21) dX10_gain_17 (by decide) ?_
    cases h
    exact AW.ireturn rfl dX10_gain_21
  · have h := ifn c3 h
    refine AW.iload_n dX10_gain_5 (.refl 6) 1 rfl ?_
    refine AW.iload_n dX10_gain_6 (.refl 7) 2 rfl ?_
    refine AW.icmp_ne (tgt := 20) dX10_gain_7 (by decide) (fun c2 => ?_) (fun c2 => ?_)
    · have h := ifn c2 h
      refine AW.iconst (v := (0 : Int32)) dX10_gain_20 (.refl 21) (by decide) ?_
      cases h
      exact AW.ireturn rfl dX10_gain_21
    · have h := ifp c2 h
      refine AW.iload_n dX10_gain_10 (.refl 11) 3 rfl ?_
      refine AW.if_eq (tgt := 20) dX10_gain_11 (by decide) (fun c1 => ?_) (fun c1 => ?_)
      · have h := ifp c1 h
        refine AW.iconst (v := (0 : Int32)) dX10_gain_20 (.refl 21) (by decide) ?_
        cases h
        exact AW.ireturn rfl dX10_gain_21
      · have h := ifn c1 h
        refine AW.iload_n dX10_gain_14 (.refl 15) 0 rfl ?_
        refine AW.iload_n dX10_gain_15 (.refl 16) 1 rfl ?_
        refine AW.isub dX10_gain_16 (.refl 17) ?_
        refine AW.goto (tgt := 21) dX10_gain_17 (by decide) ?_
        cases h
        exact AW.ireturn rfl dX10_gain_21
def f_X10_sealed_p74 (σ : Mm) (ke141 : Int32 → Int32 → Int32 → Int32 → Int32 → Int32 → Int32 → Option (Int32)) : Nat → Int32 → Int32 → Int32 → Int32 → Int32 → Int32 → Int32 → Int32 → Int32 → Int32 → Option (Int32)
  | 0, _, _, _, _, _, _, _, _, _, _ => none
  | n + 1, x1, x2, x3, x4, x5, x6, x7, x8, x9, x10 => (if (10 : Int32) ≤ x10 then ke141 x1 x2 x3 x4 x5 x6 x9 else (if x9 = 0 then (f_X10_sealed_p74 σ ke141 n) x1 x2 x3 x4 x5 x6 x7 x8 (0 : Int32) (x10 + (1 : Int32)) else b1 (f_X10_gain σ x1 x10 x8 (1 : Int32)) (fun (r2 : Int32) => b1 (f_X10_gain σ x1 x7 x8 (1 : Int32)) (fun (r4 : Int32) => (if r4 < r2 then (f_X10_sealed_p74 σ ke141 n) x1 x2 x3 x4 x5 x6 x7 x8 (0 : Int32) (x10 + (1 : Int32)) else b1 (f_X10_gain σ x2 x10 x7 (0 : Int32)) (fun (r6 : Int32) => b1 (f_X10_gain σ x2 x8 x7 (0 : Int32)) (fun (r8 : Int32) => (if r8 < r6 then (f_X10_sealed_p74 σ ke141 n) x1 x2 x3 x4 x5 x6 x7 x8 (0 : Int32) (x10 + (1 : Int32)) else (f_X10_sealed_p74 σ ke141 n) x1 x2 x3 x4 x5 x6 x7 x8 (1 : Int32) (x10 + (1 : Int32))))))))))
def f_X10_sealed_p158 (σ : Mm) (kh : Int32 → Int32 → Int32 → Int32 → Int32 → Int32 → Option (Int32)) (ke181 : Int32 → Int32 → Int32 → Option (Int32)) (x1 : Int32) (x2 : Int32) (x3 : Int32) (x4 : Int32) (x6 : Int32) (x9 : Int32) (s0 : Int32) : Option (Int32) := (if x9 = 0 then kh x1 x2 x3 (x4 + (0 : Int32)) s0 (x6 + (1 : Int32)) else kh x1 x2 x3 (x4 + (1 : Int32)) s0 (x6 + (1 : Int32)))
def f_X10_sealed_p156 (σ : Mm) (kh : Int32 → Int32 → Int32 → Int32 → Int32 → Int32 → Option (Int32)) (ke181 : Int32 → Int32 → Int32 → Option (Int32)) (x1 : Int32) (x2 : Int32) (x3 : Int32) (x4 : Int32) (x5 : Int32) (x6 : Int32) (x9 : Int32) : Option (Int32) := (f_X10_sealed_p158 σ kh ke181) x1 x2 x3 x4 x6 x9 x5
def f_X10_sealed_p141 (σ : Mm) (kh : Int32 → Int32 → Int32 → Int32 → Int32 → Int32 → Option (Int32)) (ke181 : Int32 → Int32 → Int32 → Option (Int32)) (x1 : Int32) (x2 : Int32) (x3 : Int32) (x4 : Int32) (x5 : Int32) (x6 : Int32) (x9 : Int32) : Option (Int32) := (if x9 = 0 then (f_X10_sealed_p156 σ kh ke181) x1 x2 x3 x4 x5 x6 x9 else (if x4 = 0 then (f_X10_sealed_p158 σ kh ke181) x1 x2 x3 x4 x6 x9 x6 else (f_X10_sealed_p156 σ kh ke181) x1 x2 x3 x4 x5 x6 x9))
def f_X10_sealed_p47 (σ : Mm) (ke181 : Int32 → Int32 → Int32 → Option (Int32)) : Nat → Int32 → Int32 → Int32 → Int32 → Int32 → Int32 → Option (Int32)
  | 0, _, _, _, _, _, _ => none
  | n + 1, x1, x2, x3, x4, x5, x6 => (if (100 : Int32) ≤ x6 then ke181 x3 x4 x5 else f_X10_sealed_p74 σ (f_X10_sealed_p141 σ (f_X10_sealed_p47 σ ke181 n) ke181) FU x1 x2 x3 x4 x5 x6 (x6 / (10 : Int32)) (jrem x6 (10 : Int32)) (1 : Int32) (0 : Int32))
def f_X10_sealed_p181 (σ : Mm) (x3 : Int32) (x4 : Int32) (x5 : Int32) : Option (Int32) := (if x3 = 0 then some x4 else some x5)
def f_X10_sealed (σ : Mm) (x1 : Int32) (x2 : Int32) (x3 : Int32) : Option (Int32) := b1 (f_X10_in σ x1.toInt64 (0 : Int64) (9 : Int64)) (fun (r2 : Int32) => (if r2 = 0 then some (-2 : Int32) else b1 (f_X10_in σ x2.toInt64 (0 : Int64) (9 : Int64)) (fun (r4 : Int32) => (if r4 = 0 then some (-2 : Int32) else b1 (f_X10_in σ x3.toInt64 (0 : Int64) (1 : Int64)) (fun (r6 : Int32) => (if r6 = 0 then some (-2 : Int32) else f_X10_sealed_p47 σ (f_X10_sealed_p181 σ) FU x1 x2 x3 (0 : Int32) (-9 : Int32) (0 : Int32)))))))
set_option maxRecDepth 20000 in
theorem a_X10_sealed_p74 {l : Launch} {G : Gg} {v : Int32} {σ : Mm} {ke141 : Int32 → Int32 → Int32 → Int32 → Int32 → Int32 → Int32 → Option (Int32)} (he141 : ∀ (x1 : Int32) (x2 : Int32) (x3 : Int32) (x4 : Int32) (x5 : Int32) (x6 : Int32) (x9 : Int32), ke141 x1 x2 x3 x4 x5 x6 x9 = some v → AW l G 1 M_X10_sealed (some (.int v)) σ 141 [(1, .int x1), (2, .int x2), (3, .int x3), (4, .int x4), (5, .int x5), (6, .int x6), (9, .int x9)] [] σ) : ∀ (n : Nat) (x1 : Int32) (x2 : Int32) (x3 : Int32) (x4 : Int32) (x5 : Int32) (x6 : Int32) (x7 : Int32) (x8 : Int32) (x9 : Int32) (x10 : Int32), f_X10_sealed_p74 σ ke141 n x1 x2 x3 x4 x5 x6 x7 x8 x9 x10 = some v → AW l G 1 M_X10_sealed (some (.int v)) σ 74 [(1, .int x1), (2, .int x2), (3, .int x3), (4, .int x4), (5, .int x5), (6, .int x6), (7, .int x7), (8, .int x8), (9, .int x9), (10, .int x10)] [] σ := by
  intro n
  induction n with
  | zero => intro x1 x2 x3 x4 x5 x6 x7 x8 x9 x10 h; exact no_some h
  | succ n ih =>
    intro x1 x2 x3 x4 x5 x6 x7 x8 x9 x10 h
    rw [f_X10_sealed_p74] at h
    refine AW.iload dX10_sealed_74 (.refl 76) 9 rfl ?_
    refine AW.bipush (v := (10 : Int32)) dX10_sealed_76 (.refl 78) (by decide) ?_
    refine AW.icmp_ge (tgt := 141) dX10_sealed_78 (by decide) (fun c12 => ?_) (fun c12 => ?_)
    · have h := ifp c12 h
      refine AW.sub (L' := [(1, .int x1), (2, .int x2), (3, .int x3), (4, .int x4), (5, .int x5), (6, .int x6), (9, .int x9)]) [0, 1, 2, 3, 4, 5, 8] rfl ?_
      exact he141 x1 x2 x3 x4 x5 x6 x9 h
    · have h := ifn c12 h
      refine AW.iload dX10_sealed_81 (.refl 83) 8 rfl ?_
      refine AW.if_eq (tgt := 132) dX10_sealed_83 (by decide) (fun c11 => ?_) (fun c11 => ?_)
      · have h := ifp c11 h
        refine AW.iconst (v := (0 : Int32)) dX10_sealed_132 (.refl 133) (by decide) ?_
        refine AW.istore (L' := [(9, .int (0 : Int32)), (1, .int x1), (2, .int x2), (3, .int x3), (4, .int x4), (5, .int x5), (6, .int x6), (7, .int x7), (8, .int x8), (10, .int x10)]) dX10_sealed_133 (.refl 135) (by decide) rfl ?_
        refine AW.iinc (v := (x10 + (1 : Int32))) (L' := [(10, .int (x10 + (1 : Int32))), (9, .int (0 : Int32)), (1, .int x1), (2, .int x2), (3, .int x3), (4, .int x4), (5, .int x5), (6, .int x6), (7, .int x7), (8, .int x8)]) dX10_sealed_135 (.refl 138) 9 rfl rfl (by decide) rfl ?_
        refine AW.goto (tgt := 74) dX10_sealed_138 (by decide) ?_
        refine AW.sub (L' := [(1, .int x1), (2, .int x2), (3, .int x3), (4, .int x4), (5, .int x5), (6, .int x6), (7, .int x7), (8, .int x8), (9, .int (0 : Int32)), (10, .int (x10 + (1 : Int32)))]) [2, 3, 4, 5, 6, 7, 8, 9, 1, 0] rfl ?_
        exact ih x1 x2 x3 x4 x5 x6 x7 x8 (0 : Int32) (x10 + (1 : Int32)) h
      · have h := ifn c11 h
        refine AW.iload_n dX10_sealed_86 (.refl 87) 0 rfl ?_
        refine AW.iload dX10_sealed_87 (.refl 89) 9 rfl ?_
        refine AW.iload dX10_sealed_89 (.refl 91) 7 rfl ?_
        refine AW.iconst (v := (1 : Int32)) dX10_sealed_91 (.refl 92) (by decide) ?_
        obtain ⟨r2, e1, h⟩ := b1_s h
        refine AW.callS (r' := (some (.int r2))) (σ' := σ) (rest := []) lm_X10_281 (c_X10_gain e1) (by decide) (by decide) rfl rfl (Nat.le_of_ble_eq_true rfl) dX10_sealed_92 (.refl 95) (st' := [.int r2]) rfl ?_
        refine AW.iload_n dX10_sealed_95 (.refl 96) 0 rfl ?_
        refine AW.iload dX10_sealed_96 (.refl 98) 6 rfl ?_
        refine AW.iload dX10_sealed_98 (.refl 100) 7 rfl ?_
        refine AW.iconst (v := (1 : Int32)) dX10_sealed_100 (.refl 101) (by decide) ?_
        obtain ⟨r4, e3, h⟩ := b1_s h
        refine AW.callS (r' := (some (.int r4))) (σ' := σ) (rest := [.int r2]) lm_X10_281 (c_X10_gain e3) (by decide) (by decide) rfl rfl (Nat.le_of_ble_eq_true rfl) dX10_sealed_101 (.refl 104) (st' := [.int r4, .int r2]) rfl ?_
        refine AW.icmp_gt (tgt := 132) dX10_sealed_104 (by decide) (fun c10 => ?_) (fun c10 => ?_)
        · have h := ifp c10 h
          refine AW.iconst (v := (0 : Int32)) dX10_sealed_132 (.refl 133) (by decide) ?_
          refine AW.istore (L' := [(9, .int (0 : Int32)), (1, .int x1), (2, .int x2), (3, .int x3), (4, .int x4), (5, .int x5), (6, .int x6), (7, .int x7), (8, .int x8), (10, .int x10)]) dX10_sealed_133 (.refl 135) (by decide) rfl ?_
          refine AW.iinc (v := (x10 + (1 : Int32))) (L' := [(10, .int (x10 + (1 : Int32))), (9, .int (0 : Int32)), (1, .int x1), (2, .int x2), (3, .int x3), (4, .int x4), (5, .int x5), (6, .int x6), (7, .int x7), (8, .int x8)]) dX10_sealed_135 (.refl 138) 9 rfl rfl (by decide) rfl ?_
          refine AW.goto (tgt := 74) dX10_sealed_138 (by decide) ?_
          refine AW.sub (L' := [(1, .int x1), (2, .int x2), (3, .int x3), (4, .int x4), (5, .int x5), (6, .int x6), (7, .int x7), (8, .int x8), (9, .int (0 : Int32)), (10, .int (x10 + (1 : Int32)))]) [2, 3, 4, 5, 6, 7, 8, 9, 1, 0] rfl ?_
          exact ih x1 x2 x3 x4 x5 x6 x7 x8 (0 : Int32) (x10 + (1 : Int32)) h
        · have h := ifn c10 h
          refine AW.iload_n dX10_sealed_107 (.refl 108) 1 rfl ?_
          refine AW.iload dX10_sealed_108 (.refl 110) 9 rfl ?_
          refine AW.iload dX10_sealed_110 (.refl 112) 6 rfl ?_
          refine AW.iconst (v := (0 : Int32)) dX10_sealed_112 (.refl 113) (by decide) ?_
          obtain ⟨r6, e5, h⟩ := b1_s h
          refine AW.callS (r' := (some (.int r6))) (σ' := σ) (rest := []) lm_X10_281 (c_X10_gain e5) (by decide) (by decide) rfl rfl (Nat.le_of_ble_eq_true rfl) dX10_sealed_113 (.refl 116) (st' := [.int r6]) rfl ?_
          refine AW.iload_n dX10_sealed_116 (.refl 117) 1 rfl ?_
          refine AW.iload dX10_sealed_117 (.refl 119) 7 rfl ?_
          refine AW.iload dX10_sealed_119 (.refl 121) 6 rfl ?_
          refine AW.iconst (v := (0 : Int32)) dX10_sealed_121 (.refl 122) (by decide) ?_
          obtain ⟨r8, e7, h⟩ := b1_s h
          refine AW.callS (r' := (some (.int r8))) (σ' := σ) (rest := [.int r6]) lm_X10_281 (c_X10_gain e7) (by decide) (by decide) rfl rfl (Nat.le_of_ble_eq_true rfl) dX10_sealed_122 (.refl 125) (st' := [.int r8, .int r6]) rfl ?_
          refine AW.icmp_gt (tgt := 132) dX10_sealed_125 (by decide) (fun c9 => ?_) (fun c9 => ?_)
          · have h := ifp c9 h
            refine AW.iconst (v := (0 : Int32)) dX10_sealed_132 (.refl 133) (by decide) ?_
            refine AW.istore (L' := [(9, .int (0 : Int32)), (1, .int x1), (2, .int x2), (3, .int x3), (4, .int x4), (5, .int x5), (6, .int x6), (7, .int x7), (8, .int x8), (10, .int x10)]) dX10_sealed_133 (.refl 135) (by decide) rfl ?_
            refine AW.iinc (v := (x10 + (1 : Int32))) (L' := [(10, .int (x10 + (1 : Int32))), (9, .int (0 : Int32)), (1, .int x1), (2, .int x2), (3, .int x3), (4, .int x4), (5, .int x5), (6, .int x6), (7, .int x7), (8, .int x8)]) dX10_sealed_135 (.refl 138) 9 rfl rfl (by decide) rfl ?_
            refine AW.goto (tgt := 74) dX10_sealed_138 (by decide) ?_
            refine AW.sub (L' := [(1, .int x1), (2, .int x2), (3, .int x3), (4, .int x4), (5, .int x5), (6, .int x6), (7, .int x7), (8, .int x8), (9, .int (0 : Int32)), (10, .int (x10 + (1 : Int32)))]) [2, 3, 4, 5, 6, 7, 8, 9, 1, 0] rfl ?_
            exact ih x1 x2 x3 x4 x5 x6 x7 x8 (0 : Int32) (x10 + (1 : Int32)) h
          · have h := ifn c9 h
            refine AW.iconst (v := (1 : Int32)) dX10_sealed_128 (.refl 129) (by decide) ?_
            refine AW.goto (tgt := 133) dX10_sealed_129 (by decide) ?_
            refine AW.istore (L' := [(9, .int (1 : Int32)), (1, .int x1), (2, .int x2), (3, .int x3), (4, .int x4), (5, .int x5), (6, .int x6), (7, .int x7), (8, .int x8), (10, .int x10)]) dX10_sealed_133 (.refl 135) (by decide) rfl ?_
            refine AW.iinc (v := (x10 + (1 : Int32))) (L' := [(10, .int (x10 + (1 : Int32))), (9, .int (1 : Int32)), (1, .int x1), (2, .int x2), (3, .int x3), (4, .int x4), (5, .int x5), (6, .int x6), (7, .int x7), (8, .int x8)]) dX10_sealed_135 (.refl 138) 9 rfl rfl (by decide) rfl ?_
            refine AW.goto (tgt := 74) dX10_sealed_138 (by decide) ?_
            refine AW.sub (L' := [(1, .int x1), (2, .int x2), (3, .int x3), (4, .int x4), (5, .int x5), (6, .int x6), (7, .int x7), (8, .int x8), (9, .int (1 : Int32)), (10, .int (x10 + (1 : Int32)))]) [2, 3, 4, 5, 6, 7, 8, 9, 1, 0] rfl ?_
            exact ih x1 x2 x3 x4 x5 x6 x7 x8 (1 : Int32) (x10 + (1 : Int32)) h
set_option maxRecDepth 20000 in
theorem a_X10_sealed_p158 {l : Launch} {G : Gg} {v : Int32} {σ : Mm} {kh : Int32 → Int32 → Int32 → Int32 → Int32 → Int32 → Option (Int32)} (hkh : ∀ (x1 : Int32) (x2 : Int32) (x3 : Int32) (x4 : Int32) (x5 : Int32) (x6 : Int32), kh x1 x2 x3 x4 x5 x6 = some v → AW l G 1 M_X10_sealed (some (.int v)) σ 47 [(1, .int x1), (2, .int x2), (3, .int x3), (4, .int x4), (5, .int x5), (6, .int x6)] [] σ) {ke181 : Int32 → Int32 → Int32 → Option (Int32)} (he181 : ∀ (x3 : Int32) (x4 : Int32) (x5 : Int32), ke181 x3 x4 x5 = some v → AW l G 1 M_X10_sealed (some (.int v)) σ 181 [(3, .int x3), (4, .int x4), (5, .int x5)] [] σ) (x1 : Int32) (x2 : Int32) (x3 : Int32) (x4 : Int32) (x6 : Int32) (x9 : Int32) (s0 : Int32) (h : f_X10_sealed_p158 σ kh ke181 x1 x2 x3 x4 x6 x9 s0 = some v) : AW l G 1 M_X10_sealed (some (.int v)) σ 158 [(1, .int x1), (2, .int x2), (3, .int x3), (4, .int x4), (6, .int x6), (9, .int x9)] [.int s0] σ := by
  unfold f_X10_sealed_p158 at h
  refine AW.istore (L' := [(5, .int s0), (1, .int x1), (2, .int x2), (3, .int x3), (4, .int x4), (6, .int x6), (9, .int x9)]) dX10_sealed_158 (.refl 160) (by decide) rfl ?_
  refine AW.iload dX10_sealed_160 (.refl 162) 4 rfl ?_
  refine AW.iload dX10_sealed_162 (.refl 164) 6 rfl ?_
  refine AW.if_eq (tgt := 171) dX10_sealed_164 (by decide) (fun c1 => ?_) (fun c1 => ?_)
  · have h := ifp c1 h
    refine AW.iconst (v := (0 : Int32)) dX10_sealed_171 (.refl 172) (by decide) ?_
    refine AW.iadd dX10_sealed_172 (.refl 173) ?_
    refine AW.istore (L' := [(4, .int (x4 + (0 : Int32))), (5, .int s0), (1, .int x1), (2, .int x2), (3, .int x3), (6, .int x6), (9, .int x9)]) dX10_sealed_173 (.refl 175) (by decide) rfl ?_
    refine AW.iinc (v := (x6 + (1 : Int32))) (L' := [(6, .int (x6 + (1 : Int32))), (4, .int (x4 + (0 : Int32))), (5, .int s0), (1, .int x1), (2, .int x2), (3, .int x3), (9, .int x9)]) dX10_sealed_175 (.refl 178) 5 rfl rfl (by decide) rfl ?_
    refine AW.goto (tgt := 47) dX10_sealed_178 (by decide) ?_
    refine AW.sub (L' := [(1, .int x1), (2, .int x2), (3, .int x3), (4, .int (x4 + (0 : Int32))), (5, .int s0), (6, .int (x6 + (1 : Int32)))]) [3, 4, 5, 1, 2, 0] rfl ?_
    exact hkh x1 x2 x3 (x4 + (0 : Int32)) s0 (x6 + (1 : Int32)) h
  · have h := ifn c1 h
    refine AW.iconst (v := (1 : Int32)) dX10_sealed_167 (.refl 168) (by decide) ?_
    refine AW.goto (tgt := 172) dX10_sealed_168 (by decide) ?_
    refine AW.iadd dX10_sealed_172 (.refl 173) ?_
    refine AW.istore (L' := [(4, .int (x4 + (1 : Int32))), (5, .int s0), (1, .int x1), (2, .int x2), (3, .int x3), (6, .int x6), (9, .int x9)]) dX10_sealed_173 (.refl 175) (by decide) rfl ?_
    refine AW.iinc (v := (x6 + (1 : Int32))) (L' := [(6, .int (x6 + (1 : Int32))), (4, .int (x4 + (1 : Int32))), (5, .int s0), (1, .int x1), (2, .int x2), (3, .int x3), (9, .int x9)]) dX10_sealed_175 (.refl 178) 5 rfl rfl (by decide) rfl ?_
    refine AW.goto (tgt := 47) dX10_sealed_178 (by decide) ?_
    refine AW.sub (L' := [(1, .int x1), (2, .int x2), (3, .int x3), (4, .int (x4 + (1 : Int32))), (5, .int s0), (6, .int (x6 + (1 : Int32)))]) [3, 4, 5, 1, 2, 0] rfl ?_
    exact hkh x1 x2 x3 (x4 + (1 : Int32)) s0 (x6 + (1 : Int32)) h
set_option maxRecDepth 20000 in
theorem a_X10_sealed_p156 {l : Launch} {G : Gg} {v : Int32} {σ : Mm} {kh : Int32 → Int32 → Int32 → Int32 → Int32 → Int32 → Option (Int32)} (hkh : ∀ (x1 : Int32) (x2 : Int32) (x3 : Int32) (x4 : Int32) (x5 : Int32) (x6 : Int32), kh x1 x2 x3 x4 x5 x6 = some v → AW l G 1 M_X10_sealed (some (.int v)) σ 47 [(1, .int x1), (2, .int x2), (3, .int x3), (4, .int x4), (5, .int x5), (6, .int x6)] [] σ) {ke181 : Int32 → Int32 → Int32 → Option (Int32)} (he181 : ∀ (x3 : Int32) (x4 : Int32) (x5 : Int32), ke181 x3 x4 x5 = some v → AW l G 1 M_X10_sealed (some (.int v)) σ 181 [(3, .int x3), (4, .int x4), (5, .int x5)] [] σ) (x1 : Int32) (x2 : Int32) (x3 : Int32) (x4 : Int32) (x5 : Int32) (x6 : Int32) (x9 : Int32) (h : f_X10_sealed_p156 σ kh ke181 x1 x2 x3 x4 x5 x6 x9 = some v) : AW l G 1 M_X10_sealed (some (.int v)) σ 156 [(1, .int x1), (2, .int x2), (3, .int x3), (4, .int x4), (5, .int x5), (6, .int x6), (9, .int x9)] [] σ := by
  unfold f_X10_sealed_p156 at h
  refine AW.iload dX10_sealed_156 (.refl 158) 4 rfl ?_
  refine AW.sub (L' := [(1, .int x1), (2, .int x2), (3, .int x3), (4, .int x4), (6, .int x6), (9, .int x9)]) [0, 1, 2, 3, 5, 6] rfl ?_
  exact (a_X10_sealed_p158 hkh he181) x1 x2 x3 x4 x6 x9 x5 h
set_option maxRecDepth 20000 in
theorem a_X10_sealed_p141 {l : Launch} {G : Gg} {v : Int32} {σ : Mm} {kh : Int32 → Int32 → Int32 → Int32 → Int32 → Int32 → Option (Int32)} (hkh : ∀ (x1 : Int32) (x2 : Int32) (x3 : Int32) (x4 : Int32) (x5 : Int32) (x6 : Int32), kh x1 x2 x3 x4 x5 x6 = some v → AW l G 1 M_X10_sealed (some (.int v)) σ 47 [(1, .int x1), (2, .int x2), (3, .int x3), (4, .int x4), (5, .int x5), (6, .int x6)] [] σ) {ke181 : Int32 → Int32 → Int32 → Option (Int32)} (he181 : ∀ (x3 : Int32) (x4 : Int32) (x5 : Int32), ke181 x3 x4 x5 = some v → AW l G 1 M_X10_sealed (some (.int v)) σ 181 [(3, .int x3), (4, .int x4), (5, .int x5)] [] σ) (x1 : Int32) (x2 : Int32) (x3 : Int32) (x4 : Int32) (x5 : Int32) (x6 : Int32) (x9 : Int32) (h : f_X10_sealed_p141 σ kh ke181 x1 x2 x3 x4 x5 x6 x9 = some v) : AW l G 1 M_X10_sealed (some (.int v)) σ 141 [(1, .int x1), (2, .int x2), (3, .int x3), (4, .int x4), (5, .int x5), (6, .int x6), (9, .int x9)] [] σ := by
  unfold f_X10_sealed_p141 at h
  refine AW.iload dX10_sealed_141 (.refl 143) 6 rfl ?_
  refine AW.if_eq (tgt := 156) dX10_sealed_143 (by decide) (fun c2 => ?_) (fun c2 => ?_)
  · have h := ifp c2 h
    exact (a_X10_sealed_p156 hkh he181) x1 x2 x3 x4 x5 x6 x9 h
  · have h := ifn c2 h
    refine AW.iload dX10_sealed_146 (.refl 148) 3 rfl ?_
    refine AW.if_ne (tgt := 156) dX10_sealed_148 (by decide) (fun c1 => ?_) (fun c1 => ?_)
    · have h := ifn c1 h
      exact (a_X10_sealed_p156 hkh he181) x1 x2 x3 x4 x5 x6 x9 h
    · have h := ifp c1 h
      refine AW.iload dX10_sealed_151 (.refl 153) 5 rfl ?_
      refine AW.goto (tgt := 158) dX10_sealed_153 (by decide) ?_
      refine AW.sub (L' := [(1, .int x1), (2, .int x2), (3, .int x3), (4, .int x4), (6, .int x6), (9, .int x9)]) [0, 1, 2, 3, 5, 6] rfl ?_
      exact (a_X10_sealed_p158 hkh he181) x1 x2 x3 x4 x6 x9 x6 h
set_option maxRecDepth 20000 in
theorem a_X10_sealed_p47 {l : Launch} {G : Gg} {v : Int32} {σ : Mm} {ke181 : Int32 → Int32 → Int32 → Option (Int32)} (he181 : ∀ (x3 : Int32) (x4 : Int32) (x5 : Int32), ke181 x3 x4 x5 = some v → AW l G 1 M_X10_sealed (some (.int v)) σ 181 [(3, .int x3), (4, .int x4), (5, .int x5)] [] σ) : ∀ (n : Nat) (x1 : Int32) (x2 : Int32) (x3 : Int32) (x4 : Int32) (x5 : Int32) (x6 : Int32), f_X10_sealed_p47 σ ke181 n x1 x2 x3 x4 x5 x6 = some v → AW l G 1 M_X10_sealed (some (.int v)) σ 47 [(1, .int x1), (2, .int x2), (3, .int x3), (4, .int x4), (5, .int x5), (6, .int x6)] [] σ := by
  intro n
  induction n with
  | zero => intro x1 x2 x3 x4 x5 x6 h; exact no_some h
  | succ n ih =>
    intro x1 x2 x3 x4 x5 x6 h
    rw [f_X10_sealed_p47] at h
    refine AW.iload dX10_sealed_47 (.refl 49) 5 rfl ?_
    refine AW.bipush (v := (100 : Int32)) dX10_sealed_49 (.refl 51) (by decide) ?_
    refine AW.icmp_ge (tgt := 181) dX10_sealed_51 (by decide) (fun c1 => ?_) (fun c1 => ?_)
    · have h := ifp c1 h
      refine AW.sub (L' := [(3, .int x3), (4, .int x4), (5, .int x5)]) [2, 3, 4] rfl ?_
      exact he181 x3 x4 x5 h
    · have h := ifn c1 h
      refine AW.iload dX10_sealed_54 (.refl 56) 5 rfl ?_
      refine AW.bipush (v := (10 : Int32)) dX10_sealed_56 (.refl 58) (by decide) ?_
      refine AW.idiv dX10_sealed_58 (.refl 59) (by decide) ?_
      refine AW.istore (L' := [(7, .int (x6 / (10 : Int32))), (1, .int x1), (2, .int x2), (3, .int x3), (4, .int x4), (5, .int x5), (6, .int x6)]) dX10_sealed_59 (.refl 61) (by decide) rfl ?_
      refine AW.iload dX10_sealed_61 (.refl 63) 6 rfl ?_
      refine AW.bipush (v := (10 : Int32)) dX10_sealed_63 (.refl 65) (by decide) ?_
      refine AW.irem dX10_sealed_65 (.refl 66) (by decide) ?_
      refine AW.istore (L' := [(8, .int (jrem x6 (10 : Int32))), (7, .int (x6 / (10 : Int32))), (1, .int x1), (2, .int x2), (3, .int x3), (4, .int x4), (5, .int x5), (6, .int x6)]) dX10_sealed_66 (.refl 68) (by decide) rfl ?_
      refine AW.iconst (v := (1 : Int32)) dX10_sealed_68 (.refl 69) (by decide) ?_
      refine AW.istore (L' := [(9, .int (1 : Int32)), (8, .int (jrem x6 (10 : Int32))), (7, .int (x6 / (10 : Int32))), (1, .int x1), (2, .int x2), (3, .int x3), (4, .int x4), (5, .int x5), (6, .int x6)]) dX10_sealed_69 (.refl 71) (by decide) rfl ?_
      refine AW.iconst (v := (0 : Int32)) dX10_sealed_71 (.refl 72) (by decide) ?_
      refine AW.istore (L' := [(10, .int (0 : Int32)), (9, .int (1 : Int32)), (8, .int (jrem x6 (10 : Int32))), (7, .int (x6 / (10 : Int32))), (1, .int x1), (2, .int x2), (3, .int x3), (4, .int x4), (5, .int x5), (6, .int x6)]) dX10_sealed_72 (.refl 74) (by decide) rfl ?_
      refine AW.sub (L' := [(1, .int x1), (2, .int x2), (3, .int x3), (4, .int x4), (5, .int x5), (6, .int x6), (7, .int (x6 / (10 : Int32))), (8, .int (jrem x6 (10 : Int32))), (9, .int (1 : Int32)), (10, .int (0 : Int32))]) [4, 5, 6, 7, 8, 9, 3, 2, 1, 0] rfl ?_
      exact a_X10_sealed_p74 (a_X10_sealed_p141 ih he181) FU x1 x2 x3 x4 x5 x6 (x6 / (10 : Int32)) (jrem x6 (10 : Int32)) (1 : Int32) (0 : Int32) h
set_option maxRecDepth 20000 in
theorem a_X10_sealed_p181 {l : Launch} {G : Gg} {v : Int32} {σ : Mm} (x3 : Int32) (x4 : Int32) (x5 : Int32) (h : f_X10_sealed_p181 σ x3 x4 x5 = some v) : AW l G 1 M_X10_sealed (some (.int v)) σ 181 [(3, .int x3), (4, .int x4), (5, .int x5)] [] σ := by
  unfold f_X10_sealed_p181 at h
  refine AW.iload_n dX10_sealed_181 (.refl 182) 0 rfl ?_
  refine AW.if_ne (tgt := 190) dX10_sealed_182 (by decide) (fun c1 => ?_) (fun c1 => ?_)
  · have h := ifn c1 h
    refine AW.iload dX10_sealed_190 (.refl 192) 2 rfl ?_
    cases h
    exact AW.ireturn rfl dX10_sealed_192
  · have h := ifp c1 h
    refine AW.iload dX10_sealed_185 (.refl 187) 1 rfl ?_
    refine AW.goto (tgt := 192) dX10_sealed_187 (by decide) ?_
    cases h
    exact AW.ireturn rfl dX10_sealed_192
set_option maxRecDepth 20000 in
theorem c_X10_sealed {l : Launch} {G : Gg} {x1 : Int32} {x2 : Int32} {x3 : Int32} {σ : Mm} {v : Int32} (h : f_X10_sealed σ x1 x2 x3 = some v) : MR l G 1 M_X10_sealed [.ref 46, .int x1, .int x2, .int x3] σ (some (.int v)) σ := by
  unfold f_X10_sealed at h
  refine MR.of (by decide +kernel) (Nat.le_of_ble_eq_true rfl) ?_
  show AW l G 1 M_X10_sealed (some (.int v)) σ 0 [(0, .ref 46), (1, .int x1), (2, .int x2), (3, .int x3)] [] σ
  refine AW.iload_n dX10_sealed_0 (.refl 1) 1 rfl ?_
  refine AW.i2l dX10_sealed_1 (.refl 2) ?_
  refine AW.lconst (v := (0 : Int64)) dX10_sealed_2 (.refl 3) (by decide) ?_
  refine AW.ldc2_w lc_X10_182 dX10_sealed_3 (.refl 6) ?_
  obtain ⟨r2, e1, h⟩ := b1_s h
  refine AW.callS (r' := (some (.int r2))) (σ' := σ) (rest := []) lm_X10_97 (c_X10_in e1) (by decide) (by decide) rfl rfl (Nat.le_of_ble_eq_true rfl) dX10_sealed_6 (.refl 9) (st' := [.int r2]) rfl ?_
  refine AW.if_eq (tgt := 34) dX10_sealed_9 (by decide) (fun c9 => ?_) (fun c9 => ?_)
  · have h := ifp c9 h
    refine AW.bipush (v := (-2 : Int32)) dX10_sealed_34 (.refl 36) (by decide) ?_
    cases h
    exact AW.ireturn rfl dX10_sealed_36
  · have h := ifn c9 h
    refine AW.iload_n dX10_sealed_12 (.refl 13) 2 rfl ?_
    refine AW.i2l dX10_sealed_13 (.refl 14) ?_
    refine AW.lconst (v := (0 : Int64)) dX10_sealed_14 (.refl 15) (by decide) ?_
    refine AW.ldc2_w lc_X10_182 dX10_sealed_15 (.refl 18) ?_
    obtain ⟨r4, e3, h⟩ := b1_s h
    refine AW.callS (r' := (some (.int r4))) (σ' := σ) (rest := []) lm_X10_97 (c_X10_in e3) (by decide) (by decide) rfl rfl (Nat.le_of_ble_eq_true rfl) dX10_sealed_18 (.refl 21) (st' := [.int r4]) rfl ?_
    refine AW.if_eq (tgt := 34) dX10_sealed_21 (by decide) (fun c8 => ?_) (fun c8 => ?_)
    · have h := ifp c8 h
      refine AW.bipush (v := (-2 : Int32)) dX10_sealed_34 (.refl 36) (by decide) ?_
      cases h
      exact AW.ireturn rfl dX10_sealed_36
    · have h := ifn c8 h
      refine AW.iload_n dX10_sealed_24 (.refl 25) 3 rfl ?_
      refine AW.i2l dX10_sealed_25 (.refl 26) ?_
      refine AW.lconst (v := (0 : Int64)) dX10_sealed_26 (.refl 27) (by decide) ?_
      refine AW.lconst (v := (1 : Int64)) dX10_sealed_27 (.refl 28) (by decide) ?_
      obtain ⟨r6, e5, h⟩ := b1_s h
      refine AW.callS (r' := (some (.int r6))) (σ' := σ) (rest := []) lm_X10_97 (c_X10_in e5) (by decide) (by decide) rfl rfl (Nat.le_of_ble_eq_true rfl) dX10_sealed_28 (.refl 31) (st' := [.int r6]) rfl ?_
      refine AW.if_ne (tgt := 37) dX10_sealed_31 (by decide) (fun c7 => ?_) (fun c7 => ?_)
      · have h := ifn c7 h
        refine AW.iconst (v := (0 : Int32)) dX10_sealed_37 (.refl 38) (by decide) ?_
        refine AW.istore (L' := [(4, .int (0 : Int32)), (0, .ref 46), (1, .int x1), (2, .int x2), (3, .int x3)]) dX10_sealed_38 (.refl 40) (by decide) rfl ?_
        refine AW.bipush (v := (-9 : Int32)) dX10_sealed_40 (.refl 42) (by decide) ?_
        refine AW.istore (L' := [(5, .int (-9 : Int32)), (4, .int (0 : Int32)), (0, .ref 46), (1, .int x1), (2, .int x2), (3, .int x3)]) dX10_sealed_42 (.refl 44) (by decide) rfl ?_
        refine AW.iconst (v := (0 : Int32)) dX10_sealed_44 (.refl 45) (by decide) ?_
        refine AW.istore (L' := [(6, .int (0 : Int32)), (5, .int (-9 : Int32)), (4, .int (0 : Int32)), (0, .ref 46), (1, .int x1), (2, .int x2), (3, .int x3)]) dX10_sealed_45 (.refl 47) (by decide) rfl ?_
        refine AW.sub (L' := [(1, .int x1), (2, .int x2), (3, .int x3), (4, .int (0 : Int32)), (5, .int (-9 : Int32)), (6, .int (0 : Int32))]) [4, 5, 6, 2, 1, 0] rfl ?_
        exact a_X10_sealed_p47 (a_X10_sealed_p181) FU x1 x2 x3 (0 : Int32) (-9 : Int32) (0 : Int32) h
      · have h := ifp c7 h
        refine AW.bipush (v := (-2 : Int32)) dX10_sealed_34 (.refl 36) (by decide) ?_
        cases h
        exact AW.ireturn rfl dX10_sealed_36
def f_X10_seed (x1 : Int64) (σ : Mm) : Option (Int64 × Mm) := some ((σ.2 46 41), (sJ σ 46 41 x1))
set_option maxRecDepth 20000 in
theorem c_X10_seed {l : Launch} {G : Gg} {x1 : Int64} {σ : Mm} {v : Int64} {τ : Mm} (h : f_X10_seed x1 σ = some (v, τ)) : MR l G 0 M_X10_seed [.ref 46, .long x1] σ (some (.long v)) τ := by
  unfold f_X10_seed at h
  refine MR.of (by decide +kernel) (Nat.le_of_ble_eq_true rfl) ?_
  show AW l G 0 M_X10_seed (some (.long v)) τ 0 [(0, .ref 46), (1, .long x1)] [] σ
  refine AW.aload_n dX10_seed_0 (.refl 1) 0 rfl ?_
  refine AW.getJ lk_X10_285 rfl rfl (by decide) dX10_seed_1 (.refl 4) ?_
  refine AW.lstore_n (L' := [(3, .long (σ.2 46 41)), (0, .ref 46), (1, .long x1)]) dX10_seed_4 (.refl 5) (by decide) rfl ?_
  refine AW.aload_n dX10_seed_5 (.refl 6) 1 rfl ?_
  refine AW.lload_n dX10_seed_6 (.refl 7) 2 rfl ?_
  refine AW.putJ lp_X10_285 rfl rfl (by decide) dX10_seed_7 (.refl 10) ?_
  refine AW.lload_n dX10_seed_10 (.refl 11) 0 rfl ?_
  cases h
  exact AW.lreturn rfl dX10_seed_11
def f_X10_day_p22 : Nat → Int32 → Int32 → Mm → Option (Int32 × Mm)
  | 0, _, _, _ => none
  | n + 1, x1, x2, σ => (if x1 ≤ x2 then b1 (f_X10_letNow σ) (fun (r2 : Int32) => b1 (f_X10_coinsOf σ r2) (fun (r4 : Int32) => b1 (f_X10_hold (1 : Int32) σ) (fun (τ6 : Mm) => some (r4, τ6)))) else bnd ((sJ σ 46 41 (((σ.2 46 41) * (6364136223846793005 : Int64)) + (1442695040888963407 : Int64)))) (fun (σ7 : Mm) => bnd ((jlrem (jlushr (σ7.2 46 41) (33 : Int32)) (50 : Int64)).toInt32) (fun (y9 : Int32) => b1 (f_X10_isBidder σ7 (y9 / (10 : Int32))) (fun (r12 : Int32) => (if r12 = 0 then (f_X10_day_p22 n) x1 (x2 + (1 : Int32)) σ7 else gd (inB (y9 / (10 : Int32)) 5) ((if (σ7.1 52 ((y9 / (10 : Int32))).toNatClampNeg) = (-9 : Int32) then b1 (f_X10_canBe σ7 (y9 / (10 : Int32)) (jrem y9 (10 : Int32))) (fun (r15 : Int32) => (if r15 = 0 then (f_X10_day_p22 n) x1 (x2 + (1 : Int32)) σ7 else gd (inB (y9 / (10 : Int32)) 5) ((f_X10_day_p22 n) x1 (x2 + (1 : Int32)) (sI σ7 52 ((y9 / (10 : Int32))).toNatClampNeg (jrem y9 (10 : Int32)))))) else (f_X10_day_p22 n) x1 (x2 + (1 : Int32)) σ7)))))))
def f_X10_day (x1 : Int32) (σ : Mm) : Option (Int32 × Mm) := b1 (f_X10_in σ x1.toInt64 (1 : Int64) (20 : Int64)) (fun (r2 : Int32) => (if r2 = 0 then some ((-2 : Int32), σ) else b1 (f_X10_hold (0 : Int32) σ) (fun (τ4 : Mm) => f_X10_day_p22 FU x1 (0 : Int32) τ4)))
set_option maxRecDepth 20000 in
theorem a_X10_day_p22 {l : Launch} {G : Gg} {v : Int32} {τ : Mm} : ∀ (n : Nat) (x1 : Int32) (x2 : Int32) (σ : Mm), f_X10_day_p22 n x1 x2 σ = some (v, τ) → AW l G 5 M_X10_day (some (.int v)) τ 22 [(0, .ref 46), (1, .int x1), (2, .int x2)] [] σ := by
  intro n
  induction n with
  | zero => intro x1 x2 σ h; exact no_some h
  | succ n ih =>
    intro x1 x2 σ h
    rw [f_X10_day_p22] at h
    refine AW.iload_n dX10_day_22 (.refl 23) 2 rfl ?_
    refine AW.iload_n dX10_day_23 (.refl 24) 1 rfl ?_
    refine AW.icmp_ge (tgt := 115) dX10_day_24 (by decide) (fun c20 => ?_) (fun c20 => ?_)
    · have h := ifp c20 h
      refine AW.aload_n dX10_day_115 (.refl 116) 0 rfl ?_
      refine AW.aload_n dX10_day_116 (.refl 117) 0 rfl ?_
      obtain ⟨r2, e1, h⟩ := b1_s h
      refine AW.callV (r' := (some (.int r2))) (σ' := σ) (rest := [.ref 46]) lm_X10_196 (c_X10_letNow e1) (by decide) (by decide) rfl rfl (by decide) rfl rfl (Nat.le_of_ble_eq_true rfl) dX10_day_117 (.refl 120) (st' := [.int r2, .ref 46]) rfl ?_
      obtain ⟨r4, e3, h⟩ := b1_s h
      refine AW.callV (r' := (some (.int r4))) (σ' := σ) (rest := []) lm_X10_199 (c_X10_coinsOf e3) (by decide) (by decide) rfl rfl (by decide) rfl rfl (Nat.le_of_ble_eq_true rfl) dX10_day_120 (.refl 123) (st' := [.int r4]) rfl ?_
      refine AW.istore_n (L' := [(2, .int r4), (0, .ref 46), (1, .int x1)]) dX10_day_123 (.refl 124) (by decide) rfl ?_
      refine AW.aload_n dX10_day_124 (.refl 125) 1 rfl ?_
      refine AW.iconst (v := (1 : Int32)) dX10_day_125 (.refl 126) (by decide) ?_
      obtain ⟨τ6, e5, h⟩ := b1_s h
      refine AW.callV (r' := none) (σ' := τ6) (rest := []) lm_X10_268 (c_X10_hold e5) (by decide) (by decide) rfl rfl (by decide) rfl rfl (Nat.le_of_ble_eq_true rfl) dX10_day_126 (.refl 129) (st' := []) rfl ?_
      refine AW.iload_n dX10_day_129 (.refl 130) 0 rfl ?_
      cases h
      exact AW.ireturn rfl dX10_day_130
    · have h := ifn c20 h
      refine AW.aload_n dX10_day_27 (.refl 28) 0 rfl ?_
      refine AW.aload_n dX10_day_28 (.refl 29) 0 rfl ?_
      refine AW.getJ lk_X10_285 rfl rfl (by decide) dX10_day_29 (.refl 32) ?_
      refine AW.ldc2_w lc_X10_291 dX10_day_32 (.refl 35) ?_
      refine AW.lmul dX10_day_35 (.refl 36) ?_
      refine AW.ldc2_w lc_X10_293 dX10_day_36 (.refl 39) ?_
      refine AW.ladd dX10_day_39 (.refl 40) ?_
      refine AW.putJ lp_X10_285 rfl rfl (by decide) dX10_day_40 (.refl 43) ?_
      obtain ⟨σ7, e8, h⟩ := bnd_s h
      refine AW.nmM e8 ?_
      refine AW.aload_n dX10_day_43 (.refl 44) 0 rfl ?_
      refine AW.getJ lk_X10_285 rfl rfl (by decide) dX10_day_44 (.refl 47) ?_
      refine AW.bipush (v := (33 : Int32)) dX10_day_47 (.refl 49) (by decide) ?_
      refine AW.lushr dX10_day_49 (.refl 50) ?_
      refine AW.ldc2_w lc_X10_295 dX10_day_50 (.refl 53) ?_
      refine AW.lrem dX10_day_53 (.refl 54) (by decide) ?_
      refine AW.l2i dX10_day_54 (.refl 55) ?_
      obtain ⟨y9, e10, h⟩ := bnd_s h
      refine AW.nmI e10 ?_
      refine AW.istore_n (L' := [(3, .int y9), (0, .ref 46), (1, .int x1), (2, .int x2)]) dX10_day_55 (.refl 56) (by decide) rfl ?_
      refine AW.aload_n dX10_day_56 (.refl 57) 1 rfl ?_
      refine AW.iload_n dX10_day_57 (.refl 58) 0 rfl ?_
      refine AW.bipush (v := (10 : Int32)) dX10_day_58 (.refl 60) (by decide) ?_
      refine AW.idiv dX10_day_60 (.refl 61) (by decide) ?_
      obtain ⟨r12, e11, h⟩ := b1_s h
      refine AW.callV (r' := (some (.int r12))) (σ' := σ7) (rest := []) lm_X10_174 (c_X10_isBidder e11) (by decide) (by decide) rfl rfl (by decide) rfl rfl (Nat.le_of_ble_eq_true rfl) dX10_day_61 (.refl 64) (st' := [.int r12]) rfl ?_
      refine AW.if_eq (tgt := 109) dX10_day_64 (by decide) (fun c19 => ?_) (fun c19 => ?_)
      · have h := ifp c19 h
        refine AW.iinc (v := (x2 + (1 : Int32))) (L' := [(2, .int (x2 + (1 : Int32))), (3, .int y9), (0, .ref 46), (1, .int x1)]) dX10_day_109 (.refl 112) 3 rfl rfl (by decide) rfl ?_
        refine AW.goto (tgt := 22) dX10_day_112 (by decide) ?_
        refine AW.sub (L' := [(0, .ref 46), (1, .int x1), (2, .int (x2 + (1 : Int32)))]) [2, 3, 0] rfl ?_
        exact ih x1 (x2 + (1 : Int32)) σ7 h
      · have h := ifn c19 h
        refine AW.aload_n dX10_day_67 (.refl 68) 1 rfl ?_
        refine AW.getR (z := 52) lk_X10_25 rfl rfl (by decide) rfl dX10_day_68 (.refl 71) ?_
        refine AW.iload_n dX10_day_71 (.refl 72) 0 rfl ?_
        refine AW.bipush (v := (10 : Int32)) dX10_day_72 (.refl 74) (by decide) ?_
        refine AW.idiv dX10_day_74 (.refl 75) (by decide) ?_
        obtain ⟨g13, h⟩ := gd_s h
        refine AW.iaload rfl g13 dX10_day_75 (.refl 76) ?_
        refine AW.bipush (v := (-9 : Int32)) dX10_day_76 (.refl 78) (by decide) ?_
        refine AW.icmp_ne (tgt := 109) dX10_day_78 (by decide) (fun c18 => ?_) (fun c18 => ?_)
        · have h := ifn c18 h
          refine AW.iinc (v := (x2 + (1 : Int32))) (L' := [(2, .int (x2 + (1 : Int32))), (3, .int y9), (0, .ref 46), (1, .int x1)]) dX10_day_109 (.refl 112) 3 rfl rfl (by decide) rfl ?_
          refine AW.goto (tgt := 22) dX10_day_112 (by decide) ?_
          refine AW.sub (L' := [(0, .ref 46), (1, .int x1), (2, .int (x2 + (1 : Int32)))]) [2, 3, 0] rfl ?_
          exact ih x1 (x2 + (1 : Int32)) σ7 h
        · have h := ifp c18 h
          refine AW.aload_n dX10_day_81 (.refl 82) 1 rfl ?_
          refine AW.iload_n dX10_day_82 (.refl 83) 0 rfl ?_
          refine AW.bipush (v := (10 : Int32)) dX10_day_83 (.refl 85) (by decide) ?_
          refine AW.idiv dX10_day_85 (.refl 86) (by decide) ?_
          refine AW.iload_n dX10_day_86 (.refl 87) 0 rfl ?_
          refine AW.bipush (v := (10 : Int32)) dX10_day_87 (.refl 89) (by decide) ?_
          refine AW.irem dX10_day_89 (.refl 90) (by decide) ?_
          obtain ⟨r15, e14, h⟩ := b1_s h
          refine AW.callV (r' := (some (.int r15))) (σ' := σ7) (rest := []) lm_X10_190 (c_X10_canBe e14) (by decide) (by decide) rfl rfl (by decide) rfl rfl (Nat.le_of_ble_eq_true rfl) dX10_day_90 (.refl 93) (st' := [.int r15]) rfl ?_
          refine AW.if_eq (tgt := 109) dX10_day_93 (by decide) (fun c17 => ?_) (fun c17 => ?_)
          · have h := ifp c17 h
            refine AW.iinc (v := (x2 + (1 : Int32))) (L' := [(2, .int (x2 + (1 : Int32))), (3, .int y9), (0, .ref 46), (1, .int x1)]) dX10_day_109 (.refl 112) 3 rfl rfl (by decide) rfl ?_
            refine AW.goto (tgt := 22) dX10_day_112 (by decide) ?_
            refine AW.sub (L' := [(0, .ref 46), (1, .int x1), (2, .int (x2 + (1 : Int32)))]) [2, 3, 0] rfl ?_
            exact ih x1 (x2 + (1 : Int32)) σ7 h
          · have h := ifn c17 h
            refine AW.aload_n dX10_day_96 (.refl 97) 1 rfl ?_
            refine AW.getR (z := 52) lk_X10_25 rfl rfl (by decide) rfl dX10_day_97 (.refl 100) ?_
            refine AW.iload_n dX10_day_100 (.refl 101) 0 rfl ?_
            refine AW.bipush (v := (10 : Int32)) dX10_day_101 (.refl 103) (by decide) ?_
            refine AW.idiv dX10_day_103 (.refl 104) (by decide) ?_
            refine AW.iload_n dX10_day_104 (.refl 105) 0 rfl ?_
            refine AW.bipush (v := (10 : Int32)) dX10_day_105 (.refl 107) (by decide) ?_
            refine AW.irem dX10_day_107 (.refl 108) (by decide) ?_
            obtain ⟨g16, h⟩ := gd_s h
            refine AW.iastore rfl g16 dX10_day_108 (.refl 109) ?_
            refine AW.iinc (v := (x2 + (1 : Int32))) (L' := [(2, .int (x2 + (1 : Int32))), (3, .int y9), (0, .ref 46), (1, .int x1)]) dX10_day_109 (.refl 112) 3 rfl rfl (by decide) rfl ?_
            refine AW.goto (tgt := 22) dX10_day_112 (by decide) ?_
            refine AW.sub (L' := [(0, .ref 46), (1, .int x1), (2, .int (x2 + (1 : Int32)))]) [2, 3, 0] rfl ?_
            exact ih x1 (x2 + (1 : Int32)) (sI σ7 52 ((y9 / (10 : Int32))).toNatClampNeg (jrem y9 (10 : Int32))) h
set_option maxRecDepth 20000 in
theorem c_X10_day {l : Launch} {G : Gg} {x1 : Int32} {σ : Mm} {v : Int32} {τ : Mm} (h : f_X10_day x1 σ = some (v, τ)) : MR l G 5 M_X10_day [.ref 46, .int x1] σ (some (.int v)) τ := by
  unfold f_X10_day at h
  refine MR.of (by decide +kernel) (Nat.le_of_ble_eq_true rfl) ?_
  show AW l G 5 M_X10_day (some (.int v)) τ 0 [(0, .ref 46), (1, .int x1)] [] σ
  refine AW.iload_n dX10_day_0 (.refl 1) 1 rfl ?_
  refine AW.i2l dX10_day_1 (.refl 2) ?_
  refine AW.lconst (v := (1 : Int64)) dX10_day_2 (.refl 3) (by decide) ?_
  refine AW.ldc2_w lc_X10_289 dX10_day_3 (.refl 6) ?_
  obtain ⟨r2, e1, h⟩ := b1_s h
  refine AW.callS (r' := (some (.int r2))) (σ' := σ) (rest := []) lm_X10_97 (c_X10_in e1) (by decide) (by decide) rfl rfl (Nat.le_of_ble_eq_true rfl) dX10_day_6 (.refl 9) (st' := [.int r2]) rfl ?_
  refine AW.if_ne (tgt := 15) dX10_day_9 (by decide) (fun c5 => ?_) (fun c5 => ?_)
  · have h := ifn c5 h
    refine AW.aload_n dX10_day_15 (.refl 16) 0 rfl ?_
    refine AW.iconst (v := (0 : Int32)) dX10_day_16 (.refl 17) (by decide) ?_
    obtain ⟨τ4, e3, h⟩ := b1_s h
    refine AW.callV (r' := none) (σ' := τ4) (rest := []) lm_X10_268 (c_X10_hold e3) (by decide) (by decide) rfl rfl (by decide) rfl rfl (Nat.le_of_ble_eq_true rfl) dX10_day_17 (.refl 20) (st' := []) rfl ?_
    refine AW.iconst (v := (0 : Int32)) dX10_day_20 (.refl 21) (by decide) ?_
    refine AW.istore_n (L' := [(2, .int (0 : Int32)), (0, .ref 46), (1, .int x1)]) dX10_day_21 (.refl 22) (by decide) rfl ?_
    refine AW.sub (L' := [(0, .ref 46), (1, .int x1), (2, .int (0 : Int32))]) [1, 2, 0] rfl ?_
    exact a_X10_day_p22 FU x1 (0 : Int32) τ4 h
  · have h := ifp c5 h
    refine AW.bipush (v := (-2 : Int32)) dX10_day_12 (.refl 14) (by decide) ?_
    cases h
    exact AW.ireturn rfl dX10_day_14
def f_X10_keep_p21 : Nat → Int32 → Int32 → Mm → Option (Int32 × Mm)
  | 0, _, _, _ => none
  | n + 1, x1, x2, σ => (if (5 : Int32) ≤ x2 then b1 (f_X10_letNow σ) (fun (r2 : Int32) => b1 (f_X10_coinsOf σ r2) (fun (r4 : Int32) => some (r4, σ))) else gd (inB x2 5) (gd (inB (((5 : Int32) * x1) + x2) 10) (bnd ((sI σ 74 ((((5 : Int32) * x1) + x2)).toNatClampNeg (σ.1 52 (x2).toNatClampNeg))) (fun (σ7 : Mm) => (f_X10_keep_p21 n) x1 (x2 + (1 : Int32)) σ7))))
def f_X10_keep (x1 : Int32) (σ : Mm) : Option (Int32 × Mm) := b1 (f_X10_in σ x1.toInt64 (0 : Int64) (1 : Int64)) (fun (r2 : Int32) => (if r2 = 0 then some ((-1 : Int32), σ) else gd (inB x1 2) (f_X10_keep_p21 FU x1 (0 : Int32) (sI σ 73 (x1).toNatClampNeg ((1 : Int32) &&& 1)))))
set_option maxRecDepth 20000 in
theorem a_X10_keep_p21 {l : Launch} {G : Gg} {v : Int32} {τ : Mm} : ∀ (n : Nat) (x1 : Int32) (x2 : Int32) (σ : Mm), f_X10_keep_p21 n x1 x2 σ = some (v, τ) → AW l G 2 M_X10_keep (some (.int v)) τ 21 [(0, .ref 46), (1, .int x1), (2, .int x2)] [] σ := by
  intro n
  induction n with
  | zero => intro x1 x2 σ h; exact no_some h
  | succ n ih =>
    intro x1 x2 σ h
    rw [f_X10_keep_p21] at h
    refine AW.iload_n dX10_keep_21 (.refl 22) 2 rfl ?_
    refine AW.iconst (v := (5 : Int32)) dX10_keep_22 (.refl 23) (by decide) ?_
    refine AW.icmp_ge (tgt := 48) dX10_keep_23 (by decide) (fun c9 => ?_) (fun c9 => ?_)
    · have h := ifp c9 h
      refine AW.aload_n dX10_keep_48 (.refl 49) 0 rfl ?_
      refine AW.aload_n dX10_keep_49 (.refl 50) 0 rfl ?_
      obtain ⟨r2, e1, h⟩ := b1_s h
      refine AW.callV (r' := (some (.int r2))) (σ' := σ) (rest := [.ref 46]) lm_X10_196 (c_X10_letNow e1) (by decide) (by decide) rfl rfl (by decide) rfl rfl (Nat.le_of_ble_eq_true rfl) dX10_keep_50 (.refl 53) (st' := [.int r2, .ref 46]) rfl ?_
      obtain ⟨r4, e3, h⟩ := b1_s h
      refine AW.callV (r' := (some (.int r4))) (σ' := σ) (rest := []) lm_X10_199 (c_X10_coinsOf e3) (by decide) (by decide) rfl rfl (by decide) rfl rfl (Nat.le_of_ble_eq_true rfl) dX10_keep_53 (.refl 56) (st' := [.int r4]) rfl ?_
      cases h
      exact AW.ireturn rfl dX10_keep_56
    · have h := ifn c9 h
      refine AW.aload_n dX10_keep_26 (.refl 27) 0 rfl ?_
      refine AW.getR (z := 74) lk_X10_92 rfl rfl (by decide) rfl dX10_keep_27 (.refl 30) ?_
      refine AW.iconst (v := (5 : Int32)) dX10_keep_30 (.refl 31) (by decide) ?_
      refine AW.iload_n dX10_keep_31 (.refl 32) 1 rfl ?_
      refine AW.imul dX10_keep_32 (.refl 33) ?_
      refine AW.iload_n dX10_keep_33 (.refl 34) 2 rfl ?_
      refine AW.iadd dX10_keep_34 (.refl 35) ?_
      refine AW.aload_n dX10_keep_35 (.refl 36) 0 rfl ?_
      refine AW.getR (z := 52) lk_X10_25 rfl rfl (by decide) rfl dX10_keep_36 (.refl 39) ?_
      refine AW.iload_n dX10_keep_39 (.refl 40) 2 rfl ?_
      obtain ⟨g5, h⟩ := gd_s h
      refine AW.iaload rfl g5 dX10_keep_40 (.refl 41) ?_
      obtain ⟨g6, h⟩ := gd_s h
      refine AW.iastore rfl g6 dX10_keep_41 (.refl 42) ?_
      obtain ⟨σ7, e8, h⟩ := bnd_s h
      refine AW.nmM e8 ?_
      refine AW.iinc (v := (x2 + (1 : Int32))) (L' := [(2, .int (x2 + (1 : Int32))), (0, .ref 46), (1, .int x1)]) dX10_keep_42 (.refl 45) 2 rfl rfl (by decide) rfl ?_
      refine AW.goto (tgt := 21) dX10_keep_45 (by decide) ?_
      refine AW.sub (L' := [(0, .ref 46), (1, .int x1), (2, .int (x2 + (1 : Int32)))]) [1, 2, 0] rfl ?_
      exact ih x1 (x2 + (1 : Int32)) σ7 h
set_option maxRecDepth 20000 in
theorem c_X10_keep {l : Launch} {G : Gg} {x1 : Int32} {σ : Mm} {v : Int32} {τ : Mm} (h : f_X10_keep x1 σ = some (v, τ)) : MR l G 2 M_X10_keep [.ref 46, .int x1] σ (some (.int v)) τ := by
  unfold f_X10_keep at h
  refine MR.of (by decide +kernel) (Nat.le_of_ble_eq_true rfl) ?_
  show AW l G 2 M_X10_keep (some (.int v)) τ 0 [(0, .ref 46), (1, .int x1)] [] σ
  refine AW.iload_n dX10_keep_0 (.refl 1) 1 rfl ?_
  refine AW.i2l dX10_keep_1 (.refl 2) ?_
  refine AW.lconst (v := (0 : Int64)) dX10_keep_2 (.refl 3) (by decide) ?_
  refine AW.lconst (v := (1 : Int64)) dX10_keep_3 (.refl 4) (by decide) ?_
  obtain ⟨r2, e1, h⟩ := b1_s h
  refine AW.callS (r' := (some (.int r2))) (σ' := σ) (rest := []) lm_X10_97 (c_X10_in e1) (by decide) (by decide) rfl rfl (Nat.le_of_ble_eq_true rfl) dX10_keep_4 (.refl 7) (st' := [.int r2]) rfl ?_
  refine AW.if_ne (tgt := 12) dX10_keep_7 (by decide) (fun c4 => ?_) (fun c4 => ?_)
  · have h := ifn c4 h
    refine AW.aload_n dX10_keep_12 (.refl 13) 0 rfl ?_
    refine AW.getR (z := 73) lk_X10_89 rfl rfl (by decide) rfl dX10_keep_13 (.refl 16) ?_
    refine AW.iload_n dX10_keep_16 (.refl 17) 1 rfl ?_
    refine AW.iconst (v := (1 : Int32)) dX10_keep_17 (.refl 18) (by decide) ?_
    obtain ⟨g3, h⟩ := gd_s h
    refine AW.bastore rfl g3 dX10_keep_18 (.refl 19) ?_
    refine AW.iconst (v := (0 : Int32)) dX10_keep_19 (.refl 20) (by decide) ?_
    refine AW.istore_n (L' := [(2, .int (0 : Int32)), (0, .ref 46), (1, .int x1)]) dX10_keep_20 (.refl 21) (by decide) rfl ?_
    refine AW.sub (L' := [(0, .ref 46), (1, .int x1), (2, .int (0 : Int32))]) [1, 2, 0] rfl ?_
    exact a_X10_keep_p21 FU x1 (0 : Int32) (sI σ 73 (x1).toNatClampNeg ((1 : Int32) &&& 1)) h
  · have h := ifp c4 h
    refine AW.iconst (v := (-1 : Int32)) dX10_keep_10 (.refl 11) (by decide) ?_
    cases h
    exact AW.ireturn rfl dX10_keep_11
def f_X10_again_p26 : Nat → Int32 → Int32 → Mm → Option (Int32 × Mm)
  | 0, _, _, _ => none
  | n + 1, x1, x2, σ => (if (5 : Int32) ≤ x2 then b1 (f_X10_letNow (sI σ 46 14 (0 : Int32))) (fun (r2 : Int32) => b1 (f_X10_coinsOf (sI σ 46 14 (0 : Int32)) r2) (fun (r4 : Int32) => some (r4, (sI σ 46 14 (0 : Int32))))) else gd (inB (((5 : Int32) * x1) + x2) 10) (gd (inB x2 5) (bnd ((sI σ 52 (x2).toNatClampNeg (σ.1 74 ((((5 : Int32) * x1) + x2)).toNatClampNeg))) (fun (σ7 : Mm) => (f_X10_again_p26 n) x1 (x2 + (1 : Int32)) σ7))))
def f_X10_again (x1 : Int32) (σ : Mm) : Option (Int32 × Mm) := b1 (f_X10_in σ x1.toInt64 (0 : Int64) (1 : Int64)) (fun (r2 : Int32) => (if r2 = 0 then some ((-1 : Int32), σ) else gd (inB x1 2) ((if (σ.1 73 (x1).toNatClampNeg) = 0 then some ((-3 : Int32), σ) else f_X10_again_p26 FU x1 (0 : Int32) σ))))
set_option maxRecDepth 20000 in
theorem a_X10_again_p26 {l : Launch} {G : Gg} {v : Int32} {τ : Mm} : ∀ (n : Nat) (x1 : Int32) (x2 : Int32) (σ : Mm), f_X10_again_p26 n x1 x2 σ = some (v, τ) → AW l G 2 M_X10_again (some (.int v)) τ 26 [(0, .ref 46), (1, .int x1), (2, .int x2)] [] σ := by
  intro n
  induction n with
  | zero => intro x1 x2 σ h; exact no_some h
  | succ n ih =>
    intro x1 x2 σ h
    rw [f_X10_again_p26] at h
    refine AW.iload_n dX10_again_26 (.refl 27) 2 rfl ?_
    refine AW.iconst (v := (5 : Int32)) dX10_again_27 (.refl 28) (by decide) ?_
    refine AW.icmp_ge (tgt := 53) dX10_again_28 (by decide) (fun c9 => ?_) (fun c9 => ?_)
    · have h := ifp c9 h
      refine AW.aload_n dX10_again_53 (.refl 54) 0 rfl ?_
      refine AW.iconst (v := (0 : Int32)) dX10_again_54 (.refl 55) (by decide) ?_
      refine AW.putI lp_X10_138 rfl rfl (by decide) dX10_again_55 (.refl 58) ?_
      refine AW.aload_n dX10_again_58 (.refl 59) 0 rfl ?_
      refine AW.aload_n dX10_again_59 (.refl 60) 0 rfl ?_
      obtain ⟨r2, e1, h⟩ := b1_s h
      refine AW.callV (r' := (some (.int r2))) (σ' := (sI σ 46 14 (0 : Int32))) (rest := [.ref 46]) lm_X10_196 (c_X10_letNow e1) (by decide) (by decide) rfl rfl (by decide) rfl rfl (Nat.le_of_ble_eq_true rfl) dX10_again_60 (.refl 63) (st' := [.int r2, .ref 46]) rfl ?_
      obtain ⟨r4, e3, h⟩ := b1_s h
      refine AW.callV (r' := (some (.int r4))) (σ' := (sI σ 46 14 (0 : Int32))) (rest := []) lm_X10_199 (c_X10_coinsOf e3) (by decide) (by decide) rfl rfl (by decide) rfl rfl (Nat.le_of_ble_eq_true rfl) dX10_again_63 (.refl 66) (st' := [.int r4]) rfl ?_
      cases h
      exact AW.ireturn rfl dX10_again_66
    · have h := ifn c9 h
      refine AW.aload_n dX10_again_31 (.refl 32) 0 rfl ?_
      refine AW.getR (z := 52) lk_X10_25 rfl rfl (by decide) rfl dX10_again_32 (.refl 35) ?_
      refine AW.iload_n dX10_again_35 (.refl 36) 2 rfl ?_
      refine AW.aload_n dX10_again_36 (.refl 37) 0 rfl ?_
      refine AW.getR (z := 74) lk_X10_92 rfl rfl (by decide) rfl dX10_again_37 (.refl 40) ?_
      refine AW.iconst (v := (5 : Int32)) dX10_again_40 (.refl 41) (by decide) ?_
      refine AW.iload_n dX10_again_41 (.refl 42) 1 rfl ?_
      refine AW.imul dX10_again_42 (.refl 43) ?_
      refine AW.iload_n dX10_again_43 (.refl 44) 2 rfl ?_
      refine AW.iadd dX10_again_44 (.refl 45) ?_
      obtain ⟨g5, h⟩ := gd_s h
      refine AW.iaload rfl g5 dX10_again_45 (.refl 46) ?_
      obtain ⟨g6, h⟩ := gd_s h
      refine AW.iastore rfl g6 dX10_again_46 (.refl 47) ?_
      obtain ⟨σ7, e8, h⟩ := bnd_s h
      refine AW.nmM e8 ?_
      refine AW.iinc (v := (x2 + (1 : Int32))) (L' := [(2, .int (x2 + (1 : Int32))), (0, .ref 46), (1, .int x1)]) dX10_again_47 (.refl 50) 2 rfl rfl (by decide) rfl ?_
      refine AW.goto (tgt := 26) dX10_again_50 (by decide) ?_
      refine AW.sub (L' := [(0, .ref 46), (1, .int x1), (2, .int (x2 + (1 : Int32)))]) [1, 2, 0] rfl ?_
      exact ih x1 (x2 + (1 : Int32)) σ7 h
set_option maxRecDepth 20000 in
theorem c_X10_again {l : Launch} {G : Gg} {x1 : Int32} {σ : Mm} {v : Int32} {τ : Mm} (h : f_X10_again x1 σ = some (v, τ)) : MR l G 2 M_X10_again [.ref 46, .int x1] σ (some (.int v)) τ := by
  unfold f_X10_again at h
  refine MR.of (by decide +kernel) (Nat.le_of_ble_eq_true rfl) ?_
  show AW l G 2 M_X10_again (some (.int v)) τ 0 [(0, .ref 46), (1, .int x1)] [] σ
  refine AW.iload_n dX10_again_0 (.refl 1) 1 rfl ?_
  refine AW.i2l dX10_again_1 (.refl 2) ?_
  refine AW.lconst (v := (0 : Int64)) dX10_again_2 (.refl 3) (by decide) ?_
  refine AW.lconst (v := (1 : Int64)) dX10_again_3 (.refl 4) (by decide) ?_
  obtain ⟨r2, e1, h⟩ := b1_s h
  refine AW.callS (r' := (some (.int r2))) (σ' := σ) (rest := []) lm_X10_97 (c_X10_in e1) (by decide) (by decide) rfl rfl (Nat.le_of_ble_eq_true rfl) dX10_again_4 (.refl 7) (st' := [.int r2]) rfl ?_
  refine AW.if_ne (tgt := 12) dX10_again_7 (by decide) (fun c5 => ?_) (fun c5 => ?_)
  · have h := ifn c5 h
    refine AW.aload_n dX10_again_12 (.refl 13) 0 rfl ?_
    refine AW.getR (z := 73) lk_X10_89 rfl rfl (by decide) rfl dX10_again_13 (.refl 16) ?_
    refine AW.iload_n dX10_again_16 (.refl 17) 1 rfl ?_
    obtain ⟨g3, h⟩ := gd_s h
    refine AW.baload rfl g3 dX10_again_17 (.refl 18) ?_
    refine AW.if_ne (tgt := 24) dX10_again_18 (by decide) (fun c4 => ?_) (fun c4 => ?_)
    · have h := ifn c4 h
      refine AW.iconst (v := (0 : Int32)) dX10_again_24 (.refl 25) (by decide) ?_
      refine AW.istore_n (L' := [(2, .int (0 : Int32)), (0, .ref 46), (1, .int x1)]) dX10_again_25 (.refl 26) (by decide) rfl ?_
      refine AW.sub (L' := [(0, .ref 46), (1, .int x1), (2, .int (0 : Int32))]) [1, 2, 0] rfl ?_
      exact a_X10_again_p26 FU x1 (0 : Int32) σ h
    · have h := ifp c4 h
      refine AW.bipush (v := (-3 : Int32)) dX10_again_21 (.refl 23) (by decide) ?_
      cases h
      exact AW.ireturn rfl dX10_again_23
  · have h := ifp c5 h
    refine AW.iconst (v := (-1 : Int32)) dX10_again_10 (.refl 11) (by decide) ?_
    cases h
    exact AW.ireturn rfl dX10_again_11
