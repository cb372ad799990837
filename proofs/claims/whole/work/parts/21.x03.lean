def f_X8_takes_p24 (σ : Mm) (x1 : Int32) (x2 : Int32) (s0 : Int32) : Option (Int64) := (if s0 = 0 then some (0 : Int64) else gd (inB (((10 : Int32) * x1) + x2) 50) (some (σ.2 14 ((((10 : Int32) * x1) + x2)).toNatClampNeg)))
def f_X8_takes_p23 (σ : Mm) (x1 : Int32) (x2 : Int32) : Option (Int64) := (f_X8_takes_p24 σ) x1 x2 (0 : Int32)
def f_X8_takes (σ : Mm) (x1 : Int32) (x2 : Int32) : Option (Int64) := (if x1 < 0 then (f_X8_takes_p23 σ) x1 x2 else (if (5 : Int32) ≤ x1 then (f_X8_takes_p23 σ) x1 x2 else (if x2 < 0 then (f_X8_takes_p23 σ) x1 x2 else (if (10 : Int32) ≤ x2 then (f_X8_takes_p23 σ) x1 x2 else (f_X8_takes_p24 σ) x1 x2 (1 : Int32)))))
set_option maxRecDepth 20000 in
theorem a_X8_takes_p24 {l : Launch} {G : Gg} {v : Int64} {σ : Mm} (x1 : Int32) (x2 : Int32) (s0 : Int32) (h : f_X8_takes_p24 σ x1 x2 s0 = some v) : AW l G 0 M_X8_takes (some (.long v)) σ 24 [(0, .ref 3), (1, .int x1), (2, .int x2)] [.int s0] σ := by
  unfold f_X8_takes_p24 at h
  refine AW.istore_n (L' := [(3, .int s0), (0, .ref 3), (1, .int x1), (2, .int x2)]) dX8_takes_24 (.refl 25) (by decide) rfl ?_
  refine AW.iload_n dX8_takes_25 (.refl 26) 0 rfl ?_
  refine AW.if_eq (tgt := 43) dX8_takes_26 (by decide) (fun c2 => ?_) (fun c2 => ?_)
  · have h := ifp c2 h
    refine AW.lconst (v := (0 : Int64)) dX8_takes_43 (.refl 44) (by decide) ?_
    cases h
    exact AW.lreturn rfl dX8_takes_44
  · have h := ifn c2 h
    refine AW.aload_n dX8_takes_29 (.refl 30) 1 rfl ?_
    refine AW.getR (z := 14) lk_X8_49 rfl rfl (by decide) rfl dX8_takes_30 (.refl 33) ?_
    refine AW.bipush (v := (10 : Int32)) dX8_takes_33 (.refl 35) (by decide) ?_
    refine AW.iload_n dX8_takes_35 (.refl 36) 2 rfl ?_
    refine AW.imul dX8_takes_36 (.refl 37) ?_
    refine AW.iload_n dX8_takes_37 (.refl 38) 3 rfl ?_
    refine AW.iadd dX8_takes_38 (.refl 39) ?_
    obtain ⟨g1, h⟩ := gd_s h
    refine AW.laload rfl g1 dX8_takes_39 (.refl 40) ?_
    refine AW.goto (tgt := 44) dX8_takes_40 (by decide) ?_
    cases h
    exact AW.lreturn rfl dX8_takes_44
set_option maxRecDepth 20000 in
theorem a_X8_takes_p23 {l : Launch} {G : Gg} {v : Int64} {σ : Mm} (x1 : Int32) (x2 : Int32) (h : f_X8_takes_p23 σ x1 x2 = some v) : AW l G 0 M_X8_takes (some (.long v)) σ 23 [(0, .ref 3), (1, .int x1), (2, .int x2)] [] σ := by
  unfold f_X8_takes_p23 at h
  refine AW.iconst (v := (0 : Int32)) dX8_takes_23 (.refl 24) (by decide) ?_
  exact (a_X8_takes_p24) x1 x2 (0 : Int32) h
set_option maxRecDepth 20000 in
theorem c_X8_takes {l : Launch} {G : Gg} {x1 : Int32} {x2 : Int32} {σ : Mm} {v : Int64} (h : f_X8_takes σ x1 x2 = some v) : MR l G 0 M_X8_takes [.ref 3, .int x1, .int x2] σ (some (.long v)) σ := by
  unfold f_X8_takes at h
  refine MR.of (by decide +kernel) (Nat.le_of_ble_eq_true rfl) ?_
  show AW l G 0 M_X8_takes (some (.long v)) σ 0 [(0, .ref 3), (1, .int x1), (2, .int x2)] [] σ
  refine AW.iload_n dX8_takes_0 (.refl 1) 1 rfl ?_
  refine AW.if_lt (tgt := 23) dX8_takes_1 (by decide) (fun c4 => ?_) (fun c4 => ?_)
  · have h := ifp c4 h
    exact (a_X8_takes_p23) x1 x2 h
  · have h := ifn c4 h
    refine AW.iload_n dX8_takes_4 (.refl 5) 1 rfl ?_
    refine AW.iconst (v := (5 : Int32)) dX8_takes_5 (.refl 6) (by decide) ?_
    refine AW.icmp_ge (tgt := 23) dX8_takes_6 (by decide) (fun c3 => ?_) (fun c3 => ?_)
    · have h := ifp c3 h
      exact (a_X8_takes_p23) x1 x2 h
    · have h := ifn c3 h
      refine AW.iload_n dX8_takes_9 (.refl 10) 2 rfl ?_
      refine AW.if_lt (tgt := 23) dX8_takes_10 (by decide) (fun c2 => ?_) (fun c2 => ?_)
      · have h := ifp c2 h
        exact (a_X8_takes_p23) x1 x2 h
      · have h := ifn c2 h
        refine AW.iload_n dX8_takes_13 (.refl 14) 2 rfl ?_
        refine AW.bipush (v := (10 : Int32)) dX8_takes_14 (.refl 16) (by decide) ?_
        refine AW.icmp_ge (tgt := 23) dX8_takes_16 (by decide) (fun c1 => ?_) (fun c1 => ?_)
        · have h := ifp c1 h
          exact (a_X8_takes_p23) x1 x2 h
        · have h := ifn c1 h
          refine AW.iconst (v := (1 : Int32)) dX8_takes_19 (.refl 20) (by decide) ?_
          refine AW.goto (tgt := 24) dX8_takes_20 (by decide) ?_
          exact (a_X8_takes_p24) x1 x2 (1 : Int32) h
def f_X8_wants (σ : Mm) (x1 : Int32) : Option (Int32) := (if x1 < 0 then some (0 : Int32) else (if (5 : Int32) ≤ x1 then some (0 : Int32) else gd (inB x1 5) (some (σ.1 13 (x1).toNatClampNeg))))
set_option maxRecDepth 20000 in
theorem c_X8_wants {l : Launch} {G : Gg} {x1 : Int32} {σ : Mm} {v : Int32} (h : f_X8_wants σ x1 = some v) : MR l G 0 M_X8_wants [.ref 3, .int x1] σ (some (.int v)) σ := by
  unfold f_X8_wants at h
  refine MR.of (by decide +kernel) (Nat.le_of_ble_eq_true rfl) ?_
  show AW l G 0 M_X8_wants (some (.int v)) σ 0 [(0, .ref 3), (1, .int x1)] [] σ
  refine AW.iload_n dX8_wants_0 (.refl 1) 1 rfl ?_
  refine AW.if_lt (tgt := 18) dX8_wants_1 (by decide) (fun c3 => ?_) (fun c3 => ?_)
  · have h := ifp c3 h
    refine AW.iconst (v := (0 : Int32)) dX8_wants_18 (.refl 19) (by decide) ?_
    cases h
    exact AW.ireturn rfl dX8_wants_19
  · have h := ifn c3 h
    refine AW.iload_n dX8_wants_4 (.refl 5) 1 rfl ?_
    refine AW.iconst (v := (5 : Int32)) dX8_wants_5 (.refl 6) (by decide) ?_
    refine AW.icmp_ge (tgt := 18) dX8_wants_6 (by decide) (fun c2 => ?_) (fun c2 => ?_)
    · have h := ifp c2 h
      refine AW.iconst (v := (0 : Int32)) dX8_wants_18 (.refl 19) (by decide) ?_
      cases h
      exact AW.ireturn rfl dX8_wants_19
    · have h := ifn c2 h
      refine AW.aload_n dX8_wants_9 (.refl 10) 0 rfl ?_
      refine AW.getR (z := 13) lk_X8_46 rfl rfl (by decide) rfl dX8_wants_10 (.refl 13) ?_
      refine AW.iload_n dX8_wants_13 (.refl 14) 1 rfl ?_
      obtain ⟨g1, h⟩ := gd_s h
      refine AW.iaload rfl g1 dX8_wants_14 (.refl 15) ?_
      refine AW.goto (tgt := 19) dX8_wants_15 (by decide) ?_
      cases h
      exact AW.ireturn rfl dX8_wants_19
def f_X8_clash (σ : Mm) (x1 : Int32) (x2 : Int32) (x3 : Int32) (x4 : Int32) : Option (Int32) := b1 (f_X8_takes σ x1 x2) (fun (r2 : Int64) => b1 (f_X8_takes σ x3 x4) (fun (r4 : Int64) => (if (lg_cmp (r2 &&& r4) (0 : Int64)) = 0 then b1 (f_X8_ringing σ x1 x2) (fun (r6 : Int32) => b1 (f_X8_wants σ x3) (fun (r8 : Int32) => (if (r6 &&& r8) = 0 then b1 (f_X8_ringing σ x3 x4) (fun (r10 : Int32) => b1 (f_X8_wants σ x1) (fun (r12 : Int32) => (if (r10 &&& r12) = 0 then some (0 : Int32) else some (1 : Int32)))) else some (1 : Int32)))) else some (1 : Int32))))
set_option maxRecDepth 20000 in
theorem c_X8_clash {l : Launch} {G : Gg} {x1 : Int32} {x2 : Int32} {x3 : Int32} {x4 : Int32} {σ : Mm} {v : Int32} (h : f_X8_clash σ x1 x2 x3 x4 = some v) : MR l G 1 M_X8_clash [.ref 3, .int x1, .int x2, .int x3, .int x4] σ (some (.int v)) σ := by
  unfold f_X8_clash at h
  refine MR.of (by decide +kernel) (Nat.le_of_ble_eq_true rfl) ?_
  show AW l G 1 M_X8_clash (some (.int v)) σ 0 [(0, .ref 3), (1, .int x1), (2, .int x2), (3, .int x3), (4, .int x4)] [] σ
  refine AW.aload_n dX8_clash_0 (.refl 1) 0 rfl ?_
  refine AW.iload_n dX8_clash_1 (.refl 2) 1 rfl ?_
  refine AW.iload_n dX8_clash_2 (.refl 3) 2 rfl ?_
  obtain ⟨r2, e1, h⟩ := b1_s h
  refine AW.callV (r' := (some (.long r2))) (σ' := σ) (rest := []) lm_X8_112 (c_X8_takes e1) (by decide) (by decide) rfl rfl (by decide) rfl rfl (Nat.le_of_ble_eq_true rfl) dX8_clash_3 (.refl 6) (st' := [.long r2]) rfl ?_
  refine AW.aload_n dX8_clash_6 (.refl 7) 0 rfl ?_
  refine AW.iload_n dX8_clash_7 (.refl 8) 3 rfl ?_
  refine AW.iload dX8_clash_8 (.refl 10) 4 rfl ?_
  obtain ⟨r4, e3, h⟩ := b1_s h
  refine AW.callV (r' := (some (.long r4))) (σ' := σ) (rest := [.long r2]) lm_X8_112 (c_X8_takes e3) (by decide) (by decide) rfl rfl (by decide) rfl rfl (Nat.le_of_ble_eq_true rfl) dX8_clash_10 (.refl 13) (st' := [.long r4, .long r2]) rfl ?_
  refine AW.land dX8_clash_13 (.refl 14) ?_
  refine AW.lconst (v := (0 : Int64)) dX8_clash_14 (.refl 15) (by decide) ?_
  refine AW.lcmp dX8_clash_15 (.refl 16) ?_
  refine AW.if_ne (tgt := 50) dX8_clash_16 (by decide) (fun c15 => ?_) (fun c15 => ?_)
  · have h := ifn c15 h
    refine AW.iconst (v := (1 : Int32)) dX8_clash_50 (.refl 51) (by decide) ?_
    refine AW.goto (tgt := 55) dX8_clash_51 (by decide) ?_
    cases h
    exact AW.zreturn rfl (by decide) dX8_clash_55
  · have h := ifp c15 h
    refine AW.aload_n dX8_clash_19 (.refl 20) 0 rfl ?_
    refine AW.iload_n dX8_clash_20 (.refl 21) 1 rfl ?_
    refine AW.iload_n dX8_clash_21 (.refl 22) 2 rfl ?_
    obtain ⟨r6, e5, h⟩ := b1_s h
    refine AW.callV (r' := (some (.int r6))) (σ' := σ) (rest := []) lm_X8_71 (c_X8_ringing e5) (by decide) (by decide) rfl rfl (by decide) rfl rfl (Nat.le_of_ble_eq_true rfl) dX8_clash_22 (.refl 25) (st' := [.int r6]) rfl ?_
    refine AW.aload_n dX8_clash_25 (.refl 26) 0 rfl ?_
    refine AW.iload_n dX8_clash_26 (.refl 27) 3 rfl ?_
    obtain ⟨r8, e7, h⟩ := b1_s h
    refine AW.callV (r' := (some (.int r8))) (σ' := σ) (rest := [.int r6]) lm_X8_64 (c_X8_wants e7) (by decide) (by decide) rfl rfl (by decide) rfl rfl (Nat.le_of_ble_eq_true rfl) dX8_clash_27 (.refl 30) (st' := [.int r8, .int r6]) rfl ?_
    refine AW.iand dX8_clash_30 (.refl 31) ?_
    refine AW.if_ne (tgt := 50) dX8_clash_31 (by decide) (fun c14 => ?_) (fun c14 => ?_)
    · have h := ifn c14 h
      refine AW.iconst (v := (1 : Int32)) dX8_clash_50 (.refl 51) (by decide) ?_
      refine AW.goto (tgt := 55) dX8_clash_51 (by decide) ?_
      cases h
      exact AW.zreturn rfl (by decide) dX8_clash_55
    · have h := ifp c14 h
      refine AW.aload_n dX8_clash_34 (.refl 35) 0 rfl ?_
      refine AW.iload_n dX8_clash_35 (.refl 36) 3 rfl ?_
      refine AW.iload dX8_clash_36 (.refl 38) 4 rfl ?_
      obtain ⟨r10, e9, h⟩ := b1_s h
      refine AW.callV (r' := (some (.int r10))) (σ' := σ) (rest := []) lm_X8_71 (c_X8_ringing e9) (by decide) (by decide) rfl rfl (by decide) rfl rfl (Nat.le_of_ble_eq_true rfl) dX8_clash_38 (.refl 41) (st' := [.int r10]) rfl ?_
      refine AW.aload_n dX8_clash_41 (.refl 42) 0 rfl ?_
      refine AW.iload_n dX8_clash_42 (.refl 43) 1 rfl ?_
      obtain ⟨r12, e11, h⟩ := b1_s h
      refine AW.callV (r' := (some (.int r12))) (σ' := σ) (rest := [.int r10]) lm_X8_64 (c_X8_wants e11) (by decide) (by decide) rfl rfl (by decide) rfl rfl (Nat.le_of_ble_eq_true rfl) dX8_clash_43 (.refl 46) (st' := [.int r12, .int r10]) rfl ?_
      refine AW.iand dX8_clash_46 (.refl 47) ?_
      refine AW.if_eq (tgt := 54) dX8_clash_47 (by decide) (fun c13 => ?_) (fun c13 => ?_)
      · have h := ifp c13 h
        refine AW.iconst (v := (0 : Int32)) dX8_clash_54 (.refl 55) (by decide) ?_
        cases h
        exact AW.zreturn rfl (by decide) dX8_clash_55
      · have h := ifn c13 h
        refine AW.iconst (v := (1 : Int32)) dX8_clash_50 (.refl 51) (by decide) ?_
        refine AW.goto (tgt := 55) dX8_clash_51 (by decide) ?_
        cases h
        exact AW.zreturn rfl (by decide) dX8_clash_55
def f_X1_clashing_p5 (σ : Mm) (k0 : Nat) : Nat → Int32 → Int32 → Int32 → Int32 → Option (Int32)
  | 0, _, _, _, _ => none
  | n + 1, x1, x2, x3, x4 => (if (5 : Int32) ≤ x4 then some x3 else (if x4 = x1 then (f_X1_clashing_p5 σ k0 n) x1 x2 x3 (x4 + (1 : Int32)) else gd (inB x4 5) ((if (σ.1 (cRef k0 1) (x4).toNatClampNeg) = 0 then (f_X1_clashing_p5 σ k0 n) x1 x2 x3 (x4 + (1 : Int32)) else gd (inB x4 5) (b1 (f_X8_clash σ x1 x2 x4 ((σ.1 (cRef k0 1) (x4).toNatClampNeg) - (1 : Int32))) (fun (r4 : Int32) => (if r4 = 0 then (f_X1_clashing_p5 σ k0 n) x1 x2 x3 (x4 + (1 : Int32)) else (f_X1_clashing_p5 σ k0 n) x1 x2 (x3 ||| (jshl (1 : Int32) x4)) (x4 + (1 : Int32)))))))))
def f_X1_clashing (σ : Mm) (k0 : Nat) (x1 : Int32) (x2 : Int32) : Option (Int32) := f_X1_clashing_p5 σ k0 FU x1 x2 (0 : Int32) (0 : Int32)
set_option maxRecDepth 20000 in
theorem a_X1_clashing_p5 {l : Launch} {G : Gg} {v : Int32} {σ : Mm} {k0 : Nat} (hk0 : cTag k0 = 1) : ∀ (n : Nat) (x1 : Int32) (x2 : Int32) (x3 : Int32) (x4 : Int32), f_X1_clashing_p5 σ k0 n x1 x2 x3 x4 = some v → AW l G 2 M_X1_clashing (some (.int v)) σ 5 [(0, .ref k0), (1, .int x1), (2, .int x2), (3, .int x3), (4, .int x4)] [] σ := by
  intro n
  induction n with
  | zero => intro x1 x2 x3 x4 h; exact no_some h
  | succ n ih =>
    intro x1 x2 x3 x4 h
    rw [f_X1_clashing_p5] at h
    refine AW.iload dX1_clashing_5 (.refl 7) 4 rfl ?_
    refine AW.iconst (v := (5 : Int32)) dX1_clashing_7 (.refl 8) (by decide) ?_
    refine AW.icmp_ge (tgt := 63) dX1_clashing_8 (by decide) (fun c8 => ?_) (fun c8 => ?_)
    · have h := ifp c8 h
      refine AW.iload_n dX1_clashing_63 (.refl 64) 3 rfl ?_
      cases h
      exact AW.ireturn rfl dX1_clashing_64
    · have h := ifn c8 h
      refine AW.iload dX1_clashing_11 (.refl 13) 4 rfl ?_
      refine AW.iload_n dX1_clashing_13 (.refl 14) 1 rfl ?_
      refine AW.icmp_eq (tgt := 57) dX1_clashing_14 (by decide) (fun c7 => ?_) (fun c7 => ?_)
      · have h := ifp c7 h
        refine AW.iinc (v := (x4 + (1 : Int32))) (L' := [(4, .int (x4 + (1 : Int32))), (0, .ref k0), (1, .int x1), (2, .int x2), (3, .int x3)]) dX1_clashing_57 (.refl 60) 4 rfl rfl (by decide) rfl ?_
        refine AW.goto (tgt := 5) dX1_clashing_60 (by decide) ?_
        refine AW.sub (L' := [(0, .ref k0), (1, .int x1), (2, .int x2), (3, .int x3), (4, .int (x4 + (1 : Int32)))]) [1, 2, 3, 4, 0] rfl ?_
        exact ih x1 x2 x3 (x4 + (1 : Int32)) h
      · have h := ifn c7 h
        refine AW.aload_n dX1_clashing_17 (.refl 18) 0 rfl ?_
        refine AW.getR (z := (cRef k0 1)) lk_X1_9 hk0 rfl (by decide) rfl dX1_clashing_18 (.refl 21) ?_
        refine AW.iload dX1_clashing_21 (.refl 23) 4 rfl ?_
        obtain ⟨g1, h⟩ := gd_s h
        refine AW.iaload (tg_1_1 hk0) (by rw [ln_1_1 hk0]; exact g1) dX1_clashing_23 (.refl 24) ?_
        refine AW.if_eq (tgt := 57) dX1_clashing_24 (by decide) (fun c6 => ?_) (fun c6 => ?_)
        · have h := ifp c6 h
          refine AW.iinc (v := (x4 + (1 : Int32))) (L' := [(4, .int (x4 + (1 : Int32))), (0, .ref k0), (1, .int x1), (2, .int x2), (3, .int x3)]) dX1_clashing_57 (.refl 60) 4 rfl rfl (by decide) rfl ?_
          refine AW.goto (tgt := 5) dX1_clashing_60 (by decide) ?_
          refine AW.sub (L' := [(0, .ref k0), (1, .int x1), (2, .int x2), (3, .int x3), (4, .int (x4 + (1 : Int32)))]) [1, 2, 3, 4, 0] rfl ?_
          exact ih x1 x2 x3 (x4 + (1 : Int32)) h
        · have h := ifn c6 h
          refine AW.aload_n dX1_clashing_27 (.refl 28) 0 rfl ?_
          refine AW.getR (z := 3) lk_X1_15 hk0 rfl (by decide) (rf_1_0 hk0) dX1_clashing_28 (.refl 31) ?_
          refine AW.iload_n dX1_clashing_31 (.refl 32) 1 rfl ?_
          refine AW.iload_n dX1_clashing_32 (.refl 33) 2 rfl ?_
          refine AW.iload dX1_clashing_33 (.refl 35) 4 rfl ?_
          refine AW.aload_n dX1_clashing_35 (.refl 36) 0 rfl ?_
          refine AW.getR (z := (cRef k0 1)) lk_X1_9 hk0 rfl (by decide) rfl dX1_clashing_36 (.refl 39) ?_
          refine AW.iload dX1_clashing_39 (.refl 41) 4 rfl ?_
          obtain ⟨g2, h⟩ := gd_s h
          refine AW.iaload (tg_1_1 hk0) (by rw [ln_1_1 hk0]; exact g2) dX1_clashing_41 (.refl 42) ?_
          refine AW.iconst (v := (1 : Int32)) dX1_clashing_42 (.refl 43) (by decide) ?_
          refine AW.isub dX1_clashing_43 (.refl 44) ?_
          obtain ⟨r4, e3, h⟩ := b1_s h
          refine AW.callV (r' := (some (.int r4))) (σ' := σ) (rest := []) lm_X1_46 (c_X8_clash e3) (by decide) (by decide) rfl rfl (by decide) rfl rfl (Nat.le_of_ble_eq_true rfl) dX1_clashing_44 (.refl 47) (st' := [.int r4]) rfl ?_
          refine AW.if_eq (tgt := 57) dX1_clashing_47 (by decide) (fun c5 => ?_) (fun c5 => ?_)
          · have h := ifp c5 h
            refine AW.iinc (v := (x4 + (1 : Int32))) (L' := [(4, .int (x4 + (1 : Int32))), (0, .ref k0), (1, .int x1), (2, .int x2), (3, .int x3)]) dX1_clashing_57 (.refl 60) 4 rfl rfl (by decide) rfl ?_
            refine AW.goto (tgt := 5) dX1_clashing_60 (by decide) ?_
            refine AW.sub (L' := [(0, .ref k0), (1, .int x1), (2, .int x2), (3, .int x3), (4, .int (x4 + (1 : Int32)))]) [1, 2, 3, 4, 0] rfl ?_
            exact ih x1 x2 x3 (x4 + (1 : Int32)) h
          · have h := ifn c5 h
            refine AW.iload_n dX1_clashing_50 (.refl 51) 3 rfl ?_
            refine AW.iconst (v := (1 : Int32)) dX1_clashing_51 (.refl 52) (by decide) ?_
            refine AW.iload dX1_clashing_52 (.refl 54) 4 rfl ?_
            refine AW.ishl dX1_clashing_54 (.refl 55) ?_
            refine AW.ior dX1_clashing_55 (.refl 56) ?_
            refine AW.istore_n (L' := [(3, .int (x3 ||| (jshl (1 : Int32) x4))), (0, .ref k0), (1, .int x1), (2, .int x2), (4, .int x4)]) dX1_clashing_56 (.refl 57) (by decide) rfl ?_
            refine AW.iinc (v := (x4 + (1 : Int32))) (L' := [(4, .int (x4 + (1 : Int32))), (3, .int (x3 ||| (jshl (1 : Int32) x4))), (0, .ref k0), (1, .int x1), (2, .int x2)]) dX1_clashing_57 (.refl 60) 4 rfl rfl (by decide) rfl ?_
            refine AW.goto (tgt := 5) dX1_clashing_60 (by decide) ?_
            refine AW.sub (L' := [(0, .ref k0), (1, .int x1), (2, .int x2), (3, .int (x3 ||| (jshl (1 : Int32) x4))), (4, .int (x4 + (1 : Int32)))]) [2, 3, 4, 1, 0] rfl ?_
            exact ih x1 x2 (x3 ||| (jshl (1 : Int32) x4)) (x4 + (1 : Int32)) h
set_option maxRecDepth 20000 in
theorem c_X1_clashing {l : Launch} {G : Gg} {k0 : Nat} (hk0 : cTag k0 = 1) {x1 : Int32} {x2 : Int32} {σ : Mm} {v : Int32} (h : f_X1_clashing σ k0 x1 x2 = some v) : MR l G 2 M_X1_clashing [.ref k0, .int x1, .int x2] σ (some (.int v)) σ := by
  unfold f_X1_clashing at h
  refine MR.of (by decide +kernel) (Nat.le_of_ble_eq_true rfl) ?_
  show AW l G 2 M_X1_clashing (some (.int v)) σ 0 [(0, .ref k0), (1, .int x1), (2, .int x2)] [] σ
  refine AW.iconst (v := (0 : Int32)) dX1_clashing_0 (.refl 1) (by decide) ?_
  refine AW.istore_n (L' := [(3, .int (0 : Int32)), (0, .ref k0), (1, .int x1), (2, .int x2)]) dX1_clashing_1 (.refl 2) (by decide) rfl ?_
  refine AW.iconst (v := (0 : Int32)) dX1_clashing_2 (.refl 3) (by decide) ?_
  refine AW.istore (L' := [(4, .int (0 : Int32)), (3, .int (0 : Int32)), (0, .ref k0), (1, .int x1), (2, .int x2)]) dX1_clashing_3 (.refl 5) (by decide) rfl ?_
  refine AW.sub (L' := [(0, .ref k0), (1, .int x1), (2, .int x2), (3, .int (0 : Int32)), (4, .int (0 : Int32))]) [2, 3, 4, 1, 0] rfl ?_
  exact a_X1_clashing_p5 hk0 FU x1 x2 (0 : Int32) (0 : Int32) h
def f_X8_mayBegin (σ : Mm) (x1 : Int32) (x2 : Int32) : Option (Int32) := (if x1 < 0 then some (0 : Int32) else (if (5 : Int32) ≤ x1 then some (0 : Int32) else (if x2 < 0 then some (0 : Int32) else (if (10 : Int32) ≤ x2 then some (0 : Int32) else gd (inB x1 5) ((if ((jushr (σ.1 12 (x1).toNatClampNeg) x2) &&& (1 : Int32)) = (1 : Int32) then some (1 : Int32) else some (0 : Int32)))))))
set_option maxRecDepth 20000 in
theorem c_X8_mayBegin {l : Launch} {G : Gg} {x1 : Int32} {x2 : Int32} {σ : Mm} {v : Int32} (h : f_X8_mayBegin σ x1 x2 = some v) : MR l G 0 M_X8_mayBegin [.ref 3, .int x1, .int x2] σ (some (.int v)) σ := by
  unfold f_X8_mayBegin at h
  refine MR.of (by decide +kernel) (Nat.le_of_ble_eq_true rfl) ?_
  show AW l G 0 M_X8_mayBegin (some (.int v)) σ 0 [(0, .ref 3), (1, .int x1), (2, .int x2)] [] σ
  refine AW.iload_n dX8_mayBegin_0 (.refl 1) 1 rfl ?_
  refine AW.if_lt (tgt := 37) dX8_mayBegin_1 (by decide) (fun c6 => ?_) (fun c6 => ?_)
  · have h := ifp c6 h
    refine AW.iconst (v := (0 : Int32)) dX8_mayBegin_37 (.refl 38) (by decide) ?_
    cases h
    exact AW.zreturn rfl (by decide) dX8_mayBegin_38
  · have h := ifn c6 h
    refine AW.iload_n dX8_mayBegin_4 (.refl 5) 1 rfl ?_
    refine AW.iconst (v := (5 : Int32)) dX8_mayBegin_5 (.refl 6) (by decide) ?_
    refine AW.icmp_ge (tgt := 37) dX8_mayBegin_6 (by decide) (fun c5 => ?_) (fun c5 => ?_)
    · have h := ifp c5 h
      refine AW.iconst (v := (0 : Int32)) dX8_mayBegin_37 (.refl 38) (by decide) ?_
      cases h
      exact AW.zreturn rfl (by decide) dX8_mayBegin_38
    · have h := ifn c5 h
      refine AW.iload_n dX8_mayBegin_9 (.refl 10) 2 rfl ?_
      refine AW.if_lt (tgt := 37) dX8_mayBegin_10 (by decide) (fun c4 => ?_) (fun c4 => ?_)
      · have h := ifp c4 h
        refine AW.iconst (v := (0 : Int32)) dX8_mayBegin_37 (.refl 38) (by decide) ?_
        cases h
        exact AW.zreturn rfl (by decide) dX8_mayBegin_38
      · have h := ifn c4 h
        refine AW.iload_n dX8_mayBegin_13 (.refl 14) 2 rfl ?_
        refine AW.bipush (v := (10 : Int32)) dX8_mayBegin_14 (.refl 16) (by decide) ?_
        refine AW.icmp_ge (tgt := 37) dX8_mayBegin_16 (by decide) (fun c3 => ?_) (fun c3 => ?_)
        · have h := ifp c3 h
          refine AW.iconst (v := (0 : Int32)) dX8_mayBegin_37 (.refl 38) (by decide) ?_
          cases h
          exact AW.zreturn rfl (by decide) dX8_mayBegin_38
        · have h := ifn c3 h
          refine AW.aload_n dX8_mayBegin_19 (.refl 20) 0 rfl ?_
          refine AW.getR (z := 12) lk_X8_43 rfl rfl (by decide) rfl dX8_mayBegin_20 (.refl 23) ?_
          refine AW.iload_n dX8_mayBegin_23 (.refl 24) 1 rfl ?_
          obtain ⟨g1, h⟩ := gd_s h
          refine AW.iaload rfl g1 dX8_mayBegin_24 (.refl 25) ?_
          refine AW.iload_n dX8_mayBegin_25 (.refl 26) 2 rfl ?_
          refine AW.iushr dX8_mayBegin_26 (.refl 27) ?_
          refine AW.iconst (v := (1 : Int32)) dX8_mayBegin_27 (.refl 28) (by decide) ?_
          refine AW.iand dX8_mayBegin_28 (.refl 29) ?_
          refine AW.iconst (v := (1 : Int32)) dX8_mayBegin_29 (.refl 30) (by decide) ?_
          refine AW.icmp_ne (tgt := 37) dX8_mayBegin_30 (by decide) (fun c2 => ?_) (fun c2 => ?_)
          · have h := ifn c2 h
            refine AW.iconst (v := (0 : Int32)) dX8_mayBegin_37 (.refl 38) (by decide) ?_
            cases h
            exact AW.zreturn rfl (by decide) dX8_mayBegin_38
          · have h := ifp c2 h
            refine AW.iconst (v := (1 : Int32)) dX8_mayBegin_33 (.refl 34) (by decide) ?_
            refine AW.goto (tgt := 38) dX8_mayBegin_34 (by decide) ?_
            cases h
            exact AW.zreturn rfl (by decide) dX8_mayBegin_38
def f_X9_clashes (σ : Mm) (x1 : Int32) (x2 : Int32) : Option (Int32) := b1 (f_X8_hasBidder σ x1) (fun (r2 : Int32) => (if r2 = 0 then some (-1 : Int32) else b1 (f_X9_isSecond σ x2) (fun (r4 : Int32) => (if r4 = 0 then some (-2 : Int32) else b1 (f_X8_mayBegin σ x1 x2) (fun (r6 : Int32) => (if r6 = 0 then some (-3 : Int32) else b1 (f_X1_clashing σ 16 x1 x2) (fun (r8 : Int32) => some r8)))))))
set_option maxRecDepth 20000 in
theorem c_X9_clashes {l : Launch} {G : Gg} {x1 : Int32} {x2 : Int32} {σ : Mm} {v : Int32} (h : f_X9_clashes σ x1 x2 = some v) : MR l G 3 M_X9_clashes [.ref 0, .int x1, .int x2] σ (some (.int v)) σ := by
  unfold f_X9_clashes at h
  refine MR.of (by decide +kernel) (Nat.le_of_ble_eq_true rfl) ?_
  show AW l G 3 M_X9_clashes (some (.int v)) σ 0 [(0, .ref 0), (1, .int x1), (2, .int x2)] [] σ
  refine AW.aload_n dX9_clashes_0 (.refl 1) 0 rfl ?_
  refine AW.getR (z := 3) lk_X9_19 rfl rfl (by decide) rfl dX9_clashes_1 (.refl 4) ?_
  refine AW.iload_n dX9_clashes_4 (.refl 5) 1 rfl ?_
  obtain ⟨r2, e1, h⟩ := b1_s h
  refine AW.callV (r' := (some (.int r2))) (σ' := σ) (rest := []) lm_X9_137 (c_X8_hasBidder e1) (by decide) (by decide) rfl rfl (by decide) rfl rfl (Nat.le_of_ble_eq_true rfl) dX9_clashes_5 (.refl 8) (st' := [.int r2]) rfl ?_
  refine AW.if_ne (tgt := 13) dX9_clashes_8 (by decide) (fun c11 => ?_) (fun c11 => ?_)
  · have h := ifn c11 h
    refine AW.iload_n dX9_clashes_13 (.refl 14) 2 rfl ?_
    obtain ⟨r4, e3, h⟩ := b1_s h
    refine AW.callS (r' := (some (.int r4))) (σ' := σ) (rest := []) lm_X9_164 (c_X9_isSecond e3) (by decide) (by decide) rfl rfl (Nat.le_of_ble_eq_true rfl) dX9_clashes_14 (.refl 17) (st' := [.int r4]) rfl ?_
    refine AW.if_ne (tgt := 23) dX9_clashes_17 (by decide) (fun c10 => ?_) (fun c10 => ?_)
    · have h := ifn c10 h
      refine AW.aload_n dX9_clashes_23 (.refl 24) 0 rfl ?_
      refine AW.getR (z := 3) lk_X9_19 rfl rfl (by decide) rfl dX9_clashes_24 (.refl 27) ?_
      refine AW.iload_n dX9_clashes_27 (.refl 28) 1 rfl ?_
      refine AW.iload_n dX9_clashes_28 (.refl 29) 2 rfl ?_
      obtain ⟨r6, e5, h⟩ := b1_s h
      refine AW.callV (r' := (some (.int r6))) (σ' := σ) (rest := []) lm_X9_170 (c_X8_mayBegin e5) (by decide) (by decide) rfl rfl (by decide) rfl rfl (Nat.le_of_ble_eq_true rfl) dX9_clashes_29 (.refl 32) (st' := [.int r6]) rfl ?_
      refine AW.if_ne (tgt := 38) dX9_clashes_32 (by decide) (fun c9 => ?_) (fun c9 => ?_)
      · have h := ifn c9 h
        refine AW.aload_n dX9_clashes_38 (.refl 39) 0 rfl ?_
        refine AW.getR (z := 16) lk_X9_28 rfl rfl (by decide) rfl dX9_clashes_39 (.refl 42) ?_
        refine AW.iload_n dX9_clashes_42 (.refl 43) 1 rfl ?_
        refine AW.iload_n dX9_clashes_43 (.refl 44) 2 rfl ?_
        obtain ⟨r8, e7, h⟩ := b1_s h
        refine AW.callV (r' := (some (.int r8))) (σ' := σ) (rest := []) lm_X9_174 (c_X1_clashing rfl e7) (by decide) (by decide) rfl rfl (by decide) rfl rfl (Nat.le_of_ble_eq_true rfl) dX9_clashes_44 (.refl 47) (st' := [.int r8]) rfl ?_
        cases h
        exact AW.ireturn rfl dX9_clashes_47
      · have h := ifp c9 h
        refine AW.bipush (v := (-3 : Int32)) dX9_clashes_35 (.refl 37) (by decide) ?_
        cases h
        exact AW.ireturn rfl dX9_clashes_37
    · have h := ifp c10 h
      refine AW.bipush (v := (-2 : Int32)) dX9_clashes_20 (.refl 22) (by decide) ?_
      cases h
      exact AW.ireturn rfl dX9_clashes_22
  · have h := ifp c11 h
    refine AW.iconst (v := (-1 : Int32)) dX9_clashes_11 (.refl 12) (by decide) ?_
    cases h
    exact AW.ireturn rfl dX9_clashes_12
def f_X0_forgetFirst_p2 : Nat → Int32 → Mm → Option (Mm)
  | 0, _, _ => none
  | n + 1, x1, σ => (if (16 : Int32) ≤ x1 then some (sI σ 26 2 (15 : Int32)) else gd (inB x1 16) (gd (inB (x1 - (1 : Int32)) 16) (bnd ((sI σ 27 ((x1 - (1 : Int32))).toNatClampNeg (σ.1 27 (x1).toNatClampNeg))) (fun (σ3 : Mm) => gd (inB x1 16) (gd (inB (x1 - (1 : Int32)) 16) (bnd ((sI σ3 28 ((x1 - (1 : Int32))).toNatClampNeg (σ3.1 28 (x1).toNatClampNeg))) (fun (σ7 : Mm) => (f_X0_forgetFirst_p2 n) (x1 + (1 : Int32)) σ7)))))))
def f_X0_forgetFirst  (σ : Mm) : Option (Mm) := f_X0_forgetFirst_p2 FU (1 : Int32) σ
set_option maxRecDepth 20000 in
theorem a_X0_forgetFirst_p2 {l : Launch} {G : Gg} {τ : Mm} : ∀ (n : Nat) (x1 : Int32) (σ : Mm), f_X0_forgetFirst_p2 n x1 σ = some τ → AW l G 0 M_X0_forgetFirst none τ 2 [(0, .ref 26), (1, .int x1)] [] σ := by
  intro n
  induction n with
  | zero => intro x1 σ h; exact no_some h
  | succ n ih =>
    intro x1 σ h
    rw [f_X0_forgetFirst_p2] at h
    refine AW.iload_n dX0_forgetFirst_2 (.refl 3) 1 rfl ?_
    refine AW.bipush (v := (16 : Int32)) dX0_forgetFirst_3 (.refl 5) (by decide) ?_
    refine AW.icmp_ge (tgt := 42) dX0_forgetFirst_5 (by decide) (fun c9 => ?_) (fun c9 => ?_)
    · have h := ifp c9 h
      refine AW.aload_n dX0_forgetFirst_42 (.refl 43) 0 rfl ?_
      refine AW.bipush (v := (15 : Int32)) dX0_forgetFirst_43 (.refl 45) (by decide) ?_
      refine AW.putI lp_X0_18 rfl rfl (by decide) dX0_forgetFirst_45 (.refl 48) ?_
      cases h
      exact AW.vreturn rfl dX0_forgetFirst_48
    · have h := ifn c9 h
      refine AW.aload_n dX0_forgetFirst_8 (.refl 9) 0 rfl ?_
      refine AW.getR (z := 27) lk_X0_9 rfl rfl (by decide) rfl dX0_forgetFirst_9 (.refl 12) ?_
      refine AW.iload_n dX0_forgetFirst_12 (.refl 13) 1 rfl ?_
      refine AW.iconst (v := (1 : Int32)) dX0_forgetFirst_13 (.refl 14) (by decide) ?_
      refine AW.isub dX0_forgetFirst_14 (.refl 15) ?_
      refine AW.aload_n dX0_forgetFirst_15 (.refl 16) 0 rfl ?_
      refine AW.getR (z := 27) lk_X0_9 rfl rfl (by decide) rfl dX0_forgetFirst_16 (.refl 19) ?_
      refine AW.iload_n dX0_forgetFirst_19 (.refl 20) 1 rfl ?_
      obtain ⟨g1, h⟩ := gd_s h
      refine AW.iaload rfl g1 dX0_forgetFirst_20 (.refl 21) ?_
      obtain ⟨g2, h⟩ := gd_s h
      refine AW.iastore rfl g2 dX0_forgetFirst_21 (.refl 22) ?_
      obtain ⟨σ3, e4, h⟩ := bnd_s h
      refine AW.nmM e4 ?_
      refine AW.aload_n dX0_forgetFirst_22 (.refl 23) 0 rfl ?_
      refine AW.getR (z := 28) lk_X0_15 rfl rfl (by decide) rfl dX0_forgetFirst_23 (.refl 26) ?_
      refine AW.iload_n dX0_forgetFirst_26 (.refl 27) 1 rfl ?_
      refine AW.iconst (v := (1 : Int32)) dX0_forgetFirst_27 (.refl 28) (by decide) ?_
      refine AW.isub dX0_forgetFirst_28 (.refl 29) ?_
      refine AW.aload_n dX0_forgetFirst_29 (.refl 30) 0 rfl ?_
      refine AW.getR (z := 28) lk_X0_15 rfl rfl (by decide) rfl dX0_forgetFirst_30 (.refl 33) ?_
      refine AW.iload_n dX0_forgetFirst_33 (.refl 34) 1 rfl ?_
      obtain ⟨g5, h⟩ := gd_s h
      refine AW.iaload rfl g5 dX0_forgetFirst_34 (.refl 35) ?_
      obtain ⟨g6, h⟩ := gd_s h
      refine AW.iastore rfl g6 dX0_forgetFirst_35 (.refl 36) ?_
      obtain ⟨σ7, e8, h⟩ := bnd_s h
      refine AW.nmM e8 ?_
      refine AW.iinc (v := (x1 + (1 : Int32))) (L' := [(1, .int (x1 + (1 : Int32))), (0, .ref 26)]) dX0_forgetFirst_36 (.refl 39) 1 rfl rfl (by decide) rfl ?_
      refine AW.goto (tgt := 2) dX0_forgetFirst_39 (by decide) ?_
      refine AW.sub (L' := [(0, .ref 26), (1, .int (x1 + (1 : Int32)))]) [1, 0] rfl ?_
      exact ih (x1 + (1 : Int32)) σ7 h
set_option maxRecDepth 20000 in
theorem c_X0_forgetFirst {l : Launch} {G : Gg}  {σ : Mm} {τ : Mm} (h : f_X0_forgetFirst  σ = some τ) : MR l G 0 M_X0_forgetFirst [.ref 26] σ none τ := by
  unfold f_X0_forgetFirst at h
  refine MR.of (by decide +kernel) (Nat.le_of_ble_eq_true rfl) ?_
  show AW l G 0 M_X0_forgetFirst none τ 0 [(0, .ref 26)] [] σ
  refine AW.iconst (v := (1 : Int32)) dX0_forgetFirst_0 (.refl 1) (by decide) ?_
  refine AW.istore_n (L' := [(1, .int (1 : Int32)), (0, .ref 26)]) dX0_forgetFirst_1 (.refl 2) (by decide) rfl ?_
  refine AW.sub (L' := [(0, .ref 26), (1, .int (1 : Int32))]) [1, 0] rfl ?_
  exact a_X0_forgetFirst_p2 FU (1 : Int32) σ h
def f_X0_append_p13 (x1 : Int32) (x2 : Int32) (σ : Mm) : Option (Mm) := (if (σ.1 26 2) < 0 then some σ else (if (16 : Int32) ≤ (σ.1 26 2) then some σ else gd (inB (σ.1 26 2) 16) (gd (inB ((sI σ 27 ((σ.1 26 2)).toNatClampNeg x1).1 26 2) 16) (bnd ((sI (sI σ 27 ((σ.1 26 2)).toNatClampNeg x1) 28 (((sI σ 27 ((σ.1 26 2)).toNatClampNeg x1).1 26 2)).toNatClampNeg x2)) (fun (σ3 : Mm) => some (sI σ3 26 2 ((σ3.1 26 2) + (1 : Int32))))))))
def f_X0_append (x1 : Int32) (x2 : Int32) (σ : Mm) : Option (Mm) := (if (σ.1 26 2) < (16 : Int32) then (f_X0_append_p13) x1 x2 σ else b1 (f_X0_forgetFirst σ) (fun (τ2 : Mm) => (f_X0_append_p13) x1 x2 τ2))
set_option maxRecDepth 20000 in
theorem a_X0_append_p13 {l : Launch} {G : Gg} {τ : Mm} (x1 : Int32) (x2 : Int32) (σ : Mm) (h : f_X0_append_p13 x1 x2 σ = some τ) : AW l G 1 M_X0_append none τ 13 [(0, .ref 26), (1, .int x1), (2, .int x2)] [] σ := by
  unfold f_X0_append_p13 at h
  refine AW.aload_n dX0_append_13 (.refl 14) 0 rfl ?_
  refine AW.getI lk_X0_18 rfl rfl (by decide) dX0_append_14 (.refl 17) ?_
  refine AW.if_lt (tgt := 59) dX0_append_17 (by decide) (fun c6 => ?_) (fun c6 => ?_)
  · have h := ifp c6 h
    cases h
    exact AW.vreturn rfl dX0_append_59
  · have h := ifn c6 h
    refine AW.aload_n dX0_append_20 (.refl 21) 0 rfl ?_
    refine AW.getI lk_X0_18 rfl rfl (by decide) dX0_append_21 (.refl 24) ?_
    refine AW.bipush (v := (16 : Int32)) dX0_append_24 (.refl 26) (by decide) ?_
    refine AW.icmp_ge (tgt := 59) dX0_append_26 (by decide) (fun c5 => ?_) (fun c5 => ?_)
    · have h := ifp c5 h
      cases h
      exact AW.vreturn rfl dX0_append_59
    · have h := ifn c5 h
      refine AW.aload_n dX0_append_29 (.refl 30) 0 rfl ?_
      refine AW.getR (z := 27) lk_X0_9 rfl rfl (by decide) rfl dX0_append_30 (.refl 33) ?_
      refine AW.aload_n dX0_append_33 (.refl 34) 0 rfl ?_
      refine AW.getI lk_X0_18 rfl rfl (by decide) dX0_append_34 (.refl 37) ?_
      refine AW.iload_n dX0_append_37 (.refl 38) 1 rfl ?_
      obtain ⟨g1, h⟩ := gd_s h
      refine AW.iastore rfl g1 dX0_append_38 (.refl 39) ?_
      refine AW.aload_n dX0_append_39 (.refl 40) 0 rfl ?_
      refine AW.getR (z := 28) lk_X0_15 rfl rfl (by decide) rfl dX0_append_40 (.refl 43) ?_
      refine AW.aload_n dX0_append_43 (.refl 44) 0 rfl ?_
      refine AW.getI lk_X0_18 rfl rfl (by decide) dX0_append_44 (.refl 47) ?_
      refine AW.iload_n dX0_append_47 (.refl 48) 2 rfl ?_
      obtain ⟨g2, h⟩ := gd_s h
      refine AW.iastore rfl g2 dX0_append_48 (.refl 49) ?_
      obtain ⟨σ3, e4, h⟩ := bnd_s h
      refine AW.nmM e4 ?_
      refine AW.aload_n dX0_append_49 (.refl 50) 0 rfl ?_
      refine AW.dup dX0_append_50 (.refl 51) rfl ?_
      refine AW.getI lk_X0_18 rfl rfl (by decide) dX0_append_51 (.refl 54) ?_
      refine AW.iconst (v := (1 : Int32)) dX0_append_54 (.refl 55) (by decide) ?_
      refine AW.iadd dX0_append_55 (.refl 56) ?_
      refine AW.putI lp_X0_18 rfl rfl (by decide) dX0_append_56 (.refl 59) ?_
      cases h
      exact AW.vreturn rfl dX0_append_59
set_option maxRecDepth 20000 in
theorem c_X0_append {l : Launch} {G : Gg} {x1 : Int32} {x2 : Int32} {σ : Mm} {τ : Mm} (h : f_X0_append x1 x2 σ = some τ) : MR l G 1 M_X0_append [.ref 26, .int x1, .int x2] σ none τ := by
  unfold f_X0_append at h
  refine MR.of (by decide +kernel) (Nat.le_of_ble_eq_true rfl) ?_
  show AW l G 1 M_X0_append none τ 0 [(0, .ref 26), (1, .int x1), (2, .int x2)] [] σ
  refine AW.aload_n dX0_append_0 (.refl 1) 0 rfl ?_
  refine AW.getI lk_X0_18 rfl rfl (by decide) dX0_append_1 (.refl 4) ?_
  refine AW.bipush (v := (16 : Int32)) dX0_append_4 (.refl 6) (by decide) ?_
  refine AW.icmp_lt (tgt := 13) dX0_append_6 (by decide) (fun c3 => ?_) (fun c3 => ?_)
  · have h := ifp c3 h
    exact (a_X0_append_p13) x1 x2 σ h
  · have h := ifn c3 h
    refine AW.aload_n dX0_append_9 (.refl 10) 0 rfl ?_
    obtain ⟨τ2, e1, h⟩ := b1_s h
    refine AW.callV (r' := none) (σ' := τ2) (rest := []) lm_X0_22 (c_X0_forgetFirst e1) (by decide) (by decide) rfl rfl (by decide) rfl rfl (Nat.le_of_ble_eq_true rfl) dX0_append_10 (.refl 13) (st' := []) rfl ?_
    exact (a_X0_append_p13) x1 x2 τ2 h
def f_X1_tell (k0 : Nat) (x1 : Int32) (x2 : Int32) (σ : Mm) : Option (Mm) := (if x1 < 0 then some σ else (if (5 : Int32) ≤ x1 then some σ else gd (inB x1 5) (some (sI σ (cRef k0 1) (x1).toNatClampNeg x2))))
set_option maxRecDepth 20000 in
theorem c_X1_tell {l : Launch} {G : Gg} {k0 : Nat} (hk0 : cTag k0 = 1) {x1 : Int32} {x2 : Int32} {σ : Mm} {τ : Mm} (h : f_X1_tell k0 x1 x2 σ = some τ) : MR l G 0 M_X1_tell [.ref k0, .int x1, .int x2] σ none τ := by
  unfold f_X1_tell at h
  refine MR.of (by decide +kernel) (Nat.le_of_ble_eq_true rfl) ?_
  show AW l G 0 M_X1_tell none τ 0 [(0, .ref k0), (1, .int x1), (2, .int x2)] [] σ
  refine AW.iload_n dX1_tell_0 (.refl 1) 1 rfl ?_
  refine AW.if_lt (tgt := 16) dX1_tell_1 (by decide) (fun c3 => ?_) (fun c3 => ?_)
  · have h := ifp c3 h
    cases h
    exact AW.vreturn rfl dX1_tell_16
  · have h := ifn c3 h
    refine AW.iload_n dX1_tell_4 (.refl 5) 1 rfl ?_
    refine AW.iconst (v := (5 : Int32)) dX1_tell_5 (.refl 6) (by decide) ?_
    refine AW.icmp_ge (tgt := 16) dX1_tell_6 (by decide) (fun c2 => ?_) (fun c2 => ?_)
    · have h := ifp c2 h
      cases h
      exact AW.vreturn rfl dX1_tell_16
    · have h := ifn c2 h
      refine AW.aload_n dX1_tell_9 (.refl 10) 0 rfl ?_
      refine AW.getR (z := (cRef k0 1)) lk_X1_9 hk0 rfl (by decide) rfl dX1_tell_10 (.refl 13) ?_
      refine AW.iload_n dX1_tell_13 (.refl 14) 1 rfl ?_
      refine AW.iload_n dX1_tell_14 (.refl 15) 2 rfl ?_
      obtain ⟨g1, h⟩ := gd_s h
      refine AW.iastore (tg_1_1 hk0) (by rw [ln_1_1 hk0]; exact g1) dX1_tell_15 (.refl 16) ?_
      cases h
      exact AW.vreturn rfl dX1_tell_16
def f_X9_act (x1 : Int32) (x2 : Int32) (σ : Mm) : Option (Mm) := b1 (f_X1_toldOf σ 16 x1) (fun (r2 : Int32) => b1 (f_X0_append x1 r2 σ) (fun (τ4 : Mm) => b1 (f_X1_tell 16 x1 x2 τ4) (fun (τ6 : Mm) => some τ6)))
set_option maxRecDepth 20000 in
theorem c_X9_act {l : Launch} {G : Gg} {x1 : Int32} {x2 : Int32} {σ : Mm} {τ : Mm} (h : f_X9_act x1 x2 σ = some τ) : MR l G 2 M_X9_act [.ref 0, .int x1, .int x2] σ none τ := by
  unfold f_X9_act at h
  refine MR.of (by decide +kernel) (Nat.le_of_ble_eq_true rfl) ?_
  show AW l G 2 M_X9_act none τ 0 [(0, .ref 0), (1, .int x1), (2, .int x2)] [] σ
  refine AW.aload_n dX9_act_0 (.refl 1) 0 rfl ?_
  refine AW.getR (z := 26) lk_X9_48 rfl rfl (by decide) rfl dX9_act_1 (.refl 4) ?_
  refine AW.iload_n dX9_act_4 (.refl 5) 1 rfl ?_
  refine AW.aload_n dX9_act_5 (.refl 6) 0 rfl ?_
  refine AW.getR (z := 16) lk_X9_28 rfl rfl (by decide) rfl dX9_act_6 (.refl 9) ?_
  refine AW.iload_n dX9_act_9 (.refl 10) 1 rfl ?_
  obtain ⟨r2, e1, h⟩ := b1_s h
  refine AW.callV (r' := (some (.int r2))) (σ' := σ) (rest := [.int x1, .ref 26]) lm_X9_197 (c_X1_toldOf rfl e1) (by decide) (by decide) rfl rfl (by decide) rfl rfl (Nat.le_of_ble_eq_true rfl) dX9_act_10 (.refl 13) (st' := [.int r2, .int x1, .ref 26]) rfl ?_
  obtain ⟨τ4, e3, h⟩ := b1_s h
  refine AW.callV (r' := none) (σ' := τ4) (rest := []) lm_X9_200 (c_X0_append e3) (by decide) (by decide) rfl rfl (by decide) rfl rfl (Nat.le_of_ble_eq_true rfl) dX9_act_13 (.refl 16) (st' := []) rfl ?_
  refine AW.aload_n dX9_act_16 (.refl 17) 0 rfl ?_
  refine AW.getR (z := 16) lk_X9_28 rfl rfl (by decide) rfl dX9_act_17 (.refl 20) ?_
  refine AW.iload_n dX9_act_20 (.refl 21) 1 rfl ?_
  refine AW.iload_n dX9_act_21 (.refl 22) 2 rfl ?_
  obtain ⟨τ6, e5, h⟩ := b1_s h
  refine AW.callV (r' := none) (σ' := τ6) (rest := []) lm_X9_202 (c_X1_tell rfl e5) (by decide) (by decide) rfl rfl (by decide) rfl rfl (Nat.le_of_ble_eq_true rfl) dX9_act_22 (.refl 25) (st' := []) rfl ?_
  cases h
  exact AW.vreturn rfl dX9_act_25
def f_X1_fits (σ : Mm) (k0 : Nat) (x1 : Int32) (x2 : Int32) : Option (Int32) := b1 (f_X8_mayBegin σ x1 x2) (fun (r2 : Int32) => (if r2 = 0 then some (0 : Int32) else b1 (f_X1_clashing σ k0 x1 x2) (fun (r4 : Int32) => (if r4 = 0 then some (1 : Int32) else some (0 : Int32)))))
set_option maxRecDepth 20000 in
theorem c_X1_fits {l : Launch} {G : Gg} {k0 : Nat} (hk0 : cTag k0 = 1) {x1 : Int32} {x2 : Int32} {σ : Mm} {v : Int32} (h : f_X1_fits σ k0 x1 x2 = some v) : MR l G 3 M_X1_fits [.ref k0, .int x1, .int x2] σ (some (.int v)) σ := by
  unfold f_X1_fits at h
  refine MR.of (by decide +kernel) (Nat.le_of_ble_eq_true rfl) ?_
  show AW l G 3 M_X1_fits (some (.int v)) σ 0 [(0, .ref k0), (1, .int x1), (2, .int x2)] [] σ
  refine AW.aload_n dX1_fits_0 (.refl 1) 0 rfl ?_
  refine AW.getR (z := 3) lk_X1_15 hk0 rfl (by decide) (rf_1_0 hk0) dX1_fits_1 (.refl 4) ?_
  refine AW.iload_n dX1_fits_4 (.refl 5) 1 rfl ?_
  refine AW.iload_n dX1_fits_5 (.refl 6) 2 rfl ?_
  obtain ⟨r2, e1, h⟩ := b1_s h
  refine AW.callV (r' := (some (.int r2))) (σ' := σ) (rest := []) lm_X1_50 (c_X8_mayBegin e1) (by decide) (by decide) rfl rfl (by decide) rfl rfl (Nat.le_of_ble_eq_true rfl) dX1_fits_6 (.refl 9) (st' := [.int r2]) rfl ?_
  refine AW.if_eq (tgt := 25) dX1_fits_9 (by decide) (fun c6 => ?_) (fun c6 => ?_)
  · have h := ifp c6 h
    refine AW.iconst (v := (0 : Int32)) dX1_fits_25 (.refl 26) (by decide) ?_
    cases h
    exact AW.zreturn rfl (by decide) dX1_fits_26
  · have h := ifn c6 h
    refine AW.aload_n dX1_fits_12 (.refl 13) 0 rfl ?_
    refine AW.iload_n dX1_fits_13 (.refl 14) 1 rfl ?_
    refine AW.iload_n dX1_fits_14 (.refl 15) 2 rfl ?_
    obtain ⟨r4, e3, h⟩ := b1_s h
    refine AW.callV (r' := (some (.int r4))) (σ' := σ) (rest := []) lm_X1_54 (c_X1_clashing hk0 e3) (by decide) (by decide) hk0 rfl (by decide) rfl rfl (Nat.le_of_ble_eq_true rfl) dX1_fits_15 (.refl 18) (st' := [.int r4]) rfl ?_
    refine AW.if_ne (tgt := 25) dX1_fits_18 (by decide) (fun c5 => ?_) (fun c5 => ?_)
    · have h := ifn c5 h
      refine AW.iconst (v := (0 : Int32)) dX1_fits_25 (.refl 26) (by decide) ?_
      cases h
      exact AW.zreturn rfl (by decide) dX1_fits_26
    · have h := ifp c5 h
      refine AW.iconst (v := (1 : Int32)) dX1_fits_21 (.refl 22) (by decide) ?_
      refine AW.goto (tgt := 26) dX1_fits_22 (by decide) ?_
      cases h
      exact AW.zreturn rfl (by decide) dX1_fits_26
def f_X1_isLet (σ : Mm) (k0 : Nat) (x1 : Int32) : Option (Int32) := b1 (f_X1_toldOf σ k0 x1) (fun (r2 : Int32) => (if r2 = 0 then some (0 : Int32) else some (1 : Int32)))
set_option maxRecDepth 20000 in
theorem c_X1_isLet {l : Launch} {G : Gg} {k0 : Nat} (hk0 : cTag k0 = 1) {x1 : Int32} {σ : Mm} {v : Int32} (h : f_X1_isLet σ k0 x1 = some v) : MR l G 1 M_X1_isLet [.ref k0, .int x1] σ (some (.int v)) σ := by
  unfold f_X1_isLet at h
  refine MR.of (by decide +kernel) (Nat.le_of_ble_eq_true rfl) ?_
  show AW l G 1 M_X1_isLet (some (.int v)) σ 0 [(0, .ref k0), (1, .int x1)] [] σ
  refine AW.aload_n dX1_isLet_0 (.refl 1) 0 rfl ?_
  refine AW.iload_n dX1_isLet_1 (.refl 2) 1 rfl ?_
  obtain ⟨r2, e1, h⟩ := b1_s h
  refine AW.callV (r' := (some (.int r2))) (σ' := σ) (rest := []) lm_X1_19 (c_X1_toldOf hk0 e1) (by decide) (by decide) hk0 rfl (by decide) rfl rfl (Nat.le_of_ble_eq_true rfl) dX1_isLet_2 (.refl 5) (st' := [.int r2]) rfl ?_
  refine AW.if_eq (tgt := 12) dX1_isLet_5 (by decide) (fun c3 => ?_) (fun c3 => ?_)
  · have h := ifp c3 h
    refine AW.iconst (v := (0 : Int32)) dX1_isLet_12 (.refl 13) (by decide) ?_
    cases h
    exact AW.zreturn rfl (by decide) dX1_isLet_13
  · have h := ifn c3 h
    refine AW.iconst (v := (1 : Int32)) dX1_isLet_8 (.refl 9) (by decide) ?_
    refine AW.goto (tgt := 13) dX1_isLet_9 (by decide) ?_
    cases h
    exact AW.zreturn rfl (by decide) dX1_isLet_13
def f_X1_everyoneLet_p4 (σ : Mm) (k0 : Nat) : Nat → Int32 → Int32 → Option (Int32)
  | 0, _, _ => none
  | n + 1, x1, x2 => (if (5 : Int32) ≤ x2 then some x1 else b1 (f_X1_isLet σ k0 x2) (fun (r2 : Int32) => (if r2 = 0 then (f_X1_everyoneLet_p4 σ k0 n) (x1 ||| (0 : Int32)) (x2 + (1 : Int32)) else (f_X1_everyoneLet_p4 σ k0 n) (x1 ||| (jshl (1 : Int32) x2)) (x2 + (1 : Int32)))))
def f_X1_everyoneLet (σ : Mm) (k0 : Nat)  : Option (Int32) := f_X1_everyoneLet_p4 σ k0 FU (0 : Int32) (0 : Int32)
set_option maxRecDepth 20000 in
theorem a_X1_everyoneLet_p4 {l : Launch} {G : Gg} {v : Int32} {σ : Mm} {k0 : Nat} (hk0 : cTag k0 = 1) : ∀ (n : Nat) (x1 : Int32) (x2 : Int32), f_X1_everyoneLet_p4 σ k0 n x1 x2 = some v → AW l G 2 M_X1_everyoneLet (some (.int v)) σ 4 [(0, .ref k0), (1, .int x1), (2, .int x2)] [] σ := by
  intro n
  induction n with
  | zero => intro x1 x2 h; exact no_some h
  | succ n ih =>
    intro x1 x2 h
    rw [f_X1_everyoneLet_p4] at h
    refine AW.iload_n dX1_everyoneLet_4 (.refl 5) 2 rfl ?_
    refine AW.iconst (v := (5 : Int32)) dX1_everyoneLet_5 (.refl 6) (by decide) ?_
    refine AW.icmp_ge (tgt := 33) dX1_everyoneLet_6 (by decide) (fun c4 => ?_) (fun c4 => ?_)
    · have h := ifp c4 h
      refine AW.iload_n dX1_everyoneLet_33 (.refl 34) 1 rfl ?_
      cases h
      exact AW.ireturn rfl dX1_everyoneLet_34
    · have h := ifn c4 h
      refine AW.iload_n dX1_everyoneLet_9 (.refl 10) 1 rfl ?_
      refine AW.aload_n dX1_everyoneLet_10 (.refl 11) 0 rfl ?_
      refine AW.iload_n dX1_everyoneLet_11 (.refl 12) 2 rfl ?_
      obtain ⟨r2, e1, h⟩ := b1_s h
      refine AW.callV (r' := (some (.int r2))) (σ' := σ) (rest := [.int x1]) lm_X1_23 (c_X1_isLet hk0 e1) (by decide) (by decide) hk0 rfl (by decide) rfl rfl (Nat.le_of_ble_eq_true rfl) dX1_everyoneLet_12 (.refl 15) (st' := [.int r2, .int x1]) rfl ?_
      refine AW.if_eq (tgt := 24) dX1_everyoneLet_15 (by decide) (fun c3 => ?_) (fun c3 => ?_)
      · have h := ifp c3 h
        refine AW.iconst (v := (0 : Int32)) dX1_everyoneLet_24 (.refl 25) (by decide) ?_
        refine AW.ior dX1_everyoneLet_25 (.refl 26) ?_
        refine AW.istore_n (L' := [(1, .int (x1 ||| (0 : Int32))), (0, .ref k0), (2, .int x2)]) dX1_everyoneLet_26 (.refl 27) (by decide) rfl ?_
        refine AW.iinc (v := (x2 + (1 : Int32))) (L' := [(2, .int (x2 + (1 : Int32))), (1, .int (x1 ||| (0 : Int32))), (0, .ref k0)]) dX1_everyoneLet_27 (.refl 30) 2 rfl rfl (by decide) rfl ?_
        refine AW.goto (tgt := 4) dX1_everyoneLet_30 (by decide) ?_
        refine AW.sub (L' := [(0, .ref k0), (1, .int (x1 ||| (0 : Int32))), (2, .int (x2 + (1 : Int32)))]) [2, 1, 0] rfl ?_
        exact ih (x1 ||| (0 : Int32)) (x2 + (1 : Int32)) h
      · have h := ifn c3 h
        refine AW.iconst (v := (1 : Int32)) dX1_everyoneLet_18 (.refl 19) (by decide) ?_
        refine AW.iload_n dX1_everyoneLet_19 (.refl 20) 2 rfl ?_
        refine AW.ishl dX1_everyoneLet_20 (.refl 21) ?_
        refine AW.goto (tgt := 25) dX1_everyoneLet_21 (by decide) ?_
        refine AW.ior dX1_everyoneLet_25 (.refl 26) ?_
        refine AW.istore_n (L' := [(1, .int (x1 ||| (jshl (1 : Int32) x2))), (0, .ref k0), (2, .int x2)]) dX1_everyoneLet_26 (.refl 27) (by decide) rfl ?_
        refine AW.iinc (v := (x2 + (1 : Int32))) (L' := [(2, .int (x2 + (1 : Int32))), (1, .int (x1 ||| (jshl (1 : Int32) x2))), (0, .ref k0)]) dX1_everyoneLet_27 (.refl 30) 2 rfl rfl (by decide) rfl ?_
        refine AW.goto (tgt := 4) dX1_everyoneLet_30 (by decide) ?_
        refine AW.sub (L' := [(0, .ref k0), (1, .int (x1 ||| (jshl (1 : Int32) x2))), (2, .int (x2 + (1 : Int32)))]) [2, 1, 0] rfl ?_
        exact ih (x1 ||| (jshl (1 : Int32) x2)) (x2 + (1 : Int32)) h
set_option maxRecDepth 20000 in
theorem c_X1_everyoneLet {l : Launch} {G : Gg} {k0 : Nat} (hk0 : cTag k0 = 1)  {σ : Mm} {v : Int32} (h : f_X1_everyoneLet σ k0  = some v) : MR l G 2 M_X1_everyoneLet [.ref k0] σ (some (.int v)) σ := by
  unfold f_X1_everyoneLet at h
  refine MR.of (by decide +kernel) (Nat.le_of_ble_eq_true rfl) ?_
  show AW l G 2 M_X1_everyoneLet (some (.int v)) σ 0 [(0, .ref k0)] [] σ
  refine AW.iconst (v := (0 : Int32)) dX1_everyoneLet_0 (.refl 1) (by decide) ?_
  refine AW.istore_n (L' := [(1, .int (0 : Int32)), (0, .ref k0)]) dX1_everyoneLet_1 (.refl 2) (by decide) rfl ?_
  refine AW.iconst (v := (0 : Int32)) dX1_everyoneLet_2 (.refl 3) (by decide) ?_
  refine AW.istore_n (L' := [(2, .int (0 : Int32)), (1, .int (0 : Int32)), (0, .ref k0)]) dX1_everyoneLet_3 (.refl 4) (by decide) rfl ?_
  refine AW.sub (L' := [(0, .ref k0), (1, .int (0 : Int32)), (2, .int (0 : Int32))]) [2, 1, 0] rfl ?_
  exact a_X1_everyoneLet_p4 hk0 FU (0 : Int32) (0 : Int32) h
def f_X1_worthOf_p4 (σ : Mm) (k0 : Nat) : Nat → Int32 → Int32 → Int32 → Option (Int32)
  | 0, _, _, _ => none
  | n + 1, x1, x2, x3 => (if (5 : Int32) ≤ x3 then some x2 else gd (inB x3 5) (bnd ((x2 + (((jushr x1 x3) &&& (1 : Int32)) * (σ.1 11 (x3).toNatClampNeg)))) (fun (y2 : Int32) => (f_X1_worthOf_p4 σ k0 n) x1 y2 (x3 + (1 : Int32)))))
def f_X1_worthOf (σ : Mm) (k0 : Nat) (x1 : Int32) : Option (Int32) := f_X1_worthOf_p4 σ k0 FU x1 (0 : Int32) (0 : Int32)
set_option maxRecDepth 20000 in
theorem a_X1_worthOf_p4 {l : Launch} {G : Gg} {v : Int32} {σ : Mm} {k0 : Nat} (hk0 : cTag k0 = 1) : ∀ (n : Nat) (x1 : Int32) (x2 : Int32) (x3 : Int32), f_X1_worthOf_p4 σ k0 n x1 x2 x3 = some v → AW l G 0 M_X1_worthOf (some (.int v)) σ 4 [(0, .ref k0), (1, .int x1), (2, .int x2), (3, .int x3)] [] σ := by
  intro n
  induction n with
  | zero => intro x1 x2 x3 h; exact no_some h
  | succ n ih =>
    intro x1 x2 x3 h
    rw [f_X1_worthOf_p4] at h
    refine AW.iload_n dX1_worthOf_4 (.refl 5) 3 rfl ?_
    refine AW.iconst (v := (5 : Int32)) dX1_worthOf_5 (.refl 6) (by decide) ?_
    refine AW.icmp_ge (tgt := 33) dX1_worthOf_6 (by decide) (fun c4 => ?_) (fun c4 => ?_)
    · have h := ifp c4 h
      refine AW.iload_n dX1_worthOf_33 (.refl 34) 2 rfl ?_
      cases h
      exact AW.ireturn rfl dX1_worthOf_34
    · have h := ifn c4 h
      refine AW.iload_n dX1_worthOf_9 (.refl 10) 2 rfl ?_
      refine AW.iload_n dX1_worthOf_10 (.refl 11) 1 rfl ?_
      refine AW.iload_n dX1_worthOf_11 (.refl 12) 3 rfl ?_
      refine AW.iushr dX1_worthOf_12 (.refl 13) ?_
      refine AW.iconst (v := (1 : Int32)) dX1_worthOf_13 (.refl 14) (by decide) ?_
      refine AW.iand dX1_worthOf_14 (.refl 15) ?_
      refine AW.aload_n dX1_worthOf_15 (.refl 16) 0 rfl ?_
      refine AW.getR (z := 3) lk_X1_15 hk0 rfl (by decide) (rf_1_0 hk0) dX1_worthOf_16 (.refl 19) ?_
      refine AW.getR (z := 11) lk_X1_34 rfl rfl (by decide) rfl dX1_worthOf_19 (.refl 22) ?_
      refine AW.iload_n dX1_worthOf_22 (.refl 23) 3 rfl ?_
      obtain ⟨g1, h⟩ := gd_s h
      refine AW.iaload rfl g1 dX1_worthOf_23 (.refl 24) ?_
      refine AW.imul dX1_worthOf_24 (.refl 25) ?_
      refine AW.iadd dX1_worthOf_25 (.refl 26) ?_
      obtain ⟨y2, e3, h⟩ := bnd_s h
      refine AW.nmI e3 ?_
      refine AW.istore_n (L' := [(2, .int y2), (0, .ref k0), (1, .int x1), (3, .int x3)]) dX1_worthOf_26 (.refl 27) (by decide) rfl ?_
      refine AW.iinc (v := (x3 + (1 : Int32))) (L' := [(3, .int (x3 + (1 : Int32))), (2, .int y2), (0, .ref k0), (1, .int x1)]) dX1_worthOf_27 (.refl 30) 3 rfl rfl (by decide) rfl ?_
      refine AW.goto (tgt := 4) dX1_worthOf_30 (by decide) ?_
      refine AW.sub (L' := [(0, .ref k0), (1, .int x1), (2, .int y2), (3, .int (x3 + (1 : Int32)))]) [2, 3, 1, 0] rfl ?_
      exact ih x1 y2 (x3 + (1 : Int32)) h
set_option maxRecDepth 20000 in
theorem c_X1_worthOf {l : Launch} {G : Gg} {k0 : Nat} (hk0 : cTag k0 = 1) {x1 : Int32} {σ : Mm} {v : Int32} (h : f_X1_worthOf σ k0 x1 = some v) : MR l G 0 M_X1_worthOf [.ref k0, .int x1] σ (some (.int v)) σ := by
  unfold f_X1_worthOf at h
  refine MR.of (by decide +kernel) (Nat.le_of_ble_eq_true rfl) ?_
  show AW l G 0 M_X1_worthOf (some (.int v)) σ 0 [(0, .ref k0), (1, .int x1)] [] σ
  refine AW.iconst (v := (0 : Int32)) dX1_worthOf_0 (.refl 1) (by decide) ?_
  refine AW.istore_n (L' := [(2, .int (0 : Int32)), (0, .ref k0), (1, .int x1)]) dX1_worthOf_1 (.refl 2) (by decide) rfl ?_
  refine AW.iconst (v := (0 : Int32)) dX1_worthOf_2 (.refl 3) (by decide) ?_
  refine AW.istore_n (L' := [(3, .int (0 : Int32)), (2, .int (0 : Int32)), (0, .ref k0), (1, .int x1)]) dX1_worthOf_3 (.refl 4) (by decide) rfl ?_
  refine AW.sub (L' := [(0, .ref k0), (1, .int x1), (2, .int (0 : Int32)), (3, .int (0 : Int32))]) [2, 3, 1, 0] rfl ?_
  exact a_X1_worthOf_p4 hk0 FU x1 (0 : Int32) (0 : Int32) h
def f_X1_worth (σ : Mm) (k0 : Nat)  : Option (Int32) := b1 (f_X1_everyoneLet σ k0) (fun (r2 : Int32) => b1 (f_X1_worthOf σ k0 r2) (fun (r4 : Int32) => some r4))
set_option maxRecDepth 20000 in
theorem c_X1_worth {l : Launch} {G : Gg} {k0 : Nat} (hk0 : cTag k0 = 1)  {σ : Mm} {v : Int32} (h : f_X1_worth σ k0  = some v) : MR l G 3 M_X1_worth [.ref k0] σ (some (.int v)) σ := by
  unfold f_X1_worth at h
  refine MR.of (by decide +kernel) (Nat.le_of_ble_eq_true rfl) ?_
  show AW l G 3 M_X1_worth (some (.int v)) σ 0 [(0, .ref k0)] [] σ
  refine AW.aload_n dX1_worth_0 (.refl 1) 0 rfl ?_
  refine AW.aload_n dX1_worth_1 (.refl 2) 0 rfl ?_
  obtain ⟨r2, e1, h⟩ := b1_s h
  refine AW.callV (r' := (some (.int r2))) (σ' := σ) (rest := [.ref k0]) lm_X1_27 (c_X1_everyoneLet hk0 e1) (by decide) (by decide) hk0 rfl (by decide) rfl rfl (Nat.le_of_ble_eq_true rfl) dX1_worth_2 (.refl 5) (st' := [.int r2, .ref k0]) rfl ?_
  obtain ⟨r4, e3, h⟩ := b1_s h
  refine AW.callV (r' := (some (.int r4))) (σ' := σ) (rest := []) lm_X1_31 (c_X1_worthOf hk0 e3) (by decide) (by decide) hk0 rfl (by decide) rfl rfl (Nat.le_of_ble_eq_true rfl) dX1_worth_5 (.refl 8) (st' := [.int r4]) rfl ?_
  cases h
  exact AW.ireturn rfl dX1_worth_8
