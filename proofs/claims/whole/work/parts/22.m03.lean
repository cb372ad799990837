def f_X10_keepAct_p2 (ke32 : Mm → Option (Mm)) : Nat → Int32 → Mm → Option (Mm)
  | 0, _, _ => none
  | n + 1, x1, σ => (if (5 : Int32) ≤ x1 then ke32 σ else gd (inB x1 5) (gd (inB (((5 : Int32) * (σ.1 46 15)) + x1) 80) (bnd ((sI σ 54 ((((5 : Int32) * (σ.1 46 15)) + x1)).toNatClampNeg (σ.1 52 (x1).toNatClampNeg))) (fun (σ3 : Mm) => (f_X10_keepAct_p2 ke32 n) (x1 + (1 : Int32)) σ3))))
def f_X10_keepAct_p32 (σ : Mm) : Option (Mm) := (if (16 : Int32) ≤ ((sI σ 46 15 (jrem ((σ.1 46 15) + (1 : Int32)) (16 : Int32))).1 46 14) then bnd ((sI (sI σ 46 15 (jrem ((σ.1 46 15) + (1 : Int32)) (16 : Int32))) 46 14 (16 : Int32))) (fun (σ1 : Mm) => some σ1) else bnd ((sI (sI σ 46 15 (jrem ((σ.1 46 15) + (1 : Int32)) (16 : Int32))) 46 14 (((sI σ 46 15 (jrem ((σ.1 46 15) + (1 : Int32)) (16 : Int32))).1 46 14) + (1 : Int32)))) (fun (σ3 : Mm) => some σ3))
def f_X10_keepAct  (σ : Mm) : Option (Mm) := f_X10_keepAct_p2 (f_X10_keepAct_p32) FU (0 : Int32) σ
set_option maxRecDepth 20000 in
theorem a_X10_keepAct_p2 {l : Launch} {G : Gg} {τ : Mm} {ke32 : Mm → Option (Mm)} (he32 : ∀  (σ : Mm), ke32  σ = some τ → AW l G 0 M_X10_keepAct none τ 32 [(0, .ref 46)] [] σ) : ∀ (n : Nat) (x1 : Int32) (σ : Mm), f_X10_keepAct_p2 ke32 n x1 σ = some τ → AW l G 0 M_X10_keepAct none τ 2 [(0, .ref 46), (1, .int x1)] [] σ := by
  intro n
  induction n with
  | zero => intro x1 σ h; exact no_some h
  | succ n ih =>
    intro x1 σ h
    rw [f_X10_keepAct_p2] at h
    refine AW.iload_n dX10_keepAct_2 (.refl 3) 1 rfl ?_
    refine AW.iconst (v := (5 : Int32)) dX10_keepAct_3 (.refl 4) (by decide) ?_
    refine AW.icmp_ge (tgt := 32) dX10_keepAct_4 (by decide) (fun c5 => ?_) (fun c5 => ?_)
    · have h := ifp c5 h
      refine AW.sub (L' := [(0, .ref 46)]) [0] rfl ?_
      exact he32 σ h
    · have h := ifn c5 h
      refine AW.aload_n dX10_keepAct_7 (.refl 8) 0 rfl ?_
      refine AW.getR (z := 54) lk_X10_31 rfl rfl (by decide) rfl dX10_keepAct_8 (.refl 11) ?_
      refine AW.iconst (v := (5 : Int32)) dX10_keepAct_11 (.refl 12) (by decide) ?_
      refine AW.aload_n dX10_keepAct_12 (.refl 13) 0 rfl ?_
      refine AW.getI lk_X10_187 rfl rfl (by decide) dX10_keepAct_13 (.refl 16) ?_
      refine AW.imul dX10_keepAct_16 (.refl 17) ?_
      refine AW.iload_n dX10_keepAct_17 (.refl 18) 1 rfl ?_
      refine AW.iadd dX10_keepAct_18 (.refl 19) ?_
      refine AW.aload_n dX10_keepAct_19 (.refl 20) 0 rfl ?_
      refine AW.getR (z := 52) lk_X10_25 rfl rfl (by decide) rfl dX10_keepAct_20 (.refl 23) ?_
      refine AW.iload_n dX10_keepAct_23 (.refl 24) 1 rfl ?_
      obtain ⟨g1, h⟩ := gd_s h
      refine AW.iaload rfl g1 dX10_keepAct_24 (.refl 25) ?_
      obtain ⟨g2, h⟩ := gd_s h
      refine AW.iastore rfl g2 dX10_keepAct_25 (.refl 26) ?_
      obtain ⟨σ3, e4, h⟩ := bnd_s h
      refine AW.nmM e4 ?_
      refine AW.iinc (v := (x1 + (1 : Int32))) (L' := [(1, .int (x1 + (1 : Int32))), (0, .ref 46)]) dX10_keepAct_26 (.refl 29) 1 rfl rfl (by decide) rfl ?_
      refine AW.goto (tgt := 2) dX10_keepAct_29 (by decide) ?_
      refine AW.sub (L' := [(0, .ref 46), (1, .int (x1 + (1 : Int32)))]) [1, 0] rfl ?_
      exact ih (x1 + (1 : Int32)) σ3 h
set_option maxRecDepth 20000 in
theorem a_X10_keepAct_p32 {l : Launch} {G : Gg} {τ : Mm} (σ : Mm) (h : f_X10_keepAct_p32 σ = some τ) : AW l G 0 M_X10_keepAct none τ 32 [(0, .ref 46)] [] σ := by
  unfold f_X10_keepAct_p32 at h
  refine AW.aload_n dX10_keepAct_32 (.refl 33) 0 rfl ?_
  refine AW.aload_n dX10_keepAct_33 (.refl 34) 0 rfl ?_
  refine AW.getI lk_X10_187 rfl rfl (by decide) dX10_keepAct_34 (.refl 37) ?_
  refine AW.iconst (v := (1 : Int32)) dX10_keepAct_37 (.refl 38) (by decide) ?_
  refine AW.iadd dX10_keepAct_38 (.refl 39) ?_
  refine AW.bipush (v := (16 : Int32)) dX10_keepAct_39 (.refl 41) (by decide) ?_
  refine AW.irem dX10_keepAct_41 (.refl 42) (by decide) ?_
  refine AW.putI lp_X10_187 rfl rfl (by decide) dX10_keepAct_42 (.refl 45) ?_
  refine AW.aload_n dX10_keepAct_45 (.refl 46) 0 rfl ?_
  refine AW.aload_n dX10_keepAct_46 (.refl 47) 0 rfl ?_
  refine AW.getI lk_X10_138 rfl rfl (by decide) dX10_keepAct_47 (.refl 50) ?_
  refine AW.bipush (v := (16 : Int32)) dX10_keepAct_50 (.refl 52) (by decide) ?_
  refine AW.icmp_ge (tgt := 64) dX10_keepAct_52 (by decide) (fun c5 => ?_) (fun c5 => ?_)
  · have h := ifp c5 h
    refine AW.bipush (v := (16 : Int32)) dX10_keepAct_64 (.refl 66) (by decide) ?_
    refine AW.putI lp_X10_138 rfl rfl (by decide) dX10_keepAct_66 (.refl 69) ?_
    obtain ⟨σ1, e2, h⟩ := bnd_s h
    refine AW.nmM e2 ?_
    cases h
    exact AW.vreturn rfl dX10_keepAct_69
  · have h := ifn c5 h
    refine AW.aload_n dX10_keepAct_55 (.refl 56) 0 rfl ?_
    refine AW.getI lk_X10_138 rfl rfl (by decide) dX10_keepAct_56 (.refl 59) ?_
    refine AW.iconst (v := (1 : Int32)) dX10_keepAct_59 (.refl 60) (by decide) ?_
    refine AW.iadd dX10_keepAct_60 (.refl 61) ?_
    refine AW.goto (tgt := 66) dX10_keepAct_61 (by decide) ?_
    refine AW.putI lp_X10_138 rfl rfl (by decide) dX10_keepAct_66 (.refl 69) ?_
    obtain ⟨σ3, e4, h⟩ := bnd_s h
    refine AW.nmM e4 ?_
    cases h
    exact AW.vreturn rfl dX10_keepAct_69
set_option maxRecDepth 20000 in
theorem c_X10_keepAct {l : Launch} {G : Gg}  {σ : Mm} {τ : Mm} (h : f_X10_keepAct  σ = some τ) : MR l G 0 M_X10_keepAct [.ref 46] σ none τ := by
  unfold f_X10_keepAct at h
  refine MR.of (by decide +kernel) (Nat.le_of_ble_eq_true rfl) ?_
  show AW l G 0 M_X10_keepAct none τ 0 [(0, .ref 46)] [] σ
  refine AW.iconst (v := (0 : Int32)) dX10_keepAct_0 (.refl 1) (by decide) ?_
  refine AW.istore_n (L' := [(1, .int (0 : Int32)), (0, .ref 46)]) dX10_keepAct_1 (.refl 2) (by decide) rfl ?_
  refine AW.sub (L' := [(0, .ref 46), (1, .int (0 : Int32))]) [1, 0] rfl ?_
  exact a_X10_keepAct_p2 (a_X10_keepAct_p32) FU (0 : Int32) σ h
def f_X10_canBe (σ : Mm) (x1 : Int32) (x2 : Int32) : Option (Int32) := b1 (f_X10_mayBegin σ x1 x2) (fun (r2 : Int32) => (if r2 = 0 then some (0 : Int32) else b1 (f_X10_clashesOf σ x1 x2) (fun (r4 : Int32) => (if r4 = 0 then some (1 : Int32) else some (0 : Int32)))))
set_option maxRecDepth 20000 in
theorem c_X10_canBe {l : Launch} {G : Gg} {x1 : Int32} {x2 : Int32} {σ : Mm} {v : Int32} (h : f_X10_canBe σ x1 x2 = some v) : MR l G 4 M_X10_canBe [.ref 46, .int x1, .int x2] σ (some (.int v)) σ := by
  unfold f_X10_canBe at h
  refine MR.of (by decide +kernel) (Nat.le_of_ble_eq_true rfl) ?_
  show AW l G 4 M_X10_canBe (some (.int v)) σ 0 [(0, .ref 46), (1, .int x1), (2, .int x2)] [] σ
  refine AW.aload_n dX10_canBe_0 (.refl 1) 0 rfl ?_
  refine AW.iload_n dX10_canBe_1 (.refl 2) 1 rfl ?_
  refine AW.iload_n dX10_canBe_2 (.refl 3) 2 rfl ?_
  obtain ⟨r2, e1, h⟩ := b1_s h
  refine AW.callV (r' := (some (.int r2))) (σ' := σ) (rest := []) lm_X10_171 (c_X10_mayBegin e1) (by decide) (by decide) rfl rfl (by decide) rfl rfl (Nat.le_of_ble_eq_true rfl) dX10_canBe_3 (.refl 6) (st' := [.int r2]) rfl ?_
  refine AW.if_eq (tgt := 22) dX10_canBe_6 (by decide) (fun c6 => ?_) (fun c6 => ?_)
  · have h := ifp c6 h
    refine AW.iconst (v := (0 : Int32)) dX10_canBe_22 (.refl 23) (by decide) ?_
    cases h
    exact AW.zreturn rfl (by decide) dX10_canBe_23
  · have h := ifn c6 h
    refine AW.aload_n dX10_canBe_9 (.refl 10) 0 rfl ?_
    refine AW.iload_n dX10_canBe_10 (.refl 11) 1 rfl ?_
    refine AW.iload_n dX10_canBe_11 (.refl 12) 2 rfl ?_
    obtain ⟨r4, e3, h⟩ := b1_s h
    refine AW.callV (r' := (some (.int r4))) (σ' := σ) (rest := []) lm_X10_184 (c_X10_clashesOf e3) (by decide) (by decide) rfl rfl (by decide) rfl rfl (Nat.le_of_ble_eq_true rfl) dX10_canBe_12 (.refl 15) (st' := [.int r4]) rfl ?_
    refine AW.if_ne (tgt := 22) dX10_canBe_15 (by decide) (fun c5 => ?_) (fun c5 => ?_)
    · have h := ifn c5 h
      refine AW.iconst (v := (0 : Int32)) dX10_canBe_22 (.refl 23) (by decide) ?_
      cases h
      exact AW.zreturn rfl (by decide) dX10_canBe_23
    · have h := ifp c5 h
      refine AW.iconst (v := (1 : Int32)) dX10_canBe_18 (.refl 19) (by decide) ?_
      refine AW.goto (tgt := 23) dX10_canBe_19 (by decide) ?_
      cases h
      exact AW.zreturn rfl (by decide) dX10_canBe_23
def f_X10_let (x1 : Int32) (x2 : Int32) (σ : Mm) : Option (Int32 × Mm) := b1 (f_X10_isBidder σ x1) (fun (r2 : Int32) => (if r2 = 0 then some ((-1 : Int32), σ) else b1 (f_X10_in σ x2.toInt64 (0 : Int64) (9 : Int64)) (fun (r4 : Int32) => (if r4 = 0 then some ((-2 : Int32), σ) else gd (inB x1 5) ((if (σ.1 52 (x1).toNatClampNeg) = (-9 : Int32) then b1 (f_X10_canBe σ x1 x2) (fun (r7 : Int32) => (if r7 = 0 then some ((-3 : Int32), σ) else b1 (f_X10_keepAct σ) (fun (τ9 : Mm) => gd (inB x1 5) (b1 (f_X10_letNow (sI τ9 52 (x1).toNatClampNeg x2)) (fun (r12 : Int32) => b1 (f_X10_coinsOf (sI τ9 52 (x1).toNatClampNeg x2) r12) (fun (r14 : Int32) => some (r14, (sI τ9 52 (x1).toNatClampNeg x2)))))))) else some ((-3 : Int32), σ)))))))
set_option maxRecDepth 20000 in
theorem c_X10_let {l : Launch} {G : Gg} {x1 : Int32} {x2 : Int32} {σ : Mm} {v : Int32} {τ : Mm} (h : f_X10_let x1 x2 σ = some (v, τ)) : MR l G 5 M_X10_let [.ref 46, .int x1, .int x2] σ (some (.int v)) τ := by
  unfold f_X10_let at h
  refine MR.of (by decide +kernel) (Nat.le_of_ble_eq_true rfl) ?_
  show AW l G 5 M_X10_let (some (.int v)) τ 0 [(0, .ref 46), (1, .int x1), (2, .int x2)] [] σ
  refine AW.aload_n dX10_let_0 (.refl 1) 0 rfl ?_
  refine AW.iload_n dX10_let_1 (.refl 2) 1 rfl ?_
  obtain ⟨r2, e1, h⟩ := b1_s h
  refine AW.callV (r' := (some (.int r2))) (σ' := σ) (rest := []) lm_X10_174 (c_X10_isBidder e1) (by decide) (by decide) rfl rfl (by decide) rfl rfl (Nat.le_of_ble_eq_true rfl) dX10_let_2 (.refl 5) (st' := [.int r2]) rfl ?_
  refine AW.if_ne (tgt := 10) dX10_let_5 (by decide) (fun c18 => ?_) (fun c18 => ?_)
  · have h := ifn c18 h
    refine AW.iload_n dX10_let_10 (.refl 11) 2 rfl ?_
    refine AW.i2l dX10_let_11 (.refl 12) ?_
    refine AW.lconst (v := (0 : Int64)) dX10_let_12 (.refl 13) (by decide) ?_
    refine AW.ldc2_w lc_X10_182 dX10_let_13 (.refl 16) ?_
    obtain ⟨r4, e3, h⟩ := b1_s h
    refine AW.callS (r' := (some (.int r4))) (σ' := σ) (rest := []) lm_X10_97 (c_X10_in e3) (by decide) (by decide) rfl rfl (Nat.le_of_ble_eq_true rfl) dX10_let_16 (.refl 19) (st' := [.int r4]) rfl ?_
    refine AW.if_ne (tgt := 25) dX10_let_19 (by decide) (fun c17 => ?_) (fun c17 => ?_)
    · have h := ifn c17 h
      refine AW.aload_n dX10_let_25 (.refl 26) 0 rfl ?_
      refine AW.getR (z := 52) lk_X10_25 rfl rfl (by decide) rfl dX10_let_26 (.refl 29) ?_
      refine AW.iload_n dX10_let_29 (.refl 30) 1 rfl ?_
      obtain ⟨g5, h⟩ := gd_s h
      refine AW.iaload rfl g5 dX10_let_30 (.refl 31) ?_
      refine AW.bipush (v := (-9 : Int32)) dX10_let_31 (.refl 33) (by decide) ?_
      refine AW.icmp_ne (tgt := 45) dX10_let_33 (by decide) (fun c16 => ?_) (fun c16 => ?_)
      · have h := ifn c16 h
        refine AW.bipush (v := (-3 : Int32)) dX10_let_45 (.refl 47) (by decide) ?_
        cases h
        exact AW.ireturn rfl dX10_let_47
      · have h := ifp c16 h
        refine AW.aload_n dX10_let_36 (.refl 37) 0 rfl ?_
        refine AW.iload_n dX10_let_37 (.refl 38) 1 rfl ?_
        refine AW.iload_n dX10_let_38 (.refl 39) 2 rfl ?_
        obtain ⟨r7, e6, h⟩ := b1_s h
        refine AW.callV (r' := (some (.int r7))) (σ' := σ) (rest := []) lm_X10_190 (c_X10_canBe e6) (by decide) (by decide) rfl rfl (by decide) rfl rfl (Nat.le_of_ble_eq_true rfl) dX10_let_39 (.refl 42) (st' := [.int r7]) rfl ?_
        refine AW.if_ne (tgt := 48) dX10_let_42 (by decide) (fun c15 => ?_) (fun c15 => ?_)
        · have h := ifn c15 h
          refine AW.aload_n dX10_let_48 (.refl 49) 0 rfl ?_
          obtain ⟨τ9, e8, h⟩ := b1_s h
          refine AW.callV (r' := none) (σ' := τ9) (rest := []) lm_X10_193 (c_X10_keepAct e8) (by decide) (by decide) rfl rfl (by decide) rfl rfl (Nat.le_of_ble_eq_true rfl) dX10_let_49 (.refl 52) (st' := []) rfl ?_
          refine AW.aload_n dX10_let_52 (.refl 53) 0 rfl ?_
          refine AW.getR (z := 52) lk_X10_25 rfl rfl (by decide) rfl dX10_let_53 (.refl 56) ?_
          refine AW.iload_n dX10_let_56 (.refl 57) 1 rfl ?_
          refine AW.iload_n dX10_let_57 (.refl 58) 2 rfl ?_
          obtain ⟨g10, h⟩ := gd_s h
          refine AW.iastore rfl g10 dX10_let_58 (.refl 59) ?_
          refine AW.aload_n dX10_let_59 (.refl 60) 0 rfl ?_
          refine AW.aload_n dX10_let_60 (.refl 61) 0 rfl ?_
          obtain ⟨r12, e11, h⟩ := b1_s h
          refine AW.callV (r' := (some (.int r12))) (σ' := (sI τ9 52 (x1).toNatClampNeg x2)) (rest := [.ref 46]) lm_X10_196 (c_X10_letNow e11) (by decide) (by decide) rfl rfl (by decide) rfl rfl (Nat.le_of_ble_eq_true rfl) dX10_let_61 (.refl 64) (st' := [.int r12, .ref 46]) rfl ?_
          obtain ⟨r14, e13, h⟩ := b1_s h
          refine AW.callV (r' := (some (.int r14))) (σ' := (sI τ9 52 (x1).toNatClampNeg x2)) (rest := []) lm_X10_199 (c_X10_coinsOf e13) (by decide) (by decide) rfl rfl (by decide) rfl rfl (Nat.le_of_ble_eq_true rfl) dX10_let_64 (.refl 67) (st' := [.int r14]) rfl ?_
          cases h
          exact AW.ireturn rfl dX10_let_67
        · have h := ifp c15 h
          refine AW.bipush (v := (-3 : Int32)) dX10_let_45 (.refl 47) (by decide) ?_
          cases h
          exact AW.ireturn rfl dX10_let_47
    · have h := ifp c17 h
      refine AW.bipush (v := (-2 : Int32)) dX10_let_22 (.refl 24) (by decide) ?_
      cases h
      exact AW.ireturn rfl dX10_let_24
  · have h := ifp c18 h
    refine AW.iconst (v := (-1 : Int32)) dX10_let_8 (.refl 9) (by decide) ?_
    cases h
    exact AW.ireturn rfl dX10_let_9
def f_X10_revoke (x1 : Int32) (σ : Mm) : Option (Int32 × Mm) := b1 (f_X10_isBidder σ x1) (fun (r2 : Int32) => (if r2 = 0 then some ((-1 : Int32), σ) else gd (inB x1 5) ((if (σ.1 52 (x1).toNatClampNeg) = (-9 : Int32) then some ((-3 : Int32), σ) else b1 (f_X10_keepAct σ) (fun (τ5 : Mm) => gd (inB x1 5) (b1 (f_X10_letNow (sI τ5 52 (x1).toNatClampNeg (-9 : Int32))) (fun (r8 : Int32) => b1 (f_X10_coinsOf (sI τ5 52 (x1).toNatClampNeg (-9 : Int32)) r8) (fun (r10 : Int32) => some (r10, (sI τ5 52 (x1).toNatClampNeg (-9 : Int32)))))))))))
set_option maxRecDepth 20000 in
theorem c_X10_revoke {l : Launch} {G : Gg} {x1 : Int32} {σ : Mm} {v : Int32} {τ : Mm} (h : f_X10_revoke x1 σ = some (v, τ)) : MR l G 2 M_X10_revoke [.ref 46, .int x1] σ (some (.int v)) τ := by
  unfold f_X10_revoke at h
  refine MR.of (by decide +kernel) (Nat.le_of_ble_eq_true rfl) ?_
  show AW l G 2 M_X10_revoke (some (.int v)) τ 0 [(0, .ref 46), (1, .int x1)] [] σ
  refine AW.aload_n dX10_revoke_0 (.refl 1) 0 rfl ?_
  refine AW.iload_n dX10_revoke_1 (.refl 2) 1 rfl ?_
  obtain ⟨r2, e1, h⟩ := b1_s h
  refine AW.callV (r' := (some (.int r2))) (σ' := σ) (rest := []) lm_X10_174 (c_X10_isBidder e1) (by decide) (by decide) rfl rfl (by decide) rfl rfl (Nat.le_of_ble_eq_true rfl) dX10_revoke_2 (.refl 5) (st' := [.int r2]) rfl ?_
  refine AW.if_ne (tgt := 10) dX10_revoke_5 (by decide) (fun c12 => ?_) (fun c12 => ?_)
  · have h := ifn c12 h
    refine AW.aload_n dX10_revoke_10 (.refl 11) 0 rfl ?_
    refine AW.getR (z := 52) lk_X10_25 rfl rfl (by decide) rfl dX10_revoke_11 (.refl 14) ?_
    refine AW.iload_n dX10_revoke_14 (.refl 15) 1 rfl ?_
    obtain ⟨g3, h⟩ := gd_s h
    refine AW.iaload rfl g3 dX10_revoke_15 (.refl 16) ?_
    refine AW.bipush (v := (-9 : Int32)) dX10_revoke_16 (.refl 18) (by decide) ?_
    refine AW.icmp_ne (tgt := 24) dX10_revoke_18 (by decide) (fun c11 => ?_) (fun c11 => ?_)
    · have h := ifn c11 h
      refine AW.aload_n dX10_revoke_24 (.refl 25) 0 rfl ?_
      obtain ⟨τ5, e4, h⟩ := b1_s h
      refine AW.callV (r' := none) (σ' := τ5) (rest := []) lm_X10_193 (c_X10_keepAct e4) (by decide) (by decide) rfl rfl (by decide) rfl rfl (Nat.le_of_ble_eq_true rfl) dX10_revoke_25 (.refl 28) (st' := []) rfl ?_
      refine AW.aload_n dX10_revoke_28 (.refl 29) 0 rfl ?_
      refine AW.getR (z := 52) lk_X10_25 rfl rfl (by decide) rfl dX10_revoke_29 (.refl 32) ?_
      refine AW.iload_n dX10_revoke_32 (.refl 33) 1 rfl ?_
      refine AW.bipush (v := (-9 : Int32)) dX10_revoke_33 (.refl 35) (by decide) ?_
      obtain ⟨g6, h⟩ := gd_s h
      refine AW.iastore rfl g6 dX10_revoke_35 (.refl 36) ?_
      refine AW.aload_n dX10_revoke_36 (.refl 37) 0 rfl ?_
      refine AW.aload_n dX10_revoke_37 (.refl 38) 0 rfl ?_
      obtain ⟨r8, e7, h⟩ := b1_s h
      refine AW.callV (r' := (some (.int r8))) (σ' := (sI τ5 52 (x1).toNatClampNeg (-9 : Int32))) (rest := [.ref 46]) lm_X10_196 (c_X10_letNow e7) (by decide) (by decide) rfl rfl (by decide) rfl rfl (Nat.le_of_ble_eq_true rfl) dX10_revoke_38 (.refl 41) (st' := [.int r8, .ref 46]) rfl ?_
      obtain ⟨r10, e9, h⟩ := b1_s h
      refine AW.callV (r' := (some (.int r10))) (σ' := (sI τ5 52 (x1).toNatClampNeg (-9 : Int32))) (rest := []) lm_X10_199 (c_X10_coinsOf e9) (by decide) (by decide) rfl rfl (by decide) rfl rfl (Nat.le_of_ble_eq_true rfl) dX10_revoke_41 (.refl 44) (st' := [.int r10]) rfl ?_
      cases h
      exact AW.ireturn rfl dX10_revoke_44
    · have h := ifp c11 h
      refine AW.bipush (v := (-3 : Int32)) dX10_revoke_21 (.refl 23) (by decide) ?_
      cases h
      exact AW.ireturn rfl dX10_revoke_23
  · have h := ifp c12 h
    refine AW.iconst (v := (-1 : Int32)) dX10_revoke_8 (.refl 9) (by decide) ?_
    cases h
    exact AW.ireturn rfl dX10_revoke_9
def f_X10_move (x1 : Int32) (x2 : Int32) (σ : Mm) : Option (Int32 × Mm) := b1 (f_X10_isBidder σ x1) (fun (r2 : Int32) => (if r2 = 0 then some ((-1 : Int32), σ) else b1 (f_X10_in σ x2.toInt64 (0 : Int64) (9 : Int64)) (fun (r4 : Int32) => (if r4 = 0 then some ((-2 : Int32), σ) else gd (inB x1 5) ((if (σ.1 52 (x1).toNatClampNeg) = (-9 : Int32) then some ((-3 : Int32), σ) else gd (inB x1 5) ((if (σ.1 52 (x1).toNatClampNeg) = x2 then some ((-3 : Int32), σ) else b1 (f_X10_canBe σ x1 x2) (fun (r8 : Int32) => (if r8 = 0 then some ((-3 : Int32), σ) else b1 (f_X10_keepAct σ) (fun (τ10 : Mm) => gd (inB x1 5) (gd (inB x1 5) (some ((τ10.1 52 (x1).toNatClampNeg), (sI τ10 52 (x1).toNatClampNeg x2)))))))))))))))
set_option maxRecDepth 20000 in
theorem c_X10_move {l : Launch} {G : Gg} {x1 : Int32} {x2 : Int32} {σ : Mm} {v : Int32} {τ : Mm} (h : f_X10_move x1 x2 σ = some (v, τ)) : MR l G 5 M_X10_move [.ref 46, .int x1, .int x2] σ (some (.int v)) τ := by
  unfold f_X10_move at h
  refine MR.of (by decide +kernel) (Nat.le_of_ble_eq_true rfl) ?_
  show AW l G 5 M_X10_move (some (.int v)) τ 0 [(0, .ref 46), (1, .int x1), (2, .int x2)] [] σ
  refine AW.aload_n dX10_move_0 (.refl 1) 0 rfl ?_
  refine AW.iload_n dX10_move_1 (.refl 2) 1 rfl ?_
  obtain ⟨r2, e1, h⟩ := b1_s h
  refine AW.callV (r' := (some (.int r2))) (σ' := σ) (rest := []) lm_X10_174 (c_X10_isBidder e1) (by decide) (by decide) rfl rfl (by decide) rfl rfl (Nat.le_of_ble_eq_true rfl) dX10_move_2 (.refl 5) (st' := [.int r2]) rfl ?_
  refine AW.if_ne (tgt := 10) dX10_move_5 (by decide) (fun c17 => ?_) (fun c17 => ?_)
  · have h := ifn c17 h
    refine AW.iload_n dX10_move_10 (.refl 11) 2 rfl ?_
    refine AW.i2l dX10_move_11 (.refl 12) ?_
    refine AW.lconst (v := (0 : Int64)) dX10_move_12 (.refl 13) (by decide) ?_
    refine AW.ldc2_w lc_X10_182 dX10_move_13 (.refl 16) ?_
    obtain ⟨r4, e3, h⟩ := b1_s h
    refine AW.callS (r' := (some (.int r4))) (σ' := σ) (rest := []) lm_X10_97 (c_X10_in e3) (by decide) (by decide) rfl rfl (Nat.le_of_ble_eq_true rfl) dX10_move_16 (.refl 19) (st' := [.int r4]) rfl ?_
    refine AW.if_ne (tgt := 25) dX10_move_19 (by decide) (fun c16 => ?_) (fun c16 => ?_)
    · have h := ifn c16 h
      refine AW.aload_n dX10_move_25 (.refl 26) 0 rfl ?_
      refine AW.getR (z := 52) lk_X10_25 rfl rfl (by decide) rfl dX10_move_26 (.refl 29) ?_
      refine AW.iload_n dX10_move_29 (.refl 30) 1 rfl ?_
      obtain ⟨g5, h⟩ := gd_s h
      refine AW.iaload rfl g5 dX10_move_30 (.refl 31) ?_
      refine AW.bipush (v := (-9 : Int32)) dX10_move_31 (.refl 33) (by decide) ?_
      refine AW.icmp_eq (tgt := 55) dX10_move_33 (by decide) (fun c15 => ?_) (fun c15 => ?_)
      · have h := ifp c15 h
        refine AW.bipush (v := (-3 : Int32)) dX10_move_55 (.refl 57) (by decide) ?_
        cases h
        exact AW.ireturn rfl dX10_move_57
      · have h := ifn c15 h
        refine AW.aload_n dX10_move_36 (.refl 37) 0 rfl ?_
        refine AW.getR (z := 52) lk_X10_25 rfl rfl (by decide) rfl dX10_move_37 (.refl 40) ?_
        refine AW.iload_n dX10_move_40 (.refl 41) 1 rfl ?_
        obtain ⟨g6, h⟩ := gd_s h
        refine AW.iaload rfl g6 dX10_move_41 (.refl 42) ?_
        refine AW.iload_n dX10_move_42 (.refl 43) 2 rfl ?_
        refine AW.icmp_eq (tgt := 55) dX10_move_43 (by decide) (fun c14 => ?_) (fun c14 => ?_)
        · have h := ifp c14 h
          refine AW.bipush (v := (-3 : Int32)) dX10_move_55 (.refl 57) (by decide) ?_
          cases h
          exact AW.ireturn rfl dX10_move_57
        · have h := ifn c14 h
          refine AW.aload_n dX10_move_46 (.refl 47) 0 rfl ?_
          refine AW.iload_n dX10_move_47 (.refl 48) 1 rfl ?_
          refine AW.iload_n dX10_move_48 (.refl 49) 2 rfl ?_
          obtain ⟨r8, e7, h⟩ := b1_s h
          refine AW.callV (r' := (some (.int r8))) (σ' := σ) (rest := []) lm_X10_190 (c_X10_canBe e7) (by decide) (by decide) rfl rfl (by decide) rfl rfl (Nat.le_of_ble_eq_true rfl) dX10_move_49 (.refl 52) (st' := [.int r8]) rfl ?_
          refine AW.if_ne (tgt := 58) dX10_move_52 (by decide) (fun c13 => ?_) (fun c13 => ?_)
          · have h := ifn c13 h
            refine AW.aload_n dX10_move_58 (.refl 59) 0 rfl ?_
            obtain ⟨τ10, e9, h⟩ := b1_s h
            refine AW.callV (r' := none) (σ' := τ10) (rest := []) lm_X10_193 (c_X10_keepAct e9) (by decide) (by decide) rfl rfl (by decide) rfl rfl (Nat.le_of_ble_eq_true rfl) dX10_move_59 (.refl 62) (st' := []) rfl ?_
            refine AW.aload_n dX10_move_62 (.refl 63) 0 rfl ?_
            refine AW.getR (z := 52) lk_X10_25 rfl rfl (by decide) rfl dX10_move_63 (.refl 66) ?_
            refine AW.iload_n dX10_move_66 (.refl 67) 1 rfl ?_
            obtain ⟨g11, h⟩ := gd_s h
            refine AW.iaload rfl g11 dX10_move_67 (.refl 68) ?_
            refine AW.istore_n (L' := [(3, .int (τ10.1 52 (x1).toNatClampNeg)), (0, .ref 46), (1, .int x1), (2, .int x2)]) dX10_move_68 (.refl 69) (by decide) rfl ?_
            refine AW.aload_n dX10_move_69 (.refl 70) 1 rfl ?_
            refine AW.getR (z := 52) lk_X10_25 rfl rfl (by decide) rfl dX10_move_70 (.refl 73) ?_
            refine AW.iload_n dX10_move_73 (.refl 74) 2 rfl ?_
            refine AW.iload_n dX10_move_74 (.refl 75) 3 rfl ?_
            obtain ⟨g12, h⟩ := gd_s h
            refine AW.iastore rfl g12 dX10_move_75 (.refl 76) ?_
            refine AW.iload_n dX10_move_76 (.refl 77) 0 rfl ?_
            cases h
            exact AW.ireturn rfl dX10_move_77
          · have h := ifp c13 h
            refine AW.bipush (v := (-3 : Int32)) dX10_move_55 (.refl 57) (by decide) ?_
            cases h
            exact AW.ireturn rfl dX10_move_57
    · have h := ifp c16 h
      refine AW.bipush (v := (-2 : Int32)) dX10_move_22 (.refl 24) (by decide) ?_
      cases h
      exact AW.ireturn rfl dX10_move_24
  · have h := ifp c17 h
    refine AW.iconst (v := (-1 : Int32)) dX10_move_8 (.refl 9) (by decide) ?_
    cases h
    exact AW.ireturn rfl dX10_move_9
def f_X10_undo_p36 : Nat → Int32 → Mm → Option (Int32 × Mm)
  | 0, _, _ => none
  | n + 1, x1, σ => (if (5 : Int32) ≤ x1 then some ((σ.1 46 14), σ) else gd (inB (((5 : Int32) * (σ.1 46 15)) + x1) 80) (gd (inB x1 5) (bnd ((sI σ 52 (x1).toNatClampNeg (σ.1 54 ((((5 : Int32) * (σ.1 46 15)) + x1)).toNatClampNeg))) (fun (σ3 : Mm) => (f_X10_undo_p36 n) (x1 + (1 : Int32)) σ3))))
def f_X10_undo  (σ : Mm) : Option (Int32 × Mm) := (if (σ.1 46 14) = 0 then some ((-3 : Int32), σ) else bnd ((sI (sI σ 46 14 ((σ.1 46 14) - (1 : Int32))) 46 15 (jrem (((sI σ 46 14 ((σ.1 46 14) - (1 : Int32))).1 46 15) + (15 : Int32)) (16 : Int32)))) (fun (σ1 : Mm) => f_X10_undo_p36 FU (0 : Int32) σ1))
set_option maxRecDepth 20000 in
theorem a_X10_undo_p36 {l : Launch} {G : Gg} {v : Int32} {τ : Mm} : ∀ (n : Nat) (x1 : Int32) (σ : Mm), f_X10_undo_p36 n x1 σ = some (v, τ) → AW l G 0 M_X10_undo (some (.int v)) τ 36 [(0, .ref 46), (1, .int x1)] [] σ := by
  intro n
  induction n with
  | zero => intro x1 σ h; exact no_some h
  | succ n ih =>
    intro x1 σ h
    rw [f_X10_undo_p36] at h
    refine AW.iload_n dX10_undo_36 (.refl 37) 1 rfl ?_
    refine AW.iconst (v := (5 : Int32)) dX10_undo_37 (.refl 38) (by decide) ?_
    refine AW.icmp_ge (tgt := 66) dX10_undo_38 (by decide) (fun c5 => ?_) (fun c5 => ?_)
    · have h := ifp c5 h
      refine AW.aload_n dX10_undo_66 (.refl 67) 0 rfl ?_
      refine AW.getI lk_X10_138 rfl rfl (by decide) dX10_undo_67 (.refl 70) ?_
      cases h
      exact AW.ireturn rfl dX10_undo_70
    · have h := ifn c5 h
      refine AW.aload_n dX10_undo_41 (.refl 42) 0 rfl ?_
      refine AW.getR (z := 52) lk_X10_25 rfl rfl (by decide) rfl dX10_undo_42 (.refl 45) ?_
      refine AW.iload_n dX10_undo_45 (.refl 46) 1 rfl ?_
      refine AW.aload_n dX10_undo_46 (.refl 47) 0 rfl ?_
      refine AW.getR (z := 54) lk_X10_31 rfl rfl (by decide) rfl dX10_undo_47 (.refl 50) ?_
      refine AW.iconst (v := (5 : Int32)) dX10_undo_50 (.refl 51) (by decide) ?_
      refine AW.aload_n dX10_undo_51 (.refl 52) 0 rfl ?_
      refine AW.getI lk_X10_187 rfl rfl (by decide) dX10_undo_52 (.refl 55) ?_
      refine AW.imul dX10_undo_55 (.refl 56) ?_
      refine AW.iload_n dX10_undo_56 (.refl 57) 1 rfl ?_
      refine AW.iadd dX10_undo_57 (.refl 58) ?_
      obtain ⟨g1, h⟩ := gd_s h
      refine AW.iaload rfl g1 dX10_undo_58 (.refl 59) ?_
      obtain ⟨g2, h⟩ := gd_s h
      refine AW.iastore rfl g2 dX10_undo_59 (.refl 60) ?_
      obtain ⟨σ3, e4, h⟩ := bnd_s h
      refine AW.nmM e4 ?_
      refine AW.iinc (v := (x1 + (1 : Int32))) (L' := [(1, .int (x1 + (1 : Int32))), (0, .ref 46)]) dX10_undo_60 (.refl 63) 1 rfl rfl (by decide) rfl ?_
      refine AW.goto (tgt := 36) dX10_undo_63 (by decide) ?_
      refine AW.sub (L' := [(0, .ref 46), (1, .int (x1 + (1 : Int32)))]) [1, 0] rfl ?_
      exact ih (x1 + (1 : Int32)) σ3 h
set_option maxRecDepth 20000 in
theorem c_X10_undo {l : Launch} {G : Gg}  {σ : Mm} {v : Int32} {τ : Mm} (h : f_X10_undo  σ = some (v, τ)) : MR l G 0 M_X10_undo [.ref 46] σ (some (.int v)) τ := by
  unfold f_X10_undo at h
  refine MR.of (by decide +kernel) (Nat.le_of_ble_eq_true rfl) ?_
  show AW l G 0 M_X10_undo (some (.int v)) τ 0 [(0, .ref 46)] [] σ
  refine AW.aload_n dX10_undo_0 (.refl 1) 0 rfl ?_
  refine AW.getI lk_X10_138 rfl rfl (by decide) dX10_undo_1 (.refl 4) ?_
  refine AW.if_ne (tgt := 10) dX10_undo_4 (by decide) (fun c3 => ?_) (fun c3 => ?_)
  · have h := ifn c3 h
    refine AW.aload_n dX10_undo_10 (.refl 11) 0 rfl ?_
    refine AW.dup dX10_undo_11 (.refl 12) rfl ?_
    refine AW.getI lk_X10_138 rfl rfl (by decide) dX10_undo_12 (.refl 15) ?_
    refine AW.iconst (v := (1 : Int32)) dX10_undo_15 (.refl 16) (by decide) ?_
    refine AW.isub dX10_undo_16 (.refl 17) ?_
    refine AW.putI lp_X10_138 rfl rfl (by decide) dX10_undo_17 (.refl 20) ?_
    refine AW.aload_n dX10_undo_20 (.refl 21) 0 rfl ?_
    refine AW.aload_n dX10_undo_21 (.refl 22) 0 rfl ?_
    refine AW.getI lk_X10_187 rfl rfl (by decide) dX10_undo_22 (.refl 25) ?_
    refine AW.bipush (v := (15 : Int32)) dX10_undo_25 (.refl 27) (by decide) ?_
    refine AW.iadd dX10_undo_27 (.refl 28) ?_
    refine AW.bipush (v := (16 : Int32)) dX10_undo_28 (.refl 30) (by decide) ?_
    refine AW.irem dX10_undo_30 (.refl 31) (by decide) ?_
    refine AW.putI lp_X10_187 rfl rfl (by decide) dX10_undo_31 (.refl 34) ?_
    obtain ⟨σ1, e2, h⟩ := bnd_s h
    refine AW.nmM e2 ?_
    refine AW.iconst (v := (0 : Int32)) dX10_undo_34 (.refl 35) (by decide) ?_
    refine AW.istore_n (L' := [(1, .int (0 : Int32)), (0, .ref 46)]) dX10_undo_35 (.refl 36) (by decide) rfl ?_
    refine AW.sub (L' := [(0, .ref 46), (1, .int (0 : Int32))]) [1, 0] rfl ?_
    exact a_X10_undo_p36 FU (0 : Int32) σ1 h
  · have h := ifp c3 h
    refine AW.bipush (v := (-3 : Int32)) dX10_undo_7 (.refl 9) (by decide) ?_
    cases h
    exact AW.ireturn rfl dX10_undo_9
def f_X10_clashAt_p76 (σ : Mm) (x2 : Int32) (x4 : Int32) : Option (Int32) := gd (inB x2 50) (gd (inB x4 50) ((if ((σ.1 60 (x2).toNatClampNeg) &&& (σ.1 60 (x4).toNatClampNeg)) = 0 then some (0 : Int32) else some (1 : Int32))))
def f_X10_clashAt_p60 (σ : Mm) (x1 : Int32) (x2 : Int32) (x3 : Int32) (x4 : Int32) : Option (Int32) := b1 (f_X10_isQuiet σ x1) (fun (r2 : Int32) => (if r2 = 0 then (f_X10_clashAt_p76 σ) x2 x4 else b1 (f_X10_isQuiet σ x3) (fun (r4 : Int32) => (if r4 = 0 then (f_X10_clashAt_p76 σ) x2 x4 else some (0 : Int32)))))
def f_X10_clashAt (σ : Mm) (x1 : Int32) (x2 : Int32) (x3 : Int32) (x4 : Int32) : Option (Int32) := b1 (f_X10_isQuiet σ x1) (fun (r2 : Int32) => (if r2 = 0 then b1 (f_X10_isQuiet σ x3) (fun (r4 : Int32) => (if r4 = 0 then gd (inB ((6 : Int32) * x1) 30) (gd (inB ((6 : Int32) * x3) 30) ((if (σ.1 49 (((6 : Int32) * x1)).toNatClampNeg) = (σ.1 49 (((6 : Int32) * x3)).toNatClampNeg) then gd (inB x2 50) (gd (inB x4 50) ((if ((σ.1 61 (x2).toNatClampNeg) &&& (σ.1 61 (x4).toNatClampNeg)) = 0 then some (0 : Int32) else some (1 : Int32)))) else some (0 : Int32)))) else (f_X10_clashAt_p60 σ) x1 x2 x3 x4)) else (f_X10_clashAt_p60 σ) x1 x2 x3 x4))
set_option maxRecDepth 20000 in
theorem a_X10_clashAt_p76 {l : Launch} {G : Gg} {v : Int32} {σ : Mm} (x2 : Int32) (x4 : Int32) (h : f_X10_clashAt_p76 σ x2 x4 = some v) : AW l G 1 M_X10_clashAt (some (.int v)) σ 76 [(0, .ref 46), (2, .int x2), (4, .int x4)] [] σ := by
  unfold f_X10_clashAt_p76 at h
  refine AW.aload_n dX10_clashAt_76 (.refl 77) 0 rfl ?_
  refine AW.getR (z := 60) lk_X10_50 rfl rfl (by decide) rfl dX10_clashAt_77 (.refl 80) ?_
  refine AW.iload_n dX10_clashAt_80 (.refl 81) 1 rfl ?_
  obtain ⟨g1, h⟩ := gd_s h
  refine AW.iaload rfl g1 dX10_clashAt_81 (.refl 82) ?_
  refine AW.aload_n dX10_clashAt_82 (.refl 83) 0 rfl ?_
  refine AW.getR (z := 60) lk_X10_50 rfl rfl (by decide) rfl dX10_clashAt_83 (.refl 86) ?_
  refine AW.iload dX10_clashAt_86 (.refl 88) 2 rfl ?_
  obtain ⟨g2, h⟩ := gd_s h
  refine AW.iaload rfl g2 dX10_clashAt_88 (.refl 89) ?_
  refine AW.iand dX10_clashAt_89 (.refl 90) ?_
  refine AW.if_eq (tgt := 97) dX10_clashAt_90 (by decide) (fun c3 => ?_) (fun c3 => ?_)
  · have h := ifp c3 h
    refine AW.iconst (v := (0 : Int32)) dX10_clashAt_97 (.refl 98) (by decide) ?_
    cases h
    exact AW.zreturn rfl (by decide) dX10_clashAt_98
  · have h := ifn c3 h
    refine AW.iconst (v := (1 : Int32)) dX10_clashAt_93 (.refl 94) (by decide) ?_
    refine AW.goto (tgt := 98) dX10_clashAt_94 (by decide) ?_
    cases h
    exact AW.zreturn rfl (by decide) dX10_clashAt_98
set_option maxRecDepth 20000 in
theorem a_X10_clashAt_p60 {l : Launch} {G : Gg} {v : Int32} {σ : Mm} (x1 : Int32) (x2 : Int32) (x3 : Int32) (x4 : Int32) (h : f_X10_clashAt_p60 σ x1 x2 x3 x4 = some v) : AW l G 1 M_X10_clashAt (some (.int v)) σ 60 [(0, .ref 46), (1, .int x1), (2, .int x2), (3, .int x3), (4, .int x4)] [] σ := by
  unfold f_X10_clashAt_p60 at h
  refine AW.aload_n dX10_clashAt_60 (.refl 61) 0 rfl ?_
  refine AW.iload_n dX10_clashAt_61 (.refl 62) 1 rfl ?_
  obtain ⟨r2, e1, h⟩ := b1_s h
  refine AW.callV (r' := (some (.int r2))) (σ' := σ) (rest := []) lm_X10_141 (c_X10_isQuiet e1) (by decide) (by decide) rfl rfl (by decide) rfl rfl (Nat.le_of_ble_eq_true rfl) dX10_clashAt_62 (.refl 65) (st' := [.int r2]) rfl ?_
  refine AW.if_eq (tgt := 76) dX10_clashAt_65 (by decide) (fun c6 => ?_) (fun c6 => ?_)
  · have h := ifp c6 h
    refine AW.sub (L' := [(0, .ref 46), (2, .int x2), (4, .int x4)]) [0, 2, 4] rfl ?_
    exact (a_X10_clashAt_p76) x2 x4 h
  · have h := ifn c6 h
    refine AW.aload_n dX10_clashAt_68 (.refl 69) 0 rfl ?_
    refine AW.iload_n dX10_clashAt_69 (.refl 70) 3 rfl ?_
    obtain ⟨r4, e3, h⟩ := b1_s h
    refine AW.callV (r' := (some (.int r4))) (σ' := σ) (rest := []) lm_X10_141 (c_X10_isQuiet e3) (by decide) (by decide) rfl rfl (by decide) rfl rfl (Nat.le_of_ble_eq_true rfl) dX10_clashAt_70 (.refl 73) (st' := [.int r4]) rfl ?_
    refine AW.if_ne (tgt := 97) dX10_clashAt_73 (by decide) (fun c5 => ?_) (fun c5 => ?_)
    · have h := ifn c5 h
      refine AW.iconst (v := (0 : Int32)) dX10_clashAt_97 (.refl 98) (by decide) ?_
      cases h
      exact AW.zreturn rfl (by decide) dX10_clashAt_98
    · have h := ifp c5 h
      refine AW.sub (L' := [(0, .ref 46), (2, .int x2), (4, .int x4)]) [0, 2, 4] rfl ?_
      exact (a_X10_clashAt_p76) x2 x4 h
set_option maxRecDepth 20000 in
theorem c_X10_clashAt {l : Launch} {G : Gg} {x1 : Int32} {x2 : Int32} {x3 : Int32} {x4 : Int32} {σ : Mm} {v : Int32} (h : f_X10_clashAt σ x1 x2 x3 x4 = some v) : MR l G 1 M_X10_clashAt [.ref 46, .int x1, .int x2, .int x3, .int x4] σ (some (.int v)) σ := by
  unfold f_X10_clashAt at h
  refine MR.of (by decide +kernel) (Nat.le_of_ble_eq_true rfl) ?_
  show AW l G 1 M_X10_clashAt (some (.int v)) σ 0 [(0, .ref 46), (1, .int x1), (2, .int x2), (3, .int x3), (4, .int x4)] [] σ
  refine AW.aload_n dX10_clashAt_0 (.refl 1) 0 rfl ?_
  refine AW.iload_n dX10_clashAt_1 (.refl 2) 1 rfl ?_
  obtain ⟨r2, e1, h⟩ := b1_s h
  refine AW.callV (r' := (some (.int r2))) (σ' := σ) (rest := []) lm_X10_141 (c_X10_isQuiet e1) (by decide) (by decide) rfl rfl (by decide) rfl rfl (Nat.le_of_ble_eq_true rfl) dX10_clashAt_2 (.refl 5) (st' := [.int r2]) rfl ?_
  refine AW.if_ne (tgt := 60) dX10_clashAt_5 (by decide) (fun c12 => ?_) (fun c12 => ?_)
  · have h := ifn c12 h
    exact (a_X10_clashAt_p60) x1 x2 x3 x4 h
  · have h := ifp c12 h
    refine AW.aload_n dX10_clashAt_8 (.refl 9) 0 rfl ?_
    refine AW.iload_n dX10_clashAt_9 (.refl 10) 3 rfl ?_
    obtain ⟨r4, e3, h⟩ := b1_s h
    refine AW.callV (r' := (some (.int r4))) (σ' := σ) (rest := []) lm_X10_141 (c_X10_isQuiet e3) (by decide) (by decide) rfl rfl (by decide) rfl rfl (Nat.le_of_ble_eq_true rfl) dX10_clashAt_10 (.refl 13) (st' := [.int r4]) rfl ?_
    refine AW.if_ne (tgt := 60) dX10_clashAt_13 (by decide) (fun c11 => ?_) (fun c11 => ?_)
    · have h := ifn c11 h
      exact (a_X10_clashAt_p60) x1 x2 x3 x4 h
    · have h := ifp c11 h
      refine AW.aload_n dX10_clashAt_16 (.refl 17) 0 rfl ?_
      refine AW.getR (z := 49) lk_X10_16 rfl rfl (by decide) rfl dX10_clashAt_17 (.refl 20) ?_
      refine AW.bipush (v := (6 : Int32)) dX10_clashAt_20 (.refl 22) (by decide) ?_
      refine AW.iload_n dX10_clashAt_22 (.refl 23) 1 rfl ?_
      refine AW.imul dX10_clashAt_23 (.refl 24) ?_
      obtain ⟨g5, h⟩ := gd_s h
      refine AW.iaload rfl g5 dX10_clashAt_24 (.refl 25) ?_
      refine AW.aload_n dX10_clashAt_25 (.refl 26) 0 rfl ?_
      refine AW.getR (z := 49) lk_X10_16 rfl rfl (by decide) rfl dX10_clashAt_26 (.refl 29) ?_
      refine AW.bipush (v := (6 : Int32)) dX10_clashAt_29 (.refl 31) (by decide) ?_
      refine AW.iload_n dX10_clashAt_31 (.refl 32) 3 rfl ?_
      refine AW.imul dX10_clashAt_32 (.refl 33) ?_
      obtain ⟨g6, h⟩ := gd_s h
      refine AW.iaload rfl g6 dX10_clashAt_33 (.refl 34) ?_
      refine AW.icmp_ne (tgt := 58) dX10_clashAt_34 (by decide) (fun c10 => ?_) (fun c10 => ?_)
      · have h := ifn c10 h
        refine AW.iconst (v := (0 : Int32)) dX10_clashAt_58 (.refl 59) (by decide) ?_
        cases h
        exact AW.zreturn rfl (by decide) dX10_clashAt_59
      · have h := ifp c10 h
        refine AW.aload_n dX10_clashAt_37 (.refl 38) 0 rfl ?_
        refine AW.getR (z := 61) lk_X10_53 rfl rfl (by decide) rfl dX10_clashAt_38 (.refl 41) ?_
        refine AW.iload_n dX10_clashAt_41 (.refl 42) 2 rfl ?_
        obtain ⟨g7, h⟩ := gd_s h
        refine AW.iaload rfl g7 dX10_clashAt_42 (.refl 43) ?_
        refine AW.aload_n dX10_clashAt_43 (.refl 44) 0 rfl ?_
        refine AW.getR (z := 61) lk_X10_53 rfl rfl (by decide) rfl dX10_clashAt_44 (.refl 47) ?_
        refine AW.iload dX10_clashAt_47 (.refl 49) 4 rfl ?_
        obtain ⟨g8, h⟩ := gd_s h
        refine AW.iaload rfl g8 dX10_clashAt_49 (.refl 50) ?_
        refine AW.iand dX10_clashAt_50 (.refl 51) ?_
        refine AW.if_eq (tgt := 58) dX10_clashAt_51 (by decide) (fun c9 => ?_) (fun c9 => ?_)
        · have h := ifp c9 h
          refine AW.iconst (v := (0 : Int32)) dX10_clashAt_58 (.refl 59) (by decide) ?_
          cases h
          exact AW.zreturn rfl (by decide) dX10_clashAt_59
        · have h := ifn c9 h
          refine AW.iconst (v := (1 : Int32)) dX10_clashAt_54 (.refl 55) (by decide) ?_
          refine AW.goto (tgt := 59) dX10_clashAt_55 (by decide) ?_
          cases h
          exact AW.zreturn rfl (by decide) dX10_clashAt_59
def f_X10_mayHave_p70 (σ : Mm) : Nat → Int32 → Int32 → Int32 → Int32 → Option (Int32)
  | 0, _, _, _, _ => none
  | n + 1, x1, x3, x4, x5 => (if x1 ≤ x5 then gd (decide (x4 &&& 1 = x4)) (some x4) else (if x4 = 0 then gd (decide (x4 &&& 1 = x4)) (some x4) else gd (inB x5 5) ((if (σ.1 55 (x5).toNatClampNeg) = 0 then (f_X10_mayHave_p70 σ n) x1 x3 (1 : Int32) (x5 + (1 : Int32)) else gd (inB x5 5) (b1 (f_X10_clashAt σ x1 x3 x5 ((((10 : Int32) * x5) + (σ.1 55 (x5).toNatClampNeg)) - (1 : Int32))) (fun (r6 : Int32) => (if r6 = 0 then (f_X10_mayHave_p70 σ n) x1 x3 (1 : Int32) (x5 + (1 : Int32)) else (f_X10_mayHave_p70 σ n) x1 x3 (0 : Int32) (x5 + (1 : Int32)))))))))
def f_X10_mayHave_p34 (σ : Mm) (x1 : Int32) : Option (Int32) := gd (inB x1 5) ((if (σ.1 55 (x1).toNatClampNeg) = 0 then some (1 : Int32) else gd (inB x1 5) (bnd (((((10 : Int32) * x1) + (σ.1 55 (x1).toNatClampNeg)) - (1 : Int32))) (fun (y3 : Int32) => gd (inB y3 50) (f_X10_mayHave_p70 σ FU x1 y3 (σ.1 59 (y3).toNatClampNeg) (0 : Int32))))))
def f_X10_mayHave (σ : Mm) (x1 : Int32) (x2 : Int32) : Option (Int32) := (if x2 = 0 then (f_X10_mayHave_p34 σ) x1 else gd (inB x1 5) ((if (σ.1 52 (x1).toNatClampNeg) = (-9 : Int32) then (f_X10_mayHave_p34 σ) x1 else gd (inB x1 5) (gd (inB x1 5) ((if (σ.1 55 (x1).toNatClampNeg) = ((σ.1 52 (x1).toNatClampNeg) + (1 : Int32)) then (f_X10_mayHave_p34 σ) x1 else some (0 : Int32)))))))
set_option maxRecDepth 20000 in
theorem a_X10_mayHave_p70 {l : Launch} {G : Gg} {v : Int32} {σ : Mm} : ∀ (n : Nat) (x1 : Int32) (x3 : Int32) (x4 : Int32) (x5 : Int32), f_X10_mayHave_p70 σ n x1 x3 x4 x5 = some v → AW l G 2 M_X10_mayHave (some (.int v)) σ 70 [(0, .ref 46), (1, .int x1), (3, .int x3), (4, .int x4), (5, .int x5)] [] σ := by
  intro n
  induction n with
  | zero => intro x1 x3 x4 x5 h; exact no_some h
  | succ n ih =>
    intro x1 x3 x4 x5 h
    rw [f_X10_mayHave_p70] at h
    refine AW.iload dX10_mayHave_70 (.refl 72) 4 rfl ?_
    refine AW.iload_n dX10_mayHave_72 (.refl 73) 1 rfl ?_
    refine AW.icmp_ge (tgt := 130) dX10_mayHave_73 (by decide) (fun c10 => ?_) (fun c10 => ?_)
    · have h := ifp c10 h
      refine AW.iload dX10_mayHave_130 (.refl 132) 3 rfl ?_
      obtain ⟨g1, h⟩ := gd_s h
      cases h
      exact AW.zreturn rfl (of_decide_eq_true g1) dX10_mayHave_132
    · have h := ifn c10 h
      refine AW.iload dX10_mayHave_76 (.refl 78) 3 rfl ?_
      refine AW.if_eq (tgt := 130) dX10_mayHave_78 (by decide) (fun c9 => ?_) (fun c9 => ?_)
      · have h := ifp c9 h
        refine AW.iload dX10_mayHave_130 (.refl 132) 3 rfl ?_
        obtain ⟨g2, h⟩ := gd_s h
        cases h
        exact AW.zreturn rfl (of_decide_eq_true g2) dX10_mayHave_132
      · have h := ifn c9 h
        refine AW.aload_n dX10_mayHave_81 (.refl 82) 0 rfl ?_
        refine AW.getR (z := 55) lk_X10_34 rfl rfl (by decide) rfl dX10_mayHave_82 (.refl 85) ?_
        refine AW.iload dX10_mayHave_85 (.refl 87) 4 rfl ?_
        obtain ⟨g3, h⟩ := gd_s h
        refine AW.iaload rfl g3 dX10_mayHave_87 (.refl 88) ?_
        refine AW.if_eq (tgt := 117) dX10_mayHave_88 (by decide) (fun c8 => ?_) (fun c8 => ?_)
        · have h := ifp c8 h
          refine AW.iconst (v := (1 : Int32)) dX10_mayHave_117 (.refl 118) (by decide) ?_
          refine AW.goto (tgt := 122) dX10_mayHave_118 (by decide) ?_
          refine AW.istore (L' := [(4, .int (1 : Int32)), (0, .ref 46), (1, .int x1), (3, .int x3), (5, .int x5)]) dX10_mayHave_122 (.refl 124) (by decide) rfl ?_
          refine AW.iinc (v := (x5 + (1 : Int32))) (L' := [(5, .int (x5 + (1 : Int32))), (4, .int (1 : Int32)), (0, .ref 46), (1, .int x1), (3, .int x3)]) dX10_mayHave_124 (.refl 127) 4 rfl rfl (by decide) rfl ?_
          refine AW.goto (tgt := 70) dX10_mayHave_127 (by decide) ?_
          refine AW.sub (L' := [(0, .ref 46), (1, .int x1), (3, .int x3), (4, .int (1 : Int32)), (5, .int (x5 + (1 : Int32)))]) [2, 3, 4, 1, 0] rfl ?_
          exact ih x1 x3 (1 : Int32) (x5 + (1 : Int32)) h
        · have h := ifn c8 h
          refine AW.aload_n dX10_mayHave_91 (.refl 92) 0 rfl ?_
          refine AW.iload_n dX10_mayHave_92 (.refl 93) 1 rfl ?_
          refine AW.iload_n dX10_mayHave_93 (.refl 94) 2 rfl ?_
          refine AW.iload dX10_mayHave_94 (.refl 96) 4 rfl ?_
          refine AW.bipush (v := (10 : Int32)) dX10_mayHave_96 (.refl 98) (by decide) ?_
          refine AW.iload dX10_mayHave_98 (.refl 100) 4 rfl ?_
          refine AW.imul dX10_mayHave_100 (.refl 101) ?_
          refine AW.aload_n dX10_mayHave_101 (.refl 102) 0 rfl ?_
          refine AW.getR (z := 55) lk_X10_34 rfl rfl (by decide) rfl dX10_mayHave_102 (.refl 105) ?_
          refine AW.iload dX10_mayHave_105 (.refl 107) 4 rfl ?_
          obtain ⟨g4, h⟩ := gd_s h
          refine AW.iaload rfl g4 dX10_mayHave_107 (.refl 108) ?_
          refine AW.iadd dX10_mayHave_108 (.refl 109) ?_
          refine AW.iconst (v := (1 : Int32)) dX10_mayHave_109 (.refl 110) (by decide) ?_
          refine AW.isub dX10_mayHave_110 (.refl 111) ?_
          obtain ⟨r6, e5, h⟩ := b1_s h
          refine AW.callV (r' := (some (.int r6))) (σ' := σ) (rest := []) lm_X10_202 (c_X10_clashAt e5) (by decide) (by decide) rfl rfl (by decide) rfl rfl (Nat.le_of_ble_eq_true rfl) dX10_mayHave_111 (.refl 114) (st' := [.int r6]) rfl ?_
          refine AW.if_ne (tgt := 121) dX10_mayHave_114 (by decide) (fun c7 => ?_) (fun c7 => ?_)
          · have h := ifn c7 h
            refine AW.iconst (v := (0 : Int32)) dX10_mayHave_121 (.refl 122) (by decide) ?_
            refine AW.istore (L' := [(4, .int (0 : Int32)), (0, .ref 46), (1, .int x1), (3, .int x3), (5, .int x5)]) dX10_mayHave_122 (.refl 124) (by decide) rfl ?_
            refine AW.iinc (v := (x5 + (1 : Int32))) (L' := [(5, .int (x5 + (1 : Int32))), (4, .int (0 : Int32)), (0, .ref 46), (1, .int x1), (3, .int x3)]) dX10_mayHave_124 (.refl 127) 4 rfl rfl (by decide) rfl ?_
            refine AW.goto (tgt := 70) dX10_mayHave_127 (by decide) ?_
            refine AW.sub (L' := [(0, .ref 46), (1, .int x1), (3, .int x3), (4, .int (0 : Int32)), (5, .int (x5 + (1 : Int32)))]) [2, 3, 4, 1, 0] rfl ?_
            exact ih x1 x3 (0 : Int32) (x5 + (1 : Int32)) h
          · have h := ifp c7 h
            refine AW.iconst (v := (1 : Int32)) dX10_mayHave_117 (.refl 118) (by decide) ?_
            refine AW.goto (tgt := 122) dX10_mayHave_118 (by decide) ?_
            refine AW.istore (L' := [(4, .int (1 : Int32)), (0, .ref 46), (1, .int x1), (3, .int x3), (5, .int x5)]) dX10_mayHave_122 (.refl 124) (by decide) rfl ?_
            refine AW.iinc (v := (x5 + (1 : Int32))) (L' := [(5, .int (x5 + (1 : Int32))), (4, .int (1 : Int32)), (0, .ref 46), (1, .int x1), (3, .int x3)]) dX10_mayHave_124 (.refl 127) 4 rfl rfl (by decide) rfl ?_
            refine AW.goto (tgt := 70) dX10_mayHave_127 (by decide) ?_
            refine AW.sub (L' := [(0, .ref 46), (1, .int x1), (3, .int x3), (4, .int (1 : Int32)), (5, .int (x5 + (1 : Int32)))]) [2, 3, 4, 1, 0] rfl ?_
            exact ih x1 x3 (1 : Int32) (x5 + (1 : Int32)) h
set_option maxRecDepth 20000 in
theorem a_X10_mayHave_p34 {l : Launch} {G : Gg} {v : Int32} {σ : Mm} (x1 : Int32) (h : f_X10_mayHave_p34 σ x1 = some v) : AW l G 2 M_X10_mayHave (some (.int v)) σ 34 [(0, .ref 46), (1, .int x1)] [] σ := by
  unfold f_X10_mayHave_p34 at h
  refine AW.aload_n dX10_mayHave_34 (.refl 35) 0 rfl ?_
  refine AW.getR (z := 55) lk_X10_34 rfl rfl (by decide) rfl dX10_mayHave_35 (.refl 38) ?_
  refine AW.iload_n dX10_mayHave_38 (.refl 39) 1 rfl ?_
  obtain ⟨g1, h⟩ := gd_s h
  refine AW.iaload rfl g1 dX10_mayHave_39 (.refl 40) ?_
  refine AW.if_ne (tgt := 45) dX10_mayHave_40 (by decide) (fun c6 => ?_) (fun c6 => ?_)
  · have h := ifn c6 h
    refine AW.bipush (v := (10 : Int32)) dX10_mayHave_45 (.refl 47) (by decide) ?_
    refine AW.iload_n dX10_mayHave_47 (.refl 48) 1 rfl ?_
    refine AW.imul dX10_mayHave_48 (.refl 49) ?_
    refine AW.aload_n dX10_mayHave_49 (.refl 50) 0 rfl ?_
    refine AW.getR (z := 55) lk_X10_34 rfl rfl (by decide) rfl dX10_mayHave_50 (.refl 53) ?_
    refine AW.iload_n dX10_mayHave_53 (.refl 54) 1 rfl ?_
    obtain ⟨g2, h⟩ := gd_s h
    refine AW.iaload rfl g2 dX10_mayHave_54 (.refl 55) ?_
    refine AW.iadd dX10_mayHave_55 (.refl 56) ?_
    refine AW.iconst (v := (1 : Int32)) dX10_mayHave_56 (.refl 57) (by decide) ?_
    refine AW.isub dX10_mayHave_57 (.refl 58) ?_
    obtain ⟨y3, e4, h⟩ := bnd_s h
    refine AW.nmI e4 ?_
    refine AW.istore_n (L' := [(3, .int y3), (0, .ref 46), (1, .int x1)]) dX10_mayHave_58 (.refl 59) (by decide) rfl ?_
    refine AW.aload_n dX10_mayHave_59 (.refl 60) 1 rfl ?_
    refine AW.getR (z := 59) lk_X10_47 rfl rfl (by decide) rfl dX10_mayHave_60 (.refl 63) ?_
    refine AW.iload_n dX10_mayHave_63 (.refl 64) 0 rfl ?_
    obtain ⟨g5, h⟩ := gd_s h
    refine AW.baload rfl g5 dX10_mayHave_64 (.refl 65) ?_
    refine AW.istore (L' := [(4, .int (σ.1 59 (y3).toNatClampNeg)), (3, .int y3), (0, .ref 46), (1, .int x1)]) dX10_mayHave_65 (.refl 67) (by decide) rfl ?_
    refine AW.iconst (v := (0 : Int32)) dX10_mayHave_67 (.refl 68) (by decide) ?_
    refine AW.istore (L' := [(5, .int (0 : Int32)), (4, .int (σ.1 59 (y3).toNatClampNeg)), (3, .int y3), (0, .ref 46), (1, .int x1)]) dX10_mayHave_68 (.refl 70) (by decide) rfl ?_
    refine AW.sub (L' := [(0, .ref 46), (1, .int x1), (3, .int y3), (4, .int (σ.1 59 (y3).toNatClampNeg)), (5, .int (0 : Int32))]) [3, 4, 2, 1, 0] rfl ?_
    exact a_X10_mayHave_p70 FU x1 y3 (σ.1 59 (y3).toNatClampNeg) (0 : Int32) h
  · have h := ifp c6 h
    refine AW.iconst (v := (1 : Int32)) dX10_mayHave_43 (.refl 44) (by decide) ?_
    cases h
    exact AW.zreturn rfl (by decide) dX10_mayHave_44
set_option maxRecDepth 20000 in
theorem c_X10_mayHave {l : Launch} {G : Gg} {x1 : Int32} {x2 : Int32} {σ : Mm} {v : Int32} (h : f_X10_mayHave σ x1 x2 = some v) : MR l G 2 M_X10_mayHave [.ref 46, .int x1, .int x2] σ (some (.int v)) σ := by
  unfold f_X10_mayHave at h
  refine MR.of (by decide +kernel) (Nat.le_of_ble_eq_true rfl) ?_
  show AW l G 2 M_X10_mayHave (some (.int v)) σ 0 [(0, .ref 46), (1, .int x1), (2, .int x2)] [] σ
  refine AW.iload_n dX10_mayHave_0 (.refl 1) 2 rfl ?_
  refine AW.if_eq (tgt := 34) dX10_mayHave_1 (by decide) (fun c6 => ?_) (fun c6 => ?_)
  · have h := ifp c6 h
    refine AW.sub (L' := [(0, .ref 46), (1, .int x1)]) [0, 1] rfl ?_
    exact (a_X10_mayHave_p34) x1 h
  · have h := ifn c6 h
    refine AW.aload_n dX10_mayHave_4 (.refl 5) 0 rfl ?_
    refine AW.getR (z := 52) lk_X10_25 rfl rfl (by decide) rfl dX10_mayHave_5 (.refl 8) ?_
    refine AW.iload_n dX10_mayHave_8 (.refl 9) 1 rfl ?_
    obtain ⟨g1, h⟩ := gd_s h
    refine AW.iaload rfl g1 dX10_mayHave_9 (.refl 10) ?_
    refine AW.bipush (v := (-9 : Int32)) dX10_mayHave_10 (.refl 12) (by decide) ?_
    refine AW.icmp_eq (tgt := 34) dX10_mayHave_12 (by decide) (fun c5 => ?_) (fun c5 => ?_)
    · have h := ifp c5 h
      refine AW.sub (L' := [(0, .ref 46), (1, .int x1)]) [0, 1] rfl ?_
      exact (a_X10_mayHave_p34) x1 h
    · have h := ifn c5 h
      refine AW.aload_n dX10_mayHave_15 (.refl 16) 0 rfl ?_
      refine AW.getR (z := 55) lk_X10_34 rfl rfl (by decide) rfl dX10_mayHave_16 (.refl 19) ?_
      refine AW.iload_n dX10_mayHave_19 (.refl 20) 1 rfl ?_
      obtain ⟨g2, h⟩ := gd_s h
      refine AW.iaload rfl g2 dX10_mayHave_20 (.refl 21) ?_
      refine AW.aload_n dX10_mayHave_21 (.refl 22) 0 rfl ?_
      refine AW.getR (z := 52) lk_X10_25 rfl rfl (by decide) rfl dX10_mayHave_22 (.refl 25) ?_
      refine AW.iload_n dX10_mayHave_25 (.refl 26) 1 rfl ?_
      obtain ⟨g3, h⟩ := gd_s h
      refine AW.iaload rfl g3 dX10_mayHave_26 (.refl 27) ?_
      refine AW.iconst (v := (1 : Int32)) dX10_mayHave_27 (.refl 28) (by decide) ?_
      refine AW.iadd dX10_mayHave_28 (.refl 29) ?_
      refine AW.icmp_eq (tgt := 34) dX10_mayHave_29 (by decide) (fun c4 => ?_) (fun c4 => ?_)
      · have h := ifp c4 h
        refine AW.sub (L' := [(0, .ref 46), (1, .int x1)]) [0, 1] rfl ?_
        exact (a_X10_mayHave_p34) x1 h
      · have h := ifn c4 h
        refine AW.iconst (v := (0 : Int32)) dX10_mayHave_32 (.refl 33) (by decide) ?_
        cases h
        exact AW.zreturn rfl (by decide) dX10_mayHave_33
