def f_X7_append (x1 : Int32) (σ : Mm) : Option (Int32 × Mm) := (if (σ.1 1 1) < 0 then some ((-4 : Int32), σ) else (if (σ.1 1 1) < (48 : Int32) then gd (inB (σ.1 1 1) 48) (bnd ((sI (sI σ 2 ((σ.1 1 1)).toNatClampNeg x1) 1 1 (((sI σ 2 ((σ.1 1 1)).toNatClampNeg x1).1 1 1) + (1 : Int32)))) (fun (σ2 : Mm) => some ((σ2.1 1 1), σ2))) else some ((-4 : Int32), σ)))
set_option maxRecDepth 20000 in
theorem c_X7_append {l : Launch} {G : Gg} {x1 : Int32} {σ : Mm} {v : Int32} {τ : Mm} (h : f_X7_append x1 σ = some (v, τ)) : MR l G 0 M_X7_append [.ref 1, .int x1] σ (some (.int v)) τ := by
  unfold f_X7_append at h
  refine MR.of (by decide +kernel) (Nat.le_of_ble_eq_true rfl) ?_
  show AW l G 0 M_X7_append (some (.int v)) τ 0 [(0, .ref 1), (1, .int x1)] [] σ
  refine AW.aload_n dX7_append_0 (.refl 1) 0 rfl ?_
  refine AW.getI lk_X7_15 rfl rfl (by decide) dX7_append_1 (.refl 4) ?_
  refine AW.if_lt (tgt := 16) dX7_append_4 (by decide) (fun c5 => ?_) (fun c5 => ?_)
  · have h := ifp c5 h
    refine AW.bipush (v := (-4 : Int32)) dX7_append_16 (.refl 18) (by decide) ?_
    cases h
    exact AW.ireturn rfl dX7_append_18
  · have h := ifn c5 h
    refine AW.aload_n dX7_append_7 (.refl 8) 0 rfl ?_
    refine AW.getI lk_X7_15 rfl rfl (by decide) dX7_append_8 (.refl 11) ?_
    refine AW.bipush (v := (48 : Int32)) dX7_append_11 (.refl 13) (by decide) ?_
    refine AW.icmp_lt (tgt := 19) dX7_append_13 (by decide) (fun c4 => ?_) (fun c4 => ?_)
    · have h := ifp c4 h
      refine AW.aload_n dX7_append_19 (.refl 20) 0 rfl ?_
      refine AW.getR (z := 2) lk_X7_9 rfl rfl (by decide) rfl dX7_append_20 (.refl 23) ?_
      refine AW.aload_n dX7_append_23 (.refl 24) 0 rfl ?_
      refine AW.getI lk_X7_15 rfl rfl (by decide) dX7_append_24 (.refl 27) ?_
      refine AW.iload_n dX7_append_27 (.refl 28) 1 rfl ?_
      obtain ⟨g1, h⟩ := gd_s h
      refine AW.iastore rfl g1 dX7_append_28 (.refl 29) ?_
      refine AW.aload_n dX7_append_29 (.refl 30) 0 rfl ?_
      refine AW.dup dX7_append_30 (.refl 31) rfl ?_
      refine AW.getI lk_X7_15 rfl rfl (by decide) dX7_append_31 (.refl 34) ?_
      refine AW.iconst (v := (1 : Int32)) dX7_append_34 (.refl 35) (by decide) ?_
      refine AW.iadd dX7_append_35 (.refl 36) ?_
      refine AW.putI lp_X7_15 rfl rfl (by decide) dX7_append_36 (.refl 39) ?_
      obtain ⟨σ2, e3, h⟩ := bnd_s h
      refine AW.nmM e3 ?_
      refine AW.aload_n dX7_append_39 (.refl 40) 0 rfl ?_
      refine AW.getI lk_X7_15 rfl rfl (by decide) dX7_append_40 (.refl 43) ?_
      cases h
      exact AW.ireturn rfl dX7_append_43
    · have h := ifn c4 h
      refine AW.bipush (v := (-4 : Int32)) dX7_append_16 (.refl 18) (by decide) ?_
      cases h
      exact AW.ireturn rfl dX7_append_18
def f_X9_write (x1 : Int32) (σ : Mm) : Option (Int32 × Mm) := (if x1 < 0 then some ((-2 : Int32), σ) else (if x1 ≤ (255 : Int32) then b2 (f_X7_append x1 σ) (fun (r2 : Int32) (τ3 : Mm) => some (r2, τ3)) else some ((-2 : Int32), σ)))
set_option maxRecDepth 20000 in
theorem c_X9_write {l : Launch} {G : Gg} {x1 : Int32} {σ : Mm} {v : Int32} {τ : Mm} (h : f_X9_write x1 σ = some (v, τ)) : MR l G 1 M_X9_write [.ref 0, .int x1] σ (some (.int v)) τ := by
  unfold f_X9_write at h
  refine MR.of (by decide +kernel) (Nat.le_of_ble_eq_true rfl) ?_
  show AW l G 1 M_X9_write (some (.int v)) τ 0 [(0, .ref 0), (1, .int x1)] [] σ
  refine AW.iload_n dX9_write_0 (.refl 1) 1 rfl ?_
  refine AW.if_lt (tgt := 11) dX9_write_1 (by decide) (fun c5 => ?_) (fun c5 => ?_)
  · have h := ifp c5 h
    refine AW.bipush (v := (-2 : Int32)) dX9_write_11 (.refl 13) (by decide) ?_
    cases h
    exact AW.ireturn rfl dX9_write_13
  · have h := ifn c5 h
    refine AW.iload_n dX9_write_4 (.refl 5) 1 rfl ?_
    refine AW.sipush (v := (255 : Int32)) dX9_write_5 (.refl 8) (by decide) ?_
    refine AW.icmp_le (tgt := 14) dX9_write_8 (by decide) (fun c4 => ?_) (fun c4 => ?_)
    · have h := ifp c4 h
      refine AW.aload_n dX9_write_14 (.refl 15) 0 rfl ?_
      refine AW.getR (z := 1) lk_X9_10 rfl rfl (by decide) rfl dX9_write_15 (.refl 18) ?_
      refine AW.iload_n dX9_write_18 (.refl 19) 1 rfl ?_
      obtain ⟨r2, τ3, e1, h⟩ := b2_s h
      refine AW.callV (r' := (some (.int r2))) (σ' := τ3) (rest := []) lm_X9_88 (c_X7_append e1) (by decide) (by decide) rfl rfl (by decide) rfl rfl (Nat.le_of_ble_eq_true rfl) dX9_write_19 (.refl 22) (st' := [.int r2]) rfl ?_
      cases h
      exact AW.ireturn rfl dX9_write_22
    · have h := ifn c4 h
      refine AW.bipush (v := (-2 : Int32)) dX9_write_11 (.refl 13) (by decide) ?_
      cases h
      exact AW.ireturn rfl dX9_write_13
def f_X7_clear  (σ : Mm) : Option (Int32 × Mm) := some ((σ.1 1 1), (sI σ 1 1 (0 : Int32)))
set_option maxRecDepth 20000 in
theorem c_X7_clear {l : Launch} {G : Gg}  {σ : Mm} {v : Int32} {τ : Mm} (h : f_X7_clear  σ = some (v, τ)) : MR l G 0 M_X7_clear [.ref 1] σ (some (.int v)) τ := by
  unfold f_X7_clear at h
  refine MR.of (by decide +kernel) (Nat.le_of_ble_eq_true rfl) ?_
  show AW l G 0 M_X7_clear (some (.int v)) τ 0 [(0, .ref 1)] [] σ
  refine AW.aload_n dX7_clear_0 (.refl 1) 0 rfl ?_
  refine AW.getI lk_X7_15 rfl rfl (by decide) dX7_clear_1 (.refl 4) ?_
  refine AW.istore_n (L' := [(1, .int (σ.1 1 1)), (0, .ref 1)]) dX7_clear_4 (.refl 5) (by decide) rfl ?_
  refine AW.aload_n dX7_clear_5 (.refl 6) 1 rfl ?_
  refine AW.iconst (v := (0 : Int32)) dX7_clear_6 (.refl 7) (by decide) ?_
  refine AW.putI lp_X7_15 rfl rfl (by decide) dX7_clear_7 (.refl 10) ?_
  refine AW.iload_n dX7_clear_10 (.refl 11) 0 rfl ?_
  cases h
  exact AW.ireturn rfl dX7_clear_11
def f_X9_wipe  (σ : Mm) : Option (Int32 × Mm) := b2 (f_X7_clear σ) (fun (r2 : Int32) (τ3 : Mm) => some (r2, τ3))
set_option maxRecDepth 20000 in
theorem c_X9_wipe {l : Launch} {G : Gg}  {σ : Mm} {v : Int32} {τ : Mm} (h : f_X9_wipe  σ = some (v, τ)) : MR l G 1 M_X9_wipe [.ref 0] σ (some (.int v)) τ := by
  unfold f_X9_wipe at h
  refine MR.of (by decide +kernel) (Nat.le_of_ble_eq_true rfl) ?_
  show AW l G 1 M_X9_wipe (some (.int v)) τ 0 [(0, .ref 0)] [] σ
  refine AW.aload_n dX9_wipe_0 (.refl 1) 0 rfl ?_
  refine AW.getR (z := 1) lk_X9_10 rfl rfl (by decide) rfl dX9_wipe_1 (.refl 4) ?_
  obtain ⟨r2, τ3, e1, h⟩ := b2_s h
  refine AW.callV (r' := (some (.int r2))) (σ' := τ3) (rest := []) lm_X9_92 (c_X7_clear e1) (by decide) (by decide) rfl rfl (by decide) rfl rfl (Nat.le_of_ble_eq_true rfl) dX9_wipe_4 (.refl 7) (st' := [.int r2]) rfl ?_
  cases h
  exact AW.ireturn rfl dX9_wipe_7
def f_X9_at (σ : Mm) (k0 : Nat) (x1 : Int32) : Option (Int32) := (if x1 < 0 then some (-9 : Int32) else (if (Int32.ofNat (cLen k0)) ≤ x1 then some (-9 : Int32) else gd (inB x1 (cLen k0)) (some (σ.1 k0 (x1).toNatClampNeg))))
set_option maxRecDepth 20000 in
theorem c_X9_at {l : Launch} {G : Gg} {k0 : Nat} (hk0 : cTag k0 = 20) {x1 : Int32} {σ : Mm} {v : Int32} (h : f_X9_at σ k0 x1 = some v) : MR l G 0 M_X9_at [.ref k0, .int x1] σ (some (.int v)) σ := by
  unfold f_X9_at at h
  refine MR.of (by decide +kernel) (Nat.le_of_ble_eq_true rfl) ?_
  show AW l G 0 M_X9_at (some (.int v)) σ 0 [(0, .ref k0), (1, .int x1)] [] σ
  refine AW.iload_n dX9_at_0 (.refl 1) 1 rfl ?_
  refine AW.if_lt (tgt := 16) dX9_at_1 (by decide) (fun c3 => ?_) (fun c3 => ?_)
  · have h := ifp c3 h
    refine AW.bipush (v := (-9 : Int32)) dX9_at_16 (.refl 18) (by decide) ?_
    cases h
    exact AW.ireturn rfl dX9_at_18
  · have h := ifn c3 h
    refine AW.iload_n dX9_at_4 (.refl 5) 1 rfl ?_
    refine AW.aload_n dX9_at_5 (.refl 6) 0 rfl ?_
    refine AW.alen (v := (Int32.ofNat (cLen k0))) hk0 rfl dX9_at_6 (.refl 7) ?_
    refine AW.icmp_ge (tgt := 16) dX9_at_7 (by decide) (fun c2 => ?_) (fun c2 => ?_)
    · have h := ifp c2 h
      refine AW.bipush (v := (-9 : Int32)) dX9_at_16 (.refl 18) (by decide) ?_
      cases h
      exact AW.ireturn rfl dX9_at_18
    · have h := ifn c2 h
      refine AW.aload_n dX9_at_10 (.refl 11) 0 rfl ?_
      refine AW.iload_n dX9_at_11 (.refl 12) 1 rfl ?_
      obtain ⟨g1, h⟩ := gd_s h
      refine AW.iaload hk0 g1 dX9_at_12 (.refl 13) ?_
      refine AW.goto (tgt := 18) dX9_at_13 (by decide) ?_
      cases h
      exact AW.ireturn rfl dX9_at_18
def f_X7_letterAt (σ : Mm) (x1 : Int32) : Option (Int32) := (if (σ.1 1 1) ≤ x1 then some (-9 : Int32) else b1 (f_X9_at σ 2 x1) (fun (r2 : Int32) => some r2))
set_option maxRecDepth 20000 in
theorem c_X7_letterAt {l : Launch} {G : Gg} {x1 : Int32} {σ : Mm} {v : Int32} (h : f_X7_letterAt σ x1 = some v) : MR l G 1 M_X7_letterAt [.ref 1, .int x1] σ (some (.int v)) σ := by
  unfold f_X7_letterAt at h
  refine MR.of (by decide +kernel) (Nat.le_of_ble_eq_true rfl) ?_
  show AW l G 1 M_X7_letterAt (some (.int v)) σ 0 [(0, .ref 1), (1, .int x1)] [] σ
  refine AW.iload_n dX7_letterAt_0 (.refl 1) 1 rfl ?_
  refine AW.aload_n dX7_letterAt_1 (.refl 2) 0 rfl ?_
  refine AW.getI lk_X7_15 rfl rfl (by decide) dX7_letterAt_2 (.refl 5) ?_
  refine AW.icmp_ge (tgt := 19) dX7_letterAt_5 (by decide) (fun c3 => ?_) (fun c3 => ?_)
  · have h := ifp c3 h
    refine AW.bipush (v := (-9 : Int32)) dX7_letterAt_19 (.refl 21) (by decide) ?_
    cases h
    exact AW.ireturn rfl dX7_letterAt_21
  · have h := ifn c3 h
    refine AW.aload_n dX7_letterAt_8 (.refl 9) 0 rfl ?_
    refine AW.getR (z := 2) lk_X7_9 rfl rfl (by decide) rfl dX7_letterAt_9 (.refl 12) ?_
    refine AW.iload_n dX7_letterAt_12 (.refl 13) 1 rfl ?_
    obtain ⟨r2, e1, h⟩ := b1_s h
    refine AW.callN (r' := (some (.int r2))) (σ' := σ) (rest := []) lm_X7_19 (c_X9_at rfl e1) (by decide) (by decide) rfl rfl (Nat.le_of_ble_eq_true rfl) dX7_letterAt_13 (.refl 16) (st' := [.int r2]) rfl ?_
    refine AW.goto (tgt := 21) dX7_letterAt_16 (by decide) ?_
    cases h
    exact AW.ireturn rfl dX7_letterAt_21
def f_X7_figureAt (σ : Mm) (x1 : Int32) : Option (Int32) := b1 (f_X7_letterAt σ x1) (fun (r2 : Int32) => some (r2 - (48 : Int32)))
set_option maxRecDepth 20000 in
theorem c_X7_figureAt {l : Launch} {G : Gg} {x1 : Int32} {σ : Mm} {v : Int32} (h : f_X7_figureAt σ x1 = some v) : MR l G 2 M_X7_figureAt [.ref 1, .int x1] σ (some (.int v)) σ := by
  unfold f_X7_figureAt at h
  refine MR.of (by decide +kernel) (Nat.le_of_ble_eq_true rfl) ?_
  show AW l G 2 M_X7_figureAt (some (.int v)) σ 0 [(0, .ref 1), (1, .int x1)] [] σ
  refine AW.aload_n dX7_figureAt_0 (.refl 1) 0 rfl ?_
  refine AW.iload_n dX7_figureAt_1 (.refl 2) 1 rfl ?_
  obtain ⟨r2, e1, h⟩ := b1_s h
  refine AW.callV (r' := (some (.int r2))) (σ' := σ) (rest := []) lm_X7_23 (c_X7_letterAt e1) (by decide) (by decide) rfl rfl (by decide) rfl rfl (Nat.le_of_ble_eq_true rfl) dX7_figureAt_2 (.refl 5) (st' := [.int r2]) rfl ?_
  refine AW.bipush (v := (48 : Int32)) dX7_figureAt_5 (.refl 7) (by decide) ?_
  refine AW.isub dX7_figureAt_7 (.refl 8) ?_
  cases h
  exact AW.ireturn rfl dX7_figureAt_8
def f_X7_least (σ : Mm) (x0 : Int32) (x1 : Int32) (x2 : Int32) : Option (Int32) := (if x0 = (66 : Int32) then (if x1 = (1 : Int32) then some (1 : Int32) else some (0 : Int32)) else (if x0 = (80 : Int32) then (if x1 = (5 : Int32) then some x2 else (if x1 = (2 : Int32) then some (1 : Int32) else (if x1 = (6 : Int32) then some (1 : Int32) else some (0 : Int32)))) else (if x1 = (2 : Int32) then some x2 else (if x1 = (3 : Int32) then some (1 : Int32) else some (0 : Int32)))))
set_option maxRecDepth 20000 in
theorem c_X7_least {l : Launch} {G : Gg} {x0 : Int32} {x1 : Int32} {x2 : Int32} {σ : Mm} {v : Int32} (h : f_X7_least σ x0 x1 x2 = some v) : MR l G 0 M_X7_least [.int x0, .int x1, .int x2] σ (some (.int v)) σ := by
  unfold f_X7_least at h
  refine MR.of (by decide +kernel) (Nat.le_of_ble_eq_true rfl) ?_
  show AW l G 0 M_X7_least (some (.int v)) σ 0 [(0, .int x0), (1, .int x1), (2, .int x2)] [] σ
  refine AW.iload_n dX7_least_0 (.refl 1) 0 rfl ?_
  by_cases c2 : x0 = (66 : Int32)
  · have h := ifp c2 h
    refine AW.look (off := 27) (tgt := 28) dX7_least_1 (by decide) (by rw [c2]; decide) (by decide) ?_
    refine AW.iload_n dX7_least_28 (.refl 29) 1 rfl ?_
    refine AW.iconst (v := (1 : Int32)) dX7_least_29 (.refl 30) (by decide) ?_
    refine AW.icmp_ne (tgt := 37) dX7_least_30 (by decide) (fun c1 => ?_) (fun c1 => ?_)
    · have h := ifn c1 h
      refine AW.iconst (v := (0 : Int32)) dX7_least_37 (.refl 38) (by decide) ?_
      cases h
      exact AW.ireturn rfl dX7_least_38
    · have h := ifp c1 h
      refine AW.iconst (v := (1 : Int32)) dX7_least_33 (.refl 34) (by decide) ?_
      refine AW.goto (tgt := 38) dX7_least_34 (by decide) ?_
      cases h
      exact AW.ireturn rfl dX7_least_38
  have h := ifn c2 h
  by_cases c6 : x0 = (80 : Int32)
  · have h := ifp c6 h
    refine AW.look (off := 38) (tgt := 39) dX7_least_1 (by decide) (by rw [c6]; decide) (by decide) ?_
    refine AW.iload_n dX7_least_39 (.refl 40) 1 rfl ?_
    refine AW.iconst (v := (5 : Int32)) dX7_least_40 (.refl 41) (by decide) ?_
    refine AW.icmp_ne (tgt := 48) dX7_least_41 (by decide) (fun c5 => ?_) (fun c5 => ?_)
    · have h := ifn c5 h
      refine AW.iload_n dX7_least_48 (.refl 49) 1 rfl ?_
      refine AW.iconst (v := (2 : Int32)) dX7_least_49 (.refl 50) (by decide) ?_
      refine AW.icmp_eq (tgt := 59) dX7_least_50 (by decide) (fun c4 => ?_) (fun c4 => ?_)
      · have h := ifp c4 h
        refine AW.iconst (v := (1 : Int32)) dX7_least_59 (.refl 60) (by decide) ?_
        refine AW.goto (tgt := 64) dX7_least_60 (by decide) ?_
        cases h
        exact AW.ireturn rfl dX7_least_64
      · have h := ifn c4 h
        refine AW.iload_n dX7_least_53 (.refl 54) 1 rfl ?_
        refine AW.bipush (v := (6 : Int32)) dX7_least_54 (.refl 56) (by decide) ?_
        refine AW.icmp_ne (tgt := 63) dX7_least_56 (by decide) (fun c3 => ?_) (fun c3 => ?_)
        · have h := ifn c3 h
          refine AW.iconst (v := (0 : Int32)) dX7_least_63 (.refl 64) (by decide) ?_
          cases h
          exact AW.ireturn rfl dX7_least_64
        · have h := ifp c3 h
          refine AW.iconst (v := (1 : Int32)) dX7_least_59 (.refl 60) (by decide) ?_
          refine AW.goto (tgt := 64) dX7_least_60 (by decide) ?_
          cases h
          exact AW.ireturn rfl dX7_least_64
    · have h := ifp c5 h
      refine AW.iload_n dX7_least_44 (.refl 45) 2 rfl ?_
      refine AW.goto (tgt := 64) dX7_least_45 (by decide) ?_
      cases h
      exact AW.ireturn rfl dX7_least_64
  have h := ifn c6 h
  refine AW.look (off := 64) (tgt := 65) dX7_least_1 (by decide) (by show Op.lookupswitch.offset [(66, 27), (80, 38)] 64 _ = 64; rw [Op.lookupswitch.offset_cons, if_neg (ne_ti 66 c2), Op.lookupswitch.offset_cons, if_neg (ne_ti 80 c6)]; rfl) (by decide) ?_
  refine AW.iload_n dX7_least_65 (.refl 66) 1 rfl ?_
  refine AW.iconst (v := (2 : Int32)) dX7_least_66 (.refl 67) (by decide) ?_
  refine AW.icmp_ne (tgt := 74) dX7_least_67 (by decide) (fun c8 => ?_) (fun c8 => ?_)
  · have h := ifn c8 h
    refine AW.iload_n dX7_least_74 (.refl 75) 1 rfl ?_
    refine AW.iconst (v := (3 : Int32)) dX7_least_75 (.refl 76) (by decide) ?_
    refine AW.icmp_ne (tgt := 83) dX7_least_76 (by decide) (fun c7 => ?_) (fun c7 => ?_)
    · have h := ifn c7 h
      refine AW.iconst (v := (0 : Int32)) dX7_least_83 (.refl 84) (by decide) ?_
      cases h
      exact AW.ireturn rfl dX7_least_84
    · have h := ifp c7 h
      refine AW.iconst (v := (1 : Int32)) dX7_least_79 (.refl 80) (by decide) ?_
      refine AW.goto (tgt := 84) dX7_least_80 (by decide) ?_
      cases h
      exact AW.ireturn rfl dX7_least_84
  · have h := ifp c8 h
    refine AW.iload_n dX7_least_70 (.refl 71) 2 rfl ?_
    refine AW.goto (tgt := 84) dX7_least_71 (by decide) ?_
    cases h
    exact AW.ireturn rfl dX7_least_84
def f_X7_most (σ : Mm) (x0 : Int32) (x1 : Int32) (x2 : Int32) : Option (Int32) := (if x0 = (66 : Int32) then (if x1 = (1 : Int32) then some (3 : Int32) else some (2 : Int32)) else (if x0 = (80 : Int32) then (if x1 = (1 : Int32) then some (x2 - (1 : Int32)) else (if x1 = (2 : Int32) then some (3 : Int32) else (if x1 = (3 : Int32) then some (3 : Int32) else some (9 : Int32)))) else some (9 : Int32)))
set_option maxRecDepth 20000 in
theorem c_X7_most {l : Launch} {G : Gg} {x0 : Int32} {x1 : Int32} {x2 : Int32} {σ : Mm} {v : Int32} (h : f_X7_most σ x0 x1 x2 = some v) : MR l G 0 M_X7_most [.int x0, .int x1, .int x2] σ (some (.int v)) σ := by
  unfold f_X7_most at h
  refine MR.of (by decide +kernel) (Nat.le_of_ble_eq_true rfl) ?_
  show AW l G 0 M_X7_most (some (.int v)) σ 0 [(0, .int x0), (1, .int x1), (2, .int x2)] [] σ
  refine AW.iload_n dX7_most_0 (.refl 1) 0 rfl ?_
  by_cases c2 : x0 = (66 : Int32)
  · have h := ifp c2 h
    refine AW.look (off := 27) (tgt := 28) dX7_most_1 (by decide) (by rw [c2]; decide) (by decide) ?_
    refine AW.iload_n dX7_most_28 (.refl 29) 1 rfl ?_
    refine AW.iconst (v := (1 : Int32)) dX7_most_29 (.refl 30) (by decide) ?_
    refine AW.icmp_ne (tgt := 37) dX7_most_30 (by decide) (fun c1 => ?_) (fun c1 => ?_)
    · have h := ifn c1 h
      refine AW.iconst (v := (2 : Int32)) dX7_most_37 (.refl 38) (by decide) ?_
      cases h
      exact AW.ireturn rfl dX7_most_38
    · have h := ifp c1 h
      refine AW.iconst (v := (3 : Int32)) dX7_most_33 (.refl 34) (by decide) ?_
      refine AW.goto (tgt := 38) dX7_most_34 (by decide) ?_
      cases h
      exact AW.ireturn rfl dX7_most_38
  have h := ifn c2 h
  by_cases c6 : x0 = (80 : Int32)
  · have h := ifp c6 h
    refine AW.look (off := 38) (tgt := 39) dX7_most_1 (by decide) (by rw [c6]; decide) (by decide) ?_
    refine AW.iload_n dX7_most_39 (.refl 40) 1 rfl ?_
    refine AW.iconst (v := (1 : Int32)) dX7_most_40 (.refl 41) (by decide) ?_
    refine AW.icmp_ne (tgt := 50) dX7_most_41 (by decide) (fun c5 => ?_) (fun c5 => ?_)
    · have h := ifn c5 h
      refine AW.iload_n dX7_most_50 (.refl 51) 1 rfl ?_
      refine AW.iconst (v := (2 : Int32)) dX7_most_51 (.refl 52) (by decide) ?_
      refine AW.icmp_eq (tgt := 60) dX7_most_52 (by decide) (fun c4 => ?_) (fun c4 => ?_)
      · have h := ifp c4 h
        refine AW.iconst (v := (3 : Int32)) dX7_most_60 (.refl 61) (by decide) ?_
        refine AW.goto (tgt := 66) dX7_most_61 (by decide) ?_
        cases h
        exact AW.ireturn rfl dX7_most_66
      · have h := ifn c4 h
        refine AW.iload_n dX7_most_55 (.refl 56) 1 rfl ?_
        refine AW.iconst (v := (3 : Int32)) dX7_most_56 (.refl 57) (by decide) ?_
        refine AW.icmp_ne (tgt := 64) dX7_most_57 (by decide) (fun c3 => ?_) (fun c3 => ?_)
        · have h := ifn c3 h
          refine AW.bipush (v := (9 : Int32)) dX7_most_64 (.refl 66) (by decide) ?_
          cases h
          exact AW.ireturn rfl dX7_most_66
        · have h := ifp c3 h
          refine AW.iconst (v := (3 : Int32)) dX7_most_60 (.refl 61) (by decide) ?_
          refine AW.goto (tgt := 66) dX7_most_61 (by decide) ?_
          cases h
          exact AW.ireturn rfl dX7_most_66
    · have h := ifp c5 h
      refine AW.iload_n dX7_most_44 (.refl 45) 2 rfl ?_
      refine AW.iconst (v := (1 : Int32)) dX7_most_45 (.refl 46) (by decide) ?_
      refine AW.isub dX7_most_46 (.refl 47) ?_
      refine AW.goto (tgt := 66) dX7_most_47 (by decide) ?_
      cases h
      exact AW.ireturn rfl dX7_most_66
  have h := ifn c6 h
  refine AW.look (off := 66) (tgt := 67) dX7_most_1 (by decide) (by show Op.lookupswitch.offset [(66, 27), (80, 38)] 66 _ = 66; rw [Op.lookupswitch.offset_cons, if_neg (ne_ti 66 c2), Op.lookupswitch.offset_cons, if_neg (ne_ti 80 c6)]; rfl) (by decide) ?_
  refine AW.bipush (v := (9 : Int32)) dX7_most_67 (.refl 69) (by decide) ?_
  cases h
  exact AW.ireturn rfl dX7_most_69
def f_X7_sizeOf (σ : Mm) (x0 : Int32) : Option (Int32) := (if x0 = (66 : Int32) then some (3 : Int32) else (if x0 = (80 : Int32) then some (7 : Int32) else (if x0 = (81 : Int32) then some (4 : Int32) else some (1 : Int32))))
set_option maxRecDepth 20000 in
theorem c_X7_sizeOf {l : Launch} {G : Gg} {x0 : Int32} {σ : Mm} {v : Int32} (h : f_X7_sizeOf σ x0 = some v) : MR l G 0 M_X7_sizeOf [.int x0] σ (some (.int v)) σ := by
  unfold f_X7_sizeOf at h
  refine MR.of (by decide +kernel) (Nat.le_of_ble_eq_true rfl) ?_
  show AW l G 0 M_X7_sizeOf (some (.int v)) σ 0 [(0, .int x0)] [] σ
  refine AW.iload_n dX7_sizeOf_0 (.refl 1) 0 rfl ?_
  by_cases c1 : x0 = (66 : Int32)
  · have h := ifp c1 h
    refine AW.look (off := 35) (tgt := 36) dX7_sizeOf_1 (by decide) (by rw [c1]; decide) (by decide) ?_
    refine AW.iconst (v := (3 : Int32)) dX7_sizeOf_36 (.refl 37) (by decide) ?_
    cases h
    exact AW.ireturn rfl dX7_sizeOf_37
  have h := ifn c1 h
  by_cases c2 : x0 = (80 : Int32)
  · have h := ifp c2 h
    refine AW.look (off := 37) (tgt := 38) dX7_sizeOf_1 (by decide) (by rw [c2]; decide) (by decide) ?_
    refine AW.bipush (v := (7 : Int32)) dX7_sizeOf_38 (.refl 40) (by decide) ?_
    cases h
    exact AW.ireturn rfl dX7_sizeOf_40
  have h := ifn c2 h
  by_cases c3 : x0 = (81 : Int32)
  · have h := ifp c3 h
    refine AW.look (off := 40) (tgt := 41) dX7_sizeOf_1 (by decide) (by rw [c3]; decide) (by decide) ?_
    refine AW.iconst (v := (4 : Int32)) dX7_sizeOf_41 (.refl 42) (by decide) ?_
    cases h
    exact AW.ireturn rfl dX7_sizeOf_42
  have h := ifn c3 h
  refine AW.look (off := 42) (tgt := 43) dX7_sizeOf_1 (by decide) (by show Op.lookupswitch.offset [(66, 35), (80, 37), (81, 40)] 42 _ = 42; rw [Op.lookupswitch.offset_cons, if_neg (ne_ti 66 c1), Op.lookupswitch.offset_cons, if_neg (ne_ti 80 c2), Op.lookupswitch.offset_cons, if_neg (ne_ti 81 c3)]; rfl) (by decide) ?_
  refine AW.iconst (v := (1 : Int32)) dX7_sizeOf_43 (.refl 44) (by decide) ?_
  cases h
  exact AW.ireturn rfl dX7_sizeOf_44
def f_X7_faultInPart_p9 (σ : Mm) : Nat → Int32 → Int32 → Int32 → Int32 → Int32 → Option (Int32)
  | 0, _, _, _, _, _ => none
  | n + 1, x1, x2, x3, x4, x5 => (if x4 ≤ x5 then some (x2 + x4) else (if (x2 + x5) < (σ.1 1 1) then b1 (f_X7_figureAt σ (x2 + x5)) (fun (r2 : Int32) => b1 (f_X7_figureAt σ ((x2 + x5) - (1 : Int32))) (fun (r4 : Int32) => b1 (f_X7_least σ x1 x5 r4) (fun (r6 : Int32) => (if r2 < r6 then some (x2 + x5) else b1 (f_X7_most σ x1 x5 x3) (fun (r8 : Int32) => (if r2 ≤ r8 then (f_X7_faultInPart_p9 σ n) x1 x2 x3 x4 (x5 + (1 : Int32)) else some (x2 + x5))))))) else some (σ.1 1 1)))
def f_X7_faultInPart (σ : Mm) (x1 : Int32) (x2 : Int32) (x3 : Int32) : Option (Int32) := b1 (f_X7_sizeOf σ x1) (fun (r2 : Int32) => f_X7_faultInPart_p9 σ FU x1 x2 x3 r2 (1 : Int32))
set_option maxRecDepth 20000 in
theorem a_X7_faultInPart_p9 {l : Launch} {G : Gg} {v : Int32} {σ : Mm} : ∀ (n : Nat) (x1 : Int32) (x2 : Int32) (x3 : Int32) (x4 : Int32) (x5 : Int32), f_X7_faultInPart_p9 σ n x1 x2 x3 x4 x5 = some v → AW l G 3 M_X7_faultInPart (some (.int v)) σ 9 [(0, .ref 1), (1, .int x1), (2, .int x2), (3, .int x3), (4, .int x4), (5, .int x5)] [] σ := by
  intro n
  induction n with
  | zero => intro x1 x2 x3 x4 x5 h; exact no_some h
  | succ n ih =>
    intro x1 x2 x3 x4 x5 h
    rw [f_X7_faultInPart_p9] at h
    refine AW.iload dX7_faultInPart_9 (.refl 11) 5 rfl ?_
    refine AW.iload dX7_faultInPart_11 (.refl 13) 4 rfl ?_
    refine AW.icmp_ge (tgt := 86) dX7_faultInPart_13 (by decide) (fun c12 => ?_) (fun c12 => ?_)
    · have h := ifp c12 h
      refine AW.iload_n dX7_faultInPart_86 (.refl 87) 2 rfl ?_
      refine AW.iload dX7_faultInPart_87 (.refl 89) 4 rfl ?_
      refine AW.iadd dX7_faultInPart_89 (.refl 90) ?_
      cases h
      exact AW.ireturn rfl dX7_faultInPart_90
    · have h := ifn c12 h
      refine AW.iload_n dX7_faultInPart_16 (.refl 17) 2 rfl ?_
      refine AW.iload dX7_faultInPart_17 (.refl 19) 5 rfl ?_
      refine AW.iadd dX7_faultInPart_19 (.refl 20) ?_
      refine AW.aload_n dX7_faultInPart_20 (.refl 21) 0 rfl ?_
      refine AW.getI lk_X7_15 rfl rfl (by decide) dX7_faultInPart_21 (.refl 24) ?_
      refine AW.icmp_lt (tgt := 32) dX7_faultInPart_24 (by decide) (fun c11 => ?_) (fun c11 => ?_)
      · have h := ifp c11 h
        refine AW.aload_n dX7_faultInPart_32 (.refl 33) 0 rfl ?_
        refine AW.iload_n dX7_faultInPart_33 (.refl 34) 2 rfl ?_
        refine AW.iload dX7_faultInPart_34 (.refl 36) 5 rfl ?_
        refine AW.iadd dX7_faultInPart_36 (.refl 37) ?_
        obtain ⟨r2, e1, h⟩ := b1_s h
        refine AW.callV (r' := (some (.int r2))) (σ' := σ) (rest := []) lm_X7_38 (c_X7_figureAt e1) (by decide) (by decide) rfl rfl (by decide) rfl rfl (Nat.le_of_ble_eq_true rfl) dX7_faultInPart_37 (.refl 40) (st' := [.int r2]) rfl ?_
        refine AW.istore (L' := [(6, .int r2), (0, .ref 1), (1, .int x1), (2, .int x2), (3, .int x3), (4, .int x4), (5, .int x5)]) dX7_faultInPart_40 (.refl 42) (by decide) rfl ?_
        refine AW.iload dX7_faultInPart_42 (.refl 44) 0 rfl ?_
        refine AW.iload_n dX7_faultInPart_44 (.refl 45) 2 rfl ?_
        refine AW.iload dX7_faultInPart_45 (.refl 47) 6 rfl ?_
        refine AW.aload_n dX7_faultInPart_47 (.refl 48) 1 rfl ?_
        refine AW.iload_n dX7_faultInPart_48 (.refl 49) 3 rfl ?_
        refine AW.iload dX7_faultInPart_49 (.refl 51) 6 rfl ?_
        refine AW.iadd dX7_faultInPart_51 (.refl 52) ?_
        refine AW.iconst (v := (1 : Int32)) dX7_faultInPart_52 (.refl 53) (by decide) ?_
        refine AW.isub dX7_faultInPart_53 (.refl 54) ?_
        obtain ⟨r4, e3, h⟩ := b1_s h
        refine AW.callV (r' := (some (.int r4))) (σ' := σ) (rest := [.int x5, .int x1, .int r2]) lm_X7_38 (c_X7_figureAt e3) (by decide) (by decide) rfl rfl (by decide) rfl rfl (Nat.le_of_ble_eq_true rfl) dX7_faultInPart_54 (.refl 57) (st' := [.int r4, .int x5, .int x1, .int r2]) rfl ?_
        obtain ⟨r6, e5, h⟩ := b1_s h
        refine AW.callS (r' := (some (.int r6))) (σ' := σ) (rest := [.int r2]) lm_X7_41 (c_X7_least e5) (by decide) (by decide) rfl rfl (Nat.le_of_ble_eq_true rfl) dX7_faultInPart_57 (.refl 60) (st' := [.int r6, .int r2]) rfl ?_
        refine AW.icmp_lt (tgt := 75) dX7_faultInPart_60 (by decide) (fun c10 => ?_) (fun c10 => ?_)
        · have h := ifp c10 h
          refine AW.iload_n dX7_faultInPart_75 (.refl 76) 3 rfl ?_
          refine AW.iload dX7_faultInPart_76 (.refl 78) 6 rfl ?_
          refine AW.iadd dX7_faultInPart_78 (.refl 79) ?_
          cases h
          exact AW.ireturn rfl dX7_faultInPart_79
        · have h := ifn c10 h
          refine AW.iload dX7_faultInPart_63 (.refl 65) 0 rfl ?_
          refine AW.iload_n dX7_faultInPart_65 (.refl 66) 2 rfl ?_
          refine AW.iload dX7_faultInPart_66 (.refl 68) 6 rfl ?_
          refine AW.iload_n dX7_faultInPart_68 (.refl 69) 4 rfl ?_
          obtain ⟨r8, e7, h⟩ := b1_s h
          refine AW.callS (r' := (some (.int r8))) (σ' := σ) (rest := [.int r2]) lm_X7_44 (c_X7_most e7) (by decide) (by decide) rfl rfl (Nat.le_of_ble_eq_true rfl) dX7_faultInPart_69 (.refl 72) (st' := [.int r8, .int r2]) rfl ?_
          refine AW.icmp_le (tgt := 80) dX7_faultInPart_72 (by decide) (fun c9 => ?_) (fun c9 => ?_)
          · have h := ifp c9 h
            refine AW.iinc (v := (x5 + (1 : Int32))) (L' := [(5, .int (x5 + (1 : Int32))), (6, .int r2), (0, .ref 1), (1, .int x1), (2, .int x2), (3, .int x3), (4, .int x4)]) dX7_faultInPart_80 (.refl 83) 6 rfl rfl (by decide) rfl ?_
            refine AW.goto (tgt := 9) dX7_faultInPart_83 (by decide) ?_
            refine AW.sub (L' := [(0, .ref 1), (1, .int x1), (2, .int x2), (3, .int x3), (4, .int x4), (5, .int (x5 + (1 : Int32)))]) [2, 3, 4, 5, 6, 0] rfl ?_
            exact ih x1 x2 x3 x4 (x5 + (1 : Int32)) h
          · have h := ifn c9 h
            refine AW.iload_n dX7_faultInPart_75 (.refl 76) 3 rfl ?_
            refine AW.iload dX7_faultInPart_76 (.refl 78) 6 rfl ?_
            refine AW.iadd dX7_faultInPart_78 (.refl 79) ?_
            cases h
            exact AW.ireturn rfl dX7_faultInPart_79
      · have h := ifn c11 h
        refine AW.aload_n dX7_faultInPart_27 (.refl 28) 0 rfl ?_
        refine AW.getI lk_X7_15 rfl rfl (by decide) dX7_faultInPart_28 (.refl 31) ?_
        cases h
        exact AW.ireturn rfl dX7_faultInPart_31
set_option maxRecDepth 20000 in
theorem c_X7_faultInPart {l : Launch} {G : Gg} {x1 : Int32} {x2 : Int32} {x3 : Int32} {σ : Mm} {v : Int32} (h : f_X7_faultInPart σ x1 x2 x3 = some v) : MR l G 3 M_X7_faultInPart [.ref 1, .int x1, .int x2, .int x3] σ (some (.int v)) σ := by
  unfold f_X7_faultInPart at h
  refine MR.of (by decide +kernel) (Nat.le_of_ble_eq_true rfl) ?_
  show AW l G 3 M_X7_faultInPart (some (.int v)) σ 0 [(0, .ref 1), (1, .int x1), (2, .int x2), (3, .int x3)] [] σ
  refine AW.iload_n dX7_faultInPart_0 (.refl 1) 1 rfl ?_
  obtain ⟨r2, e1, h⟩ := b1_s h
  refine AW.callS (r' := (some (.int r2))) (σ' := σ) (rest := []) lm_X7_31 (c_X7_sizeOf e1) (by decide) (by decide) rfl rfl (Nat.le_of_ble_eq_true rfl) dX7_faultInPart_1 (.refl 4) (st' := [.int r2]) rfl ?_
  refine AW.istore (L' := [(4, .int r2), (0, .ref 1), (1, .int x1), (2, .int x2), (3, .int x3)]) dX7_faultInPart_4 (.refl 6) (by decide) rfl ?_
  refine AW.iconst (v := (1 : Int32)) dX7_faultInPart_6 (.refl 7) (by decide) ?_
  refine AW.istore (L' := [(5, .int (1 : Int32)), (4, .int r2), (0, .ref 1), (1, .int x1), (2, .int x2), (3, .int x3)]) dX7_faultInPart_7 (.refl 9) (by decide) rfl ?_
  refine AW.sub (L' := [(0, .ref 1), (1, .int x1), (2, .int x2), (3, .int x3), (4, .int r2), (5, .int (1 : Int32))]) [2, 3, 4, 5, 1, 0] rfl ?_
  exact a_X7_faultInPart_p9 FU x1 x2 x3 r2 (1 : Int32) h
def f_X7_mayBeTold (σ : Mm) (x0 : Int32) (x1 : Int32) (x2 : Int32) : Option (Int32) := (if x0 = (66 : Int32) then (if (3 : Int32) ≤ x1 then some (0 : Int32) else some (1 : Int32)) else (if x0 = (80 : Int32) then (if x1 ≤ 0 then some (0 : Int32) else (if (5 : Int32) ≤ x2 then some (0 : Int32) else some (1 : Int32))) else (if x0 = (81 : Int32) then (if (5 : Int32) ≤ x2 then some (0 : Int32) else some (1 : Int32)) else some (0 : Int32))))
set_option maxRecDepth 20000 in
theorem c_X7_mayBeTold {l : Launch} {G : Gg} {x0 : Int32} {x1 : Int32} {x2 : Int32} {σ : Mm} {v : Int32} (h : f_X7_mayBeTold σ x0 x1 x2 = some v) : MR l G 0 M_X7_mayBeTold [.int x0, .int x1, .int x2] σ (some (.int v)) σ := by
  unfold f_X7_mayBeTold at h
  refine MR.of (by decide +kernel) (Nat.le_of_ble_eq_true rfl) ?_
  show AW l G 0 M_X7_mayBeTold (some (.int v)) σ 0 [(0, .int x0), (1, .int x1), (2, .int x2)] [] σ
  refine AW.iload_n dX7_mayBeTold_0 (.refl 1) 0 rfl ?_
  by_cases c2 : x0 = (66 : Int32)
  · have h := ifp c2 h
    refine AW.look (off := 35) (tgt := 36) dX7_mayBeTold_1 (by decide) (by rw [c2]; decide) (by decide) ?_
    refine AW.iload_n dX7_mayBeTold_36 (.refl 37) 1 rfl ?_
    refine AW.iconst (v := (3 : Int32)) dX7_mayBeTold_37 (.refl 38) (by decide) ?_
    refine AW.icmp_ge (tgt := 45) dX7_mayBeTold_38 (by decide) (fun c1 => ?_) (fun c1 => ?_)
    · have h := ifp c1 h
      refine AW.iconst (v := (0 : Int32)) dX7_mayBeTold_45 (.refl 46) (by decide) ?_
      cases h
      exact AW.zreturn rfl (by decide) dX7_mayBeTold_46
    · have h := ifn c1 h
      refine AW.iconst (v := (1 : Int32)) dX7_mayBeTold_41 (.refl 42) (by decide) ?_
      refine AW.goto (tgt := 46) dX7_mayBeTold_42 (by decide) ?_
      cases h
      exact AW.zreturn rfl (by decide) dX7_mayBeTold_46
  have h := ifn c2 h
  by_cases c5 : x0 = (80 : Int32)
  · have h := ifp c5 h
    refine AW.look (off := 46) (tgt := 47) dX7_mayBeTold_1 (by decide) (by rw [c5]; decide) (by decide) ?_
    refine AW.iload_n dX7_mayBeTold_47 (.refl 48) 1 rfl ?_
    refine AW.if_le (tgt := 60) dX7_mayBeTold_48 (by decide) (fun c4 => ?_) (fun c4 => ?_)
    · have h := ifp c4 h
      refine AW.iconst (v := (0 : Int32)) dX7_mayBeTold_60 (.refl 61) (by decide) ?_
      cases h
      exact AW.zreturn rfl (by decide) dX7_mayBeTold_61
    · have h := ifn c4 h
      refine AW.iload_n dX7_mayBeTold_51 (.refl 52) 2 rfl ?_
      refine AW.iconst (v := (5 : Int32)) dX7_mayBeTold_52 (.refl 53) (by decide) ?_
      refine AW.icmp_ge (tgt := 60) dX7_mayBeTold_53 (by decide) (fun c3 => ?_) (fun c3 => ?_)
      · have h := ifp c3 h
        refine AW.iconst (v := (0 : Int32)) dX7_mayBeTold_60 (.refl 61) (by decide) ?_
        cases h
        exact AW.zreturn rfl (by decide) dX7_mayBeTold_61
      · have h := ifn c3 h
        refine AW.iconst (v := (1 : Int32)) dX7_mayBeTold_56 (.refl 57) (by decide) ?_
        refine AW.goto (tgt := 61) dX7_mayBeTold_57 (by decide) ?_
        cases h
        exact AW.zreturn rfl (by decide) dX7_mayBeTold_61
  have h := ifn c5 h
  by_cases c7 : x0 = (81 : Int32)
  · have h := ifp c7 h
    refine AW.look (off := 61) (tgt := 62) dX7_mayBeTold_1 (by decide) (by rw [c7]; decide) (by decide) ?_
    refine AW.iload_n dX7_mayBeTold_62 (.refl 63) 2 rfl ?_
    refine AW.iconst (v := (5 : Int32)) dX7_mayBeTold_63 (.refl 64) (by decide) ?_
    refine AW.icmp_ge (tgt := 71) dX7_mayBeTold_64 (by decide) (fun c6 => ?_) (fun c6 => ?_)
    · have h := ifp c6 h
      refine AW.iconst (v := (0 : Int32)) dX7_mayBeTold_71 (.refl 72) (by decide) ?_
      cases h
      exact AW.zreturn rfl (by decide) dX7_mayBeTold_72
    · have h := ifn c6 h
      refine AW.iconst (v := (1 : Int32)) dX7_mayBeTold_67 (.refl 68) (by decide) ?_
      refine AW.goto (tgt := 72) dX7_mayBeTold_68 (by decide) ?_
      cases h
      exact AW.zreturn rfl (by decide) dX7_mayBeTold_72
  have h := ifn c7 h
  refine AW.look (off := 72) (tgt := 73) dX7_mayBeTold_1 (by decide) (by show Op.lookupswitch.offset [(66, 35), (80, 46), (81, 61)] 72 _ = 72; rw [Op.lookupswitch.offset_cons, if_neg (ne_ti 66 c2), Op.lookupswitch.offset_cons, if_neg (ne_ti 80 c5), Op.lookupswitch.offset_cons, if_neg (ne_ti 81 c7)]; rfl) (by decide) ?_
  refine AW.iconst (v := (0 : Int32)) dX7_mayBeTold_73 (.refl 74) (by decide) ?_
  cases h
  exact AW.zreturn rfl (by decide) dX7_mayBeTold_74
def f_X7_firstFault_p97 (σ : Mm) (kh : Int32 → Int32 → Int32 → Int32 → Option (Int32)) (x2 : Int32) (x4 : Int32) (x5 : Int32) (x6 : Int32) (s0 : Int32) (s1 : Int32) : Option (Int32) := (if x5 = (66 : Int32) then kh (s1 + s0) (x2 + (0 : Int32)) x6 (x4 + (1 : Int32)) else kh (s1 + s0) (x2 + (1 : Int32)) x6 (x4 + (1 : Int32)))
def f_X7_firstFault_p21 (σ : Mm) : Nat → Int32 → Int32 → Int32 → Int32 → Option (Int32)
  | 0, _, _, _, _ => none
  | n + 1, x1, x2, x3, x4 => (if (48 : Int32) ≤ x4 then some (-9 : Int32) else (if (σ.1 1 1) ≤ x3 then some (-9 : Int32) else b1 (f_X7_letterAt σ x3) (fun (r2 : Int32) => b1 (f_X7_mayBeTold σ r2 x1 x2) (fun (r4 : Int32) => (if r4 = 0 then some x3 else b1 (f_X7_sizeOf σ r2) (fun (r6 : Int32) => b1 (f_X7_faultInPart σ r2 x3 x1) (fun (r8 : Int32) => (if (x3 + r6) ≤ r8 then (if r2 = (66 : Int32) then (f_X7_firstFault_p97 σ (f_X7_firstFault_p21 σ n)) x2 x4 r2 (x3 + r6) (1 : Int32) x1 else (f_X7_firstFault_p97 σ (f_X7_firstFault_p21 σ n)) x2 x4 r2 (x3 + r6) (0 : Int32) x1) else some r8))))))))
def f_X7_firstFault (σ : Mm)  : Option (Int32) := b1 (f_X7_letterAt σ (0 : Int32)) (fun (r2 : Int32) => (if r2 = (84 : Int32) then f_X7_firstFault_p21 σ FU (0 : Int32) (0 : Int32) (1 : Int32) (0 : Int32) else some (0 : Int32)))
set_option maxRecDepth 20000 in
theorem a_X7_firstFault_p97 {l : Launch} {G : Gg} {v : Int32} {σ : Mm} {kh : Int32 → Int32 → Int32 → Int32 → Option (Int32)} (hkh : ∀ (x1 : Int32) (x2 : Int32) (x3 : Int32) (x4 : Int32), kh x1 x2 x3 x4 = some v → AW l G 4 M_X7_firstFault (some (.int v)) σ 21 [(0, .ref 1), (1, .int x1), (2, .int x2), (3, .int x3), (4, .int x4)] [] σ) (x2 : Int32) (x4 : Int32) (x5 : Int32) (x6 : Int32) (s0 : Int32) (s1 : Int32) (h : f_X7_firstFault_p97 σ kh x2 x4 x5 x6 s0 s1 = some v) : AW l G 4 M_X7_firstFault (some (.int v)) σ 97 [(0, .ref 1), (2, .int x2), (4, .int x4), (5, .int x5), (6, .int x6)] [.int s0, .int s1] σ := by
  unfold f_X7_firstFault_p97 at h
  refine AW.iadd dX7_firstFault_97 (.refl 98) ?_
  refine AW.istore_n (L' := [(1, .int (s1 + s0)), (0, .ref 1), (2, .int x2), (4, .int x4), (5, .int x5), (6, .int x6)]) dX7_firstFault_98 (.refl 99) (by decide) rfl ?_
  refine AW.iload_n dX7_firstFault_99 (.refl 100) 2 rfl ?_
  refine AW.iload dX7_firstFault_100 (.refl 102) 4 rfl ?_
  refine AW.bipush (v := (66 : Int32)) dX7_firstFault_102 (.refl 104) (by decide) ?_
  refine AW.icmp_ne (tgt := 111) dX7_firstFault_104 (by decide) (fun c1 => ?_) (fun c1 => ?_)
  · have h := ifn c1 h
    refine AW.iconst (v := (1 : Int32)) dX7_firstFault_111 (.refl 112) (by decide) ?_
    refine AW.iadd dX7_firstFault_112 (.refl 113) ?_
    refine AW.istore_n (L' := [(2, .int (x2 + (1 : Int32))), (1, .int (s1 + s0)), (0, .ref 1), (4, .int x4), (5, .int x5), (6, .int x6)]) dX7_firstFault_113 (.refl 114) (by decide) rfl ?_
    refine AW.iload dX7_firstFault_114 (.refl 116) 5 rfl ?_
    refine AW.istore_n (L' := [(3, .int x6), (2, .int (x2 + (1 : Int32))), (1, .int (s1 + s0)), (0, .ref 1), (4, .int x4), (5, .int x5), (6, .int x6)]) dX7_firstFault_116 (.refl 117) (by decide) rfl ?_
    refine AW.iinc (v := (x4 + (1 : Int32))) (L' := [(4, .int (x4 + (1 : Int32))), (3, .int x6), (2, .int (x2 + (1 : Int32))), (1, .int (s1 + s0)), (0, .ref 1), (5, .int x5), (6, .int x6)]) dX7_firstFault_117 (.refl 120) 4 rfl rfl (by decide) rfl ?_
    refine AW.goto (tgt := 21) dX7_firstFault_120 (by decide) ?_
    refine AW.sub (L' := [(0, .ref 1), (1, .int (s1 + s0)), (2, .int (x2 + (1 : Int32))), (3, .int x6), (4, .int (x4 + (1 : Int32)))]) [4, 3, 2, 1, 0] rfl ?_
    exact hkh (s1 + s0) (x2 + (1 : Int32)) x6 (x4 + (1 : Int32)) h
  · have h := ifp c1 h
    refine AW.iconst (v := (0 : Int32)) dX7_firstFault_107 (.refl 108) (by decide) ?_
    refine AW.goto (tgt := 112) dX7_firstFault_108 (by decide) ?_
    refine AW.iadd dX7_firstFault_112 (.refl 113) ?_
    refine AW.istore_n (L' := [(2, .int (x2 + (0 : Int32))), (1, .int (s1 + s0)), (0, .ref 1), (4, .int x4), (5, .int x5), (6, .int x6)]) dX7_firstFault_113 (.refl 114) (by decide) rfl ?_
    refine AW.iload dX7_firstFault_114 (.refl 116) 5 rfl ?_
    refine AW.istore_n (L' := [(3, .int x6), (2, .int (x2 + (0 : Int32))), (1, .int (s1 + s0)), (0, .ref 1), (4, .int x4), (5, .int x5), (6, .int x6)]) dX7_firstFault_116 (.refl 117) (by decide) rfl ?_
    refine AW.iinc (v := (x4 + (1 : Int32))) (L' := [(4, .int (x4 + (1 : Int32))), (3, .int x6), (2, .int (x2 + (0 : Int32))), (1, .int (s1 + s0)), (0, .ref 1), (5, .int x5), (6, .int x6)]) dX7_firstFault_117 (.refl 120) 4 rfl rfl (by decide) rfl ?_
    refine AW.goto (tgt := 21) dX7_firstFault_120 (by decide) ?_
    refine AW.sub (L' := [(0, .ref 1), (1, .int (s1 + s0)), (2, .int (x2 + (0 : Int32))), (3, .int x6), (4, .int (x4 + (1 : Int32)))]) [4, 3, 2, 1, 0] rfl ?_
    exact hkh (s1 + s0) (x2 + (0 : Int32)) x6 (x4 + (1 : Int32)) h
set_option maxRecDepth 20000 in
theorem a_X7_firstFault_p21 {l : Launch} {G : Gg} {v : Int32} {σ : Mm} : ∀ (n : Nat) (x1 : Int32) (x2 : Int32) (x3 : Int32) (x4 : Int32), f_X7_firstFault_p21 σ n x1 x2 x3 x4 = some v → AW l G 4 M_X7_firstFault (some (.int v)) σ 21 [(0, .ref 1), (1, .int x1), (2, .int x2), (3, .int x3), (4, .int x4)] [] σ := by
  intro n
  induction n with
  | zero => intro x1 x2 x3 x4 h; exact no_some h
  | succ n ih =>
    intro x1 x2 x3 x4 h
    rw [f_X7_firstFault_p21] at h
    refine AW.iload dX7_firstFault_21 (.refl 23) 4 rfl ?_
    refine AW.bipush (v := (48 : Int32)) dX7_firstFault_23 (.refl 25) (by decide) ?_
    refine AW.icmp_ge (tgt := 123) dX7_firstFault_25 (by decide) (fun c13 => ?_) (fun c13 => ?_)
    · have h := ifp c13 h
      refine AW.bipush (v := (-9 : Int32)) dX7_firstFault_123 (.refl 125) (by decide) ?_
      cases h
      exact AW.ireturn rfl dX7_firstFault_125
    · have h := ifn c13 h
      refine AW.iload_n dX7_firstFault_28 (.refl 29) 3 rfl ?_
      refine AW.aload_n dX7_firstFault_29 (.refl 30) 0 rfl ?_
      refine AW.getI lk_X7_15 rfl rfl (by decide) dX7_firstFault_30 (.refl 33) ?_
      refine AW.icmp_ge (tgt := 123) dX7_firstFault_33 (by decide) (fun c12 => ?_) (fun c12 => ?_)
      · have h := ifp c12 h
        refine AW.bipush (v := (-9 : Int32)) dX7_firstFault_123 (.refl 125) (by decide) ?_
        cases h
        exact AW.ireturn rfl dX7_firstFault_125
      · have h := ifn c12 h
        refine AW.aload_n dX7_firstFault_36 (.refl 37) 0 rfl ?_
        refine AW.iload_n dX7_firstFault_37 (.refl 38) 3 rfl ?_
        obtain ⟨r2, e1, h⟩ := b1_s h
        refine AW.callV (r' := (some (.int r2))) (σ' := σ) (rest := []) lm_X7_23 (c_X7_letterAt e1) (by decide) (by decide) rfl rfl (by decide) rfl rfl (Nat.le_of_ble_eq_true rfl) dX7_firstFault_38 (.refl 41) (st' := [.int r2]) rfl ?_
        refine AW.istore (L' := [(5, .int r2), (0, .ref 1), (1, .int x1), (2, .int x2), (3, .int x3), (4, .int x4)]) dX7_firstFault_41 (.refl 43) (by decide) rfl ?_
        refine AW.iload dX7_firstFault_43 (.refl 45) 0 rfl ?_
        refine AW.iload_n dX7_firstFault_45 (.refl 46) 2 rfl ?_
        refine AW.iload_n dX7_firstFault_46 (.refl 47) 3 rfl ?_
        obtain ⟨r4, e3, h⟩ := b1_s h
        refine AW.callS (r' := (some (.int r4))) (σ' := σ) (rest := []) lm_X7_27 (c_X7_mayBeTold e3) (by decide) (by decide) rfl rfl (Nat.le_of_ble_eq_true rfl) dX7_firstFault_47 (.refl 50) (st' := [.int r4]) rfl ?_
        refine AW.if_ne (tgt := 55) dX7_firstFault_50 (by decide) (fun c11 => ?_) (fun c11 => ?_)
        · have h := ifn c11 h
          refine AW.iload_n dX7_firstFault_55 (.refl 56) 4 rfl ?_
          refine AW.iload dX7_firstFault_56 (.refl 58) 0 rfl ?_
          obtain ⟨r6, e5, h⟩ := b1_s h
          refine AW.callS (r' := (some (.int r6))) (σ' := σ) (rest := [.int x3]) lm_X7_31 (c_X7_sizeOf e5) (by decide) (by decide) rfl rfl (Nat.le_of_ble_eq_true rfl) dX7_firstFault_58 (.refl 61) (st' := [.int r6, .int x3]) rfl ?_
          refine AW.iadd dX7_firstFault_61 (.refl 62) ?_
          refine AW.istore (L' := [(6, .int (x3 + r6)), (5, .int r2), (0, .ref 1), (1, .int x1), (2, .int x2), (3, .int x3), (4, .int x4)]) dX7_firstFault_62 (.refl 64) (by decide) rfl ?_
          refine AW.aload_n dX7_firstFault_64 (.refl 65) 2 rfl ?_
          refine AW.iload dX7_firstFault_65 (.refl 67) 1 rfl ?_
          refine AW.iload_n dX7_firstFault_67 (.refl 68) 5 rfl ?_
          refine AW.iload_n dX7_firstFault_68 (.refl 69) 3 rfl ?_
          obtain ⟨r8, e7, h⟩ := b1_s h
          refine AW.callV (r' := (some (.int r8))) (σ' := σ) (rest := []) lm_X7_34 (c_X7_faultInPart e7) (by decide) (by decide) rfl rfl (by decide) rfl rfl (Nat.le_of_ble_eq_true rfl) dX7_firstFault_69 (.refl 72) (st' := [.int r8]) rfl ?_
          refine AW.istore (L' := [(7, .int r8), (6, .int (x3 + r6)), (5, .int r2), (0, .ref 1), (1, .int x1), (2, .int x2), (3, .int x3), (4, .int x4)]) dX7_firstFault_72 (.refl 74) (by decide) rfl ?_
          refine AW.iload dX7_firstFault_74 (.refl 76) 0 rfl ?_
          refine AW.iload dX7_firstFault_76 (.refl 78) 1 rfl ?_
          refine AW.icmp_ge (tgt := 84) dX7_firstFault_78 (by decide) (fun c10 => ?_) (fun c10 => ?_)
          · have h := ifp c10 h
            refine AW.iload_n dX7_firstFault_84 (.refl 85) 4 rfl ?_
            refine AW.iload dX7_firstFault_85 (.refl 87) 2 rfl ?_
            refine AW.bipush (v := (66 : Int32)) dX7_firstFault_87 (.refl 89) (by decide) ?_
            refine AW.icmp_ne (tgt := 96) dX7_firstFault_89 (by decide) (fun c9 => ?_) (fun c9 => ?_)
            · have h := ifn c9 h
              refine AW.iconst (v := (0 : Int32)) dX7_firstFault_96 (.refl 97) (by decide) ?_
              refine AW.sub (L' := [(0, .ref 1), (2, .int x2), (4, .int x4), (5, .int r2), (6, .int (x3 + r6))]) [3, 5, 7, 2, 1] rfl ?_
              exact (a_X7_firstFault_p97 ih) x2 x4 r2 (x3 + r6) (0 : Int32) x1 h
            · have h := ifp c9 h
              refine AW.iconst (v := (1 : Int32)) dX7_firstFault_92 (.refl 93) (by decide) ?_
              refine AW.goto (tgt := 97) dX7_firstFault_93 (by decide) ?_
              refine AW.sub (L' := [(0, .ref 1), (2, .int x2), (4, .int x4), (5, .int r2), (6, .int (x3 + r6))]) [3, 5, 7, 2, 1] rfl ?_
              exact (a_X7_firstFault_p97 ih) x2 x4 r2 (x3 + r6) (1 : Int32) x1 h
          · have h := ifn c10 h
            refine AW.iload dX7_firstFault_81 (.refl 83) 0 rfl ?_
            cases h
            exact AW.ireturn rfl dX7_firstFault_83
        · have h := ifp c11 h
          refine AW.iload_n dX7_firstFault_53 (.refl 54) 4 rfl ?_
          cases h
          exact AW.ireturn rfl dX7_firstFault_54
set_option maxRecDepth 20000 in
theorem c_X7_firstFault {l : Launch} {G : Gg}  {σ : Mm} {v : Int32} (h : f_X7_firstFault σ  = some v) : MR l G 4 M_X7_firstFault [.ref 1] σ (some (.int v)) σ := by
  unfold f_X7_firstFault at h
  refine MR.of (by decide +kernel) (Nat.le_of_ble_eq_true rfl) ?_
  show AW l G 4 M_X7_firstFault (some (.int v)) σ 0 [(0, .ref 1)] [] σ
  refine AW.aload_n dX7_firstFault_0 (.refl 1) 0 rfl ?_
  refine AW.iconst (v := (0 : Int32)) dX7_firstFault_1 (.refl 2) (by decide) ?_
  obtain ⟨r2, e1, h⟩ := b1_s h
  refine AW.callV (r' := (some (.int r2))) (σ' := σ) (rest := []) lm_X7_23 (c_X7_letterAt e1) (by decide) (by decide) rfl rfl (by decide) rfl rfl (Nat.le_of_ble_eq_true rfl) dX7_firstFault_2 (.refl 5) (st' := [.int r2]) rfl ?_
  refine AW.bipush (v := (84 : Int32)) dX7_firstFault_5 (.refl 7) (by decide) ?_
  refine AW.icmp_eq (tgt := 12) dX7_firstFault_7 (by decide) (fun c3 => ?_) (fun c3 => ?_)
  · have h := ifp c3 h
    refine AW.iconst (v := (0 : Int32)) dX7_firstFault_12 (.refl 13) (by decide) ?_
    refine AW.istore_n (L' := [(1, .int (0 : Int32)), (0, .ref 1)]) dX7_firstFault_13 (.refl 14) (by decide) rfl ?_
    refine AW.iconst (v := (0 : Int32)) dX7_firstFault_14 (.refl 15) (by decide) ?_
    refine AW.istore_n (L' := [(2, .int (0 : Int32)), (1, .int (0 : Int32)), (0, .ref 1)]) dX7_firstFault_15 (.refl 16) (by decide) rfl ?_
    refine AW.iconst (v := (1 : Int32)) dX7_firstFault_16 (.refl 17) (by decide) ?_
    refine AW.istore_n (L' := [(3, .int (1 : Int32)), (2, .int (0 : Int32)), (1, .int (0 : Int32)), (0, .ref 1)]) dX7_firstFault_17 (.refl 18) (by decide) rfl ?_
    refine AW.iconst (v := (0 : Int32)) dX7_firstFault_18 (.refl 19) (by decide) ?_
    refine AW.istore (L' := [(4, .int (0 : Int32)), (3, .int (1 : Int32)), (2, .int (0 : Int32)), (1, .int (0 : Int32)), (0, .ref 1)]) dX7_firstFault_19 (.refl 21) (by decide) rfl ?_
    refine AW.sub (L' := [(0, .ref 1), (1, .int (0 : Int32)), (2, .int (0 : Int32)), (3, .int (1 : Int32)), (4, .int (0 : Int32))]) [4, 3, 2, 1, 0] rfl ?_
    exact a_X7_firstFault_p21 FU (0 : Int32) (0 : Int32) (1 : Int32) (0 : Int32) h
  · have h := ifn c3 h
    refine AW.iconst (v := (0 : Int32)) dX7_firstFault_10 (.refl 11) (by decide) ?_
    cases h
    exact AW.ireturn rfl dX7_firstFault_11
def f_X9_fault (σ : Mm)  : Option (Int32) := b1 (f_X7_firstFault σ) (fun (r2 : Int32) => some r2)
set_option maxRecDepth 20000 in
theorem c_X9_fault {l : Launch} {G : Gg}  {σ : Mm} {v : Int32} (h : f_X9_fault σ  = some v) : MR l G 5 M_X9_fault [.ref 0] σ (some (.int v)) σ := by
  unfold f_X9_fault at h
  refine MR.of (by decide +kernel) (Nat.le_of_ble_eq_true rfl) ?_
  show AW l G 5 M_X9_fault (some (.int v)) σ 0 [(0, .ref 0)] [] σ
  refine AW.aload_n dX9_fault_0 (.refl 1) 0 rfl ?_
  refine AW.getR (z := 1) lk_X9_10 rfl rfl (by decide) rfl dX9_fault_1 (.refl 4) ?_
  obtain ⟨r2, e1, h⟩ := b1_s h
  refine AW.callV (r' := (some (.int r2))) (σ' := σ) (rest := []) lm_X9_96 (c_X7_firstFault e1) (by decide) (by decide) rfl rfl (by decide) rfl rfl (Nat.le_of_ble_eq_true rfl) dX9_fault_4 (.refl 7) (st' := [.int r2]) rfl ?_
  cases h
  exact AW.ireturn rfl dX9_fault_7
def f_X0_clear  (σ : Mm) : Option (Mm) := some (sI σ 26 2 (0 : Int32))
set_option maxRecDepth 20000 in
theorem c_X0_clear {l : Launch} {G : Gg}  {σ : Mm} {τ : Mm} (h : f_X0_clear  σ = some τ) : MR l G 0 M_X0_clear [.ref 26] σ none τ := by
  unfold f_X0_clear at h
  refine MR.of (by decide +kernel) (Nat.le_of_ble_eq_true rfl) ?_
  show AW l G 0 M_X0_clear none τ 0 [(0, .ref 26)] [] σ
  refine AW.aload_n dX0_clear_0 (.refl 1) 0 rfl ?_
  refine AW.iconst (v := (0 : Int32)) dX0_clear_1 (.refl 2) (by decide) ?_
  refine AW.putI lp_X0_18 rfl rfl (by decide) dX0_clear_2 (.refl 5) ?_
  cases h
  exact AW.vreturn rfl dX0_clear_5
def f_X1_clear_p2 (k0 : Nat) : Nat → Int32 → Mm → Option (Mm)
  | 0, _, _ => none
  | n + 1, x1, σ => (if (5 : Int32) ≤ x1 then some σ else gd (inB x1 5) ((f_X1_clear_p2 k0 n) (x1 + (1 : Int32)) (sI σ (cRef k0 1) (x1).toNatClampNeg (0 : Int32))))
def f_X1_clear (k0 : Nat)  (σ : Mm) : Option (Mm) := f_X1_clear_p2 k0 FU (0 : Int32) σ
set_option maxRecDepth 20000 in
theorem a_X1_clear_p2 {l : Launch} {G : Gg} {τ : Mm} {k0 : Nat} (hk0 : cTag k0 = 1) : ∀ (n : Nat) (x1 : Int32) (σ : Mm), f_X1_clear_p2 k0 n x1 σ = some τ → AW l G 0 M_X1_clear none τ 2 [(0, .ref k0), (1, .int x1)] [] σ := by
  intro n
  induction n with
  | zero => intro x1 σ h; exact no_some h
  | succ n ih =>
    intro x1 σ h
    rw [f_X1_clear_p2] at h
    refine AW.iload_n dX1_clear_2 (.refl 3) 1 rfl ?_
    refine AW.iconst (v := (5 : Int32)) dX1_clear_3 (.refl 4) (by decide) ?_
    refine AW.icmp_ge (tgt := 20) dX1_clear_4 (by decide) (fun c2 => ?_) (fun c2 => ?_)
    · have h := ifp c2 h
      cases h
      exact AW.vreturn rfl dX1_clear_20
    · have h := ifn c2 h
      refine AW.aload_n dX1_clear_7 (.refl 8) 0 rfl ?_
      refine AW.getR (z := (cRef k0 1)) lk_X1_9 hk0 rfl (by decide) rfl dX1_clear_8 (.refl 11) ?_
      refine AW.iload_n dX1_clear_11 (.refl 12) 1 rfl ?_
      refine AW.iconst (v := (0 : Int32)) dX1_clear_12 (.refl 13) (by decide) ?_
      obtain ⟨g1, h⟩ := gd_s h
      refine AW.iastore (tg_1_1 hk0) (by rw [ln_1_1 hk0]; exact g1) dX1_clear_13 (.refl 14) ?_
      refine AW.iinc (v := (x1 + (1 : Int32))) (L' := [(1, .int (x1 + (1 : Int32))), (0, .ref k0)]) dX1_clear_14 (.refl 17) 1 rfl rfl (by decide) rfl ?_
      refine AW.goto (tgt := 2) dX1_clear_17 (by decide) ?_
      refine AW.sub (L' := [(0, .ref k0), (1, .int (x1 + (1 : Int32)))]) [1, 0] rfl ?_
      exact ih (x1 + (1 : Int32)) (sI σ (cRef k0 1) (x1).toNatClampNeg (0 : Int32)) h
set_option maxRecDepth 20000 in
theorem c_X1_clear {l : Launch} {G : Gg} {k0 : Nat} (hk0 : cTag k0 = 1)  {σ : Mm} {τ : Mm} (h : f_X1_clear k0  σ = some τ) : MR l G 0 M_X1_clear [.ref k0] σ none τ := by
  unfold f_X1_clear at h
  refine MR.of (by decide +kernel) (Nat.le_of_ble_eq_true rfl) ?_
  show AW l G 0 M_X1_clear none τ 0 [(0, .ref k0)] [] σ
  refine AW.iconst (v := (0 : Int32)) dX1_clear_0 (.refl 1) (by decide) ?_
  refine AW.istore_n (L' := [(1, .int (0 : Int32)), (0, .ref k0)]) dX1_clear_1 (.refl 2) (by decide) rfl ?_
  refine AW.sub (L' := [(0, .ref k0), (1, .int (0 : Int32))]) [1, 0] rfl ?_
  exact a_X1_clear_p2 hk0 FU (0 : Int32) σ h
