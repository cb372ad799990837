def f_X9_day_p27 : Nat → Int32 → Int32 → Mm → Option (Int32 × Mm)
  | 0, _, _, _ => none
  | n + 1, x1, x2, σ => (if x1 ≤ x2 then b1 (f_X1_worth σ 18) (fun (r2 : Int32) => some (r2, σ)) else bnd ((sJ σ 0 12 (((σ.2 0 12) * (6364136223846793005 : Int64)) + (1442695040888963407 : Int64)))) (fun (σ3 : Mm) => bnd ((jlrem (jlushr (σ3.2 0 12) (33 : Int32)) (50 : Int64)).toInt32) (fun (y5 : Int32) => b2 (f_X1_letIfCan 18 (y5 / (10 : Int32)) (jrem y5 (10 : Int32)) σ3) (fun (r8 : Int32) (τ9 : Mm) => (f_X9_day_p27 n) x1 (x2 + (1 : Int32)) τ9))))
def f_X9_day (x1 : Int32) (σ : Mm) : Option (Int32 × Mm) := (if x1 < (1 : Int32) then some ((-2 : Int32), σ) else (if x1 ≤ (20 : Int32) then b1 (f_X1_copy 18 16 σ) (fun (τ2 : Mm) => f_X9_day_p27 FU x1 (0 : Int32) τ2) else some ((-2 : Int32), σ)))
set_option maxRecDepth 20000 in
theorem a_X9_day_p27 {l : Launch} {G : Gg} {v : Int32} {τ : Mm} : ∀ (n : Nat) (x1 : Int32) (x2 : Int32) (σ : Mm), f_X9_day_p27 n x1 x2 σ = some (v, τ) → AW l G 5 M_X9_day (some (.int v)) τ 27 [(0, .ref 0), (1, .int x1), (2, .int x2)] [] σ := by
  intro n
  induction n with
  | zero => intro x1 x2 σ h; exact no_some h
  | succ n ih =>
    intro x1 x2 σ h
    rw [f_X9_day_p27] at h
    refine AW.iload_n dX9_day_27 (.refl 28) 2 rfl ?_
    refine AW.iload_n dX9_day_28 (.refl 29) 1 rfl ?_
    refine AW.icmp_ge (tgt := 83) dX9_day_29 (by decide) (fun c10 => ?_) (fun c10 => ?_)
    · have h := ifp c10 h
      refine AW.aload_n dX9_day_83 (.refl 84) 0 rfl ?_
      refine AW.getR (z := 18) lk_X9_32 rfl rfl (by decide) rfl dX9_day_84 (.refl 87) ?_
      obtain ⟨r2, e1, h⟩ := b1_s h
      refine AW.callV (r' := (some (.int r2))) (σ' := σ) (rest := []) lm_X9_187 (c_X1_worth rfl e1) (by decide) (by decide) rfl rfl (by decide) rfl rfl (Nat.le_of_ble_eq_true rfl) dX9_day_87 (.refl 90) (st' := [.int r2]) rfl ?_
      cases h
      exact AW.ireturn rfl dX9_day_90
    · have h := ifn c10 h
      refine AW.aload_n dX9_day_32 (.refl 33) 0 rfl ?_
      refine AW.aload_n dX9_day_33 (.refl 34) 0 rfl ?_
      refine AW.getJ lk_X9_84 rfl rfl (by decide) dX9_day_34 (.refl 37) ?_
      refine AW.ldc2_w lc_X9_277 dX9_day_37 (.refl 40) ?_
      refine AW.lmul dX9_day_40 (.refl 41) ?_
      refine AW.ldc2_w lc_X9_279 dX9_day_41 (.refl 44) ?_
      refine AW.ladd dX9_day_44 (.refl 45) ?_
      refine AW.putJ lp_X9_84 rfl rfl (by decide) dX9_day_45 (.refl 48) ?_
      obtain ⟨σ3, e4, h⟩ := bnd_s h
      refine AW.nmM e4 ?_
      refine AW.aload_n dX9_day_48 (.refl 49) 0 rfl ?_
      refine AW.getJ lk_X9_84 rfl rfl (by decide) dX9_day_49 (.refl 52) ?_
      refine AW.bipush (v := (33 : Int32)) dX9_day_52 (.refl 54) (by decide) ?_
      refine AW.lushr dX9_day_54 (.refl 55) ?_
      refine AW.ldc2_w lc_X9_281 dX9_day_55 (.refl 58) ?_
      refine AW.lrem dX9_day_58 (.refl 59) (by decide) ?_
      refine AW.l2i dX9_day_59 (.refl 60) ?_
      obtain ⟨y5, e6, h⟩ := bnd_s h
      refine AW.nmI e6 ?_
      refine AW.istore_n (L' := [(3, .int y5), (0, .ref 0), (1, .int x1), (2, .int x2)]) dX9_day_60 (.refl 61) (by decide) rfl ?_
      refine AW.aload_n dX9_day_61 (.refl 62) 1 rfl ?_
      refine AW.getR (z := 18) lk_X9_32 rfl rfl (by decide) rfl dX9_day_62 (.refl 65) ?_
      refine AW.iload_n dX9_day_65 (.refl 66) 0 rfl ?_
      refine AW.bipush (v := (10 : Int32)) dX9_day_66 (.refl 68) (by decide) ?_
      refine AW.idiv dX9_day_68 (.refl 69) (by decide) ?_
      refine AW.iload_n dX9_day_69 (.refl 70) 0 rfl ?_
      refine AW.bipush (v := (10 : Int32)) dX9_day_70 (.refl 72) (by decide) ?_
      refine AW.irem dX9_day_72 (.refl 73) (by decide) ?_
      obtain ⟨r8, τ9, e7, h⟩ := b2_s h
      refine AW.callV (r' := (some (.int r8))) (σ' := τ9) (rest := []) lm_X9_238 (c_X1_letIfCan rfl e7) (by decide) (by decide) rfl rfl (by decide) rfl rfl (Nat.le_of_ble_eq_true rfl) dX9_day_73 (.refl 76) (st' := [.int r8]) rfl ?_
      refine AW.pop dX9_day_76 (.refl 77) rfl ?_
      refine AW.iinc (v := (x2 + (1 : Int32))) (L' := [(2, .int (x2 + (1 : Int32))), (3, .int y5), (0, .ref 0), (1, .int x1)]) dX9_day_77 (.refl 80) 3 rfl rfl (by decide) rfl ?_
      refine AW.goto (tgt := 27) dX9_day_80 (by decide) ?_
      refine AW.sub (L' := [(0, .ref 0), (1, .int x1), (2, .int (x2 + (1 : Int32)))]) [2, 3, 0] rfl ?_
      exact ih x1 (x2 + (1 : Int32)) τ9 h
set_option maxRecDepth 20000 in
theorem c_X9_day {l : Launch} {G : Gg} {x1 : Int32} {σ : Mm} {v : Int32} {τ : Mm} (h : f_X9_day x1 σ = some (v, τ)) : MR l G 5 M_X9_day [.ref 0, .int x1] σ (some (.int v)) τ := by
  unfold f_X9_day at h
  refine MR.of (by decide +kernel) (Nat.le_of_ble_eq_true rfl) ?_
  show AW l G 5 M_X9_day (some (.int v)) τ 0 [(0, .ref 0), (1, .int x1)] [] σ
  refine AW.iload_n dX9_day_0 (.refl 1) 1 rfl ?_
  refine AW.iconst (v := (1 : Int32)) dX9_day_1 (.refl 2) (by decide) ?_
  refine AW.icmp_lt (tgt := 11) dX9_day_2 (by decide) (fun c4 => ?_) (fun c4 => ?_)
  · have h := ifp c4 h
    refine AW.bipush (v := (-2 : Int32)) dX9_day_11 (.refl 13) (by decide) ?_
    cases h
    exact AW.ireturn rfl dX9_day_13
  · have h := ifn c4 h
    refine AW.iload_n dX9_day_5 (.refl 6) 1 rfl ?_
    refine AW.bipush (v := (20 : Int32)) dX9_day_6 (.refl 8) (by decide) ?_
    refine AW.icmp_le (tgt := 14) dX9_day_8 (by decide) (fun c3 => ?_) (fun c3 => ?_)
    · have h := ifp c3 h
      refine AW.aload_n dX9_day_14 (.refl 15) 0 rfl ?_
      refine AW.getR (z := 18) lk_X9_32 rfl rfl (by decide) rfl dX9_day_15 (.refl 18) ?_
      refine AW.aload_n dX9_day_18 (.refl 19) 0 rfl ?_
      refine AW.getR (z := 16) lk_X9_28 rfl rfl (by decide) rfl dX9_day_19 (.refl 22) ?_
      obtain ⟨τ2, e1, h⟩ := b1_s h
      refine AW.callV (r' := none) (σ' := τ2) (rest := []) lm_X9_235 (c_X1_copy rfl rfl e1) (by decide) (by decide) rfl rfl (by decide) rfl rfl (Nat.le_of_ble_eq_true rfl) dX9_day_22 (.refl 25) (st' := []) rfl ?_
      refine AW.iconst (v := (0 : Int32)) dX9_day_25 (.refl 26) (by decide) ?_
      refine AW.istore_n (L' := [(2, .int (0 : Int32)), (0, .ref 0), (1, .int x1)]) dX9_day_26 (.refl 27) (by decide) rfl ?_
      refine AW.sub (L' := [(0, .ref 0), (1, .int x1), (2, .int (0 : Int32))]) [1, 2, 0] rfl ?_
      exact a_X9_day_p27 FU x1 (0 : Int32) τ2 h
    · have h := ifn c3 h
      refine AW.bipush (v := (-2 : Int32)) dX9_day_11 (.refl 13) (by decide) ?_
      cases h
      exact AW.ireturn rfl dX9_day_13
def f_X9_slotOf (σ : Mm) (x1 : Int32) : Option (Option Nat) := (if x1 = 0 then some (some 20) else (if x1 = (1 : Int32) then some (some 23) else some none))
set_option maxRecDepth 20000 in
theorem c_X9_slotOf {l : Launch} {G : Gg} {x1 : Int32} {σ : Mm} {v : Option Nat} (h : f_X9_slotOf σ x1 = some v) : MR l G 0 M_X9_slotOf [.ref 0, .int x1] σ (some (rv v)) σ := by
  unfold f_X9_slotOf at h
  refine MR.of (by decide +kernel) (Nat.le_of_ble_eq_true rfl) ?_
  show AW l G 0 M_X9_slotOf (some (rv v)) σ 0 [(0, .ref 0), (1, .int x1)] [] σ
  refine AW.iload_n dX9_slotOf_0 (.refl 1) 1 rfl ?_
  refine AW.if_ne (tgt := 9) dX9_slotOf_1 (by decide) (fun c2 => ?_) (fun c2 => ?_)
  · have h := ifn c2 h
    refine AW.iload_n dX9_slotOf_9 (.refl 10) 1 rfl ?_
    refine AW.iconst (v := (1 : Int32)) dX9_slotOf_10 (.refl 11) (by decide) ?_
    refine AW.icmp_ne (tgt := 21) dX9_slotOf_11 (by decide) (fun c1 => ?_) (fun c1 => ?_)
    · have h := ifn c1 h
      refine AW.null dX9_slotOf_21 (.refl 22) ?_
      cases h
      exact AW.areturn (v := .null) rfl (Or.inl rfl) dX9_slotOf_22
    · have h := ifp c1 h
      refine AW.aload_n dX9_slotOf_14 (.refl 15) 0 rfl ?_
      refine AW.getR (z := 23) lk_X9_42 rfl rfl (by decide) rfl dX9_slotOf_15 (.refl 18) ?_
      refine AW.goto (tgt := 22) dX9_slotOf_18 (by decide) ?_
      cases h
      exact AW.areturn (v := .ref 23) rfl (Or.inr ⟨_, rfl⟩) dX9_slotOf_22
  · have h := ifp c2 h
    refine AW.aload_n dX9_slotOf_4 (.refl 5) 0 rfl ?_
    refine AW.getR (z := 20) lk_X9_38 rfl rfl (by decide) rfl dX9_slotOf_5 (.refl 8) ?_
    cases h
    exact AW.areturn (v := .ref 20) rfl (Or.inr ⟨_, rfl⟩) dX9_slotOf_8
def f_X6_fill (k0 : Nat) (k1 : Nat)  (σ : Mm) : Option (Mm) := b1 (f_X1_copy (cRef k0 0) k1 σ) (fun (τ2 : Mm) => some (sI τ2 k0 1 (1 : Int32)))
set_option maxRecDepth 20000 in
theorem c_X6_fill {l : Launch} {G : Gg} {k0 : Nat} (hk0 : cTag k0 = 6) {k1 : Nat} (hk1 : cTag k1 = 1)  {σ : Mm} {τ : Mm} (h : f_X6_fill k0 k1  σ = some τ) : MR l G 1 M_X6_fill [.ref k0, .ref k1] σ none τ := by
  unfold f_X6_fill at h
  refine MR.of (by decide +kernel) (Nat.le_of_ble_eq_true rfl) ?_
  show AW l G 1 M_X6_fill none τ 0 [(0, .ref k0), (1, .ref k1)] [] σ
  refine AW.aload_n dX6_fill_0 (.refl 1) 0 rfl ?_
  refine AW.getR (z := (cRef k0 0)) lk_X6_18 hk0 rfl (by decide) rfl dX6_fill_1 (.refl 4) ?_
  refine AW.aload_n dX6_fill_4 (.refl 5) 1 rfl ?_
  obtain ⟨τ2, e1, h⟩ := b1_s h
  refine AW.callV (r' := none) (σ' := τ2) (rest := []) lm_X6_22 (c_X1_copy (tg_6_0 hk0) hk1 e1) (by decide) (by decide) (tg_6_0 hk0) rfl (by decide) rfl rfl (Nat.le_of_ble_eq_true rfl) dX6_fill_5 (.refl 8) (st' := []) rfl ?_
  refine AW.aload_n dX6_fill_8 (.refl 9) 0 rfl ?_
  refine AW.iconst (v := (1 : Int32)) dX6_fill_9 (.refl 10) (by decide) ?_
  refine AW.putZ lp_X6_7 hk0 rfl (by decide) (by decide) dX6_fill_10 (.refl 13) ?_
  cases h
  exact AW.vreturn rfl dX6_fill_13
def f_X9_keep (x1 : Int32) (σ : Mm) : Option (Int32 × Mm) := b1 (f_X9_slotOf σ x1) (fun (o2 : Option Nat) => oc o2 (some ((-1 : Int32), σ)) (fun (k3 : Nat) => gd (decide (cTag k3 = 6)) (b1 (f_X6_fill k3 16 σ) (fun (τ6 : Mm) => b1 (f_X1_worth τ6 16) (fun (r8 : Int32) => some (r8, τ6))))))
set_option maxRecDepth 20000 in
theorem c_X9_keep {l : Launch} {G : Gg} {x1 : Int32} {σ : Mm} {v : Int32} {τ : Mm} (h : f_X9_keep x1 σ = some (v, τ)) : MR l G 4 M_X9_keep [.ref 0, .int x1] σ (some (.int v)) τ := by
  unfold f_X9_keep at h
  refine MR.of (by decide +kernel) (Nat.le_of_ble_eq_true rfl) ?_
  show AW l G 4 M_X9_keep (some (.int v)) τ 0 [(0, .ref 0), (1, .int x1)] [] σ
  refine AW.aload_n dX9_keep_0 (.refl 1) 0 rfl ?_
  refine AW.iload_n dX9_keep_1 (.refl 2) 1 rfl ?_
  obtain ⟨o2, e1, h⟩ := b1_s h
  cases o2 with
  | none =>
    refine AW.callV (r' := (some .null)) (σ' := σ) (rest := []) lm_X9_283 (c_X9_slotOf e1) (by decide) (by decide) rfl rfl (by decide) rfl rfl (Nat.le_of_ble_eq_true rfl) dX9_keep_2 (.refl 5) (st' := [.null]) rfl ?_
    refine AW.astore_nN (L' := [(2, .null), (0, .ref 0), (1, .int x1)]) dX9_keep_5 (.refl 6) (by decide) rfl ?_
    refine AW.aload_nN dX9_keep_6 (.refl 7) 0 rfl ?_
    refine AW.ifnonnullN dX9_keep_7 ?_
    refine AW.iconst (v := (-1 : Int32)) dX9_keep_10 (.refl 11) (by decide) ?_
    cases h
    exact AW.ireturn rfl dX9_keep_11
  | some k3 =>
    obtain ⟨g4, h⟩ := gd_s h
    refine AW.callV (r' := (some (.ref k3))) (σ' := σ) (rest := []) lm_X9_283 (c_X9_slotOf e1) (by decide) (by decide) rfl rfl (by decide) rfl rfl (Nat.le_of_ble_eq_true rfl) dX9_keep_2 (.refl 5) (st' := [.ref k3]) rfl ?_
    refine AW.astore_n (L' := [(2, .ref k3), (0, .ref 0), (1, .int x1)]) dX9_keep_5 (.refl 6) (by decide) rfl ?_
    refine AW.aload_n dX9_keep_6 (.refl 7) 0 rfl ?_
    refine AW.ifnonnull (tgt := 12) dX9_keep_7 (by decide) ?_
    refine AW.aload_n dX9_keep_12 (.refl 13) 0 rfl ?_
    refine AW.aload_n dX9_keep_13 (.refl 14) 1 rfl ?_
    refine AW.getR (z := 16) lk_X9_28 rfl rfl (by decide) rfl dX9_keep_14 (.refl 17) ?_
    obtain ⟨τ6, e5, h⟩ := b1_s h
    refine AW.callV (r' := none) (σ' := τ6) (rest := []) lm_X9_287 (c_X6_fill (of_decide_eq_true g4) rfl e5) (by decide) (by decide) (of_decide_eq_true g4) rfl (by decide) rfl rfl (Nat.le_of_ble_eq_true rfl) dX9_keep_17 (.refl 20) (st' := []) rfl ?_
    refine AW.aload_n dX9_keep_20 (.refl 21) 1 rfl ?_
    refine AW.getR (z := 16) lk_X9_28 rfl rfl (by decide) rfl dX9_keep_21 (.refl 24) ?_
    obtain ⟨r8, e7, h⟩ := b1_s h
    refine AW.callV (r' := (some (.int r8))) (σ' := τ6) (rest := []) lm_X9_187 (c_X1_worth rfl e7) (by decide) (by decide) rfl rfl (by decide) rfl rfl (Nat.le_of_ble_eq_true rfl) dX9_keep_24 (.refl 27) (st' := [.int r8]) rfl ?_
    cases h
    exact AW.ireturn rfl dX9_keep_27
def f_X9_again (x1 : Int32) (σ : Mm) : Option (Int32 × Mm) := b1 (f_X9_slotOf σ x1) (fun (o2 : Option Nat) => oc o2 (some ((-1 : Int32), σ)) (fun (k3 : Nat) => gd (decide (cTag k3 = 6)) ((if (σ.1 k3 1) = 0 then some ((-3 : Int32), σ) else b1 (f_X1_copy 16 (cRef k3 0) σ) (fun (τ6 : Mm) => b1 (f_X0_clear τ6) (fun (τ8 : Mm) => b1 (f_X1_worth τ8 16) (fun (r10 : Int32) => some (r10, τ8))))))))
set_option maxRecDepth 20000 in
theorem c_X9_again {l : Launch} {G : Gg} {x1 : Int32} {σ : Mm} {v : Int32} {τ : Mm} (h : f_X9_again x1 σ = some (v, τ)) : MR l G 4 M_X9_again [.ref 0, .int x1] σ (some (.int v)) τ := by
  unfold f_X9_again at h
  refine MR.of (by decide +kernel) (Nat.le_of_ble_eq_true rfl) ?_
  show AW l G 4 M_X9_again (some (.int v)) τ 0 [(0, .ref 0), (1, .int x1)] [] σ
  refine AW.aload_n dX9_again_0 (.refl 1) 0 rfl ?_
  refine AW.iload_n dX9_again_1 (.refl 2) 1 rfl ?_
  obtain ⟨o2, e1, h⟩ := b1_s h
  cases o2 with
  | none =>
    refine AW.callV (r' := (some .null)) (σ' := σ) (rest := []) lm_X9_283 (c_X9_slotOf e1) (by decide) (by decide) rfl rfl (by decide) rfl rfl (Nat.le_of_ble_eq_true rfl) dX9_again_2 (.refl 5) (st' := [.null]) rfl ?_
    refine AW.astore_nN (L' := [(2, .null), (0, .ref 0), (1, .int x1)]) dX9_again_5 (.refl 6) (by decide) rfl ?_
    refine AW.aload_nN dX9_again_6 (.refl 7) 0 rfl ?_
    refine AW.ifnonnullN dX9_again_7 ?_
    refine AW.iconst (v := (-1 : Int32)) dX9_again_10 (.refl 11) (by decide) ?_
    cases h
    exact AW.ireturn rfl dX9_again_11
  | some k3 =>
    obtain ⟨g4, h⟩ := gd_s h
    refine AW.callV (r' := (some (.ref k3))) (σ' := σ) (rest := []) lm_X9_283 (c_X9_slotOf e1) (by decide) (by decide) rfl rfl (by decide) rfl rfl (Nat.le_of_ble_eq_true rfl) dX9_again_2 (.refl 5) (st' := [.ref k3]) rfl ?_
    refine AW.astore_n (L' := [(2, .ref k3), (0, .ref 0), (1, .int x1)]) dX9_again_5 (.refl 6) (by decide) rfl ?_
    refine AW.aload_n dX9_again_6 (.refl 7) 0 rfl ?_
    refine AW.ifnonnull (tgt := 12) dX9_again_7 (by decide) ?_
    refine AW.aload_n dX9_again_12 (.refl 13) 0 rfl ?_
    refine AW.getI lk_X9_290 (of_decide_eq_true g4) rfl (by decide) dX9_again_13 (.refl 16) ?_
    refine AW.if_ne (tgt := 22) dX9_again_16 (by decide) (fun c11 => ?_) (fun c11 => ?_)
    · have h := ifn c11 h
      refine AW.aload_n dX9_again_22 (.refl 23) 1 rfl ?_
      refine AW.getR (z := 16) lk_X9_28 rfl rfl (by decide) rfl dX9_again_23 (.refl 26) ?_
      refine AW.aload_n dX9_again_26 (.refl 27) 0 rfl ?_
      refine AW.getR (z := (cRef k3 0)) lk_X9_294 (of_decide_eq_true g4) rfl (by decide) rfl dX9_again_27 (.refl 30) ?_
      obtain ⟨τ6, e5, h⟩ := b1_s h
      refine AW.callV (r' := none) (σ' := τ6) (rest := []) lm_X9_235 (c_X1_copy rfl (tg_6_0 (of_decide_eq_true g4)) e5) (by decide) (by decide) rfl rfl (by decide) rfl rfl (Nat.le_of_ble_eq_true rfl) dX9_again_30 (.refl 33) (st' := []) rfl ?_
      refine AW.aload_n dX9_again_33 (.refl 34) 1 rfl ?_
      refine AW.getR (z := 26) lk_X9_48 rfl rfl (by decide) rfl dX9_again_34 (.refl 37) ?_
      obtain ⟨τ8, e7, h⟩ := b1_s h
      refine AW.callV (r' := none) (σ' := τ8) (rest := []) lm_X9_105 (c_X0_clear e7) (by decide) (by decide) rfl rfl (by decide) rfl rfl (Nat.le_of_ble_eq_true rfl) dX9_again_37 (.refl 40) (st' := []) rfl ?_
      refine AW.aload_n dX9_again_40 (.refl 41) 1 rfl ?_
      refine AW.getR (z := 16) lk_X9_28 rfl rfl (by decide) rfl dX9_again_41 (.refl 44) ?_
      obtain ⟨r10, e9, h⟩ := b1_s h
      refine AW.callV (r' := (some (.int r10))) (σ' := τ8) (rest := []) lm_X9_187 (c_X1_worth rfl e9) (by decide) (by decide) rfl rfl (by decide) rfl rfl (Nat.le_of_ble_eq_true rfl) dX9_again_44 (.refl 47) (st' := [.int r10]) rfl ?_
      cases h
      exact AW.ireturn rfl dX9_again_47
    · have h := ifp c11 h
      refine AW.bipush (v := (-3 : Int32)) dX9_again_19 (.refl 21) (by decide) ?_
      cases h
      exact AW.ireturn rfl dX9_again_21
def f_X9_count (σ : Mm) (x1 : Int32) : Option (Int32) := (if x1 = (0 : Int32) then some (σ.1 1 1) else (if x1 = (1 : Int32) then some (σ.1 3 0) else (if x1 = (2 : Int32) then some (σ.1 3 1) else (if x1 = (3 : Int32) then b1 (f_X1_everyoneLet σ 16) (fun (r5 : Int32) => some r5) else (if x1 = (4 : Int32) then b1 (f_X1_worth σ 16) (fun (r8 : Int32) => some r8) else (if x1 = (5 : Int32) then b1 (f_X1_ringing σ 16) (fun (r11 : Int32) => b1 (f_X9_ofAnyBell σ r11) (fun (r13 : Int32) => some r13)) else (if x1 = (6 : Int32) then some (σ.1 26 2) else (if x1 = (7 : Int32) then some (σ.1 36 2) else some (-2 : Int32)))))))))
set_option maxRecDepth 20000 in
theorem c_X9_count {l : Launch} {G : Gg} {x1 : Int32} {σ : Mm} {v : Int32} (h : f_X9_count σ x1 = some v) : MR l G 4 M_X9_count [.ref 0, .int x1] σ (some (.int v)) σ := by
  unfold f_X9_count at h
  refine MR.of (by decide +kernel) (Nat.le_of_ble_eq_true rfl) ?_
  show AW l G 4 M_X9_count (some (.int v)) σ 0 [(0, .ref 0), (1, .int x1)] [] σ
  refine AW.iload_n dX9_count_0 (.refl 1) 1 rfl ?_
  by_cases c1 : x1 = (0 : Int32)
  · have h := ifp c1 h
    refine AW.tabIn (v := (0 : Int32)) (off := 47) (tgt := 48) dX9_count_1 c1 (by decide) (by decide) (by decide) (by decide) ?_
    refine AW.aload_n dX9_count_48 (.refl 49) 0 rfl ?_
    refine AW.getR (z := 1) lk_X9_10 rfl rfl (by decide) rfl dX9_count_49 (.refl 52) ?_
    refine AW.getI lk_X9_297 rfl rfl (by decide) dX9_count_52 (.refl 55) ?_
    cases h
    exact AW.ireturn rfl dX9_count_55
  have h := ifn c1 h
  by_cases c2 : x1 = (1 : Int32)
  · have h := ifp c2 h
    refine AW.tabIn (v := (1 : Int32)) (off := 55) (tgt := 56) dX9_count_1 c2 (by decide) (by decide) (by decide) (by decide) ?_
    refine AW.aload_n dX9_count_56 (.refl 57) 0 rfl ?_
    refine AW.getR (z := 3) lk_X9_19 rfl rfl (by decide) rfl dX9_count_57 (.refl 60) ?_
    refine AW.getI lk_X9_109 rfl rfl (by decide) dX9_count_60 (.refl 63) ?_
    cases h
    exact AW.ireturn rfl dX9_count_63
  have h := ifn c2 h
  by_cases c3 : x1 = (2 : Int32)
  · have h := ifp c3 h
    refine AW.tabIn (v := (2 : Int32)) (off := 63) (tgt := 64) dX9_count_1 c3 (by decide) (by decide) (by decide) (by decide) ?_
    refine AW.aload_n dX9_count_64 (.refl 65) 0 rfl ?_
    refine AW.getR (z := 3) lk_X9_19 rfl rfl (by decide) rfl dX9_count_65 (.refl 68) ?_
    refine AW.getI lk_X9_113 rfl rfl (by decide) dX9_count_68 (.refl 71) ?_
    cases h
    exact AW.ireturn rfl dX9_count_71
  have h := ifn c3 h
  by_cases c6 : x1 = (3 : Int32)
  · have h := ifp c6 h
    refine AW.tabIn (v := (3 : Int32)) (off := 71) (tgt := 72) dX9_count_1 c6 (by decide) (by decide) (by decide) (by decide) ?_
    refine AW.aload_n dX9_count_72 (.refl 73) 0 rfl ?_
    refine AW.getR (z := 16) lk_X9_28 rfl rfl (by decide) rfl dX9_count_73 (.refl 76) ?_
    obtain ⟨r5, e4, h⟩ := b1_s h
    refine AW.callV (r' := (some (.int r5))) (σ' := σ) (rest := []) lm_X9_300 (c_X1_everyoneLet rfl e4) (by decide) (by decide) rfl rfl (by decide) rfl rfl (Nat.le_of_ble_eq_true rfl) dX9_count_76 (.refl 79) (st' := [.int r5]) rfl ?_
    cases h
    exact AW.ireturn rfl dX9_count_79
  have h := ifn c6 h
  by_cases c9 : x1 = (4 : Int32)
  · have h := ifp c9 h
    refine AW.tabIn (v := (4 : Int32)) (off := 79) (tgt := 80) dX9_count_1 c9 (by decide) (by decide) (by decide) (by decide) ?_
    refine AW.aload_n dX9_count_80 (.refl 81) 0 rfl ?_
    refine AW.getR (z := 16) lk_X9_28 rfl rfl (by decide) rfl dX9_count_81 (.refl 84) ?_
    obtain ⟨r8, e7, h⟩ := b1_s h
    refine AW.callV (r' := (some (.int r8))) (σ' := σ) (rest := []) lm_X9_187 (c_X1_worth rfl e7) (by decide) (by decide) rfl rfl (by decide) rfl rfl (Nat.le_of_ble_eq_true rfl) dX9_count_84 (.refl 87) (st' := [.int r8]) rfl ?_
    cases h
    exact AW.ireturn rfl dX9_count_87
  have h := ifn c9 h
  by_cases c14 : x1 = (5 : Int32)
  · have h := ifp c14 h
    refine AW.tabIn (v := (5 : Int32)) (off := 87) (tgt := 88) dX9_count_1 c14 (by decide) (by decide) (by decide) (by decide) ?_
    refine AW.aload_n dX9_count_88 (.refl 89) 0 rfl ?_
    refine AW.getR (z := 16) lk_X9_28 rfl rfl (by decide) rfl dX9_count_89 (.refl 92) ?_
    obtain ⟨r11, e10, h⟩ := b1_s h
    refine AW.callV (r' := (some (.int r11))) (σ' := σ) (rest := []) lm_X9_130 (c_X1_ringing rfl e10) (by decide) (by decide) rfl rfl (by decide) rfl rfl (Nat.le_of_ble_eq_true rfl) dX9_count_92 (.refl 95) (st' := [.int r11]) rfl ?_
    obtain ⟨r13, e12, h⟩ := b1_s h
    refine AW.callS (r' := (some (.int r13))) (σ' := σ) (rest := []) lm_X9_303 (c_X9_ofAnyBell e12) (by decide) (by decide) rfl rfl (Nat.le_of_ble_eq_true rfl) dX9_count_95 (.refl 98) (st' := [.int r13]) rfl ?_
    cases h
    exact AW.ireturn rfl dX9_count_98
  have h := ifn c14 h
  by_cases c15 : x1 = (6 : Int32)
  · have h := ifp c15 h
    refine AW.tabIn (v := (6 : Int32)) (off := 98) (tgt := 99) dX9_count_1 c15 (by decide) (by decide) (by decide) (by decide) ?_
    refine AW.aload_n dX9_count_99 (.refl 100) 0 rfl ?_
    refine AW.getR (z := 26) lk_X9_48 rfl rfl (by decide) rfl dX9_count_100 (.refl 103) ?_
    refine AW.getI lk_X9_190 rfl rfl (by decide) dX9_count_103 (.refl 106) ?_
    cases h
    exact AW.ireturn rfl dX9_count_106
  have h := ifn c15 h
  by_cases c16 : x1 = (7 : Int32)
  · have h := ifp c16 h
    refine AW.tabIn (v := (7 : Int32)) (off := 106) (tgt := 107) dX9_count_1 c16 (by decide) (by decide) (by decide) (by decide) ?_
    refine AW.aload_n dX9_count_107 (.refl 108) 0 rfl ?_
    refine AW.getR (z := 36) lk_X9_62 rfl rfl (by decide) rfl dX9_count_108 (.refl 111) ?_
    refine AW.getI lk_X9_306 rfl rfl (by decide) dX9_count_111 (.refl 114) ?_
    cases h
    exact AW.ireturn rfl dX9_count_114
  have h := ifn c16 h
  refine AW.tabOut (tgt := 115) dX9_count_1 (tab_out _ 7 (fun i hi => by
      rcases (show i = 0 ∨ i = 1 ∨ i = 2 ∨ i = 3 ∨ i = 4 ∨ i = 5 ∨ i = 6 ∨ i = 7 by omega) with rfl | rfl | rfl | rfl | rfl | rfl | rfl | rfl
      · exact c1
      · exact c2
      · exact c3
      · exact c6
      · exact c9
      · exact c14
      · exact c15
      · exact c16) (by decide)) (by decide) ?_
  refine AW.bipush (v := (-2 : Int32)) dX9_count_115 (.refl 117) (by decide) ?_
  cases h
  exact AW.ireturn rfl dX9_count_117
