def f_X2_areQuiets_p2 (σ : Mm) : Nat → Int32 → Int32 → Option (Int32)
  | 0, _, _ => none
  | n + 1, x1, x2 => (if (5 : Int32) ≤ x2 then some (1 : Int32) else (if ((jushr x1 x2) &&& (1 : Int32)) = (1 : Int32) then b1 (f_X8_isQuiet σ x2) (fun (r2 : Int32) => (if r2 = 0 then some (0 : Int32) else (f_X2_areQuiets_p2 σ n) x1 (x2 + (1 : Int32)))) else (f_X2_areQuiets_p2 σ n) x1 (x2 + (1 : Int32))))
def f_X2_areQuiets (σ : Mm) (x1 : Int32) : Option (Int32) := f_X2_areQuiets_p2 σ FU x1 (0 : Int32)
set_option maxRecDepth 20000 in
theorem a_X2_areQuiets_p2 {l : Launch} {G : Gg} {v : Int32} {σ : Mm} : ∀ (n : Nat) (x1 : Int32) (x2 : Int32), f_X2_areQuiets_p2 σ n x1 x2 = some v → AW l G 2 M_X2_areQuiets (some (.int v)) σ 2 [(0, .ref 39), (1, .int x1), (2, .int x2)] [] σ := by
  intro n
  induction n with
  | zero => intro x1 x2 h; exact no_some h
  | succ n ih =>
    intro x1 x2 h
    rw [f_X2_areQuiets_p2] at h
    refine AW.iload_n dX2_areQuiets_2 (.refl 3) 2 rfl ?_
    refine AW.iconst (v := (5 : Int32)) dX2_areQuiets_3 (.refl 4) (by decide) ?_
    refine AW.icmp_ge (tgt := 35) dX2_areQuiets_4 (by decide) (fun c5 => ?_) (fun c5 => ?_)
    · have h := ifp c5 h
      refine AW.iconst (v := (1 : Int32)) dX2_areQuiets_35 (.refl 36) (by decide) ?_
      cases h
      exact AW.zreturn rfl (by decide) dX2_areQuiets_36
    · have h := ifn c5 h
      refine AW.iload_n dX2_areQuiets_7 (.refl 8) 1 rfl ?_
      refine AW.iload_n dX2_areQuiets_8 (.refl 9) 2 rfl ?_
      refine AW.iushr dX2_areQuiets_9 (.refl 10) ?_
      refine AW.iconst (v := (1 : Int32)) dX2_areQuiets_10 (.refl 11) (by decide) ?_
      refine AW.iand dX2_areQuiets_11 (.refl 12) ?_
      refine AW.iconst (v := (1 : Int32)) dX2_areQuiets_12 (.refl 13) (by decide) ?_
      refine AW.icmp_ne (tgt := 29) dX2_areQuiets_13 (by decide) (fun c4 => ?_) (fun c4 => ?_)
      · have h := ifn c4 h
        refine AW.iinc (v := (x2 + (1 : Int32))) (L' := [(2, .int (x2 + (1 : Int32))), (0, .ref 39), (1, .int x1)]) dX2_areQuiets_29 (.refl 32) 2 rfl rfl (by decide) rfl ?_
        refine AW.goto (tgt := 2) dX2_areQuiets_32 (by decide) ?_
        refine AW.sub (L' := [(0, .ref 39), (1, .int x1), (2, .int (x2 + (1 : Int32)))]) [1, 2, 0] rfl ?_
        exact ih x1 (x2 + (1 : Int32)) h
      · have h := ifp c4 h
        refine AW.aload_n dX2_areQuiets_16 (.refl 17) 0 rfl ?_
        refine AW.getR (z := 3) lk_X2_42 rfl rfl (by decide) rfl dX2_areQuiets_17 (.refl 20) ?_
        refine AW.iload_n dX2_areQuiets_20 (.refl 21) 2 rfl ?_
        obtain ⟨r2, e1, h⟩ := b1_s h
        refine AW.callV (r' := (some (.int r2))) (σ' := σ) (rest := []) lm_X2_65 (c_X8_isQuiet e1) (by decide) (by decide) rfl rfl (by decide) rfl rfl (Nat.le_of_ble_eq_true rfl) dX2_areQuiets_21 (.refl 24) (st' := [.int r2]) rfl ?_
        refine AW.if_ne (tgt := 29) dX2_areQuiets_24 (by decide) (fun c3 => ?_) (fun c3 => ?_)
        · have h := ifn c3 h
          refine AW.iinc (v := (x2 + (1 : Int32))) (L' := [(2, .int (x2 + (1 : Int32))), (0, .ref 39), (1, .int x1)]) dX2_areQuiets_29 (.refl 32) 2 rfl rfl (by decide) rfl ?_
          refine AW.goto (tgt := 2) dX2_areQuiets_32 (by decide) ?_
          refine AW.sub (L' := [(0, .ref 39), (1, .int x1), (2, .int (x2 + (1 : Int32)))]) [1, 2, 0] rfl ?_
          exact ih x1 (x2 + (1 : Int32)) h
        · have h := ifp c3 h
          refine AW.iconst (v := (0 : Int32)) dX2_areQuiets_27 (.refl 28) (by decide) ?_
          cases h
          exact AW.zreturn rfl (by decide) dX2_areQuiets_28
set_option maxRecDepth 20000 in
theorem c_X2_areQuiets {l : Launch} {G : Gg} {x1 : Int32} {σ : Mm} {v : Int32} (h : f_X2_areQuiets σ x1 = some v) : MR l G 2 M_X2_areQuiets [.ref 39, .int x1] σ (some (.int v)) σ := by
  unfold f_X2_areQuiets at h
  refine MR.of (by decide +kernel) (Nat.le_of_ble_eq_true rfl) ?_
  show AW l G 2 M_X2_areQuiets (some (.int v)) σ 0 [(0, .ref 39), (1, .int x1)] [] σ
  refine AW.iconst (v := (0 : Int32)) dX2_areQuiets_0 (.refl 1) (by decide) ?_
  refine AW.istore_n (L' := [(2, .int (0 : Int32)), (0, .ref 39), (1, .int x1)]) dX2_areQuiets_1 (.refl 2) (by decide) rfl ?_
  refine AW.sub (L' := [(0, .ref 39), (1, .int x1), (2, .int (0 : Int32))]) [1, 2, 0] rfl ?_
  exact a_X2_areQuiets_p2 FU x1 (0 : Int32) h
def f_X2_tallyDay (x1 : Int32) (x2 : Int32) (x3 : Int32) (σ : Mm) : Option (Mm) := bnd (((σ.1 39 5) &&& (jshl (1023 : Int32) ((10 : Int32) * x1)))) (fun (y1 : Int32) => (if (x2 &&& y1) = y1 then (if (x2 &&& ((sI σ 39 7 ((σ.1 39 7) + (1 : Int32))).1 39 6)) = 0 then bnd ((sI (sI σ 39 7 ((σ.1 39 7) + (1 : Int32))) 39 8 (((sI σ 39 7 ((σ.1 39 7) + (1 : Int32))).1 39 8) + (1 : Int32)))) (fun (σ7 : Mm) => bnd ((sI (sI σ7 39 9 ((σ7.1 39 9) &&& x3)) 39 10 (((sI σ7 39 9 ((σ7.1 39 9) &&& x3)).1 39 10) ||| x3))) (fun (σ9 : Mm) => some σ9)) else bnd ((sI (sI σ 39 7 ((σ.1 39 7) + (1 : Int32))) 39 8 (((sI σ 39 7 ((σ.1 39 7) + (1 : Int32))).1 39 8) + (0 : Int32)))) (fun (σ3 : Mm) => bnd ((sI (sI σ3 39 9 ((σ3.1 39 9) &&& x3)) 39 10 (((sI σ3 39 9 ((σ3.1 39 9) &&& x3)).1 39 10) ||| x3))) (fun (σ5 : Mm) => some σ5))) else some σ))
set_option maxRecDepth 20000 in
theorem c_X2_tallyDay {l : Launch} {G : Gg} {x1 : Int32} {x2 : Int32} {x3 : Int32} {σ : Mm} {τ : Mm} (h : f_X2_tallyDay x1 x2 x3 σ = some τ) : MR l G 0 M_X2_tallyDay [.ref 39, .int x1, .int x2, .int x3] σ none τ := by
  unfold f_X2_tallyDay at h
  refine MR.of (by decide +kernel) (Nat.le_of_ble_eq_true rfl) ?_
  show AW l G 0 M_X2_tallyDay none τ 0 [(0, .ref 39), (1, .int x1), (2, .int x2), (3, .int x3)] [] σ
  refine AW.aload_n dX2_tallyDay_0 (.refl 1) 0 rfl ?_
  refine AW.getI lk_X2_24 rfl rfl (by decide) dX2_tallyDay_1 (.refl 4) ?_
  refine AW.sipush (v := (1023 : Int32)) dX2_tallyDay_4 (.refl 7) (by decide) ?_
  refine AW.bipush (v := (10 : Int32)) dX2_tallyDay_7 (.refl 9) (by decide) ?_
  refine AW.iload_n dX2_tallyDay_9 (.refl 10) 1 rfl ?_
  refine AW.imul dX2_tallyDay_10 (.refl 11) ?_
  refine AW.ishl dX2_tallyDay_11 (.refl 12) ?_
  refine AW.iand dX2_tallyDay_12 (.refl 13) ?_
  obtain ⟨y1, e2, h⟩ := bnd_s h
  refine AW.nmI e2 ?_
  refine AW.istore (L' := [(4, .int y1), (0, .ref 39), (1, .int x1), (2, .int x2), (3, .int x3)]) dX2_tallyDay_13 (.refl 15) (by decide) rfl ?_
  refine AW.iload_n dX2_tallyDay_15 (.refl 16) 3 rfl ?_
  refine AW.iload dX2_tallyDay_16 (.refl 18) 0 rfl ?_
  refine AW.iand dX2_tallyDay_18 (.refl 19) ?_
  refine AW.iload dX2_tallyDay_19 (.refl 21) 0 rfl ?_
  refine AW.icmp_eq (tgt := 25) dX2_tallyDay_21 (by decide) (fun c12 => ?_) (fun c12 => ?_)
  · have h := ifp c12 h
    refine AW.aload_n dX2_tallyDay_25 (.refl 26) 1 rfl ?_
    refine AW.dup dX2_tallyDay_26 (.refl 27) rfl ?_
    refine AW.getI lk_X2_30 rfl rfl (by decide) dX2_tallyDay_27 (.refl 30) ?_
    refine AW.iconst (v := (1 : Int32)) dX2_tallyDay_30 (.refl 31) (by decide) ?_
    refine AW.iadd dX2_tallyDay_31 (.refl 32) ?_
    refine AW.putI lp_X2_30 rfl rfl (by decide) dX2_tallyDay_32 (.refl 35) ?_
    refine AW.aload_n dX2_tallyDay_35 (.refl 36) 1 rfl ?_
    refine AW.dup dX2_tallyDay_36 (.refl 37) rfl ?_
    refine AW.getI lk_X2_33 rfl rfl (by decide) dX2_tallyDay_37 (.refl 40) ?_
    refine AW.iload_n dX2_tallyDay_40 (.refl 41) 3 rfl ?_
    refine AW.aload_n dX2_tallyDay_41 (.refl 42) 1 rfl ?_
    refine AW.getI lk_X2_27 rfl rfl (by decide) dX2_tallyDay_42 (.refl 45) ?_
    refine AW.iand dX2_tallyDay_45 (.refl 46) ?_
    refine AW.if_ne (tgt := 53) dX2_tallyDay_46 (by decide) (fun c11 => ?_) (fun c11 => ?_)
    · have h := ifn c11 h
      refine AW.iconst (v := (0 : Int32)) dX2_tallyDay_53 (.refl 54) (by decide) ?_
      refine AW.iadd dX2_tallyDay_54 (.refl 55) ?_
      refine AW.putI lp_X2_33 rfl rfl (by decide) dX2_tallyDay_55 (.refl 58) ?_
      obtain ⟨σ3, e4, h⟩ := bnd_s h
      refine AW.nmM e4 ?_
      refine AW.aload_n dX2_tallyDay_58 (.refl 59) 1 rfl ?_
      refine AW.dup dX2_tallyDay_59 (.refl 60) rfl ?_
      refine AW.getI lk_X2_36 rfl rfl (by decide) dX2_tallyDay_60 (.refl 63) ?_
      refine AW.iload_n dX2_tallyDay_63 (.refl 64) 4 rfl ?_
      refine AW.iand dX2_tallyDay_64 (.refl 65) ?_
      refine AW.putI lp_X2_36 rfl rfl (by decide) dX2_tallyDay_65 (.refl 68) ?_
      refine AW.aload_n dX2_tallyDay_68 (.refl 69) 1 rfl ?_
      refine AW.dup dX2_tallyDay_69 (.refl 70) rfl ?_
      refine AW.getI lk_X2_39 rfl rfl (by decide) dX2_tallyDay_70 (.refl 73) ?_
      refine AW.iload_n dX2_tallyDay_73 (.refl 74) 4 rfl ?_
      refine AW.ior dX2_tallyDay_74 (.refl 75) ?_
      refine AW.putI lp_X2_39 rfl rfl (by decide) dX2_tallyDay_75 (.refl 78) ?_
      obtain ⟨σ5, e6, h⟩ := bnd_s h
      refine AW.nmM e6 ?_
      cases h
      exact AW.vreturn rfl dX2_tallyDay_78
    · have h := ifp c11 h
      refine AW.iconst (v := (1 : Int32)) dX2_tallyDay_49 (.refl 50) (by decide) ?_
      refine AW.goto (tgt := 54) dX2_tallyDay_50 (by decide) ?_
      refine AW.iadd dX2_tallyDay_54 (.refl 55) ?_
      refine AW.putI lp_X2_33 rfl rfl (by decide) dX2_tallyDay_55 (.refl 58) ?_
      obtain ⟨σ7, e8, h⟩ := bnd_s h
      refine AW.nmM e8 ?_
      refine AW.aload_n dX2_tallyDay_58 (.refl 59) 1 rfl ?_
      refine AW.dup dX2_tallyDay_59 (.refl 60) rfl ?_
      refine AW.getI lk_X2_36 rfl rfl (by decide) dX2_tallyDay_60 (.refl 63) ?_
      refine AW.iload_n dX2_tallyDay_63 (.refl 64) 4 rfl ?_
      refine AW.iand dX2_tallyDay_64 (.refl 65) ?_
      refine AW.putI lp_X2_36 rfl rfl (by decide) dX2_tallyDay_65 (.refl 68) ?_
      refine AW.aload_n dX2_tallyDay_68 (.refl 69) 1 rfl ?_
      refine AW.dup dX2_tallyDay_69 (.refl 70) rfl ?_
      refine AW.getI lk_X2_39 rfl rfl (by decide) dX2_tallyDay_70 (.refl 73) ?_
      refine AW.iload_n dX2_tallyDay_73 (.refl 74) 4 rfl ?_
      refine AW.ior dX2_tallyDay_74 (.refl 75) ?_
      refine AW.putI lp_X2_39 rfl rfl (by decide) dX2_tallyDay_75 (.refl 78) ?_
      obtain ⟨σ9, e10, h⟩ := bnd_s h
      refine AW.nmM e10 ?_
      cases h
      exact AW.vreturn rfl dX2_tallyDay_78
  · have h := ifn c12 h
    cases h
    exact AW.vreturn rfl dX2_tallyDay_24
def f_X8_isPealOf (σ : Mm) (x1 : Int32) (x2 : Int32) : Option (Int32) := b1 (f_X8_hasBidder σ x1) (fun (r2 : Int32) => (if r2 = 0 then some (0 : Int32) else b1 (f_X9_at σ 6 x1) (fun (r4 : Int32) => (if r4 = x2 then some (1 : Int32) else some (0 : Int32)))))
set_option maxRecDepth 20000 in
theorem c_X8_isPealOf {l : Launch} {G : Gg} {x1 : Int32} {x2 : Int32} {σ : Mm} {v : Int32} (h : f_X8_isPealOf σ x1 x2 = some v) : MR l G 1 M_X8_isPealOf [.ref 3, .int x1, .int x2] σ (some (.int v)) σ := by
  unfold f_X8_isPealOf at h
  refine MR.of (by decide +kernel) (Nat.le_of_ble_eq_true rfl) ?_
  show AW l G 1 M_X8_isPealOf (some (.int v)) σ 0 [(0, .ref 3), (1, .int x1), (2, .int x2)] [] σ
  refine AW.aload_n dX8_isPealOf_0 (.refl 1) 0 rfl ?_
  refine AW.iload_n dX8_isPealOf_1 (.refl 2) 1 rfl ?_
  obtain ⟨r2, e1, h⟩ := b1_s h
  refine AW.callV (r' := (some (.int r2))) (σ' := σ) (rest := []) lm_X8_56 (c_X8_hasBidder e1) (by decide) (by decide) rfl rfl (by decide) rfl rfl (Nat.le_of_ble_eq_true rfl) dX8_isPealOf_2 (.refl 5) (st' := [.int r2]) rfl ?_
  refine AW.if_eq (tgt := 24) dX8_isPealOf_5 (by decide) (fun c6 => ?_) (fun c6 => ?_)
  · have h := ifp c6 h
    refine AW.iconst (v := (0 : Int32)) dX8_isPealOf_24 (.refl 25) (by decide) ?_
    cases h
    exact AW.zreturn rfl (by decide) dX8_isPealOf_25
  · have h := ifn c6 h
    refine AW.aload_n dX8_isPealOf_8 (.refl 9) 0 rfl ?_
    refine AW.getR (z := 6) lk_X8_25 rfl rfl (by decide) rfl dX8_isPealOf_9 (.refl 12) ?_
    refine AW.iload_n dX8_isPealOf_12 (.refl 13) 1 rfl ?_
    obtain ⟨r4, e3, h⟩ := b1_s h
    refine AW.callN (r' := (some (.int r4))) (σ' := σ) (rest := []) lm_X8_60 (c_X9_at rfl e3) (by decide) (by decide) rfl rfl (Nat.le_of_ble_eq_true rfl) dX8_isPealOf_13 (.refl 16) (st' := [.int r4]) rfl ?_
    refine AW.iload_n dX8_isPealOf_16 (.refl 17) 2 rfl ?_
    refine AW.icmp_ne (tgt := 24) dX8_isPealOf_17 (by decide) (fun c5 => ?_) (fun c5 => ?_)
    · have h := ifn c5 h
      refine AW.iconst (v := (0 : Int32)) dX8_isPealOf_24 (.refl 25) (by decide) ?_
      cases h
      exact AW.zreturn rfl (by decide) dX8_isPealOf_25
    · have h := ifp c5 h
      refine AW.iconst (v := (1 : Int32)) dX8_isPealOf_20 (.refl 21) (by decide) ?_
      refine AW.goto (tgt := 25) dX8_isPealOf_21 (by decide) ?_
      cases h
      exact AW.zreturn rfl (by decide) dX8_isPealOf_25
def f_X2_walk_p50 (fr : Int32 → Int32 → Int64 → Int32 → Int32 → Int32 → Mm → Option (Mm)) : Nat → Int32 → Int32 → Int64 → Int32 → Int32 → Int32 → Int32 → Mm → Option (Mm)
  | 0, _, _, _, _, _, _, _, _ => none
  | n + 1, x1, x2, x3, x5, x6, x7, x8, σ => (if (10 : Int32) ≤ x8 then some σ else b1 (f_X8_mayBegin σ x1 x8) (fun (r2 : Int32) => (if r2 = 0 then (f_X2_walk_p50 fr n) x1 x2 x3 x5 x6 x7 (x8 + (1 : Int32)) σ else b1 (f_X8_takes σ x1 x8) (fun (r4 : Int64) => (if (lg_cmp (r4 &&& x3) (0 : Int64)) = 0 then b1 (f_X8_ringing σ x1 x8) (fun (r6 : Int32) => (if (r6 &&& x6) = 0 then b1 (f_X8_takes σ x1 x8) (fun (r8 : Int64) => b1 (f_X8_ringing σ x1 x8) (fun (r10 : Int32) => b1 (fr (x1 + (1 : Int32)) x2 (x3 ||| r8) (x5 ||| r10) x6 (x7 ||| (jshl (1 : Int32) x1)) σ) (fun (τ12 : Mm) => (f_X2_walk_p50 fr n) x1 x2 x3 x5 x6 x7 (x8 + (1 : Int32)) τ12))) else (f_X2_walk_p50 fr n) x1 x2 x3 x5 x6 x7 (x8 + (1 : Int32)) σ)) else (f_X2_walk_p50 fr n) x1 x2 x3 x5 x6 x7 (x8 + (1 : Int32)) σ)))))
def f_X2_walk_e (fr : Int32 → Int32 → Int64 → Int32 → Int32 → Int32 → Mm → Option (Mm)) (x1 : Int32) (x2 : Int32) (x3 : Int64) (x5 : Int32) (x6 : Int32) (x7 : Int32) (σ : Mm) : Option (Mm) := (if x1 < 0 then b1 (f_X2_tallyDay x2 x5 x7 σ) (fun (τ2 : Mm) => some τ2) else (if x1 < (5 : Int32) then b1 (fr (x1 + (1 : Int32)) x2 x3 x5 x6 x7 σ) (fun (τ4 : Mm) => b1 (f_X8_isPealOf τ4 x1 x2) (fun (r6 : Int32) => (if r6 = 0 then some τ4 else f_X2_walk_p50 fr FU x1 x2 x3 x5 x6 x7 (0 : Int32) τ4))) else b1 (f_X2_tallyDay x2 x5 x7 σ) (fun (τ9 : Mm) => some τ9)))
def f_X2_walk : Nat → Int32 → Int32 → Int64 → Int32 → Int32 → Int32 → Mm → Option (Mm)
  | 0, _, _, _, _, _, _, _ => none
  | n + 1, x1, x2, x3, x5, x6, x7, σ => f_X2_walk_e (f_X2_walk n) x1 x2 x3 x5 x6 x7 σ
set_option maxRecDepth 20000 in
theorem a_X2_walk_p50 {l : Launch} {G : Gg} {τ : Mm} {fr : Int32 → Int32 → Int64 → Int32 → Int32 → Int32 → Mm → Option (Mm)} {d d0 : Nat} (hB : 2 ≤ d) (hd0 : d0 + 1 ≤ d) (hfr : ∀ (x1 : Int32) (x2 : Int32) (x3 : Int64) (x5 : Int32) (x6 : Int32) (x7 : Int32) (σ : Mm) (τ : Mm), fr x1 x2 x3 x5 x6 x7 σ = some τ → MR l G d0 M_X2_walk [.ref 39, .int x1, .int x2, .long x3, .int x5, .int x6, .int x7] σ none τ) : ∀ (n : Nat) (x1 : Int32) (x2 : Int32) (x3 : Int64) (x5 : Int32) (x6 : Int32) (x7 : Int32) (x8 : Int32) (σ : Mm), f_X2_walk_p50 fr n x1 x2 x3 x5 x6 x7 x8 σ = some τ → AW l G d M_X2_walk none τ 50 [(0, .ref 39), (1, .int x1), (2, .int x2), (3, .long x3), (5, .int x5), (6, .int x6), (7, .int x7), (8, .int x8)] [] σ := by
  intro n
  induction n with
  | zero => intro x1 x2 x3 x5 x6 x7 x8 σ h; exact no_some h
  | succ n ih =>
    intro x1 x2 x3 x5 x6 x7 x8 σ h
    rw [f_X2_walk_p50] at h
    refine AW.iload dX2_walk_50 (.refl 52) 7 rfl ?_
    refine AW.bipush (v := (10 : Int32)) dX2_walk_52 (.refl 54) (by decide) ?_
    refine AW.icmp_ge (tgt := 150) dX2_walk_54 (by decide) (fun c16 => ?_) (fun c16 => ?_)
    · have h := ifp c16 h
      cases h
      exact AW.vreturn rfl dX2_walk_150
    · have h := ifn c16 h
      refine AW.aload_n dX2_walk_57 (.refl 58) 0 rfl ?_
      refine AW.getR (z := 3) lk_X2_42 rfl rfl (by decide) rfl dX2_walk_58 (.refl 61) ?_
      refine AW.iload_n dX2_walk_61 (.refl 62) 1 rfl ?_
      refine AW.iload dX2_walk_62 (.refl 64) 7 rfl ?_
      obtain ⟨r2, e1, h⟩ := b1_s h
      refine AW.callV (r' := (some (.int r2))) (σ' := σ) (rest := []) lm_X2_87 (c_X8_mayBegin e1) (by omega) (by decide) rfl rfl (by decide) rfl rfl (Nat.le_of_ble_eq_true rfl) dX2_walk_64 (.refl 67) (st' := [.int r2]) rfl ?_
      refine AW.if_eq (tgt := 144) dX2_walk_67 (by decide) (fun c15 => ?_) (fun c15 => ?_)
      · have h := ifp c15 h
        refine AW.iinc (v := (x8 + (1 : Int32))) (L' := [(8, .int (x8 + (1 : Int32))), (0, .ref 39), (1, .int x1), (2, .int x2), (3, .long x3), (5, .int x5), (6, .int x6), (7, .int x7)]) dX2_walk_144 (.refl 147) 7 rfl rfl (by decide) rfl ?_
        refine AW.goto (tgt := 50) dX2_walk_147 (by decide) ?_
        refine AW.sub (L' := [(0, .ref 39), (1, .int x1), (2, .int x2), (3, .long x3), (5, .int x5), (6, .int x6), (7, .int x7), (8, .int (x8 + (1 : Int32)))]) [1, 2, 3, 4, 5, 6, 7, 0] rfl ?_
        exact ih x1 x2 x3 x5 x6 x7 (x8 + (1 : Int32)) σ h
      · have h := ifn c15 h
        refine AW.aload_n dX2_walk_70 (.refl 71) 0 rfl ?_
        refine AW.getR (z := 3) lk_X2_42 rfl rfl (by decide) rfl dX2_walk_71 (.refl 74) ?_
        refine AW.iload_n dX2_walk_74 (.refl 75) 1 rfl ?_
        refine AW.iload dX2_walk_75 (.refl 77) 7 rfl ?_
        obtain ⟨r4, e3, h⟩ := b1_s h
        refine AW.callV (r' := (some (.long r4))) (σ' := σ) (rest := []) lm_X2_90 (c_X8_takes e3) (by omega) (by decide) rfl rfl (by decide) rfl rfl (Nat.le_of_ble_eq_true rfl) dX2_walk_77 (.refl 80) (st' := [.long r4]) rfl ?_
        refine AW.lload_n dX2_walk_80 (.refl 81) 3 rfl ?_
        refine AW.land dX2_walk_81 (.refl 82) ?_
        refine AW.lconst (v := (0 : Int64)) dX2_walk_82 (.refl 83) (by decide) ?_
        refine AW.lcmp dX2_walk_83 (.refl 84) ?_
        refine AW.if_ne (tgt := 144) dX2_walk_84 (by decide) (fun c14 => ?_) (fun c14 => ?_)
        · have h := ifn c14 h
          refine AW.iinc (v := (x8 + (1 : Int32))) (L' := [(8, .int (x8 + (1 : Int32))), (0, .ref 39), (1, .int x1), (2, .int x2), (3, .long x3), (5, .int x5), (6, .int x6), (7, .int x7)]) dX2_walk_144 (.refl 147) 7 rfl rfl (by decide) rfl ?_
          refine AW.goto (tgt := 50) dX2_walk_147 (by decide) ?_
          refine AW.sub (L' := [(0, .ref 39), (1, .int x1), (2, .int x2), (3, .long x3), (5, .int x5), (6, .int x6), (7, .int x7), (8, .int (x8 + (1 : Int32)))]) [1, 2, 3, 4, 5, 6, 7, 0] rfl ?_
          exact ih x1 x2 x3 x5 x6 x7 (x8 + (1 : Int32)) σ h
        · have h := ifp c14 h
          refine AW.aload_n dX2_walk_87 (.refl 88) 0 rfl ?_
          refine AW.getR (z := 3) lk_X2_42 rfl rfl (by decide) rfl dX2_walk_88 (.refl 91) ?_
          refine AW.iload_n dX2_walk_91 (.refl 92) 1 rfl ?_
          refine AW.iload dX2_walk_92 (.refl 94) 7 rfl ?_
          obtain ⟨r6, e5, h⟩ := b1_s h
          refine AW.callV (r' := (some (.int r6))) (σ' := σ) (rest := []) lm_X2_94 (c_X8_ringing e5) (by omega) (by decide) rfl rfl (by decide) rfl rfl (Nat.le_of_ble_eq_true rfl) dX2_walk_94 (.refl 97) (st' := [.int r6]) rfl ?_
          refine AW.iload dX2_walk_97 (.refl 99) 5 rfl ?_
          refine AW.iand dX2_walk_99 (.refl 100) ?_
          refine AW.if_ne (tgt := 144) dX2_walk_100 (by decide) (fun c13 => ?_) (fun c13 => ?_)
          · have h := ifn c13 h
            refine AW.iinc (v := (x8 + (1 : Int32))) (L' := [(8, .int (x8 + (1 : Int32))), (0, .ref 39), (1, .int x1), (2, .int x2), (3, .long x3), (5, .int x5), (6, .int x6), (7, .int x7)]) dX2_walk_144 (.refl 147) 7 rfl rfl (by decide) rfl ?_
            refine AW.goto (tgt := 50) dX2_walk_147 (by decide) ?_
            refine AW.sub (L' := [(0, .ref 39), (1, .int x1), (2, .int x2), (3, .long x3), (5, .int x5), (6, .int x6), (7, .int x7), (8, .int (x8 + (1 : Int32)))]) [1, 2, 3, 4, 5, 6, 7, 0] rfl ?_
            exact ih x1 x2 x3 x5 x6 x7 (x8 + (1 : Int32)) σ h
          · have h := ifp c13 h
            refine AW.aload_n dX2_walk_103 (.refl 104) 0 rfl ?_
            refine AW.iload_n dX2_walk_104 (.refl 105) 1 rfl ?_
            refine AW.iconst (v := (1 : Int32)) dX2_walk_105 (.refl 106) (by decide) ?_
            refine AW.iadd dX2_walk_106 (.refl 107) ?_
            refine AW.iload_n dX2_walk_107 (.refl 108) 2 rfl ?_
            refine AW.lload_n dX2_walk_108 (.refl 109) 3 rfl ?_
            refine AW.aload_n dX2_walk_109 (.refl 110) 0 rfl ?_
            refine AW.getR (z := 3) lk_X2_42 rfl rfl (by decide) rfl dX2_walk_110 (.refl 113) ?_
            refine AW.iload_n dX2_walk_113 (.refl 114) 1 rfl ?_
            refine AW.iload dX2_walk_114 (.refl 116) 7 rfl ?_
            obtain ⟨r8, e7, h⟩ := b1_s h
            refine AW.callV (r' := (some (.long r8))) (σ' := σ) (rest := [.long x3, .int x2, .int (x1 + (1 : Int32)), .ref 39]) lm_X2_90 (c_X8_takes e7) (by omega) (by decide) rfl rfl (by decide) rfl rfl (Nat.le_of_ble_eq_true rfl) dX2_walk_116 (.refl 119) (st' := [.long r8, .long x3, .int x2, .int (x1 + (1 : Int32)), .ref 39]) rfl ?_
            refine AW.lor dX2_walk_119 (.refl 120) ?_
            refine AW.iload dX2_walk_120 (.refl 122) 4 rfl ?_
            refine AW.aload_n dX2_walk_122 (.refl 123) 0 rfl ?_
            refine AW.getR (z := 3) lk_X2_42 rfl rfl (by decide) rfl dX2_walk_123 (.refl 126) ?_
            refine AW.iload_n dX2_walk_126 (.refl 127) 1 rfl ?_
            refine AW.iload dX2_walk_127 (.refl 129) 7 rfl ?_
            obtain ⟨r10, e9, h⟩ := b1_s h
            refine AW.callV (r' := (some (.int r10))) (σ' := σ) (rest := [.int x5, .long (x3 ||| r8), .int x2, .int (x1 + (1 : Int32)), .ref 39]) lm_X2_94 (c_X8_ringing e9) (by omega) (by decide) rfl rfl (by decide) rfl rfl (Nat.le_of_ble_eq_true rfl) dX2_walk_129 (.refl 132) (st' := [.int r10, .int x5, .long (x3 ||| r8), .int x2, .int (x1 + (1 : Int32)), .ref 39]) rfl ?_
            refine AW.ior dX2_walk_132 (.refl 133) ?_
            refine AW.iload dX2_walk_133 (.refl 135) 5 rfl ?_
            refine AW.iload dX2_walk_135 (.refl 137) 6 rfl ?_
            refine AW.iconst (v := (1 : Int32)) dX2_walk_137 (.refl 138) (by decide) ?_
            refine AW.iload_n dX2_walk_138 (.refl 139) 1 rfl ?_
            refine AW.ishl dX2_walk_139 (.refl 140) ?_
            refine AW.ior dX2_walk_140 (.refl 141) ?_
            obtain ⟨τ12, e11, h⟩ := b1_s h
            refine AW.callV (r' := none) (σ' := τ12) (rest := []) lm_X2_75 (hfr _ _ _ _ _ _ _ _ e11) hd0 (by decide) rfl rfl (by decide) rfl rfl (Nat.le_of_ble_eq_true rfl) dX2_walk_141 (.refl 144) (st' := []) rfl ?_
            refine AW.iinc (v := (x8 + (1 : Int32))) (L' := [(8, .int (x8 + (1 : Int32))), (0, .ref 39), (1, .int x1), (2, .int x2), (3, .long x3), (5, .int x5), (6, .int x6), (7, .int x7)]) dX2_walk_144 (.refl 147) 7 rfl rfl (by decide) rfl ?_
            refine AW.goto (tgt := 50) dX2_walk_147 (by decide) ?_
            refine AW.sub (L' := [(0, .ref 39), (1, .int x1), (2, .int x2), (3, .long x3), (5, .int x5), (6, .int x6), (7, .int x7), (8, .int (x8 + (1 : Int32)))]) [1, 2, 3, 4, 5, 6, 7, 0] rfl ?_
            exact ih x1 x2 x3 x5 x6 x7 (x8 + (1 : Int32)) τ12 h
set_option maxRecDepth 20000 in
theorem a_X2_walk_e {l : Launch} {G : Gg} {τ : Mm} {fr : Int32 → Int32 → Int64 → Int32 → Int32 → Int32 → Mm → Option (Mm)} {d d0 : Nat} (hB : 2 ≤ d) (hd0 : d0 + 1 ≤ d) (hfr : ∀ (x1 : Int32) (x2 : Int32) (x3 : Int64) (x5 : Int32) (x6 : Int32) (x7 : Int32) (σ : Mm) (τ : Mm), fr x1 x2 x3 x5 x6 x7 σ = some τ → MR l G d0 M_X2_walk [.ref 39, .int x1, .int x2, .long x3, .int x5, .int x6, .int x7] σ none τ) (x1 : Int32) (x2 : Int32) (x3 : Int64) (x5 : Int32) (x6 : Int32) (x7 : Int32) (σ : Mm) (h : f_X2_walk_e fr x1 x2 x3 x5 x6 x7 σ = some τ) : AW l G d M_X2_walk none τ 0 [(0, .ref 39), (1, .int x1), (2, .int x2), (3, .long x3), (5, .int x5), (6, .int x6), (7, .int x7)] [] σ := by
  unfold f_X2_walk_e at h
  refine AW.iload_n dX2_walk_0 (.refl 1) 1 rfl ?_
  refine AW.if_lt (tgt := 9) dX2_walk_1 (by decide) (fun c11 => ?_) (fun c11 => ?_)
  · have h := ifp c11 h
    refine AW.aload_n dX2_walk_9 (.refl 10) 0 rfl ?_
    refine AW.iload_n dX2_walk_10 (.refl 11) 2 rfl ?_
    refine AW.iload dX2_walk_11 (.refl 13) 4 rfl ?_
    refine AW.iload dX2_walk_13 (.refl 15) 6 rfl ?_
    obtain ⟨τ2, e1, h⟩ := b1_s h
    refine AW.callV (r' := none) (σ' := τ2) (rest := []) lm_X2_79 (c_X2_tallyDay e1) (by omega) (by decide) rfl rfl (by decide) rfl rfl (Nat.le_of_ble_eq_true rfl) dX2_walk_15 (.refl 18) (st' := []) rfl ?_
    cases h
    exact AW.vreturn rfl dX2_walk_18
  · have h := ifn c11 h
    refine AW.iload_n dX2_walk_4 (.refl 5) 1 rfl ?_
    refine AW.iconst (v := (5 : Int32)) dX2_walk_5 (.refl 6) (by decide) ?_
    refine AW.icmp_lt (tgt := 19) dX2_walk_6 (by decide) (fun c10 => ?_) (fun c10 => ?_)
    · have h := ifp c10 h
      refine AW.aload_n dX2_walk_19 (.refl 20) 0 rfl ?_
      refine AW.iload_n dX2_walk_20 (.refl 21) 1 rfl ?_
      refine AW.iconst (v := (1 : Int32)) dX2_walk_21 (.refl 22) (by decide) ?_
      refine AW.iadd dX2_walk_22 (.refl 23) ?_
      refine AW.iload_n dX2_walk_23 (.refl 24) 2 rfl ?_
      refine AW.lload_n dX2_walk_24 (.refl 25) 3 rfl ?_
      refine AW.iload dX2_walk_25 (.refl 27) 4 rfl ?_
      refine AW.iload dX2_walk_27 (.refl 29) 5 rfl ?_
      refine AW.iload dX2_walk_29 (.refl 31) 6 rfl ?_
      obtain ⟨τ4, e3, h⟩ := b1_s h
      refine AW.callV (r' := none) (σ' := τ4) (rest := []) lm_X2_75 (hfr _ _ _ _ _ _ _ _ e3) hd0 (by decide) rfl rfl (by decide) rfl rfl (Nat.le_of_ble_eq_true rfl) dX2_walk_31 (.refl 34) (st' := []) rfl ?_
      refine AW.aload_n dX2_walk_34 (.refl 35) 0 rfl ?_
      refine AW.getR (z := 3) lk_X2_42 rfl rfl (by decide) rfl dX2_walk_35 (.refl 38) ?_
      refine AW.iload_n dX2_walk_38 (.refl 39) 1 rfl ?_
      refine AW.iload_n dX2_walk_39 (.refl 40) 2 rfl ?_
      obtain ⟨r6, e5, h⟩ := b1_s h
      refine AW.callV (r' := (some (.int r6))) (σ' := τ4) (rest := []) lm_X2_83 (c_X8_isPealOf e5) (by omega) (by decide) rfl rfl (by decide) rfl rfl (Nat.le_of_ble_eq_true rfl) dX2_walk_40 (.refl 43) (st' := [.int r6]) rfl ?_
      refine AW.if_ne (tgt := 47) dX2_walk_43 (by decide) (fun c7 => ?_) (fun c7 => ?_)
      · have h := ifn c7 h
        refine AW.iconst (v := (0 : Int32)) dX2_walk_47 (.refl 48) (by decide) ?_
        refine AW.istore (L' := [(8, .int (0 : Int32)), (0, .ref 39), (1, .int x1), (2, .int x2), (3, .long x3), (5, .int x5), (6, .int x6), (7, .int x7)]) dX2_walk_48 (.refl 50) (by decide) rfl ?_
        refine AW.sub (L' := [(0, .ref 39), (1, .int x1), (2, .int x2), (3, .long x3), (5, .int x5), (6, .int x6), (7, .int x7), (8, .int (0 : Int32))]) [1, 2, 3, 4, 5, 6, 7, 0] rfl ?_
        exact a_X2_walk_p50 hB hd0 hfr FU x1 x2 x3 x5 x6 x7 (0 : Int32) τ4 h
      · have h := ifp c7 h
        cases h
        exact AW.vreturn rfl dX2_walk_46
    · have h := ifn c10 h
      refine AW.aload_n dX2_walk_9 (.refl 10) 0 rfl ?_
      refine AW.iload_n dX2_walk_10 (.refl 11) 2 rfl ?_
      refine AW.iload dX2_walk_11 (.refl 13) 4 rfl ?_
      refine AW.iload dX2_walk_13 (.refl 15) 6 rfl ?_
      obtain ⟨τ9, e8, h⟩ := b1_s h
      refine AW.callV (r' := none) (σ' := τ9) (rest := []) lm_X2_79 (c_X2_tallyDay e8) (by omega) (by decide) rfl rfl (by decide) rfl rfl (Nat.le_of_ble_eq_true rfl) dX2_walk_15 (.refl 18) (st' := []) rfl ?_
      cases h
      exact AW.vreturn rfl dX2_walk_18
theorem c_X2_walk_n {l : Launch} {G : Gg} : ∀ (n : Nat) (x1 : Int32) (x2 : Int32) (x3 : Int64) (x5 : Int32) (x6 : Int32) (x7 : Int32) (σ : Mm) (τ : Mm), f_X2_walk n x1 x2 x3 x5 x6 x7 σ = some τ → MR l G (2 + n) M_X2_walk [.ref 39, .int x1, .int x2, .long x3, .int x5, .int x6, .int x7] σ none τ := by
  intro n
  induction n with
  | zero => intro x1 x2 x3 x5 x6 x7 σ τ h; exact no_some h
  | succ n ih =>
    intro x1 x2 x3 x5 x6 x7 σ τ h
    rw [f_X2_walk] at h
    exact MR.of (by decide +kernel) (Nat.le_of_ble_eq_true rfl) (a_X2_walk_e (d := 2 + (n + 1)) (d0 := 2 + n) (by omega) (by omega) ih x1 x2 x3 x5 x6 x7 σ h)
theorem c_X2_walk {l : Launch} {G : Gg} {x1 : Int32} {x2 : Int32} {x3 : Int64} {x5 : Int32} {x6 : Int32} {x7 : Int32} {σ : Mm} {τ : Mm} (h : f_X2_walk 40 x1 x2 x3 x5 x6 x7 σ = some τ) : MR l G 42 M_X2_walk [.ref 39, .int x1, .int x2, .long x3, .int x5, .int x6, .int x7] σ none τ := c_X2_walk_n 40 x1 x2 x3 x5 x6 x7 σ τ h
def f_X2_tallyBell (x1 : Int32) (x2 : Int32) (σ : Mm) : Option (Mm) := bnd ((sI (sI (sI (sI σ 39 7 (0 : Int32)) 39 8 (0 : Int32)) 39 9 (31 : Int32)) 39 10 (0 : Int32))) (fun (σ1 : Mm) => b1 (f_X2_walk 40 (0 : Int32) x1 (0 : Int64) (0 : Int32) x2 (0 : Int32) σ1) (fun (τ4 : Mm) => some τ4))
set_option maxRecDepth 20000 in
theorem c_X2_tallyBell {l : Launch} {G : Gg} {x1 : Int32} {x2 : Int32} {σ : Mm} {τ : Mm} (h : f_X2_tallyBell x1 x2 σ = some τ) : MR l G 43 M_X2_tallyBell [.ref 39, .int x1, .int x2] σ none τ := by
  unfold f_X2_tallyBell at h
  refine MR.of (by decide +kernel) (Nat.le_of_ble_eq_true rfl) ?_
  show AW l G 43 M_X2_tallyBell none τ 0 [(0, .ref 39), (1, .int x1), (2, .int x2)] [] σ
  refine AW.aload_n dX2_tallyBell_0 (.refl 1) 0 rfl ?_
  refine AW.iconst (v := (0 : Int32)) dX2_tallyBell_1 (.refl 2) (by decide) ?_
  refine AW.putI lp_X2_30 rfl rfl (by decide) dX2_tallyBell_2 (.refl 5) ?_
  refine AW.aload_n dX2_tallyBell_5 (.refl 6) 0 rfl ?_
  refine AW.iconst (v := (0 : Int32)) dX2_tallyBell_6 (.refl 7) (by decide) ?_
  refine AW.putI lp_X2_33 rfl rfl (by decide) dX2_tallyBell_7 (.refl 10) ?_
  refine AW.aload_n dX2_tallyBell_10 (.refl 11) 0 rfl ?_
  refine AW.bipush (v := (31 : Int32)) dX2_tallyBell_11 (.refl 13) (by decide) ?_
  refine AW.putI lp_X2_36 rfl rfl (by decide) dX2_tallyBell_13 (.refl 16) ?_
  refine AW.aload_n dX2_tallyBell_16 (.refl 17) 0 rfl ?_
  refine AW.iconst (v := (0 : Int32)) dX2_tallyBell_17 (.refl 18) (by decide) ?_
  refine AW.putI lp_X2_39 rfl rfl (by decide) dX2_tallyBell_18 (.refl 21) ?_
  obtain ⟨σ1, e2, h⟩ := bnd_s h
  refine AW.nmM e2 ?_
  refine AW.aload_n dX2_tallyBell_21 (.refl 22) 0 rfl ?_
  refine AW.iconst (v := (0 : Int32)) dX2_tallyBell_22 (.refl 23) (by decide) ?_
  refine AW.iload_n dX2_tallyBell_23 (.refl 24) 1 rfl ?_
  refine AW.lconst (v := (0 : Int64)) dX2_tallyBell_24 (.refl 25) (by decide) ?_
  refine AW.iconst (v := (0 : Int32)) dX2_tallyBell_25 (.refl 26) (by decide) ?_
  refine AW.iload_n dX2_tallyBell_26 (.refl 27) 2 rfl ?_
  refine AW.iconst (v := (0 : Int32)) dX2_tallyBell_27 (.refl 28) (by decide) ?_
  obtain ⟨τ4, e3, h⟩ := b1_s h
  refine AW.callV (r' := none) (σ' := τ4) (rest := []) lm_X2_75 (c_X2_walk e3) (by decide) (by decide) rfl rfl (by decide) rfl rfl (Nat.le_of_ble_eq_true rfl) dX2_tallyBell_28 (.refl 31) (st' := []) rfl ?_
  cases h
  exact AW.vreturn rfl dX2_tallyBell_31
def f_X2_tallyBeside_p5 (ke43 : Int32 → Int32 → Mm → Option (Mm)) : Nat → Int32 → Int32 → Int32 → Mm → Option (Mm)
  | 0, _, _, _, _ => none
  | n + 1, x1, x3, x4, σ => (if (5 : Int32) ≤ x4 then ke43 x1 x3 σ else (if ((jushr x1 x4) &&& (1 : Int32)) = (1 : Int32) then b1 (f_X8_wants σ x4) (fun (r2 : Int32) => (f_X2_tallyBeside_p5 ke43 n) x1 (x3 ||| r2) (x4 + (1 : Int32)) σ) else (f_X2_tallyBeside_p5 ke43 n) x1 (x3 ||| (0 : Int32)) (x4 + (1 : Int32)) σ))
def f_X2_tallyBeside_p68 (ke123 : Int32 → Int32 → Int32 → Int32 → Mm → Option (Mm)) : Nat → Int32 → Int32 → Int32 → Int32 → Int32 → Int32 → Mm → Option (Mm)
  | 0, _, _, _, _, _, _, _ => none
  | n + 1, x3, x4, x5, x6, x7, x8, σ => (if (3 : Int32) ≤ x8 then ke123 x4 x5 x6 x7 σ else b1 (f_X2_tallyBell x8 x3 σ) (fun (τ2 : Mm) => (f_X2_tallyBeside_p68 ke123 n) x3 (x4 * (τ2.1 39 7)) (x5 * (τ2.1 39 8)) (x6 ||| (τ2.1 39 9)) (x7 ||| (τ2.1 39 10)) (x8 + (1 : Int32)) τ2))
def f_X2_tallyBeside_p123 (x4 : Int32) (x5 : Int32) (x6 : Int32) (x7 : Int32) (σ : Mm) : Option (Mm) := (if x4 ≤ 0 then some σ else bnd ((sI (sI σ 39 1 ((σ.1 39 1) + x4)) 39 2 (((sI σ 39 1 ((σ.1 39 1) + x4)).1 39 2) + x5))) (fun (σ1 : Mm) => bnd ((sI (sI σ1 39 3 ((σ1.1 39 3) &&& x6)) 39 4 (((sI σ1 39 3 ((σ1.1 39 3) &&& x6)).1 39 4) ||| x7))) (fun (σ3 : Mm) => some σ3)))
def f_X2_tallyBeside_p43 (x1 : Int32) (x3 : Int32) (σ : Mm) : Option (Mm) := (if (x3 &&& (σ.1 39 5)) = 0 then f_X2_tallyBeside_p68 (f_X2_tallyBeside_p123) FU x3 (1 : Int32) (1 : Int32) x1 x1 (0 : Int32) σ else some σ)
def f_X2_tallyBeside (x1 : Int32) (x2 : Int32) (σ : Mm) : Option (Mm) := f_X2_tallyBeside_p5 (f_X2_tallyBeside_p43) FU x1 x2 (0 : Int32) σ
set_option maxRecDepth 20000 in
theorem a_X2_tallyBeside_p5 {l : Launch} {G : Gg} {τ : Mm} {ke43 : Int32 → Int32 → Mm → Option (Mm)} (he43 : ∀ (x1 : Int32) (x3 : Int32) (σ : Mm), ke43 x1 x3 σ = some τ → AW l G 44 M_X2_tallyBeside none τ 43 [(0, .ref 39), (1, .int x1), (3, .int x3)] [] σ) : ∀ (n : Nat) (x1 : Int32) (x3 : Int32) (x4 : Int32) (σ : Mm), f_X2_tallyBeside_p5 ke43 n x1 x3 x4 σ = some τ → AW l G 44 M_X2_tallyBeside none τ 5 [(0, .ref 39), (1, .int x1), (3, .int x3), (4, .int x4)] [] σ := by
  intro n
  induction n with
  | zero => intro x1 x3 x4 σ h; exact no_some h
  | succ n ih =>
    intro x1 x3 x4 σ h
    rw [f_X2_tallyBeside_p5] at h
    refine AW.iload dX2_tallyBeside_5 (.refl 7) 3 rfl ?_
    refine AW.iconst (v := (5 : Int32)) dX2_tallyBeside_7 (.refl 8) (by decide) ?_
    refine AW.icmp_ge (tgt := 43) dX2_tallyBeside_8 (by decide) (fun c4 => ?_) (fun c4 => ?_)
    · have h := ifp c4 h
      refine AW.sub (L' := [(0, .ref 39), (1, .int x1), (3, .int x3)]) [0, 1, 2] rfl ?_
      exact he43 x1 x3 σ h
    · have h := ifn c4 h
      refine AW.iload_n dX2_tallyBeside_11 (.refl 12) 2 rfl ?_
      refine AW.iload_n dX2_tallyBeside_12 (.refl 13) 1 rfl ?_
      refine AW.iload dX2_tallyBeside_13 (.refl 15) 3 rfl ?_
      refine AW.iushr dX2_tallyBeside_15 (.refl 16) ?_
      refine AW.iconst (v := (1 : Int32)) dX2_tallyBeside_16 (.refl 17) (by decide) ?_
      refine AW.iand dX2_tallyBeside_17 (.refl 18) ?_
      refine AW.iconst (v := (1 : Int32)) dX2_tallyBeside_18 (.refl 19) (by decide) ?_
      refine AW.icmp_ne (tgt := 34) dX2_tallyBeside_19 (by decide) (fun c3 => ?_) (fun c3 => ?_)
      · have h := ifn c3 h
        refine AW.iconst (v := (0 : Int32)) dX2_tallyBeside_34 (.refl 35) (by decide) ?_
        refine AW.ior dX2_tallyBeside_35 (.refl 36) ?_
        refine AW.istore_n (L' := [(3, .int (x3 ||| (0 : Int32))), (0, .ref 39), (1, .int x1), (4, .int x4)]) dX2_tallyBeside_36 (.refl 37) (by decide) rfl ?_
        refine AW.iinc (v := (x4 + (1 : Int32))) (L' := [(4, .int (x4 + (1 : Int32))), (3, .int (x3 ||| (0 : Int32))), (0, .ref 39), (1, .int x1)]) dX2_tallyBeside_37 (.refl 40) 3 rfl rfl (by decide) rfl ?_
        refine AW.goto (tgt := 5) dX2_tallyBeside_40 (by decide) ?_
        refine AW.sub (L' := [(0, .ref 39), (1, .int x1), (3, .int (x3 ||| (0 : Int32))), (4, .int (x4 + (1 : Int32)))]) [2, 3, 1, 0] rfl ?_
        exact ih x1 (x3 ||| (0 : Int32)) (x4 + (1 : Int32)) σ h
      · have h := ifp c3 h
        refine AW.aload_n dX2_tallyBeside_22 (.refl 23) 0 rfl ?_
        refine AW.getR (z := 3) lk_X2_42 rfl rfl (by decide) rfl dX2_tallyBeside_23 (.refl 26) ?_
        refine AW.iload dX2_tallyBeside_26 (.refl 28) 3 rfl ?_
        obtain ⟨r2, e1, h⟩ := b1_s h
        refine AW.callV (r' := (some (.int r2))) (σ' := σ) (rest := [.int x3]) lm_X2_68 (c_X8_wants e1) (by decide) (by decide) rfl rfl (by decide) rfl rfl (Nat.le_of_ble_eq_true rfl) dX2_tallyBeside_28 (.refl 31) (st' := [.int r2, .int x3]) rfl ?_
        refine AW.goto (tgt := 35) dX2_tallyBeside_31 (by decide) ?_
        refine AW.ior dX2_tallyBeside_35 (.refl 36) ?_
        refine AW.istore_n (L' := [(3, .int (x3 ||| r2)), (0, .ref 39), (1, .int x1), (4, .int x4)]) dX2_tallyBeside_36 (.refl 37) (by decide) rfl ?_
        refine AW.iinc (v := (x4 + (1 : Int32))) (L' := [(4, .int (x4 + (1 : Int32))), (3, .int (x3 ||| r2)), (0, .ref 39), (1, .int x1)]) dX2_tallyBeside_37 (.refl 40) 3 rfl rfl (by decide) rfl ?_
        refine AW.goto (tgt := 5) dX2_tallyBeside_40 (by decide) ?_
        refine AW.sub (L' := [(0, .ref 39), (1, .int x1), (3, .int (x3 ||| r2)), (4, .int (x4 + (1 : Int32)))]) [2, 3, 1, 0] rfl ?_
        exact ih x1 (x3 ||| r2) (x4 + (1 : Int32)) σ h
set_option maxRecDepth 20000 in
theorem a_X2_tallyBeside_p68 {l : Launch} {G : Gg} {τ : Mm} {ke123 : Int32 → Int32 → Int32 → Int32 → Mm → Option (Mm)} (he123 : ∀ (x4 : Int32) (x5 : Int32) (x6 : Int32) (x7 : Int32) (σ : Mm), ke123 x4 x5 x6 x7 σ = some τ → AW l G 44 M_X2_tallyBeside none τ 123 [(0, .ref 39), (4, .int x4), (5, .int x5), (6, .int x6), (7, .int x7)] [] σ) : ∀ (n : Nat) (x3 : Int32) (x4 : Int32) (x5 : Int32) (x6 : Int32) (x7 : Int32) (x8 : Int32) (σ : Mm), f_X2_tallyBeside_p68 ke123 n x3 x4 x5 x6 x7 x8 σ = some τ → AW l G 44 M_X2_tallyBeside none τ 68 [(0, .ref 39), (3, .int x3), (4, .int x4), (5, .int x5), (6, .int x6), (7, .int x7), (8, .int x8)] [] σ := by
  intro n
  induction n with
  | zero => intro x3 x4 x5 x6 x7 x8 σ h; exact no_some h
  | succ n ih =>
    intro x3 x4 x5 x6 x7 x8 σ h
    rw [f_X2_tallyBeside_p68] at h
    refine AW.iload dX2_tallyBeside_68 (.refl 70) 6 rfl ?_
    refine AW.iconst (v := (3 : Int32)) dX2_tallyBeside_70 (.refl 71) (by decide) ?_
    refine AW.icmp_ge (tgt := 123) dX2_tallyBeside_71 (by decide) (fun c3 => ?_) (fun c3 => ?_)
    · have h := ifp c3 h
      refine AW.sub (L' := [(0, .ref 39), (4, .int x4), (5, .int x5), (6, .int x6), (7, .int x7)]) [0, 2, 3, 4, 5] rfl ?_
      exact he123 x4 x5 x6 x7 σ h
    · have h := ifn c3 h
      refine AW.aload_n dX2_tallyBeside_74 (.refl 75) 0 rfl ?_
      refine AW.iload dX2_tallyBeside_75 (.refl 77) 6 rfl ?_
      refine AW.iload_n dX2_tallyBeside_77 (.refl 78) 1 rfl ?_
      obtain ⟨τ2, e1, h⟩ := b1_s h
      refine AW.callV (r' := none) (σ' := τ2) (rest := []) lm_X2_72 (c_X2_tallyBell e1) (by decide) (by decide) rfl rfl (by decide) rfl rfl (Nat.le_of_ble_eq_true rfl) dX2_tallyBeside_78 (.refl 81) (st' := []) rfl ?_
      refine AW.iload dX2_tallyBeside_81 (.refl 83) 2 rfl ?_
      refine AW.aload_n dX2_tallyBeside_83 (.refl 84) 0 rfl ?_
      refine AW.getI lk_X2_30 rfl rfl (by decide) dX2_tallyBeside_84 (.refl 87) ?_
      refine AW.imul dX2_tallyBeside_87 (.refl 88) ?_
      refine AW.istore (L' := [(4, .int (x4 * (τ2.1 39 7))), (0, .ref 39), (3, .int x3), (5, .int x5), (6, .int x6), (7, .int x7), (8, .int x8)]) dX2_tallyBeside_88 (.refl 90) (by decide) rfl ?_
      refine AW.iload dX2_tallyBeside_90 (.refl 92) 3 rfl ?_
      refine AW.aload_n dX2_tallyBeside_92 (.refl 93) 1 rfl ?_
      refine AW.getI lk_X2_33 rfl rfl (by decide) dX2_tallyBeside_93 (.refl 96) ?_
      refine AW.imul dX2_tallyBeside_96 (.refl 97) ?_
      refine AW.istore (L' := [(5, .int (x5 * (τ2.1 39 8))), (4, .int (x4 * (τ2.1 39 7))), (0, .ref 39), (3, .int x3), (6, .int x6), (7, .int x7), (8, .int x8)]) dX2_tallyBeside_97 (.refl 99) (by decide) rfl ?_
      refine AW.iload dX2_tallyBeside_99 (.refl 101) 4 rfl ?_
      refine AW.aload_n dX2_tallyBeside_101 (.refl 102) 2 rfl ?_
      refine AW.getI lk_X2_36 rfl rfl (by decide) dX2_tallyBeside_102 (.refl 105) ?_
      refine AW.ior dX2_tallyBeside_105 (.refl 106) ?_
      refine AW.istore (L' := [(6, .int (x6 ||| (τ2.1 39 9))), (5, .int (x5 * (τ2.1 39 8))), (4, .int (x4 * (τ2.1 39 7))), (0, .ref 39), (3, .int x3), (7, .int x7), (8, .int x8)]) dX2_tallyBeside_106 (.refl 108) (by decide) rfl ?_
      refine AW.iload dX2_tallyBeside_108 (.refl 110) 5 rfl ?_
      refine AW.aload_n dX2_tallyBeside_110 (.refl 111) 3 rfl ?_
      refine AW.getI lk_X2_39 rfl rfl (by decide) dX2_tallyBeside_111 (.refl 114) ?_
      refine AW.ior dX2_tallyBeside_114 (.refl 115) ?_
      refine AW.istore (L' := [(7, .int (x7 ||| (τ2.1 39 10))), (6, .int (x6 ||| (τ2.1 39 9))), (5, .int (x5 * (τ2.1 39 8))), (4, .int (x4 * (τ2.1 39 7))), (0, .ref 39), (3, .int x3), (8, .int x8)]) dX2_tallyBeside_115 (.refl 117) (by decide) rfl ?_
      refine AW.iinc (v := (x8 + (1 : Int32))) (L' := [(8, .int (x8 + (1 : Int32))), (7, .int (x7 ||| (τ2.1 39 10))), (6, .int (x6 ||| (τ2.1 39 9))), (5, .int (x5 * (τ2.1 39 8))), (4, .int (x4 * (τ2.1 39 7))), (0, .ref 39), (3, .int x3)]) dX2_tallyBeside_117 (.refl 120) 6 rfl rfl (by decide) rfl ?_
      refine AW.goto (tgt := 68) dX2_tallyBeside_120 (by decide) ?_
      refine AW.sub (L' := [(0, .ref 39), (3, .int x3), (4, .int (x4 * (τ2.1 39 7))), (5, .int (x5 * (τ2.1 39 8))), (6, .int (x6 ||| (τ2.1 39 9))), (7, .int (x7 ||| (τ2.1 39 10))), (8, .int (x8 + (1 : Int32)))]) [5, 6, 4, 3, 2, 1, 0] rfl ?_
      exact ih x3 (x4 * (τ2.1 39 7)) (x5 * (τ2.1 39 8)) (x6 ||| (τ2.1 39 9)) (x7 ||| (τ2.1 39 10)) (x8 + (1 : Int32)) τ2 h
set_option maxRecDepth 20000 in
theorem a_X2_tallyBeside_p123 {l : Launch} {G : Gg} {τ : Mm} (x4 : Int32) (x5 : Int32) (x6 : Int32) (x7 : Int32) (σ : Mm) (h : f_X2_tallyBeside_p123 x4 x5 x6 x7 σ = some τ) : AW l G 44 M_X2_tallyBeside none τ 123 [(0, .ref 39), (4, .int x4), (5, .int x5), (6, .int x6), (7, .int x7)] [] σ := by
  unfold f_X2_tallyBeside_p123 at h
  refine AW.iload dX2_tallyBeside_123 (.refl 125) 1 rfl ?_
  refine AW.if_le (tgt := 172) dX2_tallyBeside_125 (by decide) (fun c5 => ?_) (fun c5 => ?_)
  · have h := ifp c5 h
    cases h
    exact AW.vreturn rfl dX2_tallyBeside_172
  · have h := ifn c5 h
    refine AW.aload_n dX2_tallyBeside_128 (.refl 129) 0 rfl ?_
    refine AW.dup dX2_tallyBeside_129 (.refl 130) rfl ?_
    refine AW.getI lk_X2_9 rfl rfl (by decide) dX2_tallyBeside_130 (.refl 133) ?_
    refine AW.iload dX2_tallyBeside_133 (.refl 135) 1 rfl ?_
    refine AW.iadd dX2_tallyBeside_135 (.refl 136) ?_
    refine AW.putI lp_X2_9 rfl rfl (by decide) dX2_tallyBeside_136 (.refl 139) ?_
    refine AW.aload_n dX2_tallyBeside_139 (.refl 140) 0 rfl ?_
    refine AW.dup dX2_tallyBeside_140 (.refl 141) rfl ?_
    refine AW.getI lk_X2_15 rfl rfl (by decide) dX2_tallyBeside_141 (.refl 144) ?_
    refine AW.iload dX2_tallyBeside_144 (.refl 146) 2 rfl ?_
    refine AW.iadd dX2_tallyBeside_146 (.refl 147) ?_
    refine AW.putI lp_X2_15 rfl rfl (by decide) dX2_tallyBeside_147 (.refl 150) ?_
    obtain ⟨σ1, e2, h⟩ := bnd_s h
    refine AW.nmM e2 ?_
    refine AW.aload_n dX2_tallyBeside_150 (.refl 151) 0 rfl ?_
    refine AW.dup dX2_tallyBeside_151 (.refl 152) rfl ?_
    refine AW.getI lk_X2_18 rfl rfl (by decide) dX2_tallyBeside_152 (.refl 155) ?_
    refine AW.iload dX2_tallyBeside_155 (.refl 157) 3 rfl ?_
    refine AW.iand dX2_tallyBeside_157 (.refl 158) ?_
    refine AW.putI lp_X2_18 rfl rfl (by decide) dX2_tallyBeside_158 (.refl 161) ?_
    refine AW.aload_n dX2_tallyBeside_161 (.refl 162) 0 rfl ?_
    refine AW.dup dX2_tallyBeside_162 (.refl 163) rfl ?_
    refine AW.getI lk_X2_21 rfl rfl (by decide) dX2_tallyBeside_163 (.refl 166) ?_
    refine AW.iload dX2_tallyBeside_166 (.refl 168) 4 rfl ?_
    refine AW.ior dX2_tallyBeside_168 (.refl 169) ?_
    refine AW.putI lp_X2_21 rfl rfl (by decide) dX2_tallyBeside_169 (.refl 172) ?_
    obtain ⟨σ3, e4, h⟩ := bnd_s h
    refine AW.nmM e4 ?_
    cases h
    exact AW.vreturn rfl dX2_tallyBeside_172
set_option maxRecDepth 20000 in
theorem a_X2_tallyBeside_p43 {l : Launch} {G : Gg} {τ : Mm} (x1 : Int32) (x3 : Int32) (σ : Mm) (h : f_X2_tallyBeside_p43 x1 x3 σ = some τ) : AW l G 44 M_X2_tallyBeside none τ 43 [(0, .ref 39), (1, .int x1), (3, .int x3)] [] σ := by
  unfold f_X2_tallyBeside_p43 at h
  refine AW.iload_n dX2_tallyBeside_43 (.refl 44) 2 rfl ?_
  refine AW.aload_n dX2_tallyBeside_44 (.refl 45) 0 rfl ?_
  refine AW.getI lk_X2_24 rfl rfl (by decide) dX2_tallyBeside_45 (.refl 48) ?_
  refine AW.iand dX2_tallyBeside_48 (.refl 49) ?_
  refine AW.if_eq (tgt := 53) dX2_tallyBeside_49 (by decide) (fun c1 => ?_) (fun c1 => ?_)
  · have h := ifp c1 h
    refine AW.iconst (v := (1 : Int32)) dX2_tallyBeside_53 (.refl 54) (by decide) ?_
    refine AW.istore (L' := [(4, .int (1 : Int32)), (0, .ref 39), (1, .int x1), (3, .int x3)]) dX2_tallyBeside_54 (.refl 56) (by decide) rfl ?_
    refine AW.iconst (v := (1 : Int32)) dX2_tallyBeside_56 (.refl 57) (by decide) ?_
    refine AW.istore (L' := [(5, .int (1 : Int32)), (4, .int (1 : Int32)), (0, .ref 39), (1, .int x1), (3, .int x3)]) dX2_tallyBeside_57 (.refl 59) (by decide) rfl ?_
    refine AW.iload_n dX2_tallyBeside_59 (.refl 60) 3 rfl ?_
    refine AW.istore (L' := [(6, .int x1), (5, .int (1 : Int32)), (4, .int (1 : Int32)), (0, .ref 39), (1, .int x1), (3, .int x3)]) dX2_tallyBeside_60 (.refl 62) (by decide) rfl ?_
    refine AW.iload_n dX2_tallyBeside_62 (.refl 63) 4 rfl ?_
    refine AW.istore (L' := [(7, .int x1), (6, .int x1), (5, .int (1 : Int32)), (4, .int (1 : Int32)), (0, .ref 39), (1, .int x1), (3, .int x3)]) dX2_tallyBeside_63 (.refl 65) (by decide) rfl ?_
    refine AW.iconst (v := (0 : Int32)) dX2_tallyBeside_65 (.refl 66) (by decide) ?_
    refine AW.istore (L' := [(8, .int (0 : Int32)), (7, .int x1), (6, .int x1), (5, .int (1 : Int32)), (4, .int (1 : Int32)), (0, .ref 39), (1, .int x1), (3, .int x3)]) dX2_tallyBeside_66 (.refl 68) (by decide) rfl ?_
    refine AW.sub (L' := [(0, .ref 39), (3, .int x3), (4, .int (1 : Int32)), (5, .int (1 : Int32)), (6, .int x1), (7, .int x1), (8, .int (0 : Int32))]) [5, 7, 4, 3, 2, 1, 0] rfl ?_
    exact a_X2_tallyBeside_p68 (a_X2_tallyBeside_p123) FU x3 (1 : Int32) (1 : Int32) x1 x1 (0 : Int32) σ h
  · have h := ifn c1 h
    cases h
    exact AW.vreturn rfl dX2_tallyBeside_52
set_option maxRecDepth 20000 in
theorem c_X2_tallyBeside {l : Launch} {G : Gg} {x1 : Int32} {x2 : Int32} {σ : Mm} {τ : Mm} (h : f_X2_tallyBeside x1 x2 σ = some τ) : MR l G 44 M_X2_tallyBeside [.ref 39, .int x1, .int x2] σ none τ := by
  unfold f_X2_tallyBeside at h
  refine MR.of (by decide +kernel) (Nat.le_of_ble_eq_true rfl) ?_
  show AW l G 44 M_X2_tallyBeside none τ 0 [(0, .ref 39), (1, .int x1), (2, .int x2)] [] σ
  refine AW.iload_n dX2_tallyBeside_0 (.refl 1) 2 rfl ?_
  refine AW.istore_n (L' := [(3, .int x2), (0, .ref 39), (1, .int x1), (2, .int x2)]) dX2_tallyBeside_1 (.refl 2) (by decide) rfl ?_
  refine AW.iconst (v := (0 : Int32)) dX2_tallyBeside_2 (.refl 3) (by decide) ?_
  refine AW.istore (L' := [(4, .int (0 : Int32)), (3, .int x2), (0, .ref 39), (1, .int x1), (2, .int x2)]) dX2_tallyBeside_3 (.refl 5) (by decide) rfl ?_
  refine AW.sub (L' := [(0, .ref 39), (1, .int x1), (3, .int x2), (4, .int (0 : Int32))]) [2, 3, 1, 0] rfl ?_
  exact a_X2_tallyBeside_p5 (a_X2_tallyBeside_p43) FU x1 x2 (0 : Int32) σ h
def f_X3_told_p57 (σ : Mm) (kh : Int32 → Int32 → Int32 → Int32 → Int32 → Option (Int32)) (ke93 : Int32 → Int32 → Int32 → Int32 → Option (Int32)) (x1 : Int32) (x2 : Int32) (x3 : Int32) (x4 : Int32) (x5 : Int32) (s0 : Int32) : Option (Int32) := (if s0 = x1 then gd (inB x4 6) (bnd ((x3 ||| (jshl (1 : Int32) (((10 : Int32) * x5) + (σ.1 37 (x4).toNatClampNeg))))) (fun (y2 : Int32) => kh x1 x2 y2 x4 (x5 + (1 : Int32)))) else kh x1 x2 (x3 ||| (0 : Int32)) x4 (x5 + (1 : Int32)))
def f_X3_told_p24 (σ : Mm) (ke93 : Int32 → Int32 → Int32 → Int32 → Option (Int32)) : Nat → Int32 → Int32 → Int32 → Int32 → Int32 → Option (Int32)
  | 0, _, _, _, _, _ => none
  | n + 1, x1, x2, x3, x4, x5 => (if (3 : Int32) ≤ x5 then ke93 x1 x2 x3 x4 else (if x2 ≤ x5 then ke93 x1 x2 x3 x4 else gd (inB x4 6) ((if ((jushr (σ.1 38 (x4).toNatClampNeg) x5) &&& (1 : Int32)) = (1 : Int32) then (f_X3_told_p57 σ (f_X3_told_p24 σ ke93 n) ke93) x1 x2 x3 x4 x5 (1 : Int32) else (f_X3_told_p57 σ (f_X3_told_p24 σ ke93 n) ke93) x1 x2 x3 x4 x5 (0 : Int32)))))
def f_X3_told_p93 (σ : Mm) (kh : Int32 → Int32 → Int32 → Int32 → Option (Int32)) (x1 : Int32) (x2 : Int32) (x3 : Int32) (x4 : Int32) : Option (Int32) := kh x1 x2 x3 (x4 + (1 : Int32))
def f_X3_told_p5 (σ : Mm) : Nat → Int32 → Int32 → Int32 → Int32 → Option (Int32)
  | 0, _, _, _, _ => none
  | n + 1, x1, x2, x3, x4 => (if (6 : Int32) ≤ x4 then some x3 else (if (σ.1 36 2) ≤ x4 then some x3 else f_X3_told_p24 σ (f_X3_told_p93 σ (f_X3_told_p5 σ n)) FU x1 x2 x3 x4 (0 : Int32)))
def f_X3_told (σ : Mm) (x1 : Int32) (x2 : Int32) : Option (Int32) := f_X3_told_p5 σ FU x1 x2 (0 : Int32) (0 : Int32)
set_option maxRecDepth 20000 in
theorem a_X3_told_p57 {l : Launch} {G : Gg} {v : Int32} {σ : Mm} {kh : Int32 → Int32 → Int32 → Int32 → Int32 → Option (Int32)} (hkh : ∀ (x1 : Int32) (x2 : Int32) (x3 : Int32) (x4 : Int32) (x5 : Int32), kh x1 x2 x3 x4 x5 = some v → AW l G 0 M_X3_told (some (.int v)) σ 24 [(0, .ref 36), (1, .int x1), (2, .int x2), (3, .int x3), (4, .int x4), (5, .int x5)] [] σ) {ke93 : Int32 → Int32 → Int32 → Int32 → Option (Int32)} (he93 : ∀ (x1 : Int32) (x2 : Int32) (x3 : Int32) (x4 : Int32), ke93 x1 x2 x3 x4 = some v → AW l G 0 M_X3_told (some (.int v)) σ 93 [(0, .ref 36), (1, .int x1), (2, .int x2), (3, .int x3), (4, .int x4)] [] σ) (x1 : Int32) (x2 : Int32) (x3 : Int32) (x4 : Int32) (x5 : Int32) (s0 : Int32) (h : f_X3_told_p57 σ kh ke93 x1 x2 x3 x4 x5 s0 = some v) : AW l G 0 M_X3_told (some (.int v)) σ 57 [(0, .ref 36), (1, .int x1), (2, .int x2), (3, .int x3), (4, .int x4), (5, .int x5)] [.int s0] σ := by
  unfold f_X3_told_p57 at h
  refine AW.istore (L' := [(6, .int s0), (0, .ref 36), (1, .int x1), (2, .int x2), (3, .int x3), (4, .int x4), (5, .int x5)]) dX3_told_57 (.refl 59) (by decide) rfl ?_
  refine AW.iload_n dX3_told_59 (.refl 60) 4 rfl ?_
  refine AW.iload dX3_told_60 (.refl 62) 0 rfl ?_
  refine AW.iload_n dX3_told_62 (.refl 63) 2 rfl ?_
  refine AW.icmp_ne (tgt := 84) dX3_told_63 (by decide) (fun c4 => ?_) (fun c4 => ?_)
  · have h := ifn c4 h
    refine AW.iconst (v := (0 : Int32)) dX3_told_84 (.refl 85) (by decide) ?_
    refine AW.ior dX3_told_85 (.refl 86) ?_
    refine AW.istore_n (L' := [(3, .int (x3 ||| (0 : Int32))), (6, .int s0), (0, .ref 36), (1, .int x1), (2, .int x2), (4, .int x4), (5, .int x5)]) dX3_told_86 (.refl 87) (by decide) rfl ?_
    refine AW.iinc (v := (x5 + (1 : Int32))) (L' := [(5, .int (x5 + (1 : Int32))), (3, .int (x3 ||| (0 : Int32))), (6, .int s0), (0, .ref 36), (1, .int x1), (2, .int x2), (4, .int x4)]) dX3_told_87 (.refl 90) 6 rfl rfl (by decide) rfl ?_
    refine AW.goto (tgt := 24) dX3_told_90 (by decide) ?_
    refine AW.sub (L' := [(0, .ref 36), (1, .int x1), (2, .int x2), (3, .int (x3 ||| (0 : Int32))), (4, .int x4), (5, .int (x5 + (1 : Int32)))]) [3, 4, 5, 1, 6, 0] rfl ?_
    exact hkh x1 x2 (x3 ||| (0 : Int32)) x4 (x5 + (1 : Int32)) h
  · have h := ifp c4 h
    refine AW.iconst (v := (1 : Int32)) dX3_told_66 (.refl 67) (by decide) ?_
    refine AW.bipush (v := (10 : Int32)) dX3_told_67 (.refl 69) (by decide) ?_
    refine AW.iload dX3_told_69 (.refl 71) 6 rfl ?_
    refine AW.imul dX3_told_71 (.refl 72) ?_
    refine AW.aload_n dX3_told_72 (.refl 73) 1 rfl ?_
    refine AW.getR (z := 37) lk_X3_9 rfl rfl (by decide) rfl dX3_told_73 (.refl 76) ?_
    refine AW.iload dX3_told_76 (.refl 78) 5 rfl ?_
    obtain ⟨g1, h⟩ := gd_s h
    refine AW.iaload rfl g1 dX3_told_78 (.refl 79) ?_
    refine AW.iadd dX3_told_79 (.refl 80) ?_
    refine AW.ishl dX3_told_80 (.refl 81) ?_
    refine AW.goto (tgt := 85) dX3_told_81 (by decide) ?_
    refine AW.ior dX3_told_85 (.refl 86) ?_
    obtain ⟨y2, e3, h⟩ := bnd_s h
    refine AW.nmI e3 ?_
    refine AW.istore_n (L' := [(3, .int y2), (6, .int s0), (0, .ref 36), (1, .int x1), (2, .int x2), (4, .int x4), (5, .int x5)]) dX3_told_86 (.refl 87) (by decide) rfl ?_
    refine AW.iinc (v := (x5 + (1 : Int32))) (L' := [(5, .int (x5 + (1 : Int32))), (3, .int y2), (6, .int s0), (0, .ref 36), (1, .int x1), (2, .int x2), (4, .int x4)]) dX3_told_87 (.refl 90) 6 rfl rfl (by decide) rfl ?_
    refine AW.goto (tgt := 24) dX3_told_90 (by decide) ?_
    refine AW.sub (L' := [(0, .ref 36), (1, .int x1), (2, .int x2), (3, .int y2), (4, .int x4), (5, .int (x5 + (1 : Int32)))]) [3, 4, 5, 1, 6, 0] rfl ?_
    exact hkh x1 x2 y2 x4 (x5 + (1 : Int32)) h
set_option maxRecDepth 20000 in
theorem a_X3_told_p24 {l : Launch} {G : Gg} {v : Int32} {σ : Mm} {ke93 : Int32 → Int32 → Int32 → Int32 → Option (Int32)} (he93 : ∀ (x1 : Int32) (x2 : Int32) (x3 : Int32) (x4 : Int32), ke93 x1 x2 x3 x4 = some v → AW l G 0 M_X3_told (some (.int v)) σ 93 [(0, .ref 36), (1, .int x1), (2, .int x2), (3, .int x3), (4, .int x4)] [] σ) : ∀ (n : Nat) (x1 : Int32) (x2 : Int32) (x3 : Int32) (x4 : Int32) (x5 : Int32), f_X3_told_p24 σ ke93 n x1 x2 x3 x4 x5 = some v → AW l G 0 M_X3_told (some (.int v)) σ 24 [(0, .ref 36), (1, .int x1), (2, .int x2), (3, .int x3), (4, .int x4), (5, .int x5)] [] σ := by
  intro n
  induction n with
  | zero => intro x1 x2 x3 x4 x5 h; exact no_some h
  | succ n ih =>
    intro x1 x2 x3 x4 x5 h
    rw [f_X3_told_p24] at h
    refine AW.iload dX3_told_24 (.refl 26) 5 rfl ?_
    refine AW.iconst (v := (3 : Int32)) dX3_told_26 (.refl 27) (by decide) ?_
    refine AW.icmp_ge (tgt := 93) dX3_told_27 (by decide) (fun c4 => ?_) (fun c4 => ?_)
    · have h := ifp c4 h
      refine AW.sub (L' := [(0, .ref 36), (1, .int x1), (2, .int x2), (3, .int x3), (4, .int x4)]) [0, 1, 2, 3, 4] rfl ?_
      exact he93 x1 x2 x3 x4 h
    · have h := ifn c4 h
      refine AW.iload dX3_told_30 (.refl 32) 5 rfl ?_
      refine AW.iload_n dX3_told_32 (.refl 33) 2 rfl ?_
      refine AW.icmp_ge (tgt := 93) dX3_told_33 (by decide) (fun c3 => ?_) (fun c3 => ?_)
      · have h := ifp c3 h
        refine AW.sub (L' := [(0, .ref 36), (1, .int x1), (2, .int x2), (3, .int x3), (4, .int x4)]) [0, 1, 2, 3, 4] rfl ?_
        exact he93 x1 x2 x3 x4 h
      · have h := ifn c3 h
        refine AW.aload_n dX3_told_36 (.refl 37) 0 rfl ?_
        refine AW.getR (z := 38) lk_X3_15 rfl rfl (by decide) rfl dX3_told_37 (.refl 40) ?_
        refine AW.iload dX3_told_40 (.refl 42) 4 rfl ?_
        obtain ⟨g1, h⟩ := gd_s h
        refine AW.iaload rfl g1 dX3_told_42 (.refl 43) ?_
        refine AW.iload dX3_told_43 (.refl 45) 5 rfl ?_
        refine AW.iushr dX3_told_45 (.refl 46) ?_
        refine AW.iconst (v := (1 : Int32)) dX3_told_46 (.refl 47) (by decide) ?_
        refine AW.iand dX3_told_47 (.refl 48) ?_
        refine AW.iconst (v := (1 : Int32)) dX3_told_48 (.refl 49) (by decide) ?_
        refine AW.icmp_ne (tgt := 56) dX3_told_49 (by decide) (fun c2 => ?_) (fun c2 => ?_)
        · have h := ifn c2 h
          refine AW.iconst (v := (0 : Int32)) dX3_told_56 (.refl 57) (by decide) ?_
          exact (a_X3_told_p57 ih he93) x1 x2 x3 x4 x5 (0 : Int32) h
        · have h := ifp c2 h
          refine AW.iconst (v := (1 : Int32)) dX3_told_52 (.refl 53) (by decide) ?_
          refine AW.goto (tgt := 57) dX3_told_53 (by decide) ?_
          exact (a_X3_told_p57 ih he93) x1 x2 x3 x4 x5 (1 : Int32) h
set_option maxRecDepth 20000 in
theorem a_X3_told_p93 {l : Launch} {G : Gg} {v : Int32} {σ : Mm} {kh : Int32 → Int32 → Int32 → Int32 → Option (Int32)} (hkh : ∀ (x1 : Int32) (x2 : Int32) (x3 : Int32) (x4 : Int32), kh x1 x2 x3 x4 = some v → AW l G 0 M_X3_told (some (.int v)) σ 5 [(0, .ref 36), (1, .int x1), (2, .int x2), (3, .int x3), (4, .int x4)] [] σ) (x1 : Int32) (x2 : Int32) (x3 : Int32) (x4 : Int32) (h : f_X3_told_p93 σ kh x1 x2 x3 x4 = some v) : AW l G 0 M_X3_told (some (.int v)) σ 93 [(0, .ref 36), (1, .int x1), (2, .int x2), (3, .int x3), (4, .int x4)] [] σ := by
  unfold f_X3_told_p93 at h
  refine AW.iinc (v := (x4 + (1 : Int32))) (L' := [(4, .int (x4 + (1 : Int32))), (0, .ref 36), (1, .int x1), (2, .int x2), (3, .int x3)]) dX3_told_93 (.refl 96) 4 rfl rfl (by decide) rfl ?_
  refine AW.goto (tgt := 5) dX3_told_96 (by decide) ?_
  refine AW.sub (L' := [(0, .ref 36), (1, .int x1), (2, .int x2), (3, .int x3), (4, .int (x4 + (1 : Int32)))]) [1, 2, 3, 4, 0] rfl ?_
  exact hkh x1 x2 x3 (x4 + (1 : Int32)) h
set_option maxRecDepth 20000 in
theorem a_X3_told_p5 {l : Launch} {G : Gg} {v : Int32} {σ : Mm} : ∀ (n : Nat) (x1 : Int32) (x2 : Int32) (x3 : Int32) (x4 : Int32), f_X3_told_p5 σ n x1 x2 x3 x4 = some v → AW l G 0 M_X3_told (some (.int v)) σ 5 [(0, .ref 36), (1, .int x1), (2, .int x2), (3, .int x3), (4, .int x4)] [] σ := by
  intro n
  induction n with
  | zero => intro x1 x2 x3 x4 h; exact no_some h
  | succ n ih =>
    intro x1 x2 x3 x4 h
    rw [f_X3_told_p5] at h
    refine AW.iload dX3_told_5 (.refl 7) 4 rfl ?_
    refine AW.bipush (v := (6 : Int32)) dX3_told_7 (.refl 9) (by decide) ?_
    refine AW.icmp_ge (tgt := 99) dX3_told_9 (by decide) (fun c2 => ?_) (fun c2 => ?_)
    · have h := ifp c2 h
      refine AW.iload_n dX3_told_99 (.refl 100) 3 rfl ?_
      cases h
      exact AW.ireturn rfl dX3_told_100
    · have h := ifn c2 h
      refine AW.iload dX3_told_12 (.refl 14) 4 rfl ?_
      refine AW.aload_n dX3_told_14 (.refl 15) 0 rfl ?_
      refine AW.getI lk_X3_18 rfl rfl (by decide) dX3_told_15 (.refl 18) ?_
      refine AW.icmp_ge (tgt := 99) dX3_told_18 (by decide) (fun c1 => ?_) (fun c1 => ?_)
      · have h := ifp c1 h
        refine AW.iload_n dX3_told_99 (.refl 100) 3 rfl ?_
        cases h
        exact AW.ireturn rfl dX3_told_100
      · have h := ifn c1 h
        refine AW.iconst (v := (0 : Int32)) dX3_told_21 (.refl 22) (by decide) ?_
        refine AW.istore (L' := [(5, .int (0 : Int32)), (0, .ref 36), (1, .int x1), (2, .int x2), (3, .int x3), (4, .int x4)]) dX3_told_22 (.refl 24) (by decide) rfl ?_
        refine AW.sub (L' := [(0, .ref 36), (1, .int x1), (2, .int x2), (3, .int x3), (4, .int x4), (5, .int (0 : Int32))]) [1, 2, 3, 4, 5, 0] rfl ?_
        exact a_X3_told_p24 (a_X3_told_p93 ih) FU x1 x2 x3 x4 (0 : Int32) h
set_option maxRecDepth 20000 in
theorem c_X3_told {l : Launch} {G : Gg} {x1 : Int32} {x2 : Int32} {σ : Mm} {v : Int32} (h : f_X3_told σ x1 x2 = some v) : MR l G 0 M_X3_told [.ref 36, .int x1, .int x2] σ (some (.int v)) σ := by
  unfold f_X3_told at h
  refine MR.of (by decide +kernel) (Nat.le_of_ble_eq_true rfl) ?_
  show AW l G 0 M_X3_told (some (.int v)) σ 0 [(0, .ref 36), (1, .int x1), (2, .int x2)] [] σ
  refine AW.iconst (v := (0 : Int32)) dX3_told_0 (.refl 1) (by decide) ?_
  refine AW.istore_n (L' := [(3, .int (0 : Int32)), (0, .ref 36), (1, .int x1), (2, .int x2)]) dX3_told_1 (.refl 2) (by decide) rfl ?_
  refine AW.iconst (v := (0 : Int32)) dX3_told_2 (.refl 3) (by decide) ?_
  refine AW.istore (L' := [(4, .int (0 : Int32)), (3, .int (0 : Int32)), (0, .ref 36), (1, .int x1), (2, .int x2)]) dX3_told_3 (.refl 5) (by decide) rfl ?_
  refine AW.sub (L' := [(0, .ref 36), (1, .int x1), (2, .int x2), (3, .int (0 : Int32)), (4, .int (0 : Int32))]) [2, 3, 4, 1, 0] rfl ?_
  exact a_X3_told_p5 FU x1 x2 (0 : Int32) (0 : Int32) h
