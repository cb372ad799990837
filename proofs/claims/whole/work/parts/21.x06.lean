def f_X5_goesOn_p20 (fr : Int32 → Int32 → Mm → Option (Int32 × Mm)) : Nat → Int32 → Int32 → Int32 → Mm → Option (Int32 × Mm)
  | 0, _, _, _, _ => none
  | n + 1, x1, x2, x3, σ => (if (15 : Int32) ≤ x3 then some ((0 : Int32), σ) else (if (σ.1 40 5) ≤ x3 then some ((0 : Int32), σ) else (if ((jushr (σ.1 40 6) x3) &&& (1 : Int32)) = 0 then b1 (f_X5_isInTime σ x1 x3) (fun (r2 : Int32) => (if r2 = 0 then (f_X5_goesOn_p20 fr n) x1 x2 (x3 + (1 : Int32)) σ else gd (inB x3 15) ((if ((sI σ 40 6 ((σ.1 40 6) ||| (jshl (1 : Int32) x3))).1 44 (x3).toNatClampNeg) = (-9 : Int32) then gd (inB x3 15) (bnd ((sI (sI σ 40 6 ((σ.1 40 6) ||| (jshl (1 : Int32) x3))) 44 (x3).toNatClampNeg x1)) (fun (σ5 : Mm) => some ((1 : Int32), σ5))) else gd (inB x3 15) (b2 (fr ((sI σ 40 6 ((σ.1 40 6) ||| (jshl (1 : Int32) x3))).1 44 (x3).toNatClampNeg) (x2 + (1 : Int32)) (sI σ 40 6 ((σ.1 40 6) ||| (jshl (1 : Int32) x3)))) (fun (r9 : Int32) (τ10 : Mm) => (if r9 = 0 then (f_X5_goesOn_p20 fr n) x1 x2 (x3 + (1 : Int32)) τ10 else gd (inB x3 15) (some ((1 : Int32), (sI τ10 44 (x3).toNatClampNeg x1)))))))))) else (f_X5_goesOn_p20 fr n) x1 x2 (x3 + (1 : Int32)) σ)))
def f_X5_goesOn_e (fr : Int32 → Int32 → Mm → Option (Int32 × Mm)) (x1 : Int32) (x2 : Int32) (σ : Mm) : Option (Int32 × Mm) := (if x1 < 0 then some ((0 : Int32), σ) else (if (15 : Int32) ≤ x1 then some ((0 : Int32), σ) else (if x2 ≤ (15 : Int32) then f_X5_goesOn_p20 fr FU x1 x2 (0 : Int32) σ else some ((0 : Int32), σ))))
def f_X5_goesOn : Nat → Int32 → Int32 → Mm → Option (Int32 × Mm)
  | 0, _, _, _ => none
  | n + 1, x1, x2, σ => f_X5_goesOn_e (f_X5_goesOn n) x1 x2 σ
set_option maxRecDepth 20000 in
theorem a_X5_goesOn_p20 {l : Launch} {G : Gg} {v : Int32} {τ : Mm} {fr : Int32 → Int32 → Mm → Option (Int32 × Mm)} {d d0 : Nat} (hB : 2 ≤ d) (hd0 : d0 + 1 ≤ d) (hfr : ∀ (x1 : Int32) (x2 : Int32) (σ : Mm) (v : Int32) (τ : Mm), fr x1 x2 σ = some (v, τ) → MR l G d0 M_X5_goesOn [.ref 40, .int x1, .int x2] σ (some (.int v)) τ) : ∀ (n : Nat) (x1 : Int32) (x2 : Int32) (x3 : Int32) (σ : Mm), f_X5_goesOn_p20 fr n x1 x2 x3 σ = some (v, τ) → AW l G d M_X5_goesOn (some (.int v)) τ 20 [(0, .ref 40), (1, .int x1), (2, .int x2), (3, .int x3)] [] σ := by
  intro n
  induction n with
  | zero => intro x1 x2 x3 σ h; exact no_some h
  | succ n ih =>
    intro x1 x2 x3 σ h
    rw [f_X5_goesOn_p20] at h
    refine AW.iload_n dX5_goesOn_20 (.refl 21) 3 rfl ?_
    refine AW.bipush (v := (15 : Int32)) dX5_goesOn_21 (.refl 23) (by decide) ?_
    refine AW.icmp_ge (tgt := 108) dX5_goesOn_23 (by decide) (fun c17 => ?_) (fun c17 => ?_)
    · have h := ifp c17 h
      refine AW.iconst (v := (0 : Int32)) dX5_goesOn_108 (.refl 109) (by decide) ?_
      cases h
      exact AW.zreturn rfl (by decide) dX5_goesOn_109
    · have h := ifn c17 h
      refine AW.iload_n dX5_goesOn_26 (.refl 27) 3 rfl ?_
      refine AW.aload_n dX5_goesOn_27 (.refl 28) 0 rfl ?_
      refine AW.getI lk_X5_24 rfl rfl (by decide) dX5_goesOn_28 (.refl 31) ?_
      refine AW.icmp_ge (tgt := 108) dX5_goesOn_31 (by decide) (fun c16 => ?_) (fun c16 => ?_)
      · have h := ifp c16 h
        refine AW.iconst (v := (0 : Int32)) dX5_goesOn_108 (.refl 109) (by decide) ?_
        cases h
        exact AW.zreturn rfl (by decide) dX5_goesOn_109
      · have h := ifn c16 h
        refine AW.aload_n dX5_goesOn_34 (.refl 35) 0 rfl ?_
        refine AW.getI lk_X5_28 rfl rfl (by decide) dX5_goesOn_35 (.refl 38) ?_
        refine AW.iload_n dX5_goesOn_38 (.refl 39) 3 rfl ?_
        refine AW.iushr dX5_goesOn_39 (.refl 40) ?_
        refine AW.iconst (v := (1 : Int32)) dX5_goesOn_40 (.refl 41) (by decide) ?_
        refine AW.iand dX5_goesOn_41 (.refl 42) ?_
        refine AW.if_ne (tgt := 102) dX5_goesOn_42 (by decide) (fun c15 => ?_) (fun c15 => ?_)
        · have h := ifn c15 h
          refine AW.iinc (v := (x3 + (1 : Int32))) (L' := [(3, .int (x3 + (1 : Int32))), (0, .ref 40), (1, .int x1), (2, .int x2)]) dX5_goesOn_102 (.refl 105) 3 rfl rfl (by decide) rfl ?_
          refine AW.goto (tgt := 20) dX5_goesOn_105 (by decide) ?_
          refine AW.sub (L' := [(0, .ref 40), (1, .int x1), (2, .int x2), (3, .int (x3 + (1 : Int32)))]) [1, 2, 3, 0] rfl ?_
          exact ih x1 x2 (x3 + (1 : Int32)) σ h
        · have h := ifp c15 h
          refine AW.aload_n dX5_goesOn_45 (.refl 46) 0 rfl ?_
          refine AW.iload_n dX5_goesOn_46 (.refl 47) 1 rfl ?_
          refine AW.iload_n dX5_goesOn_47 (.refl 48) 3 rfl ?_
          obtain ⟨r2, e1, h⟩ := b1_s h
          refine AW.callV (r' := (some (.int r2))) (σ' := σ) (rest := []) lm_X5_71 (c_X5_isInTime e1) (by omega) (by decide) rfl rfl (by decide) rfl rfl (Nat.le_of_ble_eq_true rfl) dX5_goesOn_48 (.refl 51) (st' := [.int r2]) rfl ?_
          refine AW.if_eq (tgt := 102) dX5_goesOn_51 (by decide) (fun c14 => ?_) (fun c14 => ?_)
          · have h := ifp c14 h
            refine AW.iinc (v := (x3 + (1 : Int32))) (L' := [(3, .int (x3 + (1 : Int32))), (0, .ref 40), (1, .int x1), (2, .int x2)]) dX5_goesOn_102 (.refl 105) 3 rfl rfl (by decide) rfl ?_
            refine AW.goto (tgt := 20) dX5_goesOn_105 (by decide) ?_
            refine AW.sub (L' := [(0, .ref 40), (1, .int x1), (2, .int x2), (3, .int (x3 + (1 : Int32)))]) [1, 2, 3, 0] rfl ?_
            exact ih x1 x2 (x3 + (1 : Int32)) σ h
          · have h := ifn c14 h
            refine AW.aload_n dX5_goesOn_54 (.refl 55) 0 rfl ?_
            refine AW.dup dX5_goesOn_55 (.refl 56) rfl ?_
            refine AW.getI lk_X5_28 rfl rfl (by decide) dX5_goesOn_56 (.refl 59) ?_
            refine AW.iconst (v := (1 : Int32)) dX5_goesOn_59 (.refl 60) (by decide) ?_
            refine AW.iload_n dX5_goesOn_60 (.refl 61) 3 rfl ?_
            refine AW.ishl dX5_goesOn_61 (.refl 62) ?_
            refine AW.ior dX5_goesOn_62 (.refl 63) ?_
            refine AW.putI lp_X5_28 rfl rfl (by decide) dX5_goesOn_63 (.refl 66) ?_
            refine AW.aload_n dX5_goesOn_66 (.refl 67) 0 rfl ?_
            refine AW.getR (z := 44) lk_X5_21 rfl rfl (by decide) rfl dX5_goesOn_67 (.refl 70) ?_
            refine AW.iload_n dX5_goesOn_70 (.refl 71) 3 rfl ?_
            obtain ⟨g3, h⟩ := gd_s h
            refine AW.iaload rfl g3 dX5_goesOn_71 (.refl 72) ?_
            refine AW.bipush (v := (-9 : Int32)) dX5_goesOn_72 (.refl 74) (by decide) ?_
            refine AW.icmp_eq (tgt := 93) dX5_goesOn_74 (by decide) (fun c13 => ?_) (fun c13 => ?_)
            · have h := ifp c13 h
              refine AW.aload_n dX5_goesOn_93 (.refl 94) 0 rfl ?_
              refine AW.getR (z := 44) lk_X5_21 rfl rfl (by decide) rfl dX5_goesOn_94 (.refl 97) ?_
              refine AW.iload_n dX5_goesOn_97 (.refl 98) 3 rfl ?_
              refine AW.iload_n dX5_goesOn_98 (.refl 99) 1 rfl ?_
              obtain ⟨g4, h⟩ := gd_s h
              refine AW.iastore rfl g4 dX5_goesOn_99 (.refl 100) ?_
              obtain ⟨σ5, e6, h⟩ := bnd_s h
              refine AW.nmM e6 ?_
              refine AW.iconst (v := (1 : Int32)) dX5_goesOn_100 (.refl 101) (by decide) ?_
              cases h
              exact AW.zreturn rfl (by decide) dX5_goesOn_101
            · have h := ifn c13 h
              refine AW.aload_n dX5_goesOn_77 (.refl 78) 0 rfl ?_
              refine AW.aload_n dX5_goesOn_78 (.refl 79) 0 rfl ?_
              refine AW.getR (z := 44) lk_X5_21 rfl rfl (by decide) rfl dX5_goesOn_79 (.refl 82) ?_
              refine AW.iload_n dX5_goesOn_82 (.refl 83) 3 rfl ?_
              obtain ⟨g7, h⟩ := gd_s h
              refine AW.iaload rfl g7 dX5_goesOn_83 (.refl 84) ?_
              refine AW.iload_n dX5_goesOn_84 (.refl 85) 2 rfl ?_
              refine AW.iconst (v := (1 : Int32)) dX5_goesOn_85 (.refl 86) (by decide) ?_
              refine AW.iadd dX5_goesOn_86 (.refl 87) ?_
              obtain ⟨r9, τ10, e8, h⟩ := b2_s h
              refine AW.callV (r' := (some (.int r9))) (σ' := τ10) (rest := []) lm_X5_49 (hfr _ _ _ _ _ e8) hd0 (by decide) rfl rfl (by decide) rfl rfl (Nat.le_of_ble_eq_true rfl) dX5_goesOn_87 (.refl 90) (st' := [.int r9]) rfl ?_
              refine AW.if_eq (tgt := 102) dX5_goesOn_90 (by decide) (fun c12 => ?_) (fun c12 => ?_)
              · have h := ifp c12 h
                refine AW.iinc (v := (x3 + (1 : Int32))) (L' := [(3, .int (x3 + (1 : Int32))), (0, .ref 40), (1, .int x1), (2, .int x2)]) dX5_goesOn_102 (.refl 105) 3 rfl rfl (by decide) rfl ?_
                refine AW.goto (tgt := 20) dX5_goesOn_105 (by decide) ?_
                refine AW.sub (L' := [(0, .ref 40), (1, .int x1), (2, .int x2), (3, .int (x3 + (1 : Int32)))]) [1, 2, 3, 0] rfl ?_
                exact ih x1 x2 (x3 + (1 : Int32)) τ10 h
              · have h := ifn c12 h
                refine AW.aload_n dX5_goesOn_93 (.refl 94) 0 rfl ?_
                refine AW.getR (z := 44) lk_X5_21 rfl rfl (by decide) rfl dX5_goesOn_94 (.refl 97) ?_
                refine AW.iload_n dX5_goesOn_97 (.refl 98) 3 rfl ?_
                refine AW.iload_n dX5_goesOn_98 (.refl 99) 1 rfl ?_
                obtain ⟨g11, h⟩ := gd_s h
                refine AW.iastore rfl g11 dX5_goesOn_99 (.refl 100) ?_
                refine AW.iconst (v := (1 : Int32)) dX5_goesOn_100 (.refl 101) (by decide) ?_
                cases h
                exact AW.zreturn rfl (by decide) dX5_goesOn_101
set_option maxRecDepth 20000 in
theorem a_X5_goesOn_e {l : Launch} {G : Gg} {v : Int32} {τ : Mm} {fr : Int32 → Int32 → Mm → Option (Int32 × Mm)} {d d0 : Nat} (hB : 2 ≤ d) (hd0 : d0 + 1 ≤ d) (hfr : ∀ (x1 : Int32) (x2 : Int32) (σ : Mm) (v : Int32) (τ : Mm), fr x1 x2 σ = some (v, τ) → MR l G d0 M_X5_goesOn [.ref 40, .int x1, .int x2] σ (some (.int v)) τ) (x1 : Int32) (x2 : Int32) (σ : Mm) (h : f_X5_goesOn_e fr x1 x2 σ = some (v, τ)) : AW l G d M_X5_goesOn (some (.int v)) τ 0 [(0, .ref 40), (1, .int x1), (2, .int x2)] [] σ := by
  unfold f_X5_goesOn_e at h
  refine AW.iload_n dX5_goesOn_0 (.refl 1) 1 rfl ?_
  refine AW.if_lt (tgt := 16) dX5_goesOn_1 (by decide) (fun c3 => ?_) (fun c3 => ?_)
  · have h := ifp c3 h
    refine AW.iconst (v := (0 : Int32)) dX5_goesOn_16 (.refl 17) (by decide) ?_
    cases h
    exact AW.zreturn rfl (by decide) dX5_goesOn_17
  · have h := ifn c3 h
    refine AW.iload_n dX5_goesOn_4 (.refl 5) 1 rfl ?_
    refine AW.bipush (v := (15 : Int32)) dX5_goesOn_5 (.refl 7) (by decide) ?_
    refine AW.icmp_ge (tgt := 16) dX5_goesOn_7 (by decide) (fun c2 => ?_) (fun c2 => ?_)
    · have h := ifp c2 h
      refine AW.iconst (v := (0 : Int32)) dX5_goesOn_16 (.refl 17) (by decide) ?_
      cases h
      exact AW.zreturn rfl (by decide) dX5_goesOn_17
    · have h := ifn c2 h
      refine AW.iload_n dX5_goesOn_10 (.refl 11) 2 rfl ?_
      refine AW.bipush (v := (15 : Int32)) dX5_goesOn_11 (.refl 13) (by decide) ?_
      refine AW.icmp_le (tgt := 18) dX5_goesOn_13 (by decide) (fun c1 => ?_) (fun c1 => ?_)
      · have h := ifp c1 h
        refine AW.iconst (v := (0 : Int32)) dX5_goesOn_18 (.refl 19) (by decide) ?_
        refine AW.istore_n (L' := [(3, .int (0 : Int32)), (0, .ref 40), (1, .int x1), (2, .int x2)]) dX5_goesOn_19 (.refl 20) (by decide) rfl ?_
        refine AW.sub (L' := [(0, .ref 40), (1, .int x1), (2, .int x2), (3, .int (0 : Int32))]) [1, 2, 3, 0] rfl ?_
        exact a_X5_goesOn_p20 hB hd0 hfr FU x1 x2 (0 : Int32) σ h
      · have h := ifn c1 h
        refine AW.iconst (v := (0 : Int32)) dX5_goesOn_16 (.refl 17) (by decide) ?_
        cases h
        exact AW.zreturn rfl (by decide) dX5_goesOn_17
theorem c_X5_goesOn_n {l : Launch} {G : Gg} : ∀ (n : Nat) (x1 : Int32) (x2 : Int32) (σ : Mm) (v : Int32) (τ : Mm), f_X5_goesOn n x1 x2 σ = some (v, τ) → MR l G (2 + n) M_X5_goesOn [.ref 40, .int x1, .int x2] σ (some (.int v)) τ := by
  intro n
  induction n with
  | zero => intro x1 x2 σ v τ h; exact no_some h
  | succ n ih =>
    intro x1 x2 σ v τ h
    rw [f_X5_goesOn] at h
    exact MR.of (by decide +kernel) (Nat.le_of_ble_eq_true rfl) (a_X5_goesOn_e (d := 2 + (n + 1)) (d0 := 2 + n) (by omega) (by omega) ih x1 x2 σ h)
theorem c_X5_goesOn {l : Launch} {G : Gg} {x1 : Int32} {x2 : Int32} {σ : Mm} {v : Int32} {τ : Mm} (h : f_X5_goesOn 40 x1 x2 σ = some (v, τ)) : MR l G 42 M_X5_goesOn [.ref 40, .int x1, .int x2] σ (some (.int v)) τ := c_X5_goesOn_n 40 x1 x2 σ v τ h
def f_X5_fewest_p7 (k1 : Nat) (ke36 : Mm → Option (Int32 × Mm)) : Nat → Int32 → Mm → Option (Int32 × Mm)
  | 0, _, _ => none
  | n + 1, x2, σ => (if (5 : Int32) ≤ x2 then ke36 σ else b1 (f_X1_isLet σ k1 x2) (fun (r2 : Int32) => (if r2 = 0 then (f_X5_fewest_p7 k1 ke36 n) (x2 + (1 : Int32)) σ else b1 (f_X1_secondOf σ k1 x2) (fun (r4 : Int32) => b1 (f_X5_addStrokes x2 r4 σ) (fun (τ6 : Mm) => (f_X5_fewest_p7 k1 ke36 n) (x2 + (1 : Int32)) τ6)))))
def f_X5_fewest_p43 (k1 : Nat) : Nat → Int32 → Int32 → Mm → Option (Int32 × Mm)
  | 0, _, _, _ => none
  | n + 1, x2, x3, σ => (if (15 : Int32) ≤ x3 then some (x2, σ) else (if (σ.1 40 5) ≤ x3 then some (x2, σ) else b2 (f_X5_goesOn 40 x3 (0 : Int32) (sI σ 40 6 (0 : Int32))) (fun (r2 : Int32) (τ3 : Mm) => (if r2 = 0 then (f_X5_fewest_p43 k1 n) (x2 - (0 : Int32)) (x3 + (1 : Int32)) τ3 else (f_X5_fewest_p43 k1 n) (x2 - (1 : Int32)) (x3 + (1 : Int32)) τ3))))
def f_X5_fewest_p36 (k1 : Nat) (σ : Mm) : Option (Int32 × Mm) := f_X5_fewest_p43 k1 FU (σ.1 40 5) (0 : Int32) σ
def f_X5_fewest (k1 : Nat)  (σ : Mm) : Option (Int32 × Mm) := f_X5_fewest_p7 k1 (f_X5_fewest_p36 k1) FU (0 : Int32) (sI σ 40 5 (0 : Int32))
set_option maxRecDepth 20000 in
theorem a_X5_fewest_p7 {l : Launch} {G : Gg} {v : Int32} {τ : Mm} {k1 : Nat} (hk1 : cTag k1 = 1) {ke36 : Mm → Option (Int32 × Mm)} (he36 : ∀  (σ : Mm), ke36  σ = some (v, τ) → AW l G 43 M_X5_fewest (some (.int v)) τ 36 [(0, .ref 40)] [] σ) : ∀ (n : Nat) (x2 : Int32) (σ : Mm), f_X5_fewest_p7 k1 ke36 n x2 σ = some (v, τ) → AW l G 43 M_X5_fewest (some (.int v)) τ 7 [(0, .ref 40), (1, .ref k1), (2, .int x2)] [] σ := by
  intro n
  induction n with
  | zero => intro x2 σ h; exact no_some h
  | succ n ih =>
    intro x2 σ h
    rw [f_X5_fewest_p7] at h
    refine AW.iload_n dX5_fewest_7 (.refl 8) 2 rfl ?_
    refine AW.iconst (v := (5 : Int32)) dX5_fewest_8 (.refl 9) (by decide) ?_
    refine AW.icmp_ge (tgt := 36) dX5_fewest_9 (by decide) (fun c8 => ?_) (fun c8 => ?_)
    · have h := ifp c8 h
      refine AW.sub (L' := [(0, .ref 40)]) [0] rfl ?_
      exact he36 σ h
    · have h := ifn c8 h
      refine AW.aload_n dX5_fewest_12 (.refl 13) 1 rfl ?_
      refine AW.iload_n dX5_fewest_13 (.refl 14) 2 rfl ?_
      obtain ⟨r2, e1, h⟩ := b1_s h
      refine AW.callV (r' := (some (.int r2))) (σ' := σ) (rest := []) lm_X5_35 (c_X1_isLet hk1 e1) (by decide) (by decide) hk1 rfl (by decide) rfl rfl (Nat.le_of_ble_eq_true rfl) dX5_fewest_14 (.refl 17) (st' := [.int r2]) rfl ?_
      refine AW.if_eq (tgt := 30) dX5_fewest_17 (by decide) (fun c7 => ?_) (fun c7 => ?_)
      · have h := ifp c7 h
        refine AW.iinc (v := (x2 + (1 : Int32))) (L' := [(2, .int (x2 + (1 : Int32))), (0, .ref 40), (1, .ref k1)]) dX5_fewest_30 (.refl 33) 2 rfl rfl (by decide) rfl ?_
        refine AW.goto (tgt := 7) dX5_fewest_33 (by decide) ?_
        refine AW.sub (L' := [(0, .ref 40), (1, .ref k1), (2, .int (x2 + (1 : Int32)))]) [1, 2, 0] rfl ?_
        exact ih (x2 + (1 : Int32)) σ h
      · have h := ifn c7 h
        refine AW.aload_n dX5_fewest_20 (.refl 21) 0 rfl ?_
        refine AW.iload_n dX5_fewest_21 (.refl 22) 2 rfl ?_
        refine AW.aload_n dX5_fewest_22 (.refl 23) 1 rfl ?_
        refine AW.iload_n dX5_fewest_23 (.refl 24) 2 rfl ?_
        obtain ⟨r4, e3, h⟩ := b1_s h
        refine AW.callV (r' := (some (.int r4))) (σ' := σ) (rest := [.int x2, .ref 40]) lm_X5_41 (c_X1_secondOf hk1 e3) (by decide) (by decide) hk1 rfl (by decide) rfl rfl (Nat.le_of_ble_eq_true rfl) dX5_fewest_24 (.refl 27) (st' := [.int r4, .int x2, .ref 40]) rfl ?_
        obtain ⟨τ6, e5, h⟩ := b1_s h
        refine AW.callV (r' := none) (σ' := τ6) (rest := []) lm_X5_45 (c_X5_addStrokes e5) (by decide) (by decide) rfl rfl (by decide) rfl rfl (Nat.le_of_ble_eq_true rfl) dX5_fewest_27 (.refl 30) (st' := []) rfl ?_
        refine AW.iinc (v := (x2 + (1 : Int32))) (L' := [(2, .int (x2 + (1 : Int32))), (0, .ref 40), (1, .ref k1)]) dX5_fewest_30 (.refl 33) 2 rfl rfl (by decide) rfl ?_
        refine AW.goto (tgt := 7) dX5_fewest_33 (by decide) ?_
        refine AW.sub (L' := [(0, .ref 40), (1, .ref k1), (2, .int (x2 + (1 : Int32)))]) [1, 2, 0] rfl ?_
        exact ih (x2 + (1 : Int32)) τ6 h
set_option maxRecDepth 20000 in
theorem a_X5_fewest_p43 {l : Launch} {G : Gg} {v : Int32} {τ : Mm} {k1 : Nat} (hk1 : cTag k1 = 1) : ∀ (n : Nat) (x2 : Int32) (x3 : Int32) (σ : Mm), f_X5_fewest_p43 k1 n x2 x3 σ = some (v, τ) → AW l G 43 M_X5_fewest (some (.int v)) τ 43 [(0, .ref 40), (2, .int x2), (3, .int x3)] [] σ := by
  intro n
  induction n with
  | zero => intro x2 x3 σ h; exact no_some h
  | succ n ih =>
    intro x2 x3 σ h
    rw [f_X5_fewest_p43] at h
    refine AW.iload_n dX5_fewest_43 (.refl 44) 2 rfl ?_
    refine AW.bipush (v := (15 : Int32)) dX5_fewest_44 (.refl 46) (by decide) ?_
    refine AW.icmp_ge (tgt := 85) dX5_fewest_46 (by decide) (fun c6 => ?_) (fun c6 => ?_)
    · have h := ifp c6 h
      refine AW.iload_n dX5_fewest_85 (.refl 86) 1 rfl ?_
      cases h
      exact AW.ireturn rfl dX5_fewest_86
    · have h := ifn c6 h
      refine AW.iload_n dX5_fewest_49 (.refl 50) 2 rfl ?_
      refine AW.aload_n dX5_fewest_50 (.refl 51) 0 rfl ?_
      refine AW.getI lk_X5_24 rfl rfl (by decide) dX5_fewest_51 (.refl 54) ?_
      refine AW.icmp_ge (tgt := 85) dX5_fewest_54 (by decide) (fun c5 => ?_) (fun c5 => ?_)
      · have h := ifp c5 h
        refine AW.iload_n dX5_fewest_85 (.refl 86) 1 rfl ?_
        cases h
        exact AW.ireturn rfl dX5_fewest_86
      · have h := ifn c5 h
        refine AW.aload_n dX5_fewest_57 (.refl 58) 0 rfl ?_
        refine AW.iconst (v := (0 : Int32)) dX5_fewest_58 (.refl 59) (by decide) ?_
        refine AW.putI lp_X5_28 rfl rfl (by decide) dX5_fewest_59 (.refl 62) ?_
        refine AW.iload_n dX5_fewest_62 (.refl 63) 1 rfl ?_
        refine AW.aload_n dX5_fewest_63 (.refl 64) 0 rfl ?_
        refine AW.iload_n dX5_fewest_64 (.refl 65) 2 rfl ?_
        refine AW.iconst (v := (0 : Int32)) dX5_fewest_65 (.refl 66) (by decide) ?_
        obtain ⟨r2, τ3, e1, h⟩ := b2_s h
        refine AW.callV (r' := (some (.int r2))) (σ' := τ3) (rest := [.int x2]) lm_X5_49 (c_X5_goesOn e1) (by decide) (by decide) rfl rfl (by decide) rfl rfl (Nat.le_of_ble_eq_true rfl) dX5_fewest_66 (.refl 69) (st' := [.int r2, .int x2]) rfl ?_
        refine AW.if_eq (tgt := 76) dX5_fewest_69 (by decide) (fun c4 => ?_) (fun c4 => ?_)
        · have h := ifp c4 h
          refine AW.iconst (v := (0 : Int32)) dX5_fewest_76 (.refl 77) (by decide) ?_
          refine AW.isub dX5_fewest_77 (.refl 78) ?_
          refine AW.istore_n (L' := [(2, .int (x2 - (0 : Int32))), (0, .ref 40), (3, .int x3)]) dX5_fewest_78 (.refl 79) (by decide) rfl ?_
          refine AW.iinc (v := (x3 + (1 : Int32))) (L' := [(3, .int (x3 + (1 : Int32))), (2, .int (x2 - (0 : Int32))), (0, .ref 40)]) dX5_fewest_79 (.refl 82) 2 rfl rfl (by decide) rfl ?_
          refine AW.goto (tgt := 43) dX5_fewest_82 (by decide) ?_
          refine AW.sub (L' := [(0, .ref 40), (2, .int (x2 - (0 : Int32))), (3, .int (x3 + (1 : Int32)))]) [2, 1, 0] rfl ?_
          exact ih (x2 - (0 : Int32)) (x3 + (1 : Int32)) τ3 h
        · have h := ifn c4 h
          refine AW.iconst (v := (1 : Int32)) dX5_fewest_72 (.refl 73) (by decide) ?_
          refine AW.goto (tgt := 77) dX5_fewest_73 (by decide) ?_
          refine AW.isub dX5_fewest_77 (.refl 78) ?_
          refine AW.istore_n (L' := [(2, .int (x2 - (1 : Int32))), (0, .ref 40), (3, .int x3)]) dX5_fewest_78 (.refl 79) (by decide) rfl ?_
          refine AW.iinc (v := (x3 + (1 : Int32))) (L' := [(3, .int (x3 + (1 : Int32))), (2, .int (x2 - (1 : Int32))), (0, .ref 40)]) dX5_fewest_79 (.refl 82) 2 rfl rfl (by decide) rfl ?_
          refine AW.goto (tgt := 43) dX5_fewest_82 (by decide) ?_
          refine AW.sub (L' := [(0, .ref 40), (2, .int (x2 - (1 : Int32))), (3, .int (x3 + (1 : Int32)))]) [2, 1, 0] rfl ?_
          exact ih (x2 - (1 : Int32)) (x3 + (1 : Int32)) τ3 h
set_option maxRecDepth 20000 in
theorem a_X5_fewest_p36 {l : Launch} {G : Gg} {v : Int32} {τ : Mm} {k1 : Nat} (hk1 : cTag k1 = 1) (σ : Mm) (h : f_X5_fewest_p36 k1 σ = some (v, τ)) : AW l G 43 M_X5_fewest (some (.int v)) τ 36 [(0, .ref 40)] [] σ := by
  unfold f_X5_fewest_p36 at h
  refine AW.aload_n dX5_fewest_36 (.refl 37) 0 rfl ?_
  refine AW.getI lk_X5_24 rfl rfl (by decide) dX5_fewest_37 (.refl 40) ?_
  refine AW.istore_n (L' := [(2, .int (σ.1 40 5)), (0, .ref 40)]) dX5_fewest_40 (.refl 41) (by decide) rfl ?_
  refine AW.iconst (v := (0 : Int32)) dX5_fewest_41 (.refl 42) (by decide) ?_
  refine AW.istore_n (L' := [(3, .int (0 : Int32)), (2, .int (σ.1 40 5)), (0, .ref 40)]) dX5_fewest_42 (.refl 43) (by decide) rfl ?_
  refine AW.sub (L' := [(0, .ref 40), (2, .int (σ.1 40 5)), (3, .int (0 : Int32))]) [2, 1, 0] rfl ?_
  exact a_X5_fewest_p43 hk1 FU (σ.1 40 5) (0 : Int32) σ h
set_option maxRecDepth 20000 in
theorem c_X5_fewest {l : Launch} {G : Gg} {k1 : Nat} (hk1 : cTag k1 = 1)  {σ : Mm} {v : Int32} {τ : Mm} (h : f_X5_fewest k1  σ = some (v, τ)) : MR l G 43 M_X5_fewest [.ref 40, .ref k1] σ (some (.int v)) τ := by
  unfold f_X5_fewest at h
  refine MR.of (by decide +kernel) (Nat.le_of_ble_eq_true rfl) ?_
  show AW l G 43 M_X5_fewest (some (.int v)) τ 0 [(0, .ref 40), (1, .ref k1)] [] σ
  refine AW.aload_n dX5_fewest_0 (.refl 1) 0 rfl ?_
  refine AW.iconst (v := (0 : Int32)) dX5_fewest_1 (.refl 2) (by decide) ?_
  refine AW.putI lp_X5_24 rfl rfl (by decide) dX5_fewest_2 (.refl 5) ?_
  refine AW.iconst (v := (0 : Int32)) dX5_fewest_5 (.refl 6) (by decide) ?_
  refine AW.istore_n (L' := [(2, .int (0 : Int32)), (0, .ref 40), (1, .ref k1)]) dX5_fewest_6 (.refl 7) (by decide) rfl ?_
  refine AW.sub (L' := [(0, .ref 40), (1, .ref k1), (2, .int (0 : Int32))]) [1, 2, 0] rfl ?_
  exact a_X5_fewest_p7 hk1 (a_X5_fewest_p36 hk1) FU (0 : Int32) (sI σ 40 5 (0 : Int32)) h
def f_X9_hands  (σ : Mm) : Option (Int32 × Mm) := b2 (f_X5_fewest 16 σ) (fun (r2 : Int32) (τ3 : Mm) => some (r2, τ3))
set_option maxRecDepth 20000 in
theorem c_X9_hands {l : Launch} {G : Gg}  {σ : Mm} {v : Int32} {τ : Mm} (h : f_X9_hands  σ = some (v, τ)) : MR l G 44 M_X9_hands [.ref 0] σ (some (.int v)) τ := by
  unfold f_X9_hands at h
  refine MR.of (by decide +kernel) (Nat.le_of_ble_eq_true rfl) ?_
  show AW l G 44 M_X9_hands (some (.int v)) τ 0 [(0, .ref 0)] [] σ
  refine AW.aload_n dX9_hands_0 (.refl 1) 0 rfl ?_
  refine AW.getR (z := 40) lk_X9_76 rfl rfl (by decide) rfl dX9_hands_1 (.refl 4) ?_
  refine AW.aload_n dX9_hands_4 (.refl 5) 0 rfl ?_
  refine AW.getR (z := 16) lk_X9_28 rfl rfl (by decide) rfl dX9_hands_5 (.refl 8) ?_
  obtain ⟨r2, τ3, e1, h⟩ := b2_s h
  refine AW.callV (r' := (some (.int r2))) (σ' := τ3) (rest := []) lm_X9_227 (c_X5_fewest rfl e1) (by decide) (by decide) rfl rfl (by decide) rfl rfl (Nat.le_of_ble_eq_true rfl) dX9_hands_8 (.refl 11) (st' := [.int r2]) rfl ?_
  cases h
  exact AW.ireturn rfl dX9_hands_11
def f_X1_letIfCan_p22 (k0 : Nat) (x1 : Int32) (x2 : Int32) (s0 : Int32) (σ : Mm) : Option (Int32 × Mm) := (if s0 = 0 then gd (decide (s0 &&& 1 = s0)) (some (s0, σ)) else b1 (f_X1_tell k0 x1 (x2 + (1 : Int32)) σ) (fun (τ3 : Mm) => gd (decide (s0 &&& 1 = s0)) (some (s0, τ3))))
def f_X1_letIfCan_p21 (k0 : Nat) (x1 : Int32) (x2 : Int32) (σ : Mm) : Option (Int32 × Mm) := (f_X1_letIfCan_p22 k0) x1 x2 (0 : Int32) σ
def f_X1_letIfCan (k0 : Nat) (x1 : Int32) (x2 : Int32) (σ : Mm) : Option (Int32 × Mm) := b1 (f_X1_isLet σ k0 x1) (fun (r2 : Int32) => (if r2 = 0 then b1 (f_X1_fits σ k0 x1 x2) (fun (r4 : Int32) => (if r4 = 0 then (f_X1_letIfCan_p21 k0) x1 x2 σ else (f_X1_letIfCan_p22 k0) x1 x2 (1 : Int32) σ)) else (f_X1_letIfCan_p21 k0) x1 x2 σ))
set_option maxRecDepth 20000 in
theorem a_X1_letIfCan_p22 {l : Launch} {G : Gg} {v : Int32} {τ : Mm} {k0 : Nat} (hk0 : cTag k0 = 1) (x1 : Int32) (x2 : Int32) (s0 : Int32) (σ : Mm) (h : f_X1_letIfCan_p22 k0 x1 x2 s0 σ = some (v, τ)) : AW l G 4 M_X1_letIfCan (some (.int v)) τ 22 [(0, .ref k0), (1, .int x1), (2, .int x2)] [.int s0] σ := by
  unfold f_X1_letIfCan_p22 at h
  refine AW.istore_n (L' := [(3, .int s0), (0, .ref k0), (1, .int x1), (2, .int x2)]) dX1_letIfCan_22 (.refl 23) (by decide) rfl ?_
  refine AW.iload_n dX1_letIfCan_23 (.refl 24) 0 rfl ?_
  refine AW.if_eq (tgt := 35) dX1_letIfCan_24 (by decide) (fun c5 => ?_) (fun c5 => ?_)
  · have h := ifp c5 h
    refine AW.iload_n dX1_letIfCan_35 (.refl 36) 0 rfl ?_
    obtain ⟨g1, h⟩ := gd_s h
    cases h
    exact AW.zreturn rfl (of_decide_eq_true g1) dX1_letIfCan_36
  · have h := ifn c5 h
    refine AW.aload_n dX1_letIfCan_27 (.refl 28) 1 rfl ?_
    refine AW.iload_n dX1_letIfCan_28 (.refl 29) 2 rfl ?_
    refine AW.iload_n dX1_letIfCan_29 (.refl 30) 3 rfl ?_
    refine AW.iconst (v := (1 : Int32)) dX1_letIfCan_30 (.refl 31) (by decide) ?_
    refine AW.iadd dX1_letIfCan_31 (.refl 32) ?_
    obtain ⟨τ3, e2, h⟩ := b1_s h
    refine AW.callV (r' := none) (σ' := τ3) (rest := []) lm_X1_60 (c_X1_tell hk0 e2) (by decide) (by decide) hk0 rfl (by decide) rfl rfl (Nat.le_of_ble_eq_true rfl) dX1_letIfCan_32 (.refl 35) (st' := []) rfl ?_
    refine AW.iload_n dX1_letIfCan_35 (.refl 36) 0 rfl ?_
    obtain ⟨g4, h⟩ := gd_s h
    cases h
    exact AW.zreturn rfl (of_decide_eq_true g4) dX1_letIfCan_36
set_option maxRecDepth 20000 in
theorem a_X1_letIfCan_p21 {l : Launch} {G : Gg} {v : Int32} {τ : Mm} {k0 : Nat} (hk0 : cTag k0 = 1) (x1 : Int32) (x2 : Int32) (σ : Mm) (h : f_X1_letIfCan_p21 k0 x1 x2 σ = some (v, τ)) : AW l G 4 M_X1_letIfCan (some (.int v)) τ 21 [(0, .ref k0), (1, .int x1), (2, .int x2)] [] σ := by
  unfold f_X1_letIfCan_p21 at h
  refine AW.iconst (v := (0 : Int32)) dX1_letIfCan_21 (.refl 22) (by decide) ?_
  exact (a_X1_letIfCan_p22 hk0) x1 x2 (0 : Int32) σ h
set_option maxRecDepth 20000 in
theorem c_X1_letIfCan {l : Launch} {G : Gg} {k0 : Nat} (hk0 : cTag k0 = 1) {x1 : Int32} {x2 : Int32} {σ : Mm} {v : Int32} {τ : Mm} (h : f_X1_letIfCan k0 x1 x2 σ = some (v, τ)) : MR l G 4 M_X1_letIfCan [.ref k0, .int x1, .int x2] σ (some (.int v)) τ := by
  unfold f_X1_letIfCan at h
  refine MR.of (by decide +kernel) (Nat.le_of_ble_eq_true rfl) ?_
  show AW l G 4 M_X1_letIfCan (some (.int v)) τ 0 [(0, .ref k0), (1, .int x1), (2, .int x2)] [] σ
  refine AW.aload_n dX1_letIfCan_0 (.refl 1) 0 rfl ?_
  refine AW.iload_n dX1_letIfCan_1 (.refl 2) 1 rfl ?_
  obtain ⟨r2, e1, h⟩ := b1_s h
  refine AW.callV (r' := (some (.int r2))) (σ' := σ) (rest := []) lm_X1_23 (c_X1_isLet hk0 e1) (by decide) (by decide) hk0 rfl (by decide) rfl rfl (Nat.le_of_ble_eq_true rfl) dX1_letIfCan_2 (.refl 5) (st' := [.int r2]) rfl ?_
  refine AW.if_ne (tgt := 21) dX1_letIfCan_5 (by decide) (fun c6 => ?_) (fun c6 => ?_)
  · have h := ifn c6 h
    exact (a_X1_letIfCan_p21 hk0) x1 x2 σ h
  · have h := ifp c6 h
    refine AW.aload_n dX1_letIfCan_8 (.refl 9) 0 rfl ?_
    refine AW.iload_n dX1_letIfCan_9 (.refl 10) 1 rfl ?_
    refine AW.iload_n dX1_letIfCan_10 (.refl 11) 2 rfl ?_
    obtain ⟨r4, e3, h⟩ := b1_s h
    refine AW.callV (r' := (some (.int r4))) (σ' := σ) (rest := []) lm_X1_57 (c_X1_fits hk0 e3) (by decide) (by decide) hk0 rfl (by decide) rfl rfl (Nat.le_of_ble_eq_true rfl) dX1_letIfCan_11 (.refl 14) (st' := [.int r4]) rfl ?_
    refine AW.if_eq (tgt := 21) dX1_letIfCan_14 (by decide) (fun c5 => ?_) (fun c5 => ?_)
    · have h := ifp c5 h
      exact (a_X1_letIfCan_p21 hk0) x1 x2 σ h
    · have h := ifn c5 h
      refine AW.iconst (v := (1 : Int32)) dX1_letIfCan_17 (.refl 18) (by decide) ?_
      refine AW.goto (tgt := 22) dX1_letIfCan_18 (by decide) ?_
      exact (a_X1_letIfCan_p22 hk0) x1 x2 (1 : Int32) σ h
def f_X9_firstThatCanNotBe_p13 : Nat → Int32 → Int32 → Mm → Option (Int32 × Mm)
  | 0, _, _, _ => none
  | n + 1, x1, x2, σ => (if (5 : Int32) ≤ x2 then some ((-9 : Int32), σ) else (if x1 ≤ x2 then some ((-9 : Int32), σ) else gd (inB x2 5) (gd (inB x2 5) (b2 (f_X1_letIfCan 18 ((σ.1 45 (x2).toNatClampNeg) / (10 : Int32)) (jrem (σ.1 45 (x2).toNatClampNeg) (10 : Int32)) σ) (fun (r4 : Int32) (τ5 : Mm) => (if r4 = 0 then some (x2, τ5) else (f_X9_firstThatCanNotBe_p13 n) x1 (x2 + (1 : Int32)) τ5))))))
def f_X9_firstThatCanNotBe (x1 : Int32) (σ : Mm) : Option (Int32 × Mm) := b1 (f_X1_copy 18 16 σ) (fun (τ2 : Mm) => f_X9_firstThatCanNotBe_p13 FU x1 (0 : Int32) τ2)
set_option maxRecDepth 20000 in
theorem a_X9_firstThatCanNotBe_p13 {l : Launch} {G : Gg} {v : Int32} {τ : Mm} : ∀ (n : Nat) (x1 : Int32) (x2 : Int32) (σ : Mm), f_X9_firstThatCanNotBe_p13 n x1 x2 σ = some (v, τ) → AW l G 5 M_X9_firstThatCanNotBe (some (.int v)) τ 13 [(0, .ref 0), (1, .int x1), (2, .int x2)] [] σ := by
  intro n
  induction n with
  | zero => intro x1 x2 σ h; exact no_some h
  | succ n ih =>
    intro x1 x2 σ h
    rw [f_X9_firstThatCanNotBe_p13] at h
    refine AW.iload_n dX9_firstThatCanNotBe_13 (.refl 14) 2 rfl ?_
    refine AW.iconst (v := (5 : Int32)) dX9_firstThatCanNotBe_14 (.refl 15) (by decide) ?_
    refine AW.icmp_ge (tgt := 59) dX9_firstThatCanNotBe_15 (by decide) (fun c8 => ?_) (fun c8 => ?_)
    · have h := ifp c8 h
      refine AW.bipush (v := (-9 : Int32)) dX9_firstThatCanNotBe_59 (.refl 61) (by decide) ?_
      cases h
      exact AW.ireturn rfl dX9_firstThatCanNotBe_61
    · have h := ifn c8 h
      refine AW.iload_n dX9_firstThatCanNotBe_18 (.refl 19) 2 rfl ?_
      refine AW.iload_n dX9_firstThatCanNotBe_19 (.refl 20) 1 rfl ?_
      refine AW.icmp_ge (tgt := 59) dX9_firstThatCanNotBe_20 (by decide) (fun c7 => ?_) (fun c7 => ?_)
      · have h := ifp c7 h
        refine AW.bipush (v := (-9 : Int32)) dX9_firstThatCanNotBe_59 (.refl 61) (by decide) ?_
        cases h
        exact AW.ireturn rfl dX9_firstThatCanNotBe_61
      · have h := ifn c7 h
        refine AW.aload_n dX9_firstThatCanNotBe_23 (.refl 24) 0 rfl ?_
        refine AW.getR (z := 18) lk_X9_32 rfl rfl (by decide) rfl dX9_firstThatCanNotBe_24 (.refl 27) ?_
        refine AW.aload_n dX9_firstThatCanNotBe_27 (.refl 28) 0 rfl ?_
        refine AW.getR (z := 45) lk_X9_80 rfl rfl (by decide) rfl dX9_firstThatCanNotBe_28 (.refl 31) ?_
        refine AW.iload_n dX9_firstThatCanNotBe_31 (.refl 32) 2 rfl ?_
        obtain ⟨g1, h⟩ := gd_s h
        refine AW.iaload rfl g1 dX9_firstThatCanNotBe_32 (.refl 33) ?_
        refine AW.bipush (v := (10 : Int32)) dX9_firstThatCanNotBe_33 (.refl 35) (by decide) ?_
        refine AW.idiv dX9_firstThatCanNotBe_35 (.refl 36) (by decide) ?_
        refine AW.aload_n dX9_firstThatCanNotBe_36 (.refl 37) 0 rfl ?_
        refine AW.getR (z := 45) lk_X9_80 rfl rfl (by decide) rfl dX9_firstThatCanNotBe_37 (.refl 40) ?_
        refine AW.iload_n dX9_firstThatCanNotBe_40 (.refl 41) 2 rfl ?_
        obtain ⟨g2, h⟩ := gd_s h
        refine AW.iaload rfl g2 dX9_firstThatCanNotBe_41 (.refl 42) ?_
        refine AW.bipush (v := (10 : Int32)) dX9_firstThatCanNotBe_42 (.refl 44) (by decide) ?_
        refine AW.irem dX9_firstThatCanNotBe_44 (.refl 45) (by decide) ?_
        obtain ⟨r4, τ5, e3, h⟩ := b2_s h
        refine AW.callV (r' := (some (.int r4))) (σ' := τ5) (rest := []) lm_X9_238 (c_X1_letIfCan rfl e3) (by decide) (by decide) rfl rfl (by decide) rfl rfl (Nat.le_of_ble_eq_true rfl) dX9_firstThatCanNotBe_45 (.refl 48) (st' := [.int r4]) rfl ?_
        refine AW.if_ne (tgt := 53) dX9_firstThatCanNotBe_48 (by decide) (fun c6 => ?_) (fun c6 => ?_)
        · have h := ifn c6 h
          refine AW.iinc (v := (x2 + (1 : Int32))) (L' := [(2, .int (x2 + (1 : Int32))), (0, .ref 0), (1, .int x1)]) dX9_firstThatCanNotBe_53 (.refl 56) 2 rfl rfl (by decide) rfl ?_
          refine AW.goto (tgt := 13) dX9_firstThatCanNotBe_56 (by decide) ?_
          refine AW.sub (L' := [(0, .ref 0), (1, .int x1), (2, .int (x2 + (1 : Int32)))]) [1, 2, 0] rfl ?_
          exact ih x1 (x2 + (1 : Int32)) τ5 h
        · have h := ifp c6 h
          refine AW.iload_n dX9_firstThatCanNotBe_51 (.refl 52) 2 rfl ?_
          cases h
          exact AW.ireturn rfl dX9_firstThatCanNotBe_52
set_option maxRecDepth 20000 in
theorem c_X9_firstThatCanNotBe {l : Launch} {G : Gg} {x1 : Int32} {σ : Mm} {v : Int32} {τ : Mm} (h : f_X9_firstThatCanNotBe x1 σ = some (v, τ)) : MR l G 5 M_X9_firstThatCanNotBe [.ref 0, .int x1] σ (some (.int v)) τ := by
  unfold f_X9_firstThatCanNotBe at h
  refine MR.of (by decide +kernel) (Nat.le_of_ble_eq_true rfl) ?_
  show AW l G 5 M_X9_firstThatCanNotBe (some (.int v)) τ 0 [(0, .ref 0), (1, .int x1)] [] σ
  refine AW.aload_n dX9_firstThatCanNotBe_0 (.refl 1) 0 rfl ?_
  refine AW.getR (z := 18) lk_X9_32 rfl rfl (by decide) rfl dX9_firstThatCanNotBe_1 (.refl 4) ?_
  refine AW.aload_n dX9_firstThatCanNotBe_4 (.refl 5) 0 rfl ?_
  refine AW.getR (z := 16) lk_X9_28 rfl rfl (by decide) rfl dX9_firstThatCanNotBe_5 (.refl 8) ?_
  obtain ⟨τ2, e1, h⟩ := b1_s h
  refine AW.callV (r' := none) (σ' := τ2) (rest := []) lm_X9_235 (c_X1_copy rfl rfl e1) (by decide) (by decide) rfl rfl (by decide) rfl rfl (Nat.le_of_ble_eq_true rfl) dX9_firstThatCanNotBe_8 (.refl 11) (st' := []) rfl ?_
  refine AW.iconst (v := (0 : Int32)) dX9_firstThatCanNotBe_11 (.refl 12) (by decide) ?_
  refine AW.istore_n (L' := [(2, .int (0 : Int32)), (0, .ref 0), (1, .int x1)]) dX9_firstThatCanNotBe_12 (.refl 13) (by decide) rfl ?_
  refine AW.sub (L' := [(0, .ref 0), (1, .int x1), (2, .int (0 : Int32))]) [1, 2, 0] rfl ?_
  exact a_X9_firstThatCanNotBe_p13 FU x1 (0 : Int32) τ2 h
def f_X9_judge_p25 (ke64 : Int32 → Int64 → Mm → Option (Int32 × Mm)) : Nat → Int32 → Int64 → Int32 → Mm → Option (Int32 × Mm)
  | 0, _, _, _, _ => none
  | n + 1, x1, x4, x6, σ => (if x6 < 0 then ke64 x1 x4 σ else (if x1 ≤ x6 then (f_X9_judge_p25 ke64 n) x1 x4 (x6 + (-1 : Int32)) σ else gd (inB x6 5) ((f_X9_judge_p25 ke64 n) x1 (x4 / (100 : Int64)) (x6 + (-1 : Int32)) (sI σ 45 (x6).toNatClampNeg (jlrem x4 (100 : Int64)).toInt32))))
def f_X9_judge_p64 (x1 : Int32) (x4 : Int64) (σ : Mm) : Option (Int32 × Mm) := (if (lg_cmp x4 (0 : Int64)) = 0 then b2 (f_X9_firstThatCanNotBe x1 σ) (fun (r2 : Int32) (τ3 : Mm) => some (r2, τ3)) else some ((-2 : Int32), σ))
def f_X9_judge (x1 : Int32) (x2 : Int64) (σ : Mm) : Option (Int32 × Mm) := (if x1 < (1 : Int32) then some ((-2 : Int32), σ) else (if (5 : Int32) < x1 then some ((-2 : Int32), σ) else (if 0 ≤ (lg_cmp x2 (0 : Int64)) then f_X9_judge_p25 (f_X9_judge_p64) FU x1 x2 (4 : Int32) σ else some ((-2 : Int32), σ))))
set_option maxRecDepth 20000 in
theorem a_X9_judge_p25 {l : Launch} {G : Gg} {v : Int32} {τ : Mm} {ke64 : Int32 → Int64 → Mm → Option (Int32 × Mm)} (he64 : ∀ (x1 : Int32) (x4 : Int64) (σ : Mm), ke64 x1 x4 σ = some (v, τ) → AW l G 6 M_X9_judge (some (.int v)) τ 64 [(0, .ref 0), (1, .int x1), (4, .long x4)] [] σ) : ∀ (n : Nat) (x1 : Int32) (x4 : Int64) (x6 : Int32) (σ : Mm), f_X9_judge_p25 ke64 n x1 x4 x6 σ = some (v, τ) → AW l G 6 M_X9_judge (some (.int v)) τ 25 [(0, .ref 0), (1, .int x1), (4, .long x4), (6, .int x6)] [] σ := by
  intro n
  induction n with
  | zero => intro x1 x4 x6 σ h; exact no_some h
  | succ n ih =>
    intro x1 x4 x6 σ h
    rw [f_X9_judge_p25] at h
    refine AW.iload dX9_judge_25 (.refl 27) 3 rfl ?_
    refine AW.if_lt (tgt := 64) dX9_judge_27 (by decide) (fun c3 => ?_) (fun c3 => ?_)
    · have h := ifp c3 h
      refine AW.sub (L' := [(0, .ref 0), (1, .int x1), (4, .long x4)]) [0, 1, 2] rfl ?_
      exact he64 x1 x4 σ h
    · have h := ifn c3 h
      refine AW.iload dX9_judge_30 (.refl 32) 3 rfl ?_
      refine AW.iload_n dX9_judge_32 (.refl 33) 1 rfl ?_
      refine AW.icmp_ge (tgt := 58) dX9_judge_33 (by decide) (fun c2 => ?_) (fun c2 => ?_)
      · have h := ifp c2 h
        refine AW.iinc (v := (x6 + (-1 : Int32))) (L' := [(6, .int (x6 + (-1 : Int32))), (0, .ref 0), (1, .int x1), (4, .long x4)]) dX9_judge_58 (.refl 61) 3 rfl rfl (by decide) rfl ?_
        refine AW.goto (tgt := 25) dX9_judge_61 (by decide) ?_
        refine AW.sub (L' := [(0, .ref 0), (1, .int x1), (4, .long x4), (6, .int (x6 + (-1 : Int32)))]) [1, 2, 3, 0] rfl ?_
        exact ih x1 x4 (x6 + (-1 : Int32)) σ h
      · have h := ifn c2 h
        refine AW.aload_n dX9_judge_36 (.refl 37) 0 rfl ?_
        refine AW.getR (z := 45) lk_X9_80 rfl rfl (by decide) rfl dX9_judge_37 (.refl 40) ?_
        refine AW.iload dX9_judge_40 (.refl 42) 3 rfl ?_
        refine AW.lload dX9_judge_42 (.refl 44) 2 rfl ?_
        refine AW.ldc2_w lc_X9_230 dX9_judge_44 (.refl 47) ?_
        refine AW.lrem dX9_judge_47 (.refl 48) (by decide) ?_
        refine AW.l2i dX9_judge_48 (.refl 49) ?_
        obtain ⟨g1, h⟩ := gd_s h
        refine AW.iastore rfl g1 dX9_judge_49 (.refl 50) ?_
        refine AW.lload dX9_judge_50 (.refl 52) 2 rfl ?_
        refine AW.ldc2_w lc_X9_230 dX9_judge_52 (.refl 55) ?_
        refine AW.ldiv dX9_judge_55 (.refl 56) (by decide) ?_
        refine AW.lstore (L' := [(4, .long (x4 / (100 : Int64))), (0, .ref 0), (1, .int x1), (6, .int x6)]) dX9_judge_56 (.refl 58) (by decide) rfl ?_
        refine AW.iinc (v := (x6 + (-1 : Int32))) (L' := [(6, .int (x6 + (-1 : Int32))), (4, .long (x4 / (100 : Int64))), (0, .ref 0), (1, .int x1)]) dX9_judge_58 (.refl 61) 3 rfl rfl (by decide) rfl ?_
        refine AW.goto (tgt := 25) dX9_judge_61 (by decide) ?_
        refine AW.sub (L' := [(0, .ref 0), (1, .int x1), (4, .long (x4 / (100 : Int64))), (6, .int (x6 + (-1 : Int32)))]) [2, 3, 1, 0] rfl ?_
        exact ih x1 (x4 / (100 : Int64)) (x6 + (-1 : Int32)) (sI σ 45 (x6).toNatClampNeg (jlrem x4 (100 : Int64)).toInt32) h
set_option maxRecDepth 20000 in
theorem a_X9_judge_p64 {l : Launch} {G : Gg} {v : Int32} {τ : Mm} (x1 : Int32) (x4 : Int64) (σ : Mm) (h : f_X9_judge_p64 x1 x4 σ = some (v, τ)) : AW l G 6 M_X9_judge (some (.int v)) τ 64 [(0, .ref 0), (1, .int x1), (4, .long x4)] [] σ := by
  unfold f_X9_judge_p64 at h
  refine AW.lload dX9_judge_64 (.refl 66) 2 rfl ?_
  refine AW.lconst (v := (0 : Int64)) dX9_judge_66 (.refl 67) (by decide) ?_
  refine AW.lcmp dX9_judge_67 (.refl 68) ?_
  refine AW.if_eq (tgt := 74) dX9_judge_68 (by decide) (fun c4 => ?_) (fun c4 => ?_)
  · have h := ifp c4 h
    refine AW.aload_n dX9_judge_74 (.refl 75) 0 rfl ?_
    refine AW.iload_n dX9_judge_75 (.refl 76) 1 rfl ?_
    obtain ⟨r2, τ3, e1, h⟩ := b2_s h
    refine AW.callV (r' := (some (.int r2))) (σ' := τ3) (rest := []) lm_X9_232 (c_X9_firstThatCanNotBe e1) (by decide) (by decide) rfl rfl (by decide) rfl rfl (Nat.le_of_ble_eq_true rfl) dX9_judge_76 (.refl 79) (st' := [.int r2]) rfl ?_
    cases h
    exact AW.ireturn rfl dX9_judge_79
  · have h := ifn c4 h
    refine AW.bipush (v := (-2 : Int32)) dX9_judge_71 (.refl 73) (by decide) ?_
    cases h
    exact AW.ireturn rfl dX9_judge_73
set_option maxRecDepth 20000 in
theorem c_X9_judge {l : Launch} {G : Gg} {x1 : Int32} {x2 : Int64} {σ : Mm} {v : Int32} {τ : Mm} (h : f_X9_judge x1 x2 σ = some (v, τ)) : MR l G 6 M_X9_judge [.ref 0, .int x1, .long x2] σ (some (.int v)) τ := by
  unfold f_X9_judge at h
  refine MR.of (by decide +kernel) (Nat.le_of_ble_eq_true rfl) ?_
  show AW l G 6 M_X9_judge (some (.int v)) τ 0 [(0, .ref 0), (1, .int x1), (2, .long x2)] [] σ
  refine AW.iload_n dX9_judge_0 (.refl 1) 1 rfl ?_
  refine AW.iconst (v := (1 : Int32)) dX9_judge_1 (.refl 2) (by decide) ?_
  refine AW.icmp_lt (tgt := 16) dX9_judge_2 (by decide) (fun c3 => ?_) (fun c3 => ?_)
  · have h := ifp c3 h
    refine AW.bipush (v := (-2 : Int32)) dX9_judge_16 (.refl 18) (by decide) ?_
    cases h
    exact AW.ireturn rfl dX9_judge_18
  · have h := ifn c3 h
    refine AW.iload_n dX9_judge_5 (.refl 6) 1 rfl ?_
    refine AW.iconst (v := (5 : Int32)) dX9_judge_6 (.refl 7) (by decide) ?_
    refine AW.icmp_gt (tgt := 16) dX9_judge_7 (by decide) (fun c2 => ?_) (fun c2 => ?_)
    · have h := ifp c2 h
      refine AW.bipush (v := (-2 : Int32)) dX9_judge_16 (.refl 18) (by decide) ?_
      cases h
      exact AW.ireturn rfl dX9_judge_18
    · have h := ifn c2 h
      refine AW.lload_n dX9_judge_10 (.refl 11) 2 rfl ?_
      refine AW.lconst (v := (0 : Int64)) dX9_judge_11 (.refl 12) (by decide) ?_
      refine AW.lcmp dX9_judge_12 (.refl 13) ?_
      refine AW.if_ge (tgt := 19) dX9_judge_13 (by decide) (fun c1 => ?_) (fun c1 => ?_)
      · have h := ifp c1 h
        refine AW.lload_n dX9_judge_19 (.refl 20) 2 rfl ?_
        refine AW.lstore (L' := [(4, .long x2), (0, .ref 0), (1, .int x1), (2, .long x2)]) dX9_judge_20 (.refl 22) (by decide) rfl ?_
        refine AW.iconst (v := (4 : Int32)) dX9_judge_22 (.refl 23) (by decide) ?_
        refine AW.istore (L' := [(6, .int (4 : Int32)), (4, .long x2), (0, .ref 0), (1, .int x1), (2, .long x2)]) dX9_judge_23 (.refl 25) (by decide) rfl ?_
        refine AW.sub (L' := [(0, .ref 0), (1, .int x1), (4, .long x2), (6, .int (4 : Int32))]) [2, 3, 1, 0] rfl ?_
        exact a_X9_judge_p25 (a_X9_judge_p64) FU x1 x2 (4 : Int32) σ h
      · have h := ifn c1 h
        refine AW.bipush (v := (-2 : Int32)) dX9_judge_16 (.refl 18) (by decide) ?_
        cases h
        exact AW.ireturn rfl dX9_judge_18
def f_X3_append (x1 : Int32) (x2 : Int32) (σ : Mm) : Option (Int32 × Mm) := (if (σ.1 36 2) < 0 then some ((-4 : Int32), σ) else (if (σ.1 36 2) < (6 : Int32) then gd (inB (σ.1 36 2) 6) (gd (inB ((sI σ 37 ((σ.1 36 2)).toNatClampNeg x1).1 36 2) 6) (bnd ((sI (sI σ 37 ((σ.1 36 2)).toNatClampNeg x1) 38 (((sI σ 37 ((σ.1 36 2)).toNatClampNeg x1).1 36 2)).toNatClampNeg x2)) (fun (σ3 : Mm) => some (((sI σ3 36 2 ((σ3.1 36 2) + (1 : Int32))).1 36 2), (sI σ3 36 2 ((σ3.1 36 2) + (1 : Int32))))))) else some ((-4 : Int32), σ)))
set_option maxRecDepth 20000 in
theorem c_X3_append {l : Launch} {G : Gg} {x1 : Int32} {x2 : Int32} {σ : Mm} {v : Int32} {τ : Mm} (h : f_X3_append x1 x2 σ = some (v, τ)) : MR l G 0 M_X3_append [.ref 36, .int x1, .int x2] σ (some (.int v)) τ := by
  unfold f_X3_append at h
  refine MR.of (by decide +kernel) (Nat.le_of_ble_eq_true rfl) ?_
  show AW l G 0 M_X3_append (some (.int v)) τ 0 [(0, .ref 36), (1, .int x1), (2, .int x2)] [] σ
  refine AW.aload_n dX3_append_0 (.refl 1) 0 rfl ?_
  refine AW.getI lk_X3_18 rfl rfl (by decide) dX3_append_1 (.refl 4) ?_
  refine AW.if_lt (tgt := 16) dX3_append_4 (by decide) (fun c6 => ?_) (fun c6 => ?_)
  · have h := ifp c6 h
    refine AW.bipush (v := (-4 : Int32)) dX3_append_16 (.refl 18) (by decide) ?_
    cases h
    exact AW.ireturn rfl dX3_append_18
  · have h := ifn c6 h
    refine AW.aload_n dX3_append_7 (.refl 8) 0 rfl ?_
    refine AW.getI lk_X3_18 rfl rfl (by decide) dX3_append_8 (.refl 11) ?_
    refine AW.bipush (v := (6 : Int32)) dX3_append_11 (.refl 13) (by decide) ?_
    refine AW.icmp_lt (tgt := 19) dX3_append_13 (by decide) (fun c5 => ?_) (fun c5 => ?_)
    · have h := ifp c5 h
      refine AW.aload_n dX3_append_19 (.refl 20) 0 rfl ?_
      refine AW.getR (z := 37) lk_X3_9 rfl rfl (by decide) rfl dX3_append_20 (.refl 23) ?_
      refine AW.aload_n dX3_append_23 (.refl 24) 0 rfl ?_
      refine AW.getI lk_X3_18 rfl rfl (by decide) dX3_append_24 (.refl 27) ?_
      refine AW.iload_n dX3_append_27 (.refl 28) 1 rfl ?_
      obtain ⟨g1, h⟩ := gd_s h
      refine AW.iastore rfl g1 dX3_append_28 (.refl 29) ?_
      refine AW.aload_n dX3_append_29 (.refl 30) 0 rfl ?_
      refine AW.getR (z := 38) lk_X3_15 rfl rfl (by decide) rfl dX3_append_30 (.refl 33) ?_
      refine AW.aload_n dX3_append_33 (.refl 34) 0 rfl ?_
      refine AW.getI lk_X3_18 rfl rfl (by decide) dX3_append_34 (.refl 37) ?_
      refine AW.iload_n dX3_append_37 (.refl 38) 2 rfl ?_
      obtain ⟨g2, h⟩ := gd_s h
      refine AW.iastore rfl g2 dX3_append_38 (.refl 39) ?_
      obtain ⟨σ3, e4, h⟩ := bnd_s h
      refine AW.nmM e4 ?_
      refine AW.aload_n dX3_append_39 (.refl 40) 0 rfl ?_
      refine AW.dup dX3_append_40 (.refl 41) rfl ?_
      refine AW.getI lk_X3_18 rfl rfl (by decide) dX3_append_41 (.refl 44) ?_
      refine AW.iconst (v := (1 : Int32)) dX3_append_44 (.refl 45) (by decide) ?_
      refine AW.iadd dX3_append_45 (.refl 46) ?_
      refine AW.putI lp_X3_18 rfl rfl (by decide) dX3_append_46 (.refl 49) ?_
      refine AW.aload_n dX3_append_49 (.refl 50) 0 rfl ?_
      refine AW.getI lk_X3_18 rfl rfl (by decide) dX3_append_50 (.refl 53) ?_
      cases h
      exact AW.ireturn rfl dX3_append_53
    · have h := ifn c5 h
      refine AW.bipush (v := (-4 : Int32)) dX3_append_16 (.refl 18) (by decide) ?_
      cases h
      exact AW.ireturn rfl dX3_append_18
def f_X8_everyBell (σ : Mm)  : Option (Int32) := some ((jshl (1 : Int32) (σ.1 3 0)) - (1 : Int32))
set_option maxRecDepth 20000 in
theorem c_X8_everyBell {l : Launch} {G : Gg}  {σ : Mm} {v : Int32} (h : f_X8_everyBell σ  = some v) : MR l G 0 M_X8_everyBell [.ref 3] σ (some (.int v)) σ := by
  unfold f_X8_everyBell at h
  refine MR.of (by decide +kernel) (Nat.le_of_ble_eq_true rfl) ?_
  show AW l G 0 M_X8_everyBell (some (.int v)) σ 0 [(0, .ref 3)] [] σ
  refine AW.iconst (v := (1 : Int32)) dX8_everyBell_0 (.refl 1) (by decide) ?_
  refine AW.aload_n dX8_everyBell_1 (.refl 2) 0 rfl ?_
  refine AW.getI lk_X8_9 rfl rfl (by decide) dX8_everyBell_2 (.refl 5) ?_
  refine AW.ishl dX8_everyBell_5 (.refl 6) ?_
  refine AW.iconst (v := (1 : Int32)) dX8_everyBell_6 (.refl 7) (by decide) ?_
  refine AW.isub dX8_everyBell_7 (.refl 8) ?_
  cases h
  exact AW.ireturn rfl dX8_everyBell_8
def f_X9_hear (x1 : Int32) (x2 : Int32) (σ : Mm) : Option (Int32 × Mm) := b1 (f_X9_isSecond σ x1) (fun (r2 : Int32) => (if r2 = 0 then some ((-2 : Int32), σ) else (if x2 < 0 then some ((-2 : Int32), σ) else b1 (f_X8_everyBell σ) (fun (r4 : Int32) => (if x2 ≤ r4 then b2 (f_X3_append x1 x2 σ) (fun (r6 : Int32) (τ7 : Mm) => some (r6, τ7)) else some ((-2 : Int32), σ))))))
set_option maxRecDepth 20000 in
theorem c_X9_hear {l : Launch} {G : Gg} {x1 : Int32} {x2 : Int32} {σ : Mm} {v : Int32} {τ : Mm} (h : f_X9_hear x1 x2 σ = some (v, τ)) : MR l G 1 M_X9_hear [.ref 0, .int x1, .int x2] σ (some (.int v)) τ := by
  unfold f_X9_hear at h
  refine MR.of (by decide +kernel) (Nat.le_of_ble_eq_true rfl) ?_
  show AW l G 1 M_X9_hear (some (.int v)) τ 0 [(0, .ref 0), (1, .int x1), (2, .int x2)] [] σ
  refine AW.iload_n dX9_hear_0 (.refl 1) 1 rfl ?_
  obtain ⟨r2, e1, h⟩ := b1_s h
  refine AW.callS (r' := (some (.int r2))) (σ' := σ) (rest := []) lm_X9_164 (c_X9_isSecond e1) (by decide) (by decide) rfl rfl (Nat.le_of_ble_eq_true rfl) dX9_hear_1 (.refl 4) (st' := [.int r2]) rfl ?_
  refine AW.if_eq (tgt := 22) dX9_hear_4 (by decide) (fun c10 => ?_) (fun c10 => ?_)
  · have h := ifp c10 h
    refine AW.bipush (v := (-2 : Int32)) dX9_hear_22 (.refl 24) (by decide) ?_
    cases h
    exact AW.ireturn rfl dX9_hear_24
  · have h := ifn c10 h
    refine AW.iload_n dX9_hear_7 (.refl 8) 2 rfl ?_
    refine AW.if_lt (tgt := 22) dX9_hear_8 (by decide) (fun c9 => ?_) (fun c9 => ?_)
    · have h := ifp c9 h
      refine AW.bipush (v := (-2 : Int32)) dX9_hear_22 (.refl 24) (by decide) ?_
      cases h
      exact AW.ireturn rfl dX9_hear_24
    · have h := ifn c9 h
      refine AW.iload_n dX9_hear_11 (.refl 12) 2 rfl ?_
      refine AW.aload_n dX9_hear_12 (.refl 13) 0 rfl ?_
      refine AW.getR (z := 3) lk_X9_19 rfl rfl (by decide) rfl dX9_hear_13 (.refl 16) ?_
      obtain ⟨r4, e3, h⟩ := b1_s h
      refine AW.callV (r' := (some (.int r4))) (σ' := σ) (rest := [.int x2]) lm_X9_241 (c_X8_everyBell e3) (by decide) (by decide) rfl rfl (by decide) rfl rfl (Nat.le_of_ble_eq_true rfl) dX9_hear_16 (.refl 19) (st' := [.int r4, .int x2]) rfl ?_
      refine AW.icmp_le (tgt := 25) dX9_hear_19 (by decide) (fun c8 => ?_) (fun c8 => ?_)
      · have h := ifp c8 h
        refine AW.aload_n dX9_hear_25 (.refl 26) 0 rfl ?_
        refine AW.getR (z := 36) lk_X9_62 rfl rfl (by decide) rfl dX9_hear_26 (.refl 29) ?_
        refine AW.iload_n dX9_hear_29 (.refl 30) 1 rfl ?_
        refine AW.iload_n dX9_hear_30 (.refl 31) 2 rfl ?_
        obtain ⟨r6, τ7, e5, h⟩ := b2_s h
        refine AW.callV (r' := (some (.int r6))) (σ' := τ7) (rest := []) lm_X9_244 (c_X3_append e5) (by decide) (by decide) rfl rfl (by decide) rfl rfl (Nat.le_of_ble_eq_true rfl) dX9_hear_31 (.refl 34) (st' := [.int r6]) rfl ?_
        cases h
        exact AW.ireturn rfl dX9_hear_34
      · have h := ifn c8 h
        refine AW.bipush (v := (-2 : Int32)) dX9_hear_22 (.refl 24) (by decide) ?_
        cases h
        exact AW.ireturn rfl dX9_hear_24
def f_X3_clear  (σ : Mm) : Option (Int32 × Mm) := some ((σ.1 36 2), (sI σ 36 2 (0 : Int32)))
set_option maxRecDepth 20000 in
theorem c_X3_clear {l : Launch} {G : Gg}  {σ : Mm} {v : Int32} {τ : Mm} (h : f_X3_clear  σ = some (v, τ)) : MR l G 0 M_X3_clear [.ref 36] σ (some (.int v)) τ := by
  unfold f_X3_clear at h
  refine MR.of (by decide +kernel) (Nat.le_of_ble_eq_true rfl) ?_
  show AW l G 0 M_X3_clear (some (.int v)) τ 0 [(0, .ref 36)] [] σ
  refine AW.aload_n dX3_clear_0 (.refl 1) 0 rfl ?_
  refine AW.getI lk_X3_18 rfl rfl (by decide) dX3_clear_1 (.refl 4) ?_
  refine AW.istore_n (L' := [(1, .int (σ.1 36 2)), (0, .ref 36)]) dX3_clear_4 (.refl 5) (by decide) rfl ?_
  refine AW.aload_n dX3_clear_5 (.refl 6) 1 rfl ?_
  refine AW.iconst (v := (0 : Int32)) dX3_clear_6 (.refl 7) (by decide) ?_
  refine AW.putI lp_X3_18 rfl rfl (by decide) dX3_clear_7 (.refl 10) ?_
  refine AW.iload_n dX3_clear_10 (.refl 11) 0 rfl ?_
  cases h
  exact AW.ireturn rfl dX3_clear_11
def f_X9_unhear  (σ : Mm) : Option (Int32 × Mm) := b2 (f_X3_clear σ) (fun (r2 : Int32) (τ3 : Mm) => some (r2, τ3))
set_option maxRecDepth 20000 in
theorem c_X9_unhear {l : Launch} {G : Gg}  {σ : Mm} {v : Int32} {τ : Mm} (h : f_X9_unhear  σ = some (v, τ)) : MR l G 1 M_X9_unhear [.ref 0] σ (some (.int v)) τ := by
  unfold f_X9_unhear at h
  refine MR.of (by decide +kernel) (Nat.le_of_ble_eq_true rfl) ?_
  show AW l G 1 M_X9_unhear (some (.int v)) τ 0 [(0, .ref 0)] [] σ
  refine AW.aload_n dX9_unhear_0 (.refl 1) 0 rfl ?_
  refine AW.getR (z := 36) lk_X9_62 rfl rfl (by decide) rfl dX9_unhear_1 (.refl 4) ?_
  obtain ⟨r2, τ3, e1, h⟩ := b2_s h
  refine AW.callV (r' := (some (.int r2))) (σ' := τ3) (rest := []) lm_X9_246 (c_X3_clear e1) (by decide) (by decide) rfl rfl (by decide) rfl rfl (Nat.le_of_ble_eq_true rfl) dX9_unhear_4 (.refl 7) (st' := [.int r2]) rfl ?_
  cases h
  exact AW.ireturn rfl dX9_unhear_7
def f_X8_isQuiet (σ : Mm) (x1 : Int32) : Option (Int32) := b1 (f_X8_hasBidder σ x1) (fun (r2 : Int32) => (if r2 = 0 then some (0 : Int32) else b1 (f_X9_at σ 6 x1) (fun (r4 : Int32) => (if r4 = (-9 : Int32) then some (1 : Int32) else some (0 : Int32)))))
set_option maxRecDepth 20000 in
theorem c_X8_isQuiet {l : Launch} {G : Gg} {x1 : Int32} {σ : Mm} {v : Int32} (h : f_X8_isQuiet σ x1 = some v) : MR l G 1 M_X8_isQuiet [.ref 3, .int x1] σ (some (.int v)) σ := by
  unfold f_X8_isQuiet at h
  refine MR.of (by decide +kernel) (Nat.le_of_ble_eq_true rfl) ?_
  show AW l G 1 M_X8_isQuiet (some (.int v)) σ 0 [(0, .ref 3), (1, .int x1)] [] σ
  refine AW.aload_n dX8_isQuiet_0 (.refl 1) 0 rfl ?_
  refine AW.iload_n dX8_isQuiet_1 (.refl 2) 1 rfl ?_
  obtain ⟨r2, e1, h⟩ := b1_s h
  refine AW.callV (r' := (some (.int r2))) (σ' := σ) (rest := []) lm_X8_56 (c_X8_hasBidder e1) (by decide) (by decide) rfl rfl (by decide) rfl rfl (Nat.le_of_ble_eq_true rfl) dX8_isQuiet_2 (.refl 5) (st' := [.int r2]) rfl ?_
  refine AW.if_eq (tgt := 25) dX8_isQuiet_5 (by decide) (fun c6 => ?_) (fun c6 => ?_)
  · have h := ifp c6 h
    refine AW.iconst (v := (0 : Int32)) dX8_isQuiet_25 (.refl 26) (by decide) ?_
    cases h
    exact AW.zreturn rfl (by decide) dX8_isQuiet_26
  · have h := ifn c6 h
    refine AW.aload_n dX8_isQuiet_8 (.refl 9) 0 rfl ?_
    refine AW.getR (z := 6) lk_X8_25 rfl rfl (by decide) rfl dX8_isQuiet_9 (.refl 12) ?_
    refine AW.iload_n dX8_isQuiet_12 (.refl 13) 1 rfl ?_
    obtain ⟨r4, e3, h⟩ := b1_s h
    refine AW.callN (r' := (some (.int r4))) (σ' := σ) (rest := []) lm_X8_60 (c_X9_at rfl e3) (by decide) (by decide) rfl rfl (Nat.le_of_ble_eq_true rfl) dX8_isQuiet_13 (.refl 16) (st' := [.int r4]) rfl ?_
    refine AW.bipush (v := (-9 : Int32)) dX8_isQuiet_16 (.refl 18) (by decide) ?_
    refine AW.icmp_ne (tgt := 25) dX8_isQuiet_18 (by decide) (fun c5 => ?_) (fun c5 => ?_)
    · have h := ifn c5 h
      refine AW.iconst (v := (0 : Int32)) dX8_isQuiet_25 (.refl 26) (by decide) ?_
      cases h
      exact AW.zreturn rfl (by decide) dX8_isQuiet_26
    · have h := ifp c5 h
      refine AW.iconst (v := (1 : Int32)) dX8_isQuiet_21 (.refl 22) (by decide) ?_
      refine AW.goto (tgt := 26) dX8_isQuiet_22 (by decide) ?_
      cases h
      exact AW.zreturn rfl (by decide) dX8_isQuiet_26
