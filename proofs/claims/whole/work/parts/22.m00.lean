def f_X10_in (σ : Mm) (x0 : Int64) (x2 : Int64) (x4 : Int64) : Option (Int32) := (if (lg_cmp x0 x2) < 0 then some (0 : Int32) else (if 0 < (lg_cmp x0 x4) then some (0 : Int32) else some (1 : Int32)))
set_option maxRecDepth 20000 in
theorem c_X10_in {l : Launch} {G : Gg} {x0 : Int64} {x2 : Int64} {x4 : Int64} {σ : Mm} {v : Int32} (h : f_X10_in σ x0 x2 x4 = some v) : MR l G 0 M_X10_in [.long x0, .long x2, .long x4] σ (some (.int v)) σ := by
  unfold f_X10_in at h
  refine MR.of (by decide +kernel) (Nat.le_of_ble_eq_true rfl) ?_
  show AW l G 0 M_X10_in (some (.int v)) σ 0 [(0, .long x0), (2, .long x2), (4, .long x4)] [] σ
  refine AW.lload_n dX10_in_0 (.refl 1) 0 rfl ?_
  refine AW.lload_n dX10_in_1 (.refl 2) 1 rfl ?_
  refine AW.lcmp dX10_in_2 (.refl 3) ?_
  refine AW.if_lt (tgt := 17) dX10_in_3 (by decide) (fun c2 => ?_) (fun c2 => ?_)
  · have h := ifp c2 h
    refine AW.iconst (v := (0 : Int32)) dX10_in_17 (.refl 18) (by decide) ?_
    cases h
    exact AW.zreturn rfl (by decide) dX10_in_18
  · have h := ifn c2 h
    refine AW.lload_n dX10_in_6 (.refl 7) 0 rfl ?_
    refine AW.lload dX10_in_7 (.refl 9) 2 rfl ?_
    refine AW.lcmp dX10_in_9 (.refl 10) ?_
    refine AW.if_gt (tgt := 17) dX10_in_10 (by decide) (fun c1 => ?_) (fun c1 => ?_)
    · have h := ifp c1 h
      refine AW.iconst (v := (0 : Int32)) dX10_in_17 (.refl 18) (by decide) ?_
      cases h
      exact AW.zreturn rfl (by decide) dX10_in_18
    · have h := ifn c1 h
      refine AW.iconst (v := (1 : Int32)) dX10_in_13 (.refl 14) (by decide) ?_
      refine AW.goto (tgt := 18) dX10_in_14 (by decide) ?_
      cases h
      exact AW.zreturn rfl (by decide) dX10_in_18
def f_X10_has (σ : Mm) (x0 : Int32) (x1 : Int32) : Option (Int32) := (if ((jshr x0 x1) &&& (1 : Int32)) = (1 : Int32) then some (1 : Int32) else some (0 : Int32))
set_option maxRecDepth 20000 in
theorem c_X10_has {l : Launch} {G : Gg} {x0 : Int32} {x1 : Int32} {σ : Mm} {v : Int32} (h : f_X10_has σ x0 x1 = some v) : MR l G 0 M_X10_has [.int x0, .int x1] σ (some (.int v)) σ := by
  unfold f_X10_has at h
  refine MR.of (by decide +kernel) (Nat.le_of_ble_eq_true rfl) ?_
  show AW l G 0 M_X10_has (some (.int v)) σ 0 [(0, .int x0), (1, .int x1)] [] σ
  refine AW.iload_n dX10_has_0 (.refl 1) 0 rfl ?_
  refine AW.iload_n dX10_has_1 (.refl 2) 1 rfl ?_
  refine AW.ishr dX10_has_2 (.refl 3) ?_
  refine AW.iconst (v := (1 : Int32)) dX10_has_3 (.refl 4) (by decide) ?_
  refine AW.iand dX10_has_4 (.refl 5) ?_
  refine AW.iconst (v := (1 : Int32)) dX10_has_5 (.refl 6) (by decide) ?_
  refine AW.icmp_ne (tgt := 13) dX10_has_6 (by decide) (fun c1 => ?_) (fun c1 => ?_)
  · have h := ifn c1 h
    refine AW.iconst (v := (0 : Int32)) dX10_has_13 (.refl 14) (by decide) ?_
    cases h
    exact AW.zreturn rfl (by decide) dX10_has_14
  · have h := ifp c1 h
    refine AW.iconst (v := (1 : Int32)) dX10_has_9 (.refl 10) (by decide) ?_
    refine AW.goto (tgt := 14) dX10_has_10 (by decide) ?_
    cases h
    exact AW.zreturn rfl (by decide) dX10_has_14
def f_X10_ones_p4 (σ : Mm) : Nat → Int32 → Int32 → Int32 → Option (Int32)
  | 0, _, _, _ => none
  | n + 1, x0, x1, x2 => (if (12 : Int32) ≤ x2 then some x1 else (f_X10_ones_p4 σ n) x0 (x1 + ((jshr x0 x2) &&& (1 : Int32))) (x2 + (1 : Int32)))
def f_X10_ones (σ : Mm) (x0 : Int32) : Option (Int32) := f_X10_ones_p4 σ FU x0 (0 : Int32) (0 : Int32)
set_option maxRecDepth 20000 in
theorem a_X10_ones_p4 {l : Launch} {G : Gg} {v : Int32} {σ : Mm} : ∀ (n : Nat) (x0 : Int32) (x1 : Int32) (x2 : Int32), f_X10_ones_p4 σ n x0 x1 x2 = some v → AW l G 0 M_X10_ones (some (.int v)) σ 4 [(0, .int x0), (1, .int x1), (2, .int x2)] [] σ := by
  intro n
  induction n with
  | zero => intro x0 x1 x2 h; exact no_some h
  | succ n ih =>
    intro x0 x1 x2 h
    rw [f_X10_ones_p4] at h
    refine AW.iload_n dX10_ones_4 (.refl 5) 2 rfl ?_
    refine AW.bipush (v := (12 : Int32)) dX10_ones_5 (.refl 7) (by decide) ?_
    refine AW.icmp_ge (tgt := 24) dX10_ones_7 (by decide) (fun c1 => ?_) (fun c1 => ?_)
    · have h := ifp c1 h
      refine AW.iload_n dX10_ones_24 (.refl 25) 1 rfl ?_
      cases h
      exact AW.ireturn rfl dX10_ones_25
    · have h := ifn c1 h
      refine AW.iload_n dX10_ones_10 (.refl 11) 1 rfl ?_
      refine AW.iload_n dX10_ones_11 (.refl 12) 0 rfl ?_
      refine AW.iload_n dX10_ones_12 (.refl 13) 2 rfl ?_
      refine AW.ishr dX10_ones_13 (.refl 14) ?_
      refine AW.iconst (v := (1 : Int32)) dX10_ones_14 (.refl 15) (by decide) ?_
      refine AW.iand dX10_ones_15 (.refl 16) ?_
      refine AW.iadd dX10_ones_16 (.refl 17) ?_
      refine AW.istore_n (L' := [(1, .int (x1 + ((jshr x0 x2) &&& (1 : Int32)))), (0, .int x0), (2, .int x2)]) dX10_ones_17 (.refl 18) (by decide) rfl ?_
      refine AW.iinc (v := (x2 + (1 : Int32))) (L' := [(2, .int (x2 + (1 : Int32))), (1, .int (x1 + ((jshr x0 x2) &&& (1 : Int32)))), (0, .int x0)]) dX10_ones_18 (.refl 21) 2 rfl rfl (by decide) rfl ?_
      refine AW.goto (tgt := 4) dX10_ones_21 (by decide) ?_
      refine AW.sub (L' := [(0, .int x0), (1, .int (x1 + ((jshr x0 x2) &&& (1 : Int32)))), (2, .int (x2 + (1 : Int32)))]) [2, 1, 0] rfl ?_
      exact ih x0 (x1 + ((jshr x0 x2) &&& (1 : Int32))) (x2 + (1 : Int32)) h
set_option maxRecDepth 20000 in
theorem c_X10_ones {l : Launch} {G : Gg} {x0 : Int32} {σ : Mm} {v : Int32} (h : f_X10_ones σ x0 = some v) : MR l G 0 M_X10_ones [.int x0] σ (some (.int v)) σ := by
  unfold f_X10_ones at h
  refine MR.of (by decide +kernel) (Nat.le_of_ble_eq_true rfl) ?_
  show AW l G 0 M_X10_ones (some (.int v)) σ 0 [(0, .int x0)] [] σ
  refine AW.iconst (v := (0 : Int32)) dX10_ones_0 (.refl 1) (by decide) ?_
  refine AW.istore_n (L' := [(1, .int (0 : Int32)), (0, .int x0)]) dX10_ones_1 (.refl 2) (by decide) rfl ?_
  refine AW.iconst (v := (0 : Int32)) dX10_ones_2 (.refl 3) (by decide) ?_
  refine AW.istore_n (L' := [(2, .int (0 : Int32)), (1, .int (0 : Int32)), (0, .int x0)]) dX10_ones_3 (.refl 4) (by decide) rfl ?_
  refine AW.sub (L' := [(0, .int x0), (1, .int (0 : Int32)), (2, .int (0 : Int32))]) [2, 1, 0] rfl ?_
  exact a_X10_ones_p4 FU x0 (0 : Int32) (0 : Int32) h
def f_X10_write (x1 : Int32) (σ : Mm) : Option (Int32 × Mm) := b1 (f_X10_in σ x1.toInt64 (0 : Int64) (255 : Int64)) (fun (r2 : Int32) => (if r2 = 0 then some ((-2 : Int32), σ) else (if (σ.1 46 9) = (48 : Int32) then some ((-4 : Int32), σ) else gd (inB (σ.1 46 9) 48) (bnd ((sI (sI σ 53 ((σ.1 46 9)).toNatClampNeg x1) 46 9 (((sI σ 53 ((σ.1 46 9)).toNatClampNeg x1).1 46 9) + (1 : Int32)))) (fun (σ4 : Mm) => some ((σ4.1 46 9), σ4))))))
set_option maxRecDepth 20000 in
theorem c_X10_write {l : Launch} {G : Gg} {x1 : Int32} {σ : Mm} {v : Int32} {τ : Mm} (h : f_X10_write x1 σ = some (v, τ)) : MR l G 1 M_X10_write [.ref 46, .int x1] σ (some (.int v)) τ := by
  unfold f_X10_write at h
  refine MR.of (by decide +kernel) (Nat.le_of_ble_eq_true rfl) ?_
  show AW l G 1 M_X10_write (some (.int v)) τ 0 [(0, .ref 46), (1, .int x1)] [] σ
  refine AW.iload_n dX10_write_0 (.refl 1) 1 rfl ?_
  refine AW.i2l dX10_write_1 (.refl 2) ?_
  refine AW.lconst (v := (0 : Int64)) dX10_write_2 (.refl 3) (by decide) ?_
  refine AW.ldc2_w lc_X10_95 dX10_write_3 (.refl 6) ?_
  obtain ⟨r2, e1, h⟩ := b1_s h
  refine AW.callS (r' := (some (.int r2))) (σ' := σ) (rest := []) lm_X10_97 (c_X10_in e1) (by decide) (by decide) rfl rfl (Nat.le_of_ble_eq_true rfl) dX10_write_6 (.refl 9) (st' := [.int r2]) rfl ?_
  refine AW.if_ne (tgt := 15) dX10_write_9 (by decide) (fun c7 => ?_) (fun c7 => ?_)
  · have h := ifn c7 h
    refine AW.aload_n dX10_write_15 (.refl 16) 0 rfl ?_
    refine AW.getI lk_X10_101 rfl rfl (by decide) dX10_write_16 (.refl 19) ?_
    refine AW.bipush (v := (48 : Int32)) dX10_write_19 (.refl 21) (by decide) ?_
    refine AW.icmp_ne (tgt := 27) dX10_write_21 (by decide) (fun c6 => ?_) (fun c6 => ?_)
    · have h := ifn c6 h
      refine AW.aload_n dX10_write_27 (.refl 28) 0 rfl ?_
      refine AW.getR (z := 53) lk_X10_28 rfl rfl (by decide) rfl dX10_write_28 (.refl 31) ?_
      refine AW.aload_n dX10_write_31 (.refl 32) 0 rfl ?_
      refine AW.getI lk_X10_101 rfl rfl (by decide) dX10_write_32 (.refl 35) ?_
      refine AW.iload_n dX10_write_35 (.refl 36) 1 rfl ?_
      obtain ⟨g3, h⟩ := gd_s h
      refine AW.iastore rfl g3 dX10_write_36 (.refl 37) ?_
      refine AW.aload_n dX10_write_37 (.refl 38) 0 rfl ?_
      refine AW.dup dX10_write_38 (.refl 39) rfl ?_
      refine AW.getI lk_X10_101 rfl rfl (by decide) dX10_write_39 (.refl 42) ?_
      refine AW.iconst (v := (1 : Int32)) dX10_write_42 (.refl 43) (by decide) ?_
      refine AW.iadd dX10_write_43 (.refl 44) ?_
      refine AW.putI lp_X10_101 rfl rfl (by decide) dX10_write_44 (.refl 47) ?_
      obtain ⟨σ4, e5, h⟩ := bnd_s h
      refine AW.nmM e5 ?_
      refine AW.aload_n dX10_write_47 (.refl 48) 0 rfl ?_
      refine AW.getI lk_X10_101 rfl rfl (by decide) dX10_write_48 (.refl 51) ?_
      cases h
      exact AW.ireturn rfl dX10_write_51
    · have h := ifp c6 h
      refine AW.bipush (v := (-4 : Int32)) dX10_write_24 (.refl 26) (by decide) ?_
      cases h
      exact AW.ireturn rfl dX10_write_26
  · have h := ifp c7 h
    refine AW.bipush (v := (-2 : Int32)) dX10_write_12 (.refl 14) (by decide) ?_
    cases h
    exact AW.ireturn rfl dX10_write_14
def f_X10_wipe  (σ : Mm) : Option (Int32 × Mm) := some ((σ.1 46 9), (sI σ 46 9 (0 : Int32)))
set_option maxRecDepth 20000 in
theorem c_X10_wipe {l : Launch} {G : Gg}  {σ : Mm} {v : Int32} {τ : Mm} (h : f_X10_wipe  σ = some (v, τ)) : MR l G 0 M_X10_wipe [.ref 46] σ (some (.int v)) τ := by
  unfold f_X10_wipe at h
  refine MR.of (by decide +kernel) (Nat.le_of_ble_eq_true rfl) ?_
  show AW l G 0 M_X10_wipe (some (.int v)) τ 0 [(0, .ref 46)] [] σ
  refine AW.aload_n dX10_wipe_0 (.refl 1) 0 rfl ?_
  refine AW.getI lk_X10_101 rfl rfl (by decide) dX10_wipe_1 (.refl 4) ?_
  refine AW.istore_n (L' := [(1, .int (σ.1 46 9)), (0, .ref 46)]) dX10_wipe_4 (.refl 5) (by decide) rfl ?_
  refine AW.aload_n dX10_wipe_5 (.refl 6) 1 rfl ?_
  refine AW.iconst (v := (0 : Int32)) dX10_wipe_6 (.refl 7) (by decide) ?_
  refine AW.putI lp_X10_101 rfl rfl (by decide) dX10_wipe_7 (.refl 10) ?_
  refine AW.iload_n dX10_wipe_10 (.refl 11) 0 rfl ?_
  cases h
  exact AW.ireturn rfl dX10_wipe_11
def f_X10_figure_p37 (x1 : Int32) (x2 : Int32) (s0 : Int32) (σ : Mm) : Option (Int32 × Mm) := b1 (f_X10_in σ s0.toInt64 x1.toInt64 x2.toInt64) (fun (r2 : Int32) => (if r2 = 0 then (if (σ.1 46 11) = (-9 : Int32) then some (x1, (sI σ 46 11 (σ.1 46 10))) else some (x1, (sI σ 46 11 (σ.1 46 11)))) else some (s0, (sI σ 46 10 ((σ.1 46 10) + (1 : Int32))))))
def f_X10_figure_p35 (x1 : Int32) (x2 : Int32) (σ : Mm) : Option (Int32 × Mm) := (f_X10_figure_p37) x1 x2 (-9 : Int32) σ
def f_X10_figure (x1 : Int32) (x2 : Int32) (σ : Mm) : Option (Int32 × Mm) := (if (σ.1 46 11) = (-9 : Int32) then (if (σ.1 46 9) ≤ (σ.1 46 10) then (f_X10_figure_p35) x1 x2 σ else gd (inB (σ.1 46 10) 48) ((f_X10_figure_p37) x1 x2 ((σ.1 53 ((σ.1 46 10)).toNatClampNeg) - (48 : Int32)) σ)) else (f_X10_figure_p35) x1 x2 σ)
set_option maxRecDepth 20000 in
theorem a_X10_figure_p37 {l : Launch} {G : Gg} {v : Int32} {τ : Mm} (x1 : Int32) (x2 : Int32) (s0 : Int32) (σ : Mm) (h : f_X10_figure_p37 x1 x2 s0 σ = some (v, τ)) : AW l G 1 M_X10_figure (some (.int v)) τ 37 [(0, .ref 46), (1, .int x1), (2, .int x2)] [.int s0] σ := by
  unfold f_X10_figure_p37 at h
  refine AW.istore_n (L' := [(3, .int s0), (0, .ref 46), (1, .int x1), (2, .int x2)]) dX10_figure_37 (.refl 38) (by decide) rfl ?_
  refine AW.iload_n dX10_figure_38 (.refl 39) 0 rfl ?_
  refine AW.i2l dX10_figure_39 (.refl 40) ?_
  refine AW.iload_n dX10_figure_40 (.refl 41) 2 rfl ?_
  refine AW.i2l dX10_figure_41 (.refl 42) ?_
  refine AW.iload_n dX10_figure_42 (.refl 43) 3 rfl ?_
  refine AW.i2l dX10_figure_43 (.refl 44) ?_
  obtain ⟨r2, e1, h⟩ := b1_s h
  refine AW.callS (r' := (some (.int r2))) (σ' := σ) (rest := []) lm_X10_97 (c_X10_in e1) (by decide) (by decide) rfl rfl (Nat.le_of_ble_eq_true rfl) dX10_figure_44 (.refl 47) (st' := [.int r2]) rfl ?_
  refine AW.if_ne (tgt := 76) dX10_figure_47 (by decide) (fun c4 => ?_) (fun c4 => ?_)
  · have h := ifn c4 h
    refine AW.aload_n dX10_figure_76 (.refl 77) 1 rfl ?_
    refine AW.dup dX10_figure_77 (.refl 78) rfl ?_
    refine AW.getI lk_X10_108 rfl rfl (by decide) dX10_figure_78 (.refl 81) ?_
    refine AW.iconst (v := (1 : Int32)) dX10_figure_81 (.refl 82) (by decide) ?_
    refine AW.iadd dX10_figure_82 (.refl 83) ?_
    refine AW.putI lp_X10_108 rfl rfl (by decide) dX10_figure_83 (.refl 86) ?_
    refine AW.iload_n dX10_figure_86 (.refl 87) 0 rfl ?_
    cases h
    exact AW.ireturn rfl dX10_figure_87
  · have h := ifp c4 h
    refine AW.aload_n dX10_figure_50 (.refl 51) 1 rfl ?_
    refine AW.aload_n dX10_figure_51 (.refl 52) 1 rfl ?_
    refine AW.getI lk_X10_105 rfl rfl (by decide) dX10_figure_52 (.refl 55) ?_
    refine AW.bipush (v := (-9 : Int32)) dX10_figure_55 (.refl 57) (by decide) ?_
    refine AW.icmp_ne (tgt := 67) dX10_figure_57 (by decide) (fun c3 => ?_) (fun c3 => ?_)
    · have h := ifn c3 h
      refine AW.aload_n dX10_figure_67 (.refl 68) 1 rfl ?_
      refine AW.getI lk_X10_105 rfl rfl (by decide) dX10_figure_68 (.refl 71) ?_
      refine AW.putI lp_X10_105 rfl rfl (by decide) dX10_figure_71 (.refl 74) ?_
      refine AW.iload_n dX10_figure_74 (.refl 75) 2 rfl ?_
      cases h
      exact AW.ireturn rfl dX10_figure_75
    · have h := ifp c3 h
      refine AW.aload_n dX10_figure_60 (.refl 61) 1 rfl ?_
      refine AW.getI lk_X10_108 rfl rfl (by decide) dX10_figure_61 (.refl 64) ?_
      refine AW.goto (tgt := 71) dX10_figure_64 (by decide) ?_
      refine AW.putI lp_X10_105 rfl rfl (by decide) dX10_figure_71 (.refl 74) ?_
      refine AW.iload_n dX10_figure_74 (.refl 75) 2 rfl ?_
      cases h
      exact AW.ireturn rfl dX10_figure_75
set_option maxRecDepth 20000 in
theorem a_X10_figure_p35 {l : Launch} {G : Gg} {v : Int32} {τ : Mm} (x1 : Int32) (x2 : Int32) (σ : Mm) (h : f_X10_figure_p35 x1 x2 σ = some (v, τ)) : AW l G 1 M_X10_figure (some (.int v)) τ 35 [(0, .ref 46), (1, .int x1), (2, .int x2)] [] σ := by
  unfold f_X10_figure_p35 at h
  refine AW.bipush (v := (-9 : Int32)) dX10_figure_35 (.refl 37) (by decide) ?_
  exact (a_X10_figure_p37) x1 x2 (-9 : Int32) σ h
set_option maxRecDepth 20000 in
theorem c_X10_figure {l : Launch} {G : Gg} {x1 : Int32} {x2 : Int32} {σ : Mm} {v : Int32} {τ : Mm} (h : f_X10_figure x1 x2 σ = some (v, τ)) : MR l G 1 M_X10_figure [.ref 46, .int x1, .int x2] σ (some (.int v)) τ := by
  unfold f_X10_figure at h
  refine MR.of (by decide +kernel) (Nat.le_of_ble_eq_true rfl) ?_
  show AW l G 1 M_X10_figure (some (.int v)) τ 0 [(0, .ref 46), (1, .int x1), (2, .int x2)] [] σ
  refine AW.aload_n dX10_figure_0 (.refl 1) 0 rfl ?_
  refine AW.getI lk_X10_105 rfl rfl (by decide) dX10_figure_1 (.refl 4) ?_
  refine AW.bipush (v := (-9 : Int32)) dX10_figure_4 (.refl 6) (by decide) ?_
  refine AW.icmp_ne (tgt := 35) dX10_figure_6 (by decide) (fun c3 => ?_) (fun c3 => ?_)
  · have h := ifn c3 h
    exact (a_X10_figure_p35) x1 x2 σ h
  · have h := ifp c3 h
    refine AW.aload_n dX10_figure_9 (.refl 10) 0 rfl ?_
    refine AW.getI lk_X10_108 rfl rfl (by decide) dX10_figure_10 (.refl 13) ?_
    refine AW.aload_n dX10_figure_13 (.refl 14) 0 rfl ?_
    refine AW.getI lk_X10_101 rfl rfl (by decide) dX10_figure_14 (.refl 17) ?_
    refine AW.icmp_ge (tgt := 35) dX10_figure_17 (by decide) (fun c2 => ?_) (fun c2 => ?_)
    · have h := ifp c2 h
      exact (a_X10_figure_p35) x1 x2 σ h
    · have h := ifn c2 h
      refine AW.aload_n dX10_figure_20 (.refl 21) 0 rfl ?_
      refine AW.getR (z := 53) lk_X10_28 rfl rfl (by decide) rfl dX10_figure_21 (.refl 24) ?_
      refine AW.aload_n dX10_figure_24 (.refl 25) 0 rfl ?_
      refine AW.getI lk_X10_108 rfl rfl (by decide) dX10_figure_25 (.refl 28) ?_
      obtain ⟨g1, h⟩ := gd_s h
      refine AW.iaload rfl g1 dX10_figure_28 (.refl 29) ?_
      refine AW.bipush (v := (48 : Int32)) dX10_figure_29 (.refl 31) (by decide) ?_
      refine AW.isub dX10_figure_31 (.refl 32) ?_
      refine AW.goto (tgt := 37) dX10_figure_32 (by decide) ?_
      exact (a_X10_figure_p37) x1 x2 ((σ.1 53 ((σ.1 46 10)).toNatClampNeg) - (48 : Int32)) σ h
def f_X10_readSpan (x1 : Int32) (σ : Mm) : Option (Mm) := b2 (f_X10_figure (0 : Int32) (9 : Int32) σ) (fun (r2 : Int32) (τ3 : Mm) => gd (inB (x1 + (3 : Int32)) 30) (gd (inB (x1 + (3 : Int32)) 30) (b2 (f_X10_figure ((sI τ3 51 ((x1 + (3 : Int32))).toNatClampNeg r2).1 51 ((x1 + (3 : Int32))).toNatClampNeg) (9 : Int32) (sI τ3 51 ((x1 + (3 : Int32))).toNatClampNeg r2)) (fun (r7 : Int32) (τ8 : Mm) => gd (inB (x1 + (4 : Int32)) 30) (b2 (f_X10_figure (1 : Int32) (9 : Int32) (sI τ8 51 ((x1 + (4 : Int32))).toNatClampNeg r7)) (fun (r11 : Int32) (τ12 : Mm) => gd (inB (x1 + (5 : Int32)) 30) (bnd ((sI (sI τ12 51 ((x1 + (5 : Int32))).toNatClampNeg r11) 46 13 (((sI τ12 51 ((x1 + (5 : Int32))).toNatClampNeg r11).1 46 13) + (1 : Int32)))) (fun (σ14 : Mm) => some σ14))))))))
set_option maxRecDepth 20000 in
theorem c_X10_readSpan {l : Launch} {G : Gg} {x1 : Int32} {σ : Mm} {τ : Mm} (h : f_X10_readSpan x1 σ = some τ) : MR l G 2 M_X10_readSpan [.ref 46, .int x1] σ none τ := by
  unfold f_X10_readSpan at h
  refine MR.of (by decide +kernel) (Nat.le_of_ble_eq_true rfl) ?_
  show AW l G 2 M_X10_readSpan none τ 0 [(0, .ref 46), (1, .int x1)] [] σ
  refine AW.aload_n dX10_readSpan_0 (.refl 1) 0 rfl ?_
  refine AW.getR (z := 51) lk_X10_22 rfl rfl (by decide) rfl dX10_readSpan_1 (.refl 4) ?_
  refine AW.iload_n dX10_readSpan_4 (.refl 5) 1 rfl ?_
  refine AW.iconst (v := (3 : Int32)) dX10_readSpan_5 (.refl 6) (by decide) ?_
  refine AW.iadd dX10_readSpan_6 (.refl 7) ?_
  refine AW.aload_n dX10_readSpan_7 (.refl 8) 0 rfl ?_
  refine AW.iconst (v := (0 : Int32)) dX10_readSpan_8 (.refl 9) (by decide) ?_
  refine AW.bipush (v := (9 : Int32)) dX10_readSpan_9 (.refl 11) (by decide) ?_
  obtain ⟨r2, τ3, e1, h⟩ := b2_s h
  refine AW.callV (r' := (some (.int r2))) (σ' := τ3) (rest := [.int (x1 + (3 : Int32)), .ref 51]) lm_X10_121 (c_X10_figure e1) (by decide) (by decide) rfl rfl (by decide) rfl rfl (Nat.le_of_ble_eq_true rfl) dX10_readSpan_11 (.refl 14) (st' := [.int r2, .int (x1 + (3 : Int32)), .ref 51]) rfl ?_
  obtain ⟨g4, h⟩ := gd_s h
  refine AW.iastore rfl g4 dX10_readSpan_14 (.refl 15) ?_
  refine AW.aload_n dX10_readSpan_15 (.refl 16) 0 rfl ?_
  refine AW.getR (z := 51) lk_X10_22 rfl rfl (by decide) rfl dX10_readSpan_16 (.refl 19) ?_
  refine AW.iload_n dX10_readSpan_19 (.refl 20) 1 rfl ?_
  refine AW.iconst (v := (4 : Int32)) dX10_readSpan_20 (.refl 21) (by decide) ?_
  refine AW.iadd dX10_readSpan_21 (.refl 22) ?_
  refine AW.aload_n dX10_readSpan_22 (.refl 23) 0 rfl ?_
  refine AW.aload_n dX10_readSpan_23 (.refl 24) 0 rfl ?_
  refine AW.getR (z := 51) lk_X10_22 rfl rfl (by decide) rfl dX10_readSpan_24 (.refl 27) ?_
  refine AW.iload_n dX10_readSpan_27 (.refl 28) 1 rfl ?_
  refine AW.iconst (v := (3 : Int32)) dX10_readSpan_28 (.refl 29) (by decide) ?_
  refine AW.iadd dX10_readSpan_29 (.refl 30) ?_
  obtain ⟨g5, h⟩ := gd_s h
  refine AW.iaload rfl g5 dX10_readSpan_30 (.refl 31) ?_
  refine AW.bipush (v := (9 : Int32)) dX10_readSpan_31 (.refl 33) (by decide) ?_
  obtain ⟨r7, τ8, e6, h⟩ := b2_s h
  refine AW.callV (r' := (some (.int r7))) (σ' := τ8) (rest := [.int (x1 + (4 : Int32)), .ref 51]) lm_X10_121 (c_X10_figure e6) (by decide) (by decide) rfl rfl (by decide) rfl rfl (Nat.le_of_ble_eq_true rfl) dX10_readSpan_33 (.refl 36) (st' := [.int r7, .int (x1 + (4 : Int32)), .ref 51]) rfl ?_
  obtain ⟨g9, h⟩ := gd_s h
  refine AW.iastore rfl g9 dX10_readSpan_36 (.refl 37) ?_
  refine AW.aload_n dX10_readSpan_37 (.refl 38) 0 rfl ?_
  refine AW.getR (z := 51) lk_X10_22 rfl rfl (by decide) rfl dX10_readSpan_38 (.refl 41) ?_
  refine AW.iload_n dX10_readSpan_41 (.refl 42) 1 rfl ?_
  refine AW.iconst (v := (5 : Int32)) dX10_readSpan_42 (.refl 43) (by decide) ?_
  refine AW.iadd dX10_readSpan_43 (.refl 44) ?_
  refine AW.aload_n dX10_readSpan_44 (.refl 45) 0 rfl ?_
  refine AW.iconst (v := (1 : Int32)) dX10_readSpan_45 (.refl 46) (by decide) ?_
  refine AW.bipush (v := (9 : Int32)) dX10_readSpan_46 (.refl 48) (by decide) ?_
  obtain ⟨r11, τ12, e10, h⟩ := b2_s h
  refine AW.callV (r' := (some (.int r11))) (σ' := τ12) (rest := [.int (x1 + (5 : Int32)), .ref 51]) lm_X10_121 (c_X10_figure e10) (by decide) (by decide) rfl rfl (by decide) rfl rfl (Nat.le_of_ble_eq_true rfl) dX10_readSpan_48 (.refl 51) (st' := [.int r11, .int (x1 + (5 : Int32)), .ref 51]) rfl ?_
  obtain ⟨g13, h⟩ := gd_s h
  refine AW.iastore rfl g13 dX10_readSpan_51 (.refl 52) ?_
  refine AW.aload_n dX10_readSpan_52 (.refl 53) 0 rfl ?_
  refine AW.dup dX10_readSpan_53 (.refl 54) rfl ?_
  refine AW.getI lk_X10_114 rfl rfl (by decide) dX10_readSpan_54 (.refl 57) ?_
  refine AW.iconst (v := (1 : Int32)) dX10_readSpan_57 (.refl 58) (by decide) ?_
  refine AW.iadd dX10_readSpan_58 (.refl 59) ?_
  refine AW.putI lp_X10_114 rfl rfl (by decide) dX10_readSpan_59 (.refl 62) ?_
  obtain ⟨σ14, e15, h⟩ := bnd_s h
  refine AW.nmM e15 ?_
  cases h
  exact AW.vreturn rfl dX10_readSpan_62
def f_X10_readPart_p165 (x1 : Int32) (x2 : Int32) (σ : Mm) : Option (Mm) := (if x1 = (81 : Int32) then (if (5 : Int32) ≤ (σ.1 46 13) then some (sI σ 46 11 (σ.1 46 10)) else gd (inB x2 30) (bnd ((sI (sI σ 46 10 ((σ.1 46 10) + (1 : Int32))) 51 (x2).toNatClampNeg (-9 : Int32))) (fun (σ2 : Mm) => gd (inB (x2 + (1 : Int32)) 30) (gd (inB (x2 + (2 : Int32)) 30) (bnd ((sI (sI σ2 51 ((x2 + (1 : Int32))).toNatClampNeg (0 : Int32)) 51 ((x2 + (2 : Int32))).toNatClampNeg (0 : Int32))) (fun (σ6 : Mm) => b1 (f_X10_readSpan x2 σ6) (fun (τ9 : Mm) => some τ9))))))) else some (sI σ 46 11 (σ.1 46 10)))
def f_X10_readPart_p81 (x1 : Int32) (x2 : Int32) (σ : Mm) : Option (Mm) := (if x1 = (80 : Int32) then (if (5 : Int32) ≤ (σ.1 46 13) then (f_X10_readPart_p165) x1 x2 σ else (if (σ.1 46 12) ≤ 0 then (f_X10_readPart_p165) x1 x2 σ else b2 (f_X10_figure (0 : Int32) (((sI σ 46 10 ((σ.1 46 10) + (1 : Int32))).1 46 12) - (1 : Int32)) (sI σ 46 10 ((σ.1 46 10) + (1 : Int32)))) (fun (r2 : Int32) (τ3 : Mm) => gd (inB x2 30) (b2 (f_X10_figure (1 : Int32) (3 : Int32) (sI τ3 51 (x2).toNatClampNeg r2)) (fun (r6 : Int32) (τ7 : Mm) => gd (inB (x2 + (1 : Int32)) 30) (b2 (f_X10_figure (0 : Int32) (3 : Int32) (sI τ7 51 ((x2 + (1 : Int32))).toNatClampNeg r6)) (fun (r10 : Int32) (τ11 : Mm) => gd (inB (x2 + (2 : Int32)) 30) (b1 (f_X10_readSpan x2 (sI τ11 51 ((x2 + (2 : Int32))).toNatClampNeg r10)) (fun (τ14 : Mm) => some τ14))))))))) else (f_X10_readPart_p165) x1 x2 σ)
def f_X10_readPart (x1 : Int32) (σ : Mm) : Option (Mm) := (if x1 = (66 : Int32) then (if (3 : Int32) ≤ (σ.1 46 12) then (f_X10_readPart_p81) x1 ((6 : Int32) * (σ.1 46 13)) σ else b2 (f_X10_figure (1 : Int32) (3 : Int32) (sI σ 46 10 ((σ.1 46 10) + (1 : Int32)))) (fun (r2 : Int32) (τ3 : Mm) => gd (inB ((2 : Int32) * ((sI σ 46 10 ((σ.1 46 10) + (1 : Int32))).1 46 12)) 6) (bnd ((sI τ3 50 (((2 : Int32) * ((sI σ 46 10 ((σ.1 46 10) + (1 : Int32))).1 46 12))).toNatClampNeg r2)) (fun (σ5 : Mm) => b2 (f_X10_figure (0 : Int32) (2 : Int32) σ5) (fun (r8 : Int32) (τ9 : Mm) => gd (inB (((2 : Int32) * (σ5.1 46 12)) + (1 : Int32)) 6) (bnd ((sI τ9 50 ((((2 : Int32) * (σ5.1 46 12)) + (1 : Int32))).toNatClampNeg r8)) (fun (σ11 : Mm) => some (sI σ11 46 12 ((σ11.1 46 12) + (1 : Int32)))))))))) else (f_X10_readPart_p81) x1 ((6 : Int32) * (σ.1 46 13)) σ)
set_option maxRecDepth 20000 in
theorem a_X10_readPart_p165 {l : Launch} {G : Gg} {τ : Mm} (x1 : Int32) (x2 : Int32) (σ : Mm) (h : f_X10_readPart_p165 x1 x2 σ = some τ) : AW l G 3 M_X10_readPart none τ 165 [(0, .ref 46), (1, .int x1), (2, .int x2)] [] σ := by
  unfold f_X10_readPart_p165 at h
  refine AW.iload_n dX10_readPart_165 (.refl 166) 1 rfl ?_
  refine AW.bipush (v := (81 : Int32)) dX10_readPart_166 (.refl 168) (by decide) ?_
  refine AW.icmp_ne (tgt := 223) dX10_readPart_168 (by decide) (fun c11 => ?_) (fun c11 => ?_)
  · have h := ifn c11 h
    refine AW.aload_n dX10_readPart_223 (.refl 224) 0 rfl ?_
    refine AW.aload_n dX10_readPart_224 (.refl 225) 0 rfl ?_
    refine AW.getI lk_X10_108 rfl rfl (by decide) dX10_readPart_225 (.refl 228) ?_
    refine AW.putI lp_X10_105 rfl rfl (by decide) dX10_readPart_228 (.refl 231) ?_
    cases h
    exact AW.vreturn rfl dX10_readPart_231
  · have h := ifp c11 h
    refine AW.aload_n dX10_readPart_171 (.refl 172) 0 rfl ?_
    refine AW.getI lk_X10_114 rfl rfl (by decide) dX10_readPart_172 (.refl 175) ?_
    refine AW.iconst (v := (5 : Int32)) dX10_readPart_175 (.refl 176) (by decide) ?_
    refine AW.icmp_ge (tgt := 223) dX10_readPart_176 (by decide) (fun c10 => ?_) (fun c10 => ?_)
    · have h := ifp c10 h
      refine AW.aload_n dX10_readPart_223 (.refl 224) 0 rfl ?_
      refine AW.aload_n dX10_readPart_224 (.refl 225) 0 rfl ?_
      refine AW.getI lk_X10_108 rfl rfl (by decide) dX10_readPart_225 (.refl 228) ?_
      refine AW.putI lp_X10_105 rfl rfl (by decide) dX10_readPart_228 (.refl 231) ?_
      cases h
      exact AW.vreturn rfl dX10_readPart_231
    · have h := ifn c10 h
      refine AW.aload_n dX10_readPart_179 (.refl 180) 0 rfl ?_
      refine AW.dup dX10_readPart_180 (.refl 181) rfl ?_
      refine AW.getI lk_X10_108 rfl rfl (by decide) dX10_readPart_181 (.refl 184) ?_
      refine AW.iconst (v := (1 : Int32)) dX10_readPart_184 (.refl 185) (by decide) ?_
      refine AW.iadd dX10_readPart_185 (.refl 186) ?_
      refine AW.putI lp_X10_108 rfl rfl (by decide) dX10_readPart_186 (.refl 189) ?_
      refine AW.aload_n dX10_readPart_189 (.refl 190) 0 rfl ?_
      refine AW.getR (z := 51) lk_X10_22 rfl rfl (by decide) rfl dX10_readPart_190 (.refl 193) ?_
      refine AW.iload_n dX10_readPart_193 (.refl 194) 2 rfl ?_
      refine AW.bipush (v := (-9 : Int32)) dX10_readPart_194 (.refl 196) (by decide) ?_
      obtain ⟨g1, h⟩ := gd_s h
      refine AW.iastore rfl g1 dX10_readPart_196 (.refl 197) ?_
      obtain ⟨σ2, e3, h⟩ := bnd_s h
      refine AW.nmM e3 ?_
      refine AW.aload_n dX10_readPart_197 (.refl 198) 0 rfl ?_
      refine AW.getR (z := 51) lk_X10_22 rfl rfl (by decide) rfl dX10_readPart_198 (.refl 201) ?_
      refine AW.iload_n dX10_readPart_201 (.refl 202) 2 rfl ?_
      refine AW.iconst (v := (1 : Int32)) dX10_readPart_202 (.refl 203) (by decide) ?_
      refine AW.iadd dX10_readPart_203 (.refl 204) ?_
      refine AW.iconst (v := (0 : Int32)) dX10_readPart_204 (.refl 205) (by decide) ?_
      obtain ⟨g4, h⟩ := gd_s h
      refine AW.iastore rfl g4 dX10_readPart_205 (.refl 206) ?_
      refine AW.aload_n dX10_readPart_206 (.refl 207) 0 rfl ?_
      refine AW.getR (z := 51) lk_X10_22 rfl rfl (by decide) rfl dX10_readPart_207 (.refl 210) ?_
      refine AW.iload_n dX10_readPart_210 (.refl 211) 2 rfl ?_
      refine AW.iconst (v := (2 : Int32)) dX10_readPart_211 (.refl 212) (by decide) ?_
      refine AW.iadd dX10_readPart_212 (.refl 213) ?_
      refine AW.iconst (v := (0 : Int32)) dX10_readPart_213 (.refl 214) (by decide) ?_
      obtain ⟨g5, h⟩ := gd_s h
      refine AW.iastore rfl g5 dX10_readPart_214 (.refl 215) ?_
      obtain ⟨σ6, e7, h⟩ := bnd_s h
      refine AW.nmM e7 ?_
      refine AW.aload_n dX10_readPart_215 (.refl 216) 0 rfl ?_
      refine AW.iload_n dX10_readPart_216 (.refl 217) 2 rfl ?_
      obtain ⟨τ9, e8, h⟩ := b1_s h
      refine AW.callV (r' := none) (σ' := τ9) (rest := []) lm_X10_125 (c_X10_readSpan e8) (by decide) (by decide) rfl rfl (by decide) rfl rfl (Nat.le_of_ble_eq_true rfl) dX10_readPart_217 (.refl 220) (st' := []) rfl ?_
      refine AW.goto (tgt := 231) dX10_readPart_220 (by decide) ?_
      cases h
      exact AW.vreturn rfl dX10_readPart_231
set_option maxRecDepth 20000 in
theorem a_X10_readPart_p81 {l : Launch} {G : Gg} {τ : Mm} (x1 : Int32) (x2 : Int32) (σ : Mm) (h : f_X10_readPart_p81 x1 x2 σ = some τ) : AW l G 3 M_X10_readPart none τ 81 [(0, .ref 46), (1, .int x1), (2, .int x2)] [] σ := by
  unfold f_X10_readPart_p81 at h
  refine AW.iload_n dX10_readPart_81 (.refl 82) 1 rfl ?_
  refine AW.bipush (v := (80 : Int32)) dX10_readPart_82 (.refl 84) (by decide) ?_
  refine AW.icmp_ne (tgt := 165) dX10_readPart_84 (by decide) (fun c17 => ?_) (fun c17 => ?_)
  · have h := ifn c17 h
    exact (a_X10_readPart_p165) x1 x2 σ h
  · have h := ifp c17 h
    refine AW.aload_n dX10_readPart_87 (.refl 88) 0 rfl ?_
    refine AW.getI lk_X10_114 rfl rfl (by decide) dX10_readPart_88 (.refl 91) ?_
    refine AW.iconst (v := (5 : Int32)) dX10_readPart_91 (.refl 92) (by decide) ?_
    refine AW.icmp_ge (tgt := 165) dX10_readPart_92 (by decide) (fun c16 => ?_) (fun c16 => ?_)
    · have h := ifp c16 h
      exact (a_X10_readPart_p165) x1 x2 σ h
    · have h := ifn c16 h
      refine AW.aload_n dX10_readPart_95 (.refl 96) 0 rfl ?_
      refine AW.getI lk_X10_111 rfl rfl (by decide) dX10_readPart_96 (.refl 99) ?_
      refine AW.if_le (tgt := 165) dX10_readPart_99 (by decide) (fun c15 => ?_) (fun c15 => ?_)
      · have h := ifp c15 h
        exact (a_X10_readPart_p165) x1 x2 σ h
      · have h := ifn c15 h
        refine AW.aload_n dX10_readPart_102 (.refl 103) 0 rfl ?_
        refine AW.dup dX10_readPart_103 (.refl 104) rfl ?_
        refine AW.getI lk_X10_108 rfl rfl (by decide) dX10_readPart_104 (.refl 107) ?_
        refine AW.iconst (v := (1 : Int32)) dX10_readPart_107 (.refl 108) (by decide) ?_
        refine AW.iadd dX10_readPart_108 (.refl 109) ?_
        refine AW.putI lp_X10_108 rfl rfl (by decide) dX10_readPart_109 (.refl 112) ?_
        refine AW.aload_n dX10_readPart_112 (.refl 113) 0 rfl ?_
        refine AW.getR (z := 51) lk_X10_22 rfl rfl (by decide) rfl dX10_readPart_113 (.refl 116) ?_
        refine AW.iload_n dX10_readPart_116 (.refl 117) 2 rfl ?_
        refine AW.aload_n dX10_readPart_117 (.refl 118) 0 rfl ?_
        refine AW.iconst (v := (0 : Int32)) dX10_readPart_118 (.refl 119) (by decide) ?_
        refine AW.aload_n dX10_readPart_119 (.refl 120) 0 rfl ?_
        refine AW.getI lk_X10_111 rfl rfl (by decide) dX10_readPart_120 (.refl 123) ?_
        refine AW.iconst (v := (1 : Int32)) dX10_readPart_123 (.refl 124) (by decide) ?_
        refine AW.isub dX10_readPart_124 (.refl 125) ?_
        obtain ⟨r2, τ3, e1, h⟩ := b2_s h
        refine AW.callV (r' := (some (.int r2))) (σ' := τ3) (rest := [.int x2, .ref 51]) lm_X10_121 (c_X10_figure e1) (by decide) (by decide) rfl rfl (by decide) rfl rfl (Nat.le_of_ble_eq_true rfl) dX10_readPart_125 (.refl 128) (st' := [.int r2, .int x2, .ref 51]) rfl ?_
        obtain ⟨g4, h⟩ := gd_s h
        refine AW.iastore rfl g4 dX10_readPart_128 (.refl 129) ?_
        refine AW.aload_n dX10_readPart_129 (.refl 130) 0 rfl ?_
        refine AW.getR (z := 51) lk_X10_22 rfl rfl (by decide) rfl dX10_readPart_130 (.refl 133) ?_
        refine AW.iload_n dX10_readPart_133 (.refl 134) 2 rfl ?_
        refine AW.iconst (v := (1 : Int32)) dX10_readPart_134 (.refl 135) (by decide) ?_
        refine AW.iadd dX10_readPart_135 (.refl 136) ?_
        refine AW.aload_n dX10_readPart_136 (.refl 137) 0 rfl ?_
        refine AW.iconst (v := (1 : Int32)) dX10_readPart_137 (.refl 138) (by decide) ?_
        refine AW.iconst (v := (3 : Int32)) dX10_readPart_138 (.refl 139) (by decide) ?_
        obtain ⟨r6, τ7, e5, h⟩ := b2_s h
        refine AW.callV (r' := (some (.int r6))) (σ' := τ7) (rest := [.int (x2 + (1 : Int32)), .ref 51]) lm_X10_121 (c_X10_figure e5) (by decide) (by decide) rfl rfl (by decide) rfl rfl (Nat.le_of_ble_eq_true rfl) dX10_readPart_139 (.refl 142) (st' := [.int r6, .int (x2 + (1 : Int32)), .ref 51]) rfl ?_
        obtain ⟨g8, h⟩ := gd_s h
        refine AW.iastore rfl g8 dX10_readPart_142 (.refl 143) ?_
        refine AW.aload_n dX10_readPart_143 (.refl 144) 0 rfl ?_
        refine AW.getR (z := 51) lk_X10_22 rfl rfl (by decide) rfl dX10_readPart_144 (.refl 147) ?_
        refine AW.iload_n dX10_readPart_147 (.refl 148) 2 rfl ?_
        refine AW.iconst (v := (2 : Int32)) dX10_readPart_148 (.refl 149) (by decide) ?_
        refine AW.iadd dX10_readPart_149 (.refl 150) ?_
        refine AW.aload_n dX10_readPart_150 (.refl 151) 0 rfl ?_
        refine AW.iconst (v := (0 : Int32)) dX10_readPart_151 (.refl 152) (by decide) ?_
        refine AW.iconst (v := (3 : Int32)) dX10_readPart_152 (.refl 153) (by decide) ?_
        obtain ⟨r10, τ11, e9, h⟩ := b2_s h
        refine AW.callV (r' := (some (.int r10))) (σ' := τ11) (rest := [.int (x2 + (2 : Int32)), .ref 51]) lm_X10_121 (c_X10_figure e9) (by decide) (by decide) rfl rfl (by decide) rfl rfl (Nat.le_of_ble_eq_true rfl) dX10_readPart_153 (.refl 156) (st' := [.int r10, .int (x2 + (2 : Int32)), .ref 51]) rfl ?_
        obtain ⟨g12, h⟩ := gd_s h
        refine AW.iastore rfl g12 dX10_readPart_156 (.refl 157) ?_
        refine AW.aload_n dX10_readPart_157 (.refl 158) 0 rfl ?_
        refine AW.iload_n dX10_readPart_158 (.refl 159) 2 rfl ?_
        obtain ⟨τ14, e13, h⟩ := b1_s h
        refine AW.callV (r' := none) (σ' := τ14) (rest := []) lm_X10_125 (c_X10_readSpan e13) (by decide) (by decide) rfl rfl (by decide) rfl rfl (Nat.le_of_ble_eq_true rfl) dX10_readPart_159 (.refl 162) (st' := []) rfl ?_
        refine AW.goto (tgt := 231) dX10_readPart_162 (by decide) ?_
        cases h
        exact AW.vreturn rfl dX10_readPart_231
set_option maxRecDepth 20000 in
theorem c_X10_readPart {l : Launch} {G : Gg} {x1 : Int32} {σ : Mm} {τ : Mm} (h : f_X10_readPart x1 σ = some τ) : MR l G 3 M_X10_readPart [.ref 46, .int x1] σ none τ := by
  unfold f_X10_readPart at h
  refine MR.of (by decide +kernel) (Nat.le_of_ble_eq_true rfl) ?_
  show AW l G 3 M_X10_readPart none τ 0 [(0, .ref 46), (1, .int x1)] [] σ
  refine AW.bipush (v := (6 : Int32)) dX10_readPart_0 (.refl 2) (by decide) ?_
  refine AW.aload_n dX10_readPart_2 (.refl 3) 0 rfl ?_
  refine AW.getI lk_X10_114 rfl rfl (by decide) dX10_readPart_3 (.refl 6) ?_
  refine AW.imul dX10_readPart_6 (.refl 7) ?_
  refine AW.istore_n (L' := [(2, .int ((6 : Int32) * (σ.1 46 13))), (0, .ref 46), (1, .int x1)]) dX10_readPart_7 (.refl 8) (by decide) rfl ?_
  refine AW.iload_n dX10_readPart_8 (.refl 9) 2 rfl ?_
  refine AW.bipush (v := (66 : Int32)) dX10_readPart_9 (.refl 11) (by decide) ?_
  refine AW.icmp_ne (tgt := 81) dX10_readPart_11 (by decide) (fun c14 => ?_) (fun c14 => ?_)
  · have h := ifn c14 h
    refine AW.sub (L' := [(0, .ref 46), (1, .int x1), (2, .int ((6 : Int32) * (σ.1 46 13)))]) [1, 2, 0] rfl ?_
    exact (a_X10_readPart_p81) x1 ((6 : Int32) * (σ.1 46 13)) σ h
  · have h := ifp c14 h
    refine AW.aload_n dX10_readPart_14 (.refl 15) 1 rfl ?_
    refine AW.getI lk_X10_111 rfl rfl (by decide) dX10_readPart_15 (.refl 18) ?_
    refine AW.iconst (v := (3 : Int32)) dX10_readPart_18 (.refl 19) (by decide) ?_
    refine AW.icmp_ge (tgt := 81) dX10_readPart_19 (by decide) (fun c13 => ?_) (fun c13 => ?_)
    · have h := ifp c13 h
      refine AW.sub (L' := [(0, .ref 46), (1, .int x1), (2, .int ((6 : Int32) * (σ.1 46 13)))]) [1, 2, 0] rfl ?_
      exact (a_X10_readPart_p81) x1 ((6 : Int32) * (σ.1 46 13)) σ h
    · have h := ifn c13 h
      refine AW.aload_n dX10_readPart_22 (.refl 23) 1 rfl ?_
      refine AW.dup dX10_readPart_23 (.refl 24) rfl ?_
      refine AW.getI lk_X10_108 rfl rfl (by decide) dX10_readPart_24 (.refl 27) ?_
      refine AW.iconst (v := (1 : Int32)) dX10_readPart_27 (.refl 28) (by decide) ?_
      refine AW.iadd dX10_readPart_28 (.refl 29) ?_
      refine AW.putI lp_X10_108 rfl rfl (by decide) dX10_readPart_29 (.refl 32) ?_
      refine AW.aload_n dX10_readPart_32 (.refl 33) 1 rfl ?_
      refine AW.getR (z := 50) lk_X10_19 rfl rfl (by decide) rfl dX10_readPart_33 (.refl 36) ?_
      refine AW.iconst (v := (2 : Int32)) dX10_readPart_36 (.refl 37) (by decide) ?_
      refine AW.aload_n dX10_readPart_37 (.refl 38) 1 rfl ?_
      refine AW.getI lk_X10_111 rfl rfl (by decide) dX10_readPart_38 (.refl 41) ?_
      refine AW.imul dX10_readPart_41 (.refl 42) ?_
      refine AW.aload_n dX10_readPart_42 (.refl 43) 1 rfl ?_
      refine AW.iconst (v := (1 : Int32)) dX10_readPart_43 (.refl 44) (by decide) ?_
      refine AW.iconst (v := (3 : Int32)) dX10_readPart_44 (.refl 45) (by decide) ?_
      obtain ⟨r2, τ3, e1, h⟩ := b2_s h
      refine AW.callV (r' := (some (.int r2))) (σ' := τ3) (rest := [.int ((2 : Int32) * ((sI σ 46 10 ((σ.1 46 10) + (1 : Int32))).1 46 12)), .ref 50]) lm_X10_121 (c_X10_figure e1) (by decide) (by decide) rfl rfl (by decide) rfl rfl (Nat.le_of_ble_eq_true rfl) dX10_readPart_45 (.refl 48) (st' := [.int r2, .int ((2 : Int32) * ((sI σ 46 10 ((σ.1 46 10) + (1 : Int32))).1 46 12)), .ref 50]) rfl ?_
      obtain ⟨g4, h⟩ := gd_s h
      refine AW.iastore rfl g4 dX10_readPart_48 (.refl 49) ?_
      obtain ⟨σ5, e6, h⟩ := bnd_s h
      refine AW.nmM e6 ?_
      refine AW.aload_n dX10_readPart_49 (.refl 50) 1 rfl ?_
      refine AW.getR (z := 50) lk_X10_19 rfl rfl (by decide) rfl dX10_readPart_50 (.refl 53) ?_
      refine AW.iconst (v := (2 : Int32)) dX10_readPart_53 (.refl 54) (by decide) ?_
      refine AW.aload_n dX10_readPart_54 (.refl 55) 1 rfl ?_
      refine AW.getI lk_X10_111 rfl rfl (by decide) dX10_readPart_55 (.refl 58) ?_
      refine AW.imul dX10_readPart_58 (.refl 59) ?_
      refine AW.iconst (v := (1 : Int32)) dX10_readPart_59 (.refl 60) (by decide) ?_
      refine AW.iadd dX10_readPart_60 (.refl 61) ?_
      refine AW.aload_n dX10_readPart_61 (.refl 62) 1 rfl ?_
      refine AW.iconst (v := (0 : Int32)) dX10_readPart_62 (.refl 63) (by decide) ?_
      refine AW.iconst (v := (2 : Int32)) dX10_readPart_63 (.refl 64) (by decide) ?_
      obtain ⟨r8, τ9, e7, h⟩ := b2_s h
      refine AW.callV (r' := (some (.int r8))) (σ' := τ9) (rest := [.int (((2 : Int32) * (σ5.1 46 12)) + (1 : Int32)), .ref 50]) lm_X10_121 (c_X10_figure e7) (by decide) (by decide) rfl rfl (by decide) rfl rfl (Nat.le_of_ble_eq_true rfl) dX10_readPart_64 (.refl 67) (st' := [.int r8, .int (((2 : Int32) * (σ5.1 46 12)) + (1 : Int32)), .ref 50]) rfl ?_
      obtain ⟨g10, h⟩ := gd_s h
      refine AW.iastore rfl g10 dX10_readPart_67 (.refl 68) ?_
      obtain ⟨σ11, e12, h⟩ := bnd_s h
      refine AW.nmM e12 ?_
      refine AW.aload_n dX10_readPart_68 (.refl 69) 1 rfl ?_
      refine AW.dup dX10_readPart_69 (.refl 70) rfl ?_
      refine AW.getI lk_X10_111 rfl rfl (by decide) dX10_readPart_70 (.refl 73) ?_
      refine AW.iconst (v := (1 : Int32)) dX10_readPart_73 (.refl 74) (by decide) ?_
      refine AW.iadd dX10_readPart_74 (.refl 75) ?_
      refine AW.putI lp_X10_111 rfl rfl (by decide) dX10_readPart_75 (.refl 78) ?_
      refine AW.goto (tgt := 231) dX10_readPart_78 (by decide) ?_
      cases h
      exact AW.vreturn rfl dX10_readPart_231
def f_X10_readText_p46 : Nat → Mm → Option (Int32 × Mm)
  | 0, _ => none
  | n + 1, σ => (if (σ.1 46 11) = (-9 : Int32) then (if (σ.1 46 9) ≤ (σ.1 46 10) then some ((σ.1 46 11), σ) else gd (inB (σ.1 46 10) 48) (b1 (f_X10_readPart (σ.1 53 ((σ.1 46 10)).toNatClampNeg) σ) (fun (τ3 : Mm) => (f_X10_readText_p46 n) τ3))) else some ((σ.1 46 11), σ))
def f_X10_readText  (σ : Mm) : Option (Int32 × Mm) := bnd ((sI (sI (sI σ 46 10 (0 : Int32)) 46 11 (-9 : Int32)) 46 12 (0 : Int32))) (fun (σ1 : Mm) => (if ((sI σ1 46 13 (0 : Int32)).1 46 9) = 0 then some ((0 : Int32), (sI σ1 46 13 (0 : Int32))) else gd (inB (0 : Int32) 48) ((if ((sI σ1 46 13 (0 : Int32)).1 53 ((0 : Int32)).toNatClampNeg) = (84 : Int32) then f_X10_readText_p46 FU (sI (sI σ1 46 13 (0 : Int32)) 46 10 (1 : Int32)) else some ((0 : Int32), (sI σ1 46 13 (0 : Int32)))))))
set_option maxRecDepth 20000 in
theorem a_X10_readText_p46 {l : Launch} {G : Gg} {v : Int32} {τ : Mm} : ∀ (n : Nat) (σ : Mm), f_X10_readText_p46 n σ = some (v, τ) → AW l G 4 M_X10_readText (some (.int v)) τ 46 [(0, .ref 46)] [] σ := by
  intro n
  induction n with
  | zero => intro σ h; exact no_some h
  | succ n ih =>
    intro σ h
    rw [f_X10_readText_p46] at h
    refine AW.aload_n dX10_readText_46 (.refl 47) 0 rfl ?_
    refine AW.getI lk_X10_105 rfl rfl (by decide) dX10_readText_47 (.refl 50) ?_
    refine AW.bipush (v := (-9 : Int32)) dX10_readText_50 (.refl 52) (by decide) ?_
    refine AW.icmp_ne (tgt := 82) dX10_readText_52 (by decide) (fun c5 => ?_) (fun c5 => ?_)
    · have h := ifn c5 h
      refine AW.aload_n dX10_readText_82 (.refl 83) 0 rfl ?_
      refine AW.getI lk_X10_105 rfl rfl (by decide) dX10_readText_83 (.refl 86) ?_
      cases h
      exact AW.ireturn rfl dX10_readText_86
    · have h := ifp c5 h
      refine AW.aload_n dX10_readText_55 (.refl 56) 0 rfl ?_
      refine AW.getI lk_X10_108 rfl rfl (by decide) dX10_readText_56 (.refl 59) ?_
      refine AW.aload_n dX10_readText_59 (.refl 60) 0 rfl ?_
      refine AW.getI lk_X10_101 rfl rfl (by decide) dX10_readText_60 (.refl 63) ?_
      refine AW.icmp_ge (tgt := 82) dX10_readText_63 (by decide) (fun c4 => ?_) (fun c4 => ?_)
      · have h := ifp c4 h
        refine AW.aload_n dX10_readText_82 (.refl 83) 0 rfl ?_
        refine AW.getI lk_X10_105 rfl rfl (by decide) dX10_readText_83 (.refl 86) ?_
        cases h
        exact AW.ireturn rfl dX10_readText_86
      · have h := ifn c4 h
        refine AW.aload_n dX10_readText_66 (.refl 67) 0 rfl ?_
        refine AW.aload_n dX10_readText_67 (.refl 68) 0 rfl ?_
        refine AW.getR (z := 53) lk_X10_28 rfl rfl (by decide) rfl dX10_readText_68 (.refl 71) ?_
        refine AW.aload_n dX10_readText_71 (.refl 72) 0 rfl ?_
        refine AW.getI lk_X10_108 rfl rfl (by decide) dX10_readText_72 (.refl 75) ?_
        obtain ⟨g1, h⟩ := gd_s h
        refine AW.iaload rfl g1 dX10_readText_75 (.refl 76) ?_
        obtain ⟨τ3, e2, h⟩ := b1_s h
        refine AW.callV (r' := none) (σ' := τ3) (rest := []) lm_X10_117 (c_X10_readPart e2) (by decide) (by decide) rfl rfl (by decide) rfl rfl (Nat.le_of_ble_eq_true rfl) dX10_readText_76 (.refl 79) (st' := []) rfl ?_
        refine AW.goto (tgt := 46) dX10_readText_79 (by decide) ?_
        exact ih τ3 h
set_option maxRecDepth 20000 in
theorem c_X10_readText {l : Launch} {G : Gg}  {σ : Mm} {v : Int32} {τ : Mm} (h : f_X10_readText  σ = some (v, τ)) : MR l G 4 M_X10_readText [.ref 46] σ (some (.int v)) τ := by
  unfold f_X10_readText at h
  refine MR.of (by decide +kernel) (Nat.le_of_ble_eq_true rfl) ?_
  show AW l G 4 M_X10_readText (some (.int v)) τ 0 [(0, .ref 46)] [] σ
  refine AW.aload_n dX10_readText_0 (.refl 1) 0 rfl ?_
  refine AW.iconst (v := (0 : Int32)) dX10_readText_1 (.refl 2) (by decide) ?_
  refine AW.putI lp_X10_108 rfl rfl (by decide) dX10_readText_2 (.refl 5) ?_
  refine AW.aload_n dX10_readText_5 (.refl 6) 0 rfl ?_
  refine AW.bipush (v := (-9 : Int32)) dX10_readText_6 (.refl 8) (by decide) ?_
  refine AW.putI lp_X10_105 rfl rfl (by decide) dX10_readText_8 (.refl 11) ?_
  refine AW.aload_n dX10_readText_11 (.refl 12) 0 rfl ?_
  refine AW.iconst (v := (0 : Int32)) dX10_readText_12 (.refl 13) (by decide) ?_
  refine AW.putI lp_X10_111 rfl rfl (by decide) dX10_readText_13 (.refl 16) ?_
  obtain ⟨σ1, e2, h⟩ := bnd_s h
  refine AW.nmM e2 ?_
  refine AW.aload_n dX10_readText_16 (.refl 17) 0 rfl ?_
  refine AW.iconst (v := (0 : Int32)) dX10_readText_17 (.refl 18) (by decide) ?_
  refine AW.putI lp_X10_114 rfl rfl (by decide) dX10_readText_18 (.refl 21) ?_
  refine AW.aload_n dX10_readText_21 (.refl 22) 0 rfl ?_
  refine AW.getI lk_X10_101 rfl rfl (by decide) dX10_readText_22 (.refl 25) ?_
  refine AW.if_eq (tgt := 39) dX10_readText_25 (by decide) (fun c5 => ?_) (fun c5 => ?_)
  · have h := ifp c5 h
    refine AW.iconst (v := (0 : Int32)) dX10_readText_39 (.refl 40) (by decide) ?_
    cases h
    exact AW.ireturn rfl dX10_readText_40
  · have h := ifn c5 h
    refine AW.aload_n dX10_readText_28 (.refl 29) 0 rfl ?_
    refine AW.getR (z := 53) lk_X10_28 rfl rfl (by decide) rfl dX10_readText_29 (.refl 32) ?_
    refine AW.iconst (v := (0 : Int32)) dX10_readText_32 (.refl 33) (by decide) ?_
    obtain ⟨g3, h⟩ := gd_s h
    refine AW.iaload rfl g3 dX10_readText_33 (.refl 34) ?_
    refine AW.bipush (v := (84 : Int32)) dX10_readText_34 (.refl 36) (by decide) ?_
    refine AW.icmp_eq (tgt := 41) dX10_readText_36 (by decide) (fun c4 => ?_) (fun c4 => ?_)
    · have h := ifp c4 h
      refine AW.aload_n dX10_readText_41 (.refl 42) 0 rfl ?_
      refine AW.iconst (v := (1 : Int32)) dX10_readText_42 (.refl 43) (by decide) ?_
      refine AW.putI lp_X10_108 rfl rfl (by decide) dX10_readText_43 (.refl 46) ?_
      exact a_X10_readText_p46 FU (sI (sI σ1 46 13 (0 : Int32)) 46 10 (1 : Int32)) h
    · have h := ifn c4 h
      refine AW.iconst (v := (0 : Int32)) dX10_readText_39 (.refl 40) (by decide) ?_
      cases h
      exact AW.ireturn rfl dX10_readText_40
def f_X10_fault  (σ : Mm) : Option (Int32 × Mm) := b2 (f_X10_readText σ) (fun (r2 : Int32) (τ3 : Mm) => some (r2, τ3))
set_option maxRecDepth 20000 in
theorem c_X10_fault {l : Launch} {G : Gg}  {σ : Mm} {v : Int32} {τ : Mm} (h : f_X10_fault  σ = some (v, τ)) : MR l G 5 M_X10_fault [.ref 46] σ (some (.int v)) τ := by
  unfold f_X10_fault at h
  refine MR.of (by decide +kernel) (Nat.le_of_ble_eq_true rfl) ?_
  show AW l G 5 M_X10_fault (some (.int v)) τ 0 [(0, .ref 46)] [] σ
  refine AW.aload_n dX10_fault_0 (.refl 1) 0 rfl ?_
  obtain ⟨r2, τ3, e1, h⟩ := b2_s h
  refine AW.callV (r' := (some (.int r2))) (σ' := τ3) (rest := []) lm_X10_128 (c_X10_readText e1) (by decide) (by decide) rfl rfl (by decide) rfl rfl (Nat.le_of_ble_eq_true rfl) dX10_fault_1 (.refl 4) (st' := [.int r2]) rfl ?_
  cases h
  exact AW.ireturn rfl dX10_fault_4
