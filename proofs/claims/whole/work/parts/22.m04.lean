def f_X10_layTables_p70 (kh : Int32 → Int32 → Mm → Option (Mm)) (ke113 : Int32 → Mm → Option (Mm)) (x1 : Int32) (x2 : Int32) (s0 : Int32) (s1 : Int32) (σ : Mm) : Option (Mm) := gd (inB s1 50) (gd (inB (((10 : Int32) * x1) + x2) 50) ((if ((sI σ 60 (s1).toNatClampNeg s0).1 59 ((((10 : Int32) * x1) + x2)).toNatClampNeg) = 0 then gd (inB (((10 : Int32) * x1) + x2) 50) (bnd ((sI (sI σ 60 (s1).toNatClampNeg s0) 61 ((((10 : Int32) * x1) + x2)).toNatClampNeg (0 : Int32))) (fun (σ4 : Mm) => kh x1 (x2 + (1 : Int32)) σ4)) else b1 (f_X10_seconds (sI σ 60 (s1).toNatClampNeg s0) x1 x2 (1 : Int32)) (fun (r7 : Int32) => gd (inB (((10 : Int32) * x1) + x2) 50) (bnd ((sI (sI σ 60 (s1).toNatClampNeg s0) 61 ((((10 : Int32) * x1) + x2)).toNatClampNeg r7)) (fun (σ9 : Mm) => kh x1 (x2 + (1 : Int32)) σ9))))))
def f_X10_layTables_p12 (ke113 : Int32 → Mm → Option (Mm)) : Nat → Int32 → Int32 → Mm → Option (Mm)
  | 0, _, _, _ => none
  | n + 1, x1, x2, σ => (if (10 : Int32) ≤ x2 then ke113 x1 σ else b1 (f_X10_mayBegin σ x1 x2) (fun (r2 : Int32) => gd (inB (((10 : Int32) * x1) + x2) 50) (gd (inB (((10 : Int32) * x1) + x2) 50) ((if ((sI σ 59 ((((10 : Int32) * x1) + x2)).toNatClampNeg (r2 &&& 1)).1 59 ((((10 : Int32) * x1) + x2)).toNatClampNeg) = 0 then (f_X10_layTables_p70 (f_X10_layTables_p12 ke113 n) ke113) x1 x2 (0 : Int32) (((10 : Int32) * x1) + x2) (sI σ 59 ((((10 : Int32) * x1) + x2)).toNatClampNeg (r2 &&& 1)) else b1 (f_X10_seconds (sI σ 59 ((((10 : Int32) * x1) + x2)).toNatClampNeg (r2 &&& 1)) x1 x2 (0 : Int32)) (fun (r6 : Int32) => (f_X10_layTables_p70 (f_X10_layTables_p12 ke113 n) ke113) x1 x2 r6 (((10 : Int32) * x1) + x2) (sI σ 59 ((((10 : Int32) * x1) + x2)).toNatClampNeg (r2 &&& 1))))))))
def f_X10_layTables_p113 (kh : Int32 → Mm → Option (Mm)) (x1 : Int32) (σ : Mm) : Option (Mm) := kh (x1 + (1 : Int32)) σ
def f_X10_layTables_p2 : Nat → Int32 → Mm → Option (Mm)
  | 0, _, _ => none
  | n + 1, x1, σ => (if (σ.1 46 1) ≤ x1 then some σ else f_X10_layTables_p12 (f_X10_layTables_p113 (f_X10_layTables_p2 n)) FU x1 (0 : Int32) σ)
def f_X10_layTables  (σ : Mm) : Option (Mm) := f_X10_layTables_p2 FU (0 : Int32) σ
set_option maxRecDepth 20000 in
theorem a_X10_layTables_p70 {l : Launch} {G : Gg} {τ : Mm} {kh : Int32 → Int32 → Mm → Option (Mm)} (hkh : ∀ (x1 : Int32) (x2 : Int32) (σ : Mm), kh x1 x2 σ = some τ → AW l G 2 M_X10_layTables none τ 12 [(0, .ref 46), (1, .int x1), (2, .int x2)] [] σ) {ke113 : Int32 → Mm → Option (Mm)} (he113 : ∀ (x1 : Int32) (σ : Mm), ke113 x1 σ = some τ → AW l G 2 M_X10_layTables none τ 113 [(0, .ref 46), (1, .int x1)] [] σ) (x1 : Int32) (x2 : Int32) (s0 : Int32) (s1 : Int32) (σ : Mm) (h : f_X10_layTables_p70 kh ke113 x1 x2 s0 s1 σ = some τ) : AW l G 2 M_X10_layTables none τ 70 [(0, .ref 46), (1, .int x1), (2, .int x2)] [.int s0, .int s1, .ref 60] σ := by
  unfold f_X10_layTables_p70 at h
  obtain ⟨g1, h⟩ := gd_s h
  refine AW.iastore rfl g1 dX10_layTables_70 (.refl 71) ?_
  refine AW.aload_n dX10_layTables_71 (.refl 72) 0 rfl ?_
  refine AW.getR (z := 61) lk_X10_53 rfl rfl (by decide) rfl dX10_layTables_72 (.refl 75) ?_
  refine AW.bipush (v := (10 : Int32)) dX10_layTables_75 (.refl 77) (by decide) ?_
  refine AW.iload_n dX10_layTables_77 (.refl 78) 1 rfl ?_
  refine AW.imul dX10_layTables_78 (.refl 79) ?_
  refine AW.iload_n dX10_layTables_79 (.refl 80) 2 rfl ?_
  refine AW.iadd dX10_layTables_80 (.refl 81) ?_
  refine AW.aload_n dX10_layTables_81 (.refl 82) 0 rfl ?_
  refine AW.getR (z := 59) lk_X10_47 rfl rfl (by decide) rfl dX10_layTables_82 (.refl 85) ?_
  refine AW.bipush (v := (10 : Int32)) dX10_layTables_85 (.refl 87) (by decide) ?_
  refine AW.iload_n dX10_layTables_87 (.refl 88) 1 rfl ?_
  refine AW.imul dX10_layTables_88 (.refl 89) ?_
  refine AW.iload_n dX10_layTables_89 (.refl 90) 2 rfl ?_
  refine AW.iadd dX10_layTables_90 (.refl 91) ?_
  obtain ⟨g2, h⟩ := gd_s h
  refine AW.baload rfl g2 dX10_layTables_91 (.refl 92) ?_
  refine AW.if_eq (tgt := 105) dX10_layTables_92 (by decide) (fun c11 => ?_) (fun c11 => ?_)
  · have h := ifp c11 h
    refine AW.iconst (v := (0 : Int32)) dX10_layTables_105 (.refl 106) (by decide) ?_
    obtain ⟨g3, h⟩ := gd_s h
    refine AW.iastore rfl g3 dX10_layTables_106 (.refl 107) ?_
    obtain ⟨σ4, e5, h⟩ := bnd_s h
    refine AW.nmM e5 ?_
    refine AW.iinc (v := (x2 + (1 : Int32))) (L' := [(2, .int (x2 + (1 : Int32))), (0, .ref 46), (1, .int x1)]) dX10_layTables_107 (.refl 110) 2 rfl rfl (by decide) rfl ?_
    refine AW.goto (tgt := 12) dX10_layTables_110 (by decide) ?_
    refine AW.sub (L' := [(0, .ref 46), (1, .int x1), (2, .int (x2 + (1 : Int32)))]) [1, 2, 0] rfl ?_
    exact hkh x1 (x2 + (1 : Int32)) σ4 h
  · have h := ifn c11 h
    refine AW.aload_n dX10_layTables_95 (.refl 96) 0 rfl ?_
    refine AW.iload_n dX10_layTables_96 (.refl 97) 1 rfl ?_
    refine AW.iload_n dX10_layTables_97 (.refl 98) 2 rfl ?_
    refine AW.iconst (v := (1 : Int32)) dX10_layTables_98 (.refl 99) (by decide) ?_
    obtain ⟨r7, e6, h⟩ := b1_s h
    refine AW.callV (r' := (some (.int r7))) (σ' := (sI σ 60 (s1).toNatClampNeg s0)) (rest := [.int (((10 : Int32) * x1) + x2), .ref 61]) lm_X10_152 (c_X10_seconds e6) (by decide) (by decide) rfl rfl (by decide) rfl rfl (Nat.le_of_ble_eq_true rfl) dX10_layTables_99 (.refl 102) (st' := [.int r7, .int (((10 : Int32) * x1) + x2), .ref 61]) rfl ?_
    refine AW.goto (tgt := 106) dX10_layTables_102 (by decide) ?_
    obtain ⟨g8, h⟩ := gd_s h
    refine AW.iastore rfl g8 dX10_layTables_106 (.refl 107) ?_
    obtain ⟨σ9, e10, h⟩ := bnd_s h
    refine AW.nmM e10 ?_
    refine AW.iinc (v := (x2 + (1 : Int32))) (L' := [(2, .int (x2 + (1 : Int32))), (0, .ref 46), (1, .int x1)]) dX10_layTables_107 (.refl 110) 2 rfl rfl (by decide) rfl ?_
    refine AW.goto (tgt := 12) dX10_layTables_110 (by decide) ?_
    refine AW.sub (L' := [(0, .ref 46), (1, .int x1), (2, .int (x2 + (1 : Int32)))]) [1, 2, 0] rfl ?_
    exact hkh x1 (x2 + (1 : Int32)) σ9 h
set_option maxRecDepth 20000 in
theorem a_X10_layTables_p12 {l : Launch} {G : Gg} {τ : Mm} {ke113 : Int32 → Mm → Option (Mm)} (he113 : ∀ (x1 : Int32) (σ : Mm), ke113 x1 σ = some τ → AW l G 2 M_X10_layTables none τ 113 [(0, .ref 46), (1, .int x1)] [] σ) : ∀ (n : Nat) (x1 : Int32) (x2 : Int32) (σ : Mm), f_X10_layTables_p12 ke113 n x1 x2 σ = some τ → AW l G 2 M_X10_layTables none τ 12 [(0, .ref 46), (1, .int x1), (2, .int x2)] [] σ := by
  intro n
  induction n with
  | zero => intro x1 x2 σ h; exact no_some h
  | succ n ih =>
    intro x1 x2 σ h
    rw [f_X10_layTables_p12] at h
    refine AW.iload_n dX10_layTables_12 (.refl 13) 2 rfl ?_
    refine AW.bipush (v := (10 : Int32)) dX10_layTables_13 (.refl 15) (by decide) ?_
    refine AW.icmp_ge (tgt := 113) dX10_layTables_15 (by decide) (fun c8 => ?_) (fun c8 => ?_)
    · have h := ifp c8 h
      refine AW.sub (L' := [(0, .ref 46), (1, .int x1)]) [0, 1] rfl ?_
      exact he113 x1 σ h
    · have h := ifn c8 h
      refine AW.aload_n dX10_layTables_18 (.refl 19) 0 rfl ?_
      refine AW.getR (z := 59) lk_X10_47 rfl rfl (by decide) rfl dX10_layTables_19 (.refl 22) ?_
      refine AW.bipush (v := (10 : Int32)) dX10_layTables_22 (.refl 24) (by decide) ?_
      refine AW.iload_n dX10_layTables_24 (.refl 25) 1 rfl ?_
      refine AW.imul dX10_layTables_25 (.refl 26) ?_
      refine AW.iload_n dX10_layTables_26 (.refl 27) 2 rfl ?_
      refine AW.iadd dX10_layTables_27 (.refl 28) ?_
      refine AW.aload_n dX10_layTables_28 (.refl 29) 0 rfl ?_
      refine AW.iload_n dX10_layTables_29 (.refl 30) 1 rfl ?_
      refine AW.iload_n dX10_layTables_30 (.refl 31) 2 rfl ?_
      obtain ⟨r2, e1, h⟩ := b1_s h
      refine AW.callV (r' := (some (.int r2))) (σ' := σ) (rest := [.int (((10 : Int32) * x1) + x2), .ref 59]) lm_X10_171 (c_X10_mayBegin e1) (by decide) (by decide) rfl rfl (by decide) rfl rfl (Nat.le_of_ble_eq_true rfl) dX10_layTables_31 (.refl 34) (st' := [.int r2, .int (((10 : Int32) * x1) + x2), .ref 59]) rfl ?_
      obtain ⟨g3, h⟩ := gd_s h
      refine AW.bastore rfl g3 dX10_layTables_34 (.refl 35) ?_
      refine AW.aload_n dX10_layTables_35 (.refl 36) 0 rfl ?_
      refine AW.getR (z := 60) lk_X10_50 rfl rfl (by decide) rfl dX10_layTables_36 (.refl 39) ?_
      refine AW.bipush (v := (10 : Int32)) dX10_layTables_39 (.refl 41) (by decide) ?_
      refine AW.iload_n dX10_layTables_41 (.refl 42) 1 rfl ?_
      refine AW.imul dX10_layTables_42 (.refl 43) ?_
      refine AW.iload_n dX10_layTables_43 (.refl 44) 2 rfl ?_
      refine AW.iadd dX10_layTables_44 (.refl 45) ?_
      refine AW.aload_n dX10_layTables_45 (.refl 46) 0 rfl ?_
      refine AW.getR (z := 59) lk_X10_47 rfl rfl (by decide) rfl dX10_layTables_46 (.refl 49) ?_
      refine AW.bipush (v := (10 : Int32)) dX10_layTables_49 (.refl 51) (by decide) ?_
      refine AW.iload_n dX10_layTables_51 (.refl 52) 1 rfl ?_
      refine AW.imul dX10_layTables_52 (.refl 53) ?_
      refine AW.iload_n dX10_layTables_53 (.refl 54) 2 rfl ?_
      refine AW.iadd dX10_layTables_54 (.refl 55) ?_
      obtain ⟨g4, h⟩ := gd_s h
      refine AW.baload rfl g4 dX10_layTables_55 (.refl 56) ?_
      refine AW.if_eq (tgt := 69) dX10_layTables_56 (by decide) (fun c7 => ?_) (fun c7 => ?_)
      · have h := ifp c7 h
        refine AW.iconst (v := (0 : Int32)) dX10_layTables_69 (.refl 70) (by decide) ?_
        exact (a_X10_layTables_p70 ih he113) x1 x2 (0 : Int32) (((10 : Int32) * x1) + x2) (sI σ 59 ((((10 : Int32) * x1) + x2)).toNatClampNeg (r2 &&& 1)) h
      · have h := ifn c7 h
        refine AW.aload_n dX10_layTables_59 (.refl 60) 0 rfl ?_
        refine AW.iload_n dX10_layTables_60 (.refl 61) 1 rfl ?_
        refine AW.iload_n dX10_layTables_61 (.refl 62) 2 rfl ?_
        refine AW.iconst (v := (0 : Int32)) dX10_layTables_62 (.refl 63) (by decide) ?_
        obtain ⟨r6, e5, h⟩ := b1_s h
        refine AW.callV (r' := (some (.int r6))) (σ' := (sI σ 59 ((((10 : Int32) * x1) + x2)).toNatClampNeg (r2 &&& 1))) (rest := [.int (((10 : Int32) * x1) + x2), .ref 60]) lm_X10_152 (c_X10_seconds e5) (by decide) (by decide) rfl rfl (by decide) rfl rfl (Nat.le_of_ble_eq_true rfl) dX10_layTables_63 (.refl 66) (st' := [.int r6, .int (((10 : Int32) * x1) + x2), .ref 60]) rfl ?_
        refine AW.goto (tgt := 70) dX10_layTables_66 (by decide) ?_
        exact (a_X10_layTables_p70 ih he113) x1 x2 r6 (((10 : Int32) * x1) + x2) (sI σ 59 ((((10 : Int32) * x1) + x2)).toNatClampNeg (r2 &&& 1)) h
set_option maxRecDepth 20000 in
theorem a_X10_layTables_p113 {l : Launch} {G : Gg} {τ : Mm} {kh : Int32 → Mm → Option (Mm)} (hkh : ∀ (x1 : Int32) (σ : Mm), kh x1 σ = some τ → AW l G 2 M_X10_layTables none τ 2 [(0, .ref 46), (1, .int x1)] [] σ) (x1 : Int32) (σ : Mm) (h : f_X10_layTables_p113 kh x1 σ = some τ) : AW l G 2 M_X10_layTables none τ 113 [(0, .ref 46), (1, .int x1)] [] σ := by
  unfold f_X10_layTables_p113 at h
  refine AW.iinc (v := (x1 + (1 : Int32))) (L' := [(1, .int (x1 + (1 : Int32))), (0, .ref 46)]) dX10_layTables_113 (.refl 116) 1 rfl rfl (by decide) rfl ?_
  refine AW.goto (tgt := 2) dX10_layTables_116 (by decide) ?_
  refine AW.sub (L' := [(0, .ref 46), (1, .int (x1 + (1 : Int32)))]) [1, 0] rfl ?_
  exact hkh (x1 + (1 : Int32)) σ h
set_option maxRecDepth 20000 in
theorem a_X10_layTables_p2 {l : Launch} {G : Gg} {τ : Mm} : ∀ (n : Nat) (x1 : Int32) (σ : Mm), f_X10_layTables_p2 n x1 σ = some τ → AW l G 2 M_X10_layTables none τ 2 [(0, .ref 46), (1, .int x1)] [] σ := by
  intro n
  induction n with
  | zero => intro x1 σ h; exact no_some h
  | succ n ih =>
    intro x1 σ h
    rw [f_X10_layTables_p2] at h
    refine AW.iload_n dX10_layTables_2 (.refl 3) 1 rfl ?_
    refine AW.aload_n dX10_layTables_3 (.refl 4) 0 rfl ?_
    refine AW.getI lk_X10_135 rfl rfl (by decide) dX10_layTables_4 (.refl 7) ?_
    refine AW.icmp_ge (tgt := 119) dX10_layTables_7 (by decide) (fun c1 => ?_) (fun c1 => ?_)
    · have h := ifp c1 h
      cases h
      exact AW.vreturn rfl dX10_layTables_119
    · have h := ifn c1 h
      refine AW.iconst (v := (0 : Int32)) dX10_layTables_10 (.refl 11) (by decide) ?_
      refine AW.istore_n (L' := [(2, .int (0 : Int32)), (0, .ref 46), (1, .int x1)]) dX10_layTables_11 (.refl 12) (by decide) rfl ?_
      refine AW.sub (L' := [(0, .ref 46), (1, .int x1), (2, .int (0 : Int32))]) [1, 2, 0] rfl ?_
      exact a_X10_layTables_p12 (a_X10_layTables_p113 ih) FU x1 (0 : Int32) σ h
set_option maxRecDepth 20000 in
theorem c_X10_layTables {l : Launch} {G : Gg}  {σ : Mm} {τ : Mm} (h : f_X10_layTables  σ = some τ) : MR l G 2 M_X10_layTables [.ref 46] σ none τ := by
  unfold f_X10_layTables at h
  refine MR.of (by decide +kernel) (Nat.le_of_ble_eq_true rfl) ?_
  show AW l G 2 M_X10_layTables none τ 0 [(0, .ref 46)] [] σ
  refine AW.iconst (v := (0 : Int32)) dX10_layTables_0 (.refl 1) (by decide) ?_
  refine AW.istore_n (L' := [(1, .int (0 : Int32)), (0, .ref 46)]) dX10_layTables_1 (.refl 2) (by decide) rfl ?_
  refine AW.sub (L' := [(0, .ref 46), (1, .int (0 : Int32))]) [1, 0] rfl ?_
  exact a_X10_layTables_p2 FU (0 : Int32) σ h
def f_X10_layBells_p2 (ke20 : Mm → Option (Mm)) : Nat → Int32 → Mm → Option (Mm)
  | 0, _, _ => none
  | n + 1, x1, σ => (if (3 : Int32) ≤ x1 then ke20 σ else gd (inB x1 3) ((f_X10_layBells_p2 ke20 n) (x1 + (1 : Int32)) (sI σ 62 (x1).toNatClampNeg (0 : Int32))))
def f_X10_layBells_p22 : Nat → Int32 → Mm → Option (Mm)
  | 0, _, _ => none
  | n + 1, x1, σ => (if (σ.1 46 1) ≤ x1 then some σ else gd (inB x1 5) ((if (σ.1 55 (x1).toNatClampNeg) ≤ 0 then (f_X10_layBells_p22 n) (x1 + (1 : Int32)) σ else b1 (f_X10_isQuiet σ x1) (fun (r3 : Int32) => (if r3 = 0 then gd (inB ((6 : Int32) * x1) 30) (gd (inB (σ.1 49 (((6 : Int32) * x1)).toNatClampNeg) 3) (gd (inB x1 5) (gd (inB ((((10 : Int32) * x1) + (σ.1 55 (x1).toNatClampNeg)) - (1 : Int32)) 50) (gd (inB (σ.1 49 (((6 : Int32) * x1)).toNatClampNeg) 3) (bnd ((sI σ 62 ((σ.1 49 (((6 : Int32) * x1)).toNatClampNeg)).toNatClampNeg ((σ.1 62 ((σ.1 49 (((6 : Int32) * x1)).toNatClampNeg)).toNatClampNeg) ||| (σ.1 60 (((((10 : Int32) * x1) + (σ.1 55 (x1).toNatClampNeg)) - (1 : Int32))).toNatClampNeg)))) (fun (σ9 : Mm) => (f_X10_layBells_p22 n) (x1 + (1 : Int32)) σ9)))))) else (f_X10_layBells_p22 n) (x1 + (1 : Int32)) σ)))))
def f_X10_layBells_p20 (σ : Mm) : Option (Mm) := f_X10_layBells_p22 FU (0 : Int32) σ
def f_X10_layBells  (σ : Mm) : Option (Mm) := f_X10_layBells_p2 (f_X10_layBells_p20) FU (0 : Int32) σ
set_option maxRecDepth 20000 in
theorem a_X10_layBells_p2 {l : Launch} {G : Gg} {τ : Mm} {ke20 : Mm → Option (Mm)} (he20 : ∀  (σ : Mm), ke20  σ = some τ → AW l G 1 M_X10_layBells none τ 20 [(0, .ref 46)] [] σ) : ∀ (n : Nat) (x1 : Int32) (σ : Mm), f_X10_layBells_p2 ke20 n x1 σ = some τ → AW l G 1 M_X10_layBells none τ 2 [(0, .ref 46), (1, .int x1)] [] σ := by
  intro n
  induction n with
  | zero => intro x1 σ h; exact no_some h
  | succ n ih =>
    intro x1 σ h
    rw [f_X10_layBells_p2] at h
    refine AW.iload_n dX10_layBells_2 (.refl 3) 1 rfl ?_
    refine AW.iconst (v := (3 : Int32)) dX10_layBells_3 (.refl 4) (by decide) ?_
    refine AW.icmp_ge (tgt := 20) dX10_layBells_4 (by decide) (fun c2 => ?_) (fun c2 => ?_)
    · have h := ifp c2 h
      refine AW.sub (L' := [(0, .ref 46)]) [0] rfl ?_
      exact he20 σ h
    · have h := ifn c2 h
      refine AW.aload_n dX10_layBells_7 (.refl 8) 0 rfl ?_
      refine AW.getR (z := 62) lk_X10_56 rfl rfl (by decide) rfl dX10_layBells_8 (.refl 11) ?_
      refine AW.iload_n dX10_layBells_11 (.refl 12) 1 rfl ?_
      refine AW.iconst (v := (0 : Int32)) dX10_layBells_12 (.refl 13) (by decide) ?_
      obtain ⟨g1, h⟩ := gd_s h
      refine AW.iastore rfl g1 dX10_layBells_13 (.refl 14) ?_
      refine AW.iinc (v := (x1 + (1 : Int32))) (L' := [(1, .int (x1 + (1 : Int32))), (0, .ref 46)]) dX10_layBells_14 (.refl 17) 1 rfl rfl (by decide) rfl ?_
      refine AW.goto (tgt := 2) dX10_layBells_17 (by decide) ?_
      refine AW.sub (L' := [(0, .ref 46), (1, .int (x1 + (1 : Int32)))]) [1, 0] rfl ?_
      exact ih (x1 + (1 : Int32)) (sI σ 62 (x1).toNatClampNeg (0 : Int32)) h
set_option maxRecDepth 20000 in
theorem a_X10_layBells_p22 {l : Launch} {G : Gg} {τ : Mm} : ∀ (n : Nat) (x1 : Int32) (σ : Mm), f_X10_layBells_p22 n x1 σ = some τ → AW l G 1 M_X10_layBells none τ 22 [(0, .ref 46), (1, .int x1)] [] σ := by
  intro n
  induction n with
  | zero => intro x1 σ h; exact no_some h
  | succ n ih =>
    intro x1 σ h
    rw [f_X10_layBells_p22] at h
    refine AW.iload_n dX10_layBells_22 (.refl 23) 1 rfl ?_
    refine AW.aload_n dX10_layBells_23 (.refl 24) 0 rfl ?_
    refine AW.getI lk_X10_135 rfl rfl (by decide) dX10_layBells_24 (.refl 27) ?_
    refine AW.icmp_ge (tgt := 88) dX10_layBells_27 (by decide) (fun c13 => ?_) (fun c13 => ?_)
    · have h := ifp c13 h
      cases h
      exact AW.vreturn rfl dX10_layBells_88
    · have h := ifn c13 h
      refine AW.aload_n dX10_layBells_30 (.refl 31) 0 rfl ?_
      refine AW.getR (z := 55) lk_X10_34 rfl rfl (by decide) rfl dX10_layBells_31 (.refl 34) ?_
      refine AW.iload_n dX10_layBells_34 (.refl 35) 1 rfl ?_
      obtain ⟨g1, h⟩ := gd_s h
      refine AW.iaload rfl g1 dX10_layBells_35 (.refl 36) ?_
      refine AW.if_le (tgt := 82) dX10_layBells_36 (by decide) (fun c12 => ?_) (fun c12 => ?_)
      · have h := ifp c12 h
        refine AW.iinc (v := (x1 + (1 : Int32))) (L' := [(1, .int (x1 + (1 : Int32))), (0, .ref 46)]) dX10_layBells_82 (.refl 85) 1 rfl rfl (by decide) rfl ?_
        refine AW.goto (tgt := 22) dX10_layBells_85 (by decide) ?_
        refine AW.sub (L' := [(0, .ref 46), (1, .int (x1 + (1 : Int32)))]) [1, 0] rfl ?_
        exact ih (x1 + (1 : Int32)) σ h
      · have h := ifn c12 h
        refine AW.aload_n dX10_layBells_39 (.refl 40) 0 rfl ?_
        refine AW.iload_n dX10_layBells_40 (.refl 41) 1 rfl ?_
        obtain ⟨r3, e2, h⟩ := b1_s h
        refine AW.callV (r' := (some (.int r3))) (σ' := σ) (rest := []) lm_X10_141 (c_X10_isQuiet e2) (by decide) (by decide) rfl rfl (by decide) rfl rfl (Nat.le_of_ble_eq_true rfl) dX10_layBells_41 (.refl 44) (st' := [.int r3]) rfl ?_
        refine AW.if_ne (tgt := 82) dX10_layBells_44 (by decide) (fun c11 => ?_) (fun c11 => ?_)
        · have h := ifn c11 h
          refine AW.iinc (v := (x1 + (1 : Int32))) (L' := [(1, .int (x1 + (1 : Int32))), (0, .ref 46)]) dX10_layBells_82 (.refl 85) 1 rfl rfl (by decide) rfl ?_
          refine AW.goto (tgt := 22) dX10_layBells_85 (by decide) ?_
          refine AW.sub (L' := [(0, .ref 46), (1, .int (x1 + (1 : Int32)))]) [1, 0] rfl ?_
          exact ih (x1 + (1 : Int32)) σ h
        · have h := ifp c11 h
          refine AW.aload_n dX10_layBells_47 (.refl 48) 0 rfl ?_
          refine AW.getR (z := 62) lk_X10_56 rfl rfl (by decide) rfl dX10_layBells_48 (.refl 51) ?_
          refine AW.aload_n dX10_layBells_51 (.refl 52) 0 rfl ?_
          refine AW.getR (z := 49) lk_X10_16 rfl rfl (by decide) rfl dX10_layBells_52 (.refl 55) ?_
          refine AW.bipush (v := (6 : Int32)) dX10_layBells_55 (.refl 57) (by decide) ?_
          refine AW.iload_n dX10_layBells_57 (.refl 58) 1 rfl ?_
          refine AW.imul dX10_layBells_58 (.refl 59) ?_
          obtain ⟨g4, h⟩ := gd_s h
          refine AW.iaload rfl g4 dX10_layBells_59 (.refl 60) ?_
          refine AW.dup2 dX10_layBells_60 (.refl 61) rfl rfl ?_
          obtain ⟨g5, h⟩ := gd_s h
          refine AW.iaload rfl g5 dX10_layBells_61 (.refl 62) ?_
          refine AW.aload_n dX10_layBells_62 (.refl 63) 0 rfl ?_
          refine AW.getR (z := 60) lk_X10_50 rfl rfl (by decide) rfl dX10_layBells_63 (.refl 66) ?_
          refine AW.bipush (v := (10 : Int32)) dX10_layBells_66 (.refl 68) (by decide) ?_
          refine AW.iload_n dX10_layBells_68 (.refl 69) 1 rfl ?_
          refine AW.imul dX10_layBells_69 (.refl 70) ?_
          refine AW.aload_n dX10_layBells_70 (.refl 71) 0 rfl ?_
          refine AW.getR (z := 55) lk_X10_34 rfl rfl (by decide) rfl dX10_layBells_71 (.refl 74) ?_
          refine AW.iload_n dX10_layBells_74 (.refl 75) 1 rfl ?_
          obtain ⟨g6, h⟩ := gd_s h
          refine AW.iaload rfl g6 dX10_layBells_75 (.refl 76) ?_
          refine AW.iadd dX10_layBells_76 (.refl 77) ?_
          refine AW.iconst (v := (1 : Int32)) dX10_layBells_77 (.refl 78) (by decide) ?_
          refine AW.isub dX10_layBells_78 (.refl 79) ?_
          obtain ⟨g7, h⟩ := gd_s h
          refine AW.iaload rfl g7 dX10_layBells_79 (.refl 80) ?_
          refine AW.ior dX10_layBells_80 (.refl 81) ?_
          obtain ⟨g8, h⟩ := gd_s h
          refine AW.iastore rfl g8 dX10_layBells_81 (.refl 82) ?_
          obtain ⟨σ9, e10, h⟩ := bnd_s h
          refine AW.nmM e10 ?_
          refine AW.iinc (v := (x1 + (1 : Int32))) (L' := [(1, .int (x1 + (1 : Int32))), (0, .ref 46)]) dX10_layBells_82 (.refl 85) 1 rfl rfl (by decide) rfl ?_
          refine AW.goto (tgt := 22) dX10_layBells_85 (by decide) ?_
          refine AW.sub (L' := [(0, .ref 46), (1, .int (x1 + (1 : Int32)))]) [1, 0] rfl ?_
          exact ih (x1 + (1 : Int32)) σ9 h
set_option maxRecDepth 20000 in
theorem a_X10_layBells_p20 {l : Launch} {G : Gg} {τ : Mm} (σ : Mm) (h : f_X10_layBells_p20 σ = some τ) : AW l G 1 M_X10_layBells none τ 20 [(0, .ref 46)] [] σ := by
  unfold f_X10_layBells_p20 at h
  refine AW.iconst (v := (0 : Int32)) dX10_layBells_20 (.refl 21) (by decide) ?_
  refine AW.istore_n (L' := [(1, .int (0 : Int32)), (0, .ref 46)]) dX10_layBells_21 (.refl 22) (by decide) rfl ?_
  refine AW.sub (L' := [(0, .ref 46), (1, .int (0 : Int32))]) [1, 0] rfl ?_
  exact a_X10_layBells_p22 FU (0 : Int32) σ h
set_option maxRecDepth 20000 in
theorem c_X10_layBells {l : Launch} {G : Gg}  {σ : Mm} {τ : Mm} (h : f_X10_layBells  σ = some τ) : MR l G 1 M_X10_layBells [.ref 46] σ none τ := by
  unfold f_X10_layBells at h
  refine MR.of (by decide +kernel) (Nat.le_of_ble_eq_true rfl) ?_
  show AW l G 1 M_X10_layBells none τ 0 [(0, .ref 46)] [] σ
  refine AW.iconst (v := (0 : Int32)) dX10_layBells_0 (.refl 1) (by decide) ?_
  refine AW.istore_n (L' := [(1, .int (0 : Int32)), (0, .ref 46)]) dX10_layBells_1 (.refl 2) (by decide) rfl ?_
  refine AW.sub (L' := [(0, .ref 46), (1, .int (0 : Int32))]) [1, 0] rfl ?_
  exact a_X10_layBells_p2 (a_X10_layBells_p20) FU (0 : Int32) σ h
def f_X10_dayLet_p4 (σ : Mm) : Nat → Int32 → Int32 → Option (Int32)
  | 0, _, _ => none
  | n + 1, x1, x2 => (if (σ.1 46 1) ≤ x2 then some x1 else gd (inB x2 5) ((if (σ.1 55 (x2).toNatClampNeg) ≤ 0 then (f_X10_dayLet_p4 σ n) (x1 ||| (0 : Int32)) (x2 + (1 : Int32)) else (f_X10_dayLet_p4 σ n) (x1 ||| (jshl (1 : Int32) x2)) (x2 + (1 : Int32)))))
def f_X10_dayLet (σ : Mm)  : Option (Int32) := f_X10_dayLet_p4 σ FU (0 : Int32) (0 : Int32)
set_option maxRecDepth 20000 in
theorem a_X10_dayLet_p4 {l : Launch} {G : Gg} {v : Int32} {σ : Mm} : ∀ (n : Nat) (x1 : Int32) (x2 : Int32), f_X10_dayLet_p4 σ n x1 x2 = some v → AW l G 0 M_X10_dayLet (some (.int v)) σ 4 [(0, .ref 46), (1, .int x1), (2, .int x2)] [] σ := by
  intro n
  induction n with
  | zero => intro x1 x2 h; exact no_some h
  | succ n ih =>
    intro x1 x2 h
    rw [f_X10_dayLet_p4] at h
    refine AW.iload_n dX10_dayLet_4 (.refl 5) 2 rfl ?_
    refine AW.aload_n dX10_dayLet_5 (.refl 6) 0 rfl ?_
    refine AW.getI lk_X10_135 rfl rfl (by decide) dX10_dayLet_6 (.refl 9) ?_
    refine AW.icmp_ge (tgt := 37) dX10_dayLet_9 (by decide) (fun c3 => ?_) (fun c3 => ?_)
    · have h := ifp c3 h
      refine AW.iload_n dX10_dayLet_37 (.refl 38) 1 rfl ?_
      cases h
      exact AW.ireturn rfl dX10_dayLet_38
    · have h := ifn c3 h
      refine AW.iload_n dX10_dayLet_12 (.refl 13) 1 rfl ?_
      refine AW.aload_n dX10_dayLet_13 (.refl 14) 0 rfl ?_
      refine AW.getR (z := 55) lk_X10_34 rfl rfl (by decide) rfl dX10_dayLet_14 (.refl 17) ?_
      refine AW.iload_n dX10_dayLet_17 (.refl 18) 2 rfl ?_
      obtain ⟨g1, h⟩ := gd_s h
      refine AW.iaload rfl g1 dX10_dayLet_18 (.refl 19) ?_
      refine AW.if_le (tgt := 28) dX10_dayLet_19 (by decide) (fun c2 => ?_) (fun c2 => ?_)
      · have h := ifp c2 h
        refine AW.iconst (v := (0 : Int32)) dX10_dayLet_28 (.refl 29) (by decide) ?_
        refine AW.ior dX10_dayLet_29 (.refl 30) ?_
        refine AW.istore_n (L' := [(1, .int (x1 ||| (0 : Int32))), (0, .ref 46), (2, .int x2)]) dX10_dayLet_30 (.refl 31) (by decide) rfl ?_
        refine AW.iinc (v := (x2 + (1 : Int32))) (L' := [(2, .int (x2 + (1 : Int32))), (1, .int (x1 ||| (0 : Int32))), (0, .ref 46)]) dX10_dayLet_31 (.refl 34) 2 rfl rfl (by decide) rfl ?_
        refine AW.goto (tgt := 4) dX10_dayLet_34 (by decide) ?_
        refine AW.sub (L' := [(0, .ref 46), (1, .int (x1 ||| (0 : Int32))), (2, .int (x2 + (1 : Int32)))]) [2, 1, 0] rfl ?_
        exact ih (x1 ||| (0 : Int32)) (x2 + (1 : Int32)) h
      · have h := ifn c2 h
        refine AW.iconst (v := (1 : Int32)) dX10_dayLet_22 (.refl 23) (by decide) ?_
        refine AW.iload_n dX10_dayLet_23 (.refl 24) 2 rfl ?_
        refine AW.ishl dX10_dayLet_24 (.refl 25) ?_
        refine AW.goto (tgt := 29) dX10_dayLet_25 (by decide) ?_
        refine AW.ior dX10_dayLet_29 (.refl 30) ?_
        refine AW.istore_n (L' := [(1, .int (x1 ||| (jshl (1 : Int32) x2))), (0, .ref 46), (2, .int x2)]) dX10_dayLet_30 (.refl 31) (by decide) rfl ?_
        refine AW.iinc (v := (x2 + (1 : Int32))) (L' := [(2, .int (x2 + (1 : Int32))), (1, .int (x1 ||| (jshl (1 : Int32) x2))), (0, .ref 46)]) dX10_dayLet_31 (.refl 34) 2 rfl rfl (by decide) rfl ?_
        refine AW.goto (tgt := 4) dX10_dayLet_34 (by decide) ?_
        refine AW.sub (L' := [(0, .ref 46), (1, .int (x1 ||| (jshl (1 : Int32) x2))), (2, .int (x2 + (1 : Int32)))]) [2, 1, 0] rfl ?_
        exact ih (x1 ||| (jshl (1 : Int32) x2)) (x2 + (1 : Int32)) h
set_option maxRecDepth 20000 in
theorem c_X10_dayLet {l : Launch} {G : Gg}  {σ : Mm} {v : Int32} (h : f_X10_dayLet σ  = some v) : MR l G 0 M_X10_dayLet [.ref 46] σ (some (.int v)) σ := by
  unfold f_X10_dayLet at h
  refine MR.of (by decide +kernel) (Nat.le_of_ble_eq_true rfl) ?_
  show AW l G 0 M_X10_dayLet (some (.int v)) σ 0 [(0, .ref 46)] [] σ
  refine AW.iconst (v := (0 : Int32)) dX10_dayLet_0 (.refl 1) (by decide) ?_
  refine AW.istore_n (L' := [(1, .int (0 : Int32)), (0, .ref 46)]) dX10_dayLet_1 (.refl 2) (by decide) rfl ?_
  refine AW.iconst (v := (0 : Int32)) dX10_dayLet_2 (.refl 3) (by decide) ?_
  refine AW.istore_n (L' := [(2, .int (0 : Int32)), (1, .int (0 : Int32)), (0, .ref 46)]) dX10_dayLet_3 (.refl 4) (by decide) rfl ?_
  refine AW.sub (L' := [(0, .ref 46), (1, .int (0 : Int32)), (2, .int (0 : Int32))]) [2, 1, 0] rfl ?_
  exact a_X10_dayLet_p4 FU (0 : Int32) (0 : Int32) h
def f_X10_isHeard_p18 (σ : Mm) (ke70 : Int32 → Int32 → Option (Int32)) : Nat → Int32 → Int32 → Int32 → Option (Int32)
  | 0, _, _, _ => none
  | n + 1, x1, x2, x3 => (if (σ.1 46 0) ≤ x3 then ke70 x1 x2 else (if x1 = 0 then (f_X10_isHeard_p18 σ ke70 n) (0 : Int32) x2 (x3 + (1 : Int32)) else gd (inB x3 3) (gd (inB x2 6) (b1 (f_X10_has σ (σ.1 62 (x3).toNatClampNeg) (σ.1 71 (x2).toNatClampNeg)) (fun (r4 : Int32) => gd (inB x2 6) (b1 (f_X10_has σ (σ.1 72 (x2).toNatClampNeg) x3) (fun (r7 : Int32) => (if r4 = r7 then (f_X10_isHeard_p18 σ ke70 n) (1 : Int32) x2 (x3 + (1 : Int32)) else (f_X10_isHeard_p18 σ ke70 n) (0 : Int32) x2 (x3 + (1 : Int32))))))))))
def f_X10_isHeard_p70 (σ : Mm) (kh : Int32 → Int32 → Option (Int32)) (x1 : Int32) (x2 : Int32) : Option (Int32) := kh x1 (x2 + (1 : Int32))
def f_X10_isHeard_p4 (σ : Mm) : Nat → Int32 → Int32 → Option (Int32)
  | 0, _, _ => none
  | n + 1, x1, x2 => (if (σ.1 46 38) ≤ x2 then gd (decide (x1 &&& 1 = x1)) (some x1) else (if x1 = 0 then gd (decide (x1 &&& 1 = x1)) (some x1) else f_X10_isHeard_p18 σ (f_X10_isHeard_p70 σ (f_X10_isHeard_p4 σ n)) FU x1 x2 (0 : Int32)))
def f_X10_isHeard (σ : Mm)  : Option (Int32) := f_X10_isHeard_p4 σ FU (1 : Int32) (0 : Int32)
set_option maxRecDepth 20000 in
theorem a_X10_isHeard_p18 {l : Launch} {G : Gg} {v : Int32} {σ : Mm} {ke70 : Int32 → Int32 → Option (Int32)} (he70 : ∀ (x1 : Int32) (x2 : Int32), ke70 x1 x2 = some v → AW l G 1 M_X10_isHeard (some (.int v)) σ 70 [(0, .ref 46), (1, .int x1), (2, .int x2)] [] σ) : ∀ (n : Nat) (x1 : Int32) (x2 : Int32) (x3 : Int32), f_X10_isHeard_p18 σ ke70 n x1 x2 x3 = some v → AW l G 1 M_X10_isHeard (some (.int v)) σ 18 [(0, .ref 46), (1, .int x1), (2, .int x2), (3, .int x3)] [] σ := by
  intro n
  induction n with
  | zero => intro x1 x2 x3 h; exact no_some h
  | succ n ih =>
    intro x1 x2 x3 h
    rw [f_X10_isHeard_p18] at h
    refine AW.iload_n dX10_isHeard_18 (.refl 19) 3 rfl ?_
    refine AW.aload_n dX10_isHeard_19 (.refl 20) 0 rfl ?_
    refine AW.getI lk_X10_132 rfl rfl (by decide) dX10_isHeard_20 (.refl 23) ?_
    refine AW.icmp_ge (tgt := 70) dX10_isHeard_23 (by decide) (fun c10 => ?_) (fun c10 => ?_)
    · have h := ifp c10 h
      refine AW.sub (L' := [(0, .ref 46), (1, .int x1), (2, .int x2)]) [0, 1, 2] rfl ?_
      exact he70 x1 x2 h
    · have h := ifn c10 h
      refine AW.iload_n dX10_isHeard_26 (.refl 27) 1 rfl ?_
      refine AW.if_eq (tgt := 62) dX10_isHeard_27 (by decide) (fun c9 => ?_) (fun c9 => ?_)
      · have h := ifp c9 h
        refine AW.iconst (v := (0 : Int32)) dX10_isHeard_62 (.refl 63) (by decide) ?_
        refine AW.istore_n (L' := [(1, .int (0 : Int32)), (0, .ref 46), (2, .int x2), (3, .int x3)]) dX10_isHeard_63 (.refl 64) (by decide) rfl ?_
        refine AW.iinc (v := (x3 + (1 : Int32))) (L' := [(3, .int (x3 + (1 : Int32))), (1, .int (0 : Int32)), (0, .ref 46), (2, .int x2)]) dX10_isHeard_64 (.refl 67) 3 rfl rfl (by decide) rfl ?_
        refine AW.goto (tgt := 18) dX10_isHeard_67 (by decide) ?_
        refine AW.sub (L' := [(0, .ref 46), (1, .int (0 : Int32)), (2, .int x2), (3, .int (x3 + (1 : Int32)))]) [2, 1, 3, 0] rfl ?_
        exact ih (0 : Int32) x2 (x3 + (1 : Int32)) h
      · have h := ifn c9 h
        refine AW.aload_n dX10_isHeard_30 (.refl 31) 0 rfl ?_
        refine AW.getR (z := 62) lk_X10_56 rfl rfl (by decide) rfl dX10_isHeard_31 (.refl 34) ?_
        refine AW.iload_n dX10_isHeard_34 (.refl 35) 3 rfl ?_
        obtain ⟨g1, h⟩ := gd_s h
        refine AW.iaload rfl g1 dX10_isHeard_35 (.refl 36) ?_
        refine AW.aload_n dX10_isHeard_36 (.refl 37) 0 rfl ?_
        refine AW.getR (z := 71) lk_X10_83 rfl rfl (by decide) rfl dX10_isHeard_37 (.refl 40) ?_
        refine AW.iload_n dX10_isHeard_40 (.refl 41) 2 rfl ?_
        obtain ⟨g2, h⟩ := gd_s h
        refine AW.iaload rfl g2 dX10_isHeard_41 (.refl 42) ?_
        obtain ⟨r4, e3, h⟩ := b1_s h
        refine AW.callS (r' := (some (.int r4))) (σ' := σ) (rest := []) lm_X10_160 (c_X10_has e3) (by decide) (by decide) rfl rfl (Nat.le_of_ble_eq_true rfl) dX10_isHeard_42 (.refl 45) (st' := [.int r4]) rfl ?_
        refine AW.aload_n dX10_isHeard_45 (.refl 46) 0 rfl ?_
        refine AW.getR (z := 72) lk_X10_86 rfl rfl (by decide) rfl dX10_isHeard_46 (.refl 49) ?_
        refine AW.iload_n dX10_isHeard_49 (.refl 50) 2 rfl ?_
        obtain ⟨g5, h⟩ := gd_s h
        refine AW.iaload rfl g5 dX10_isHeard_50 (.refl 51) ?_
        refine AW.iload_n dX10_isHeard_51 (.refl 52) 3 rfl ?_
        obtain ⟨r7, e6, h⟩ := b1_s h
        refine AW.callS (r' := (some (.int r7))) (σ' := σ) (rest := [.int r4]) lm_X10_160 (c_X10_has e6) (by decide) (by decide) rfl rfl (Nat.le_of_ble_eq_true rfl) dX10_isHeard_52 (.refl 55) (st' := [.int r7, .int r4]) rfl ?_
        refine AW.icmp_ne (tgt := 62) dX10_isHeard_55 (by decide) (fun c8 => ?_) (fun c8 => ?_)
        · have h := ifn c8 h
          refine AW.iconst (v := (0 : Int32)) dX10_isHeard_62 (.refl 63) (by decide) ?_
          refine AW.istore_n (L' := [(1, .int (0 : Int32)), (0, .ref 46), (2, .int x2), (3, .int x3)]) dX10_isHeard_63 (.refl 64) (by decide) rfl ?_
          refine AW.iinc (v := (x3 + (1 : Int32))) (L' := [(3, .int (x3 + (1 : Int32))), (1, .int (0 : Int32)), (0, .ref 46), (2, .int x2)]) dX10_isHeard_64 (.refl 67) 3 rfl rfl (by decide) rfl ?_
          refine AW.goto (tgt := 18) dX10_isHeard_67 (by decide) ?_
          refine AW.sub (L' := [(0, .ref 46), (1, .int (0 : Int32)), (2, .int x2), (3, .int (x3 + (1 : Int32)))]) [2, 1, 3, 0] rfl ?_
          exact ih (0 : Int32) x2 (x3 + (1 : Int32)) h
        · have h := ifp c8 h
          refine AW.iconst (v := (1 : Int32)) dX10_isHeard_58 (.refl 59) (by decide) ?_
          refine AW.goto (tgt := 63) dX10_isHeard_59 (by decide) ?_
          refine AW.istore_n (L' := [(1, .int (1 : Int32)), (0, .ref 46), (2, .int x2), (3, .int x3)]) dX10_isHeard_63 (.refl 64) (by decide) rfl ?_
          refine AW.iinc (v := (x3 + (1 : Int32))) (L' := [(3, .int (x3 + (1 : Int32))), (1, .int (1 : Int32)), (0, .ref 46), (2, .int x2)]) dX10_isHeard_64 (.refl 67) 3 rfl rfl (by decide) rfl ?_
          refine AW.goto (tgt := 18) dX10_isHeard_67 (by decide) ?_
          refine AW.sub (L' := [(0, .ref 46), (1, .int (1 : Int32)), (2, .int x2), (3, .int (x3 + (1 : Int32)))]) [2, 1, 3, 0] rfl ?_
          exact ih (1 : Int32) x2 (x3 + (1 : Int32)) h
set_option maxRecDepth 20000 in
theorem a_X10_isHeard_p70 {l : Launch} {G : Gg} {v : Int32} {σ : Mm} {kh : Int32 → Int32 → Option (Int32)} (hkh : ∀ (x1 : Int32) (x2 : Int32), kh x1 x2 = some v → AW l G 1 M_X10_isHeard (some (.int v)) σ 4 [(0, .ref 46), (1, .int x1), (2, .int x2)] [] σ) (x1 : Int32) (x2 : Int32) (h : f_X10_isHeard_p70 σ kh x1 x2 = some v) : AW l G 1 M_X10_isHeard (some (.int v)) σ 70 [(0, .ref 46), (1, .int x1), (2, .int x2)] [] σ := by
  unfold f_X10_isHeard_p70 at h
  refine AW.iinc (v := (x2 + (1 : Int32))) (L' := [(2, .int (x2 + (1 : Int32))), (0, .ref 46), (1, .int x1)]) dX10_isHeard_70 (.refl 73) 2 rfl rfl (by decide) rfl ?_
  refine AW.goto (tgt := 4) dX10_isHeard_73 (by decide) ?_
  refine AW.sub (L' := [(0, .ref 46), (1, .int x1), (2, .int (x2 + (1 : Int32)))]) [1, 2, 0] rfl ?_
  exact hkh x1 (x2 + (1 : Int32)) h
set_option maxRecDepth 20000 in
theorem a_X10_isHeard_p4 {l : Launch} {G : Gg} {v : Int32} {σ : Mm} : ∀ (n : Nat) (x1 : Int32) (x2 : Int32), f_X10_isHeard_p4 σ n x1 x2 = some v → AW l G 1 M_X10_isHeard (some (.int v)) σ 4 [(0, .ref 46), (1, .int x1), (2, .int x2)] [] σ := by
  intro n
  induction n with
  | zero => intro x1 x2 h; exact no_some h
  | succ n ih =>
    intro x1 x2 h
    rw [f_X10_isHeard_p4] at h
    refine AW.iload_n dX10_isHeard_4 (.refl 5) 2 rfl ?_
    refine AW.aload_n dX10_isHeard_5 (.refl 6) 0 rfl ?_
    refine AW.getI lk_X10_273 rfl rfl (by decide) dX10_isHeard_6 (.refl 9) ?_
    refine AW.icmp_ge (tgt := 76) dX10_isHeard_9 (by decide) (fun c4 => ?_) (fun c4 => ?_)
    · have h := ifp c4 h
      refine AW.iload_n dX10_isHeard_76 (.refl 77) 1 rfl ?_
      obtain ⟨g1, h⟩ := gd_s h
      cases h
      exact AW.zreturn rfl (of_decide_eq_true g1) dX10_isHeard_77
    · have h := ifn c4 h
      refine AW.iload_n dX10_isHeard_12 (.refl 13) 1 rfl ?_
      refine AW.if_eq (tgt := 76) dX10_isHeard_13 (by decide) (fun c3 => ?_) (fun c3 => ?_)
      · have h := ifp c3 h
        refine AW.iload_n dX10_isHeard_76 (.refl 77) 1 rfl ?_
        obtain ⟨g2, h⟩ := gd_s h
        cases h
        exact AW.zreturn rfl (of_decide_eq_true g2) dX10_isHeard_77
      · have h := ifn c3 h
        refine AW.iconst (v := (0 : Int32)) dX10_isHeard_16 (.refl 17) (by decide) ?_
        refine AW.istore_n (L' := [(3, .int (0 : Int32)), (0, .ref 46), (1, .int x1), (2, .int x2)]) dX10_isHeard_17 (.refl 18) (by decide) rfl ?_
        refine AW.sub (L' := [(0, .ref 46), (1, .int x1), (2, .int x2), (3, .int (0 : Int32))]) [1, 2, 3, 0] rfl ?_
        exact a_X10_isHeard_p18 (a_X10_isHeard_p70 ih) FU x1 x2 (0 : Int32) h
set_option maxRecDepth 20000 in
theorem c_X10_isHeard {l : Launch} {G : Gg}  {σ : Mm} {v : Int32} (h : f_X10_isHeard σ  = some v) : MR l G 1 M_X10_isHeard [.ref 46] σ (some (.int v)) σ := by
  unfold f_X10_isHeard at h
  refine MR.of (by decide +kernel) (Nat.le_of_ble_eq_true rfl) ?_
  show AW l G 1 M_X10_isHeard (some (.int v)) σ 0 [(0, .ref 46)] [] σ
  refine AW.iconst (v := (1 : Int32)) dX10_isHeard_0 (.refl 1) (by decide) ?_
  refine AW.istore_n (L' := [(1, .int (1 : Int32)), (0, .ref 46)]) dX10_isHeard_1 (.refl 2) (by decide) rfl ?_
  refine AW.iconst (v := (0 : Int32)) dX10_isHeard_2 (.refl 3) (by decide) ?_
  refine AW.istore_n (L' := [(2, .int (0 : Int32)), (1, .int (1 : Int32)), (0, .ref 46)]) dX10_isHeard_3 (.refl 4) (by decide) rfl ?_
  refine AW.sub (L' := [(0, .ref 46), (1, .int (1 : Int32)), (2, .int (0 : Int32))]) [2, 1, 0] rfl ?_
  exact a_X10_isHeard_p4 FU (1 : Int32) (0 : Int32) h
def f_X10_lookAt_p122 : Nat → Int32 → Int32 → Mm → Option (Mm)
  | 0, _, _, _ => none
  | n + 1, x2, x3, σ => (if (10 : Int32) ≤ x3 then some σ else gd (inB x3 10) (gd (inB x3 10) (bnd ((sI σ 58 (x3).toNatClampNeg ((σ.1 58 (x3).toNatClampNeg) + ((jshr x2 x3) &&& (1 : Int32))))) (fun (σ3 : Mm) => (f_X10_lookAt_p122 n) x2 (x3 + (1 : Int32)) σ3))))
def f_X10_lookAt_p58 (x1 : Int32) (σ : Mm) : Option (Mm) := b1 (f_X10_layBells σ) (fun (τ2 : Mm) => b1 (f_X10_isHeard τ2) (fun (r4 : Int32) => (if r4 = 0 then some τ2 else bnd ((sI (sI τ2 46 21 ((τ2.1 46 21) + (1 : Int32))) 46 22 (((sI τ2 46 21 ((τ2.1 46 21) + (1 : Int32))).1 46 22) &&& x1))) (fun (σ5 : Mm) => gd (inB (0 : Int32) 3) (gd (inB (1 : Int32) 3) (gd (inB (2 : Int32) 3) (bnd (((((sI σ5 46 23 ((σ5.1 46 23) ||| x1)).1 62 ((0 : Int32)).toNatClampNeg) ||| ((sI σ5 46 23 ((σ5.1 46 23) ||| x1)).1 62 ((1 : Int32)).toNatClampNeg)) ||| ((sI σ5 46 23 ((σ5.1 46 23) ||| x1)).1 62 ((2 : Int32)).toNatClampNeg))) (fun (y10 : Int32) => f_X10_lookAt_p122 FU y10 (0 : Int32) (sI σ5 46 23 ((σ5.1 46 23) ||| x1))))))))))
def f_X10_lookAt_p35 (ke58 : Int32 → Mm → Option (Mm)) : Nat → Int32 → Int32 → Mm → Option (Mm)
  | 0, _, _, _ => none
  | n + 1, x1, x2, σ => (if (5 : Int32) ≤ x2 then ke58 x1 σ else gd (inB x2 5) (gd (inB x2 5) ((f_X10_lookAt_p35 ke58 n) x1 (x2 + (1 : Int32)) (sI σ 56 (x2).toNatClampNeg (σ.1 55 (x2).toNatClampNeg)))))
def f_X10_lookAt  (σ : Mm) : Option (Mm) := b1 (f_X10_dayLet σ) (fun (r2 : Int32) => gd (inB r2 32) (b1 (f_X10_coinsOf (sI σ 57 (r2).toNatClampNeg ((1 : Int32) &&& 1)) r2) (fun (r5 : Int32) => (if r5 ≤ ((sI σ 57 (r2).toNatClampNeg ((1 : Int32) &&& 1)).1 46 20) then (f_X10_lookAt_p58) r2 (sI σ 57 (r2).toNatClampNeg ((1 : Int32) &&& 1)) else b1 (f_X10_coinsOf (sI σ 57 (r2).toNatClampNeg ((1 : Int32) &&& 1)) r2) (fun (r7 : Int32) => f_X10_lookAt_p35 (f_X10_lookAt_p58) FU r2 (0 : Int32) (sI (sI σ 57 (r2).toNatClampNeg ((1 : Int32) &&& 1)) 46 20 r7))))))
set_option maxRecDepth 20000 in
theorem a_X10_lookAt_p122 {l : Launch} {G : Gg} {τ : Mm} : ∀ (n : Nat) (x2 : Int32) (x3 : Int32) (σ : Mm), f_X10_lookAt_p122 n x2 x3 σ = some τ → AW l G 2 M_X10_lookAt none τ 122 [(0, .ref 46), (2, .int x2), (3, .int x3)] [] σ := by
  intro n
  induction n with
  | zero => intro x2 x3 σ h; exact no_some h
  | succ n ih =>
    intro x2 x3 σ h
    rw [f_X10_lookAt_p122] at h
    refine AW.iload_n dX10_lookAt_122 (.refl 123) 2 rfl ?_
    refine AW.bipush (v := (10 : Int32)) dX10_lookAt_123 (.refl 125) (by decide) ?_
    refine AW.icmp_ge (tgt := 148) dX10_lookAt_125 (by decide) (fun c5 => ?_) (fun c5 => ?_)
    · have h := ifp c5 h
      cases h
      exact AW.vreturn rfl dX10_lookAt_148
    · have h := ifn c5 h
      refine AW.aload_n dX10_lookAt_128 (.refl 129) 0 rfl ?_
      refine AW.getR (z := 58) lk_X10_44 rfl rfl (by decide) rfl dX10_lookAt_129 (.refl 132) ?_
      refine AW.iload_n dX10_lookAt_132 (.refl 133) 2 rfl ?_
      refine AW.dup2 dX10_lookAt_133 (.refl 134) rfl rfl ?_
      obtain ⟨g1, h⟩ := gd_s h
      refine AW.iaload rfl g1 dX10_lookAt_134 (.refl 135) ?_
      refine AW.iload_n dX10_lookAt_135 (.refl 136) 1 rfl ?_
      refine AW.iload_n dX10_lookAt_136 (.refl 137) 2 rfl ?_
      refine AW.ishr dX10_lookAt_137 (.refl 138) ?_
      refine AW.iconst (v := (1 : Int32)) dX10_lookAt_138 (.refl 139) (by decide) ?_
      refine AW.iand dX10_lookAt_139 (.refl 140) ?_
      refine AW.iadd dX10_lookAt_140 (.refl 141) ?_
      obtain ⟨g2, h⟩ := gd_s h
      refine AW.iastore rfl g2 dX10_lookAt_141 (.refl 142) ?_
      obtain ⟨σ3, e4, h⟩ := bnd_s h
      refine AW.nmM e4 ?_
      refine AW.iinc (v := (x3 + (1 : Int32))) (L' := [(3, .int (x3 + (1 : Int32))), (0, .ref 46), (2, .int x2)]) dX10_lookAt_142 (.refl 145) 2 rfl rfl (by decide) rfl ?_
      refine AW.goto (tgt := 122) dX10_lookAt_145 (by decide) ?_
      refine AW.sub (L' := [(0, .ref 46), (2, .int x2), (3, .int (x3 + (1 : Int32)))]) [1, 2, 0] rfl ?_
      exact ih x2 (x3 + (1 : Int32)) σ3 h
set_option maxRecDepth 20000 in
theorem a_X10_lookAt_p58 {l : Launch} {G : Gg} {τ : Mm} (x1 : Int32) (σ : Mm) (h : f_X10_lookAt_p58 x1 σ = some τ) : AW l G 2 M_X10_lookAt none τ 58 [(0, .ref 46), (1, .int x1)] [] σ := by
  unfold f_X10_lookAt_p58 at h
  refine AW.aload_n dX10_lookAt_58 (.refl 59) 0 rfl ?_
  obtain ⟨τ2, e1, h⟩ := b1_s h
  refine AW.callV (r' := none) (σ' := τ2) (rest := []) lm_X10_211 (c_X10_layBells e1) (by decide) (by decide) rfl rfl (by decide) rfl rfl (Nat.le_of_ble_eq_true rfl) dX10_lookAt_59 (.refl 62) (st' := []) rfl ?_
  refine AW.aload_n dX10_lookAt_62 (.refl 63) 0 rfl ?_
  obtain ⟨r4, e3, h⟩ := b1_s h
  refine AW.callV (r' := (some (.int r4))) (σ' := τ2) (rest := []) lm_X10_214 (c_X10_isHeard e3) (by decide) (by decide) rfl rfl (by decide) rfl rfl (Nat.le_of_ble_eq_true rfl) dX10_lookAt_63 (.refl 66) (st' := [.int r4]) rfl ?_
  refine AW.if_eq (tgt := 148) dX10_lookAt_66 (by decide) (fun c12 => ?_) (fun c12 => ?_)
  · have h := ifp c12 h
    cases h
    exact AW.vreturn rfl dX10_lookAt_148
  · have h := ifn c12 h
    refine AW.aload_n dX10_lookAt_69 (.refl 70) 0 rfl ?_
    refine AW.dup dX10_lookAt_70 (.refl 71) rfl ?_
    refine AW.getI lk_X10_218 rfl rfl (by decide) dX10_lookAt_71 (.refl 74) ?_
    refine AW.iconst (v := (1 : Int32)) dX10_lookAt_74 (.refl 75) (by decide) ?_
    refine AW.iadd dX10_lookAt_75 (.refl 76) ?_
    refine AW.putI lp_X10_218 rfl rfl (by decide) dX10_lookAt_76 (.refl 79) ?_
    refine AW.aload_n dX10_lookAt_79 (.refl 80) 0 rfl ?_
    refine AW.dup dX10_lookAt_80 (.refl 81) rfl ?_
    refine AW.getI lk_X10_221 rfl rfl (by decide) dX10_lookAt_81 (.refl 84) ?_
    refine AW.iload_n dX10_lookAt_84 (.refl 85) 1 rfl ?_
    refine AW.iand dX10_lookAt_85 (.refl 86) ?_
    refine AW.putI lp_X10_221 rfl rfl (by decide) dX10_lookAt_86 (.refl 89) ?_
    obtain ⟨σ5, e6, h⟩ := bnd_s h
    refine AW.nmM e6 ?_
    refine AW.aload_n dX10_lookAt_89 (.refl 90) 0 rfl ?_
    refine AW.dup dX10_lookAt_90 (.refl 91) rfl ?_
    refine AW.getI lk_X10_224 rfl rfl (by decide) dX10_lookAt_91 (.refl 94) ?_
    refine AW.iload_n dX10_lookAt_94 (.refl 95) 1 rfl ?_
    refine AW.ior dX10_lookAt_95 (.refl 96) ?_
    refine AW.putI lp_X10_224 rfl rfl (by decide) dX10_lookAt_96 (.refl 99) ?_
    refine AW.aload_n dX10_lookAt_99 (.refl 100) 0 rfl ?_
    refine AW.getR (z := 62) lk_X10_56 rfl rfl (by decide) rfl dX10_lookAt_100 (.refl 103) ?_
    refine AW.iconst (v := (0 : Int32)) dX10_lookAt_103 (.refl 104) (by decide) ?_
    obtain ⟨g7, h⟩ := gd_s h
    refine AW.iaload rfl g7 dX10_lookAt_104 (.refl 105) ?_
    refine AW.aload_n dX10_lookAt_105 (.refl 106) 0 rfl ?_
    refine AW.getR (z := 62) lk_X10_56 rfl rfl (by decide) rfl dX10_lookAt_106 (.refl 109) ?_
    refine AW.iconst (v := (1 : Int32)) dX10_lookAt_109 (.refl 110) (by decide) ?_
    obtain ⟨g8, h⟩ := gd_s h
    refine AW.iaload rfl g8 dX10_lookAt_110 (.refl 111) ?_
    refine AW.ior dX10_lookAt_111 (.refl 112) ?_
    refine AW.aload_n dX10_lookAt_112 (.refl 113) 0 rfl ?_
    refine AW.getR (z := 62) lk_X10_56 rfl rfl (by decide) rfl dX10_lookAt_113 (.refl 116) ?_
    refine AW.iconst (v := (2 : Int32)) dX10_lookAt_116 (.refl 117) (by decide) ?_
    obtain ⟨g9, h⟩ := gd_s h
    refine AW.iaload rfl g9 dX10_lookAt_117 (.refl 118) ?_
    refine AW.ior dX10_lookAt_118 (.refl 119) ?_
    obtain ⟨y10, e11, h⟩ := bnd_s h
    refine AW.nmI e11 ?_
    refine AW.istore_n (L' := [(2, .int y10), (0, .ref 46), (1, .int x1)]) dX10_lookAt_119 (.refl 120) (by decide) rfl ?_
    refine AW.iconst (v := (0 : Int32)) dX10_lookAt_120 (.refl 121) (by decide) ?_
    refine AW.istore_n (L' := [(3, .int (0 : Int32)), (2, .int y10), (0, .ref 46), (1, .int x1)]) dX10_lookAt_121 (.refl 122) (by decide) rfl ?_
    refine AW.sub (L' := [(0, .ref 46), (2, .int y10), (3, .int (0 : Int32))]) [2, 1, 0] rfl ?_
    exact a_X10_lookAt_p122 FU y10 (0 : Int32) (sI σ5 46 23 ((σ5.1 46 23) ||| x1)) h
set_option maxRecDepth 20000 in
theorem a_X10_lookAt_p35 {l : Launch} {G : Gg} {τ : Mm} {ke58 : Int32 → Mm → Option (Mm)} (he58 : ∀ (x1 : Int32) (σ : Mm), ke58 x1 σ = some τ → AW l G 2 M_X10_lookAt none τ 58 [(0, .ref 46), (1, .int x1)] [] σ) : ∀ (n : Nat) (x1 : Int32) (x2 : Int32) (σ : Mm), f_X10_lookAt_p35 ke58 n x1 x2 σ = some τ → AW l G 2 M_X10_lookAt none τ 35 [(0, .ref 46), (1, .int x1), (2, .int x2)] [] σ := by
  intro n
  induction n with
  | zero => intro x1 x2 σ h; exact no_some h
  | succ n ih =>
    intro x1 x2 σ h
    rw [f_X10_lookAt_p35] at h
    refine AW.iload_n dX10_lookAt_35 (.refl 36) 2 rfl ?_
    refine AW.iconst (v := (5 : Int32)) dX10_lookAt_36 (.refl 37) (by decide) ?_
    refine AW.icmp_ge (tgt := 58) dX10_lookAt_37 (by decide) (fun c3 => ?_) (fun c3 => ?_)
    · have h := ifp c3 h
      refine AW.sub (L' := [(0, .ref 46), (1, .int x1)]) [0, 1] rfl ?_
      exact he58 x1 σ h
    · have h := ifn c3 h
      refine AW.aload_n dX10_lookAt_40 (.refl 41) 0 rfl ?_
      refine AW.getR (z := 56) lk_X10_37 rfl rfl (by decide) rfl dX10_lookAt_41 (.refl 44) ?_
      refine AW.iload_n dX10_lookAt_44 (.refl 45) 2 rfl ?_
      refine AW.aload_n dX10_lookAt_45 (.refl 46) 0 rfl ?_
      refine AW.getR (z := 55) lk_X10_34 rfl rfl (by decide) rfl dX10_lookAt_46 (.refl 49) ?_
      refine AW.iload_n dX10_lookAt_49 (.refl 50) 2 rfl ?_
      obtain ⟨g1, h⟩ := gd_s h
      refine AW.iaload rfl g1 dX10_lookAt_50 (.refl 51) ?_
      obtain ⟨g2, h⟩ := gd_s h
      refine AW.iastore rfl g2 dX10_lookAt_51 (.refl 52) ?_
      refine AW.iinc (v := (x2 + (1 : Int32))) (L' := [(2, .int (x2 + (1 : Int32))), (0, .ref 46), (1, .int x1)]) dX10_lookAt_52 (.refl 55) 2 rfl rfl (by decide) rfl ?_
      refine AW.goto (tgt := 35) dX10_lookAt_55 (by decide) ?_
      refine AW.sub (L' := [(0, .ref 46), (1, .int x1), (2, .int (x2 + (1 : Int32)))]) [1, 2, 0] rfl ?_
      exact ih x1 (x2 + (1 : Int32)) (sI σ 56 (x2).toNatClampNeg (σ.1 55 (x2).toNatClampNeg)) h
set_option maxRecDepth 20000 in
theorem c_X10_lookAt {l : Launch} {G : Gg}  {σ : Mm} {τ : Mm} (h : f_X10_lookAt  σ = some τ) : MR l G 2 M_X10_lookAt [.ref 46] σ none τ := by
  unfold f_X10_lookAt at h
  refine MR.of (by decide +kernel) (Nat.le_of_ble_eq_true rfl) ?_
  show AW l G 2 M_X10_lookAt none τ 0 [(0, .ref 46)] [] σ
  refine AW.aload_n dX10_lookAt_0 (.refl 1) 0 rfl ?_
  obtain ⟨r2, e1, h⟩ := b1_s h
  refine AW.callV (r' := (some (.int r2))) (σ' := σ) (rest := []) lm_X10_205 (c_X10_dayLet e1) (by decide) (by decide) rfl rfl (by decide) rfl rfl (Nat.le_of_ble_eq_true rfl) dX10_lookAt_1 (.refl 4) (st' := [.int r2]) rfl ?_
  refine AW.istore_n (L' := [(1, .int r2), (0, .ref 46)]) dX10_lookAt_4 (.refl 5) (by decide) rfl ?_
  refine AW.aload_n dX10_lookAt_5 (.refl 6) 1 rfl ?_
  refine AW.getR (z := 57) lk_X10_40 rfl rfl (by decide) rfl dX10_lookAt_6 (.refl 9) ?_
  refine AW.iload_n dX10_lookAt_9 (.refl 10) 0 rfl ?_
  refine AW.iconst (v := (1 : Int32)) dX10_lookAt_10 (.refl 11) (by decide) ?_
  obtain ⟨g3, h⟩ := gd_s h
  refine AW.bastore rfl g3 dX10_lookAt_11 (.refl 12) ?_
  refine AW.aload_n dX10_lookAt_12 (.refl 13) 1 rfl ?_
  refine AW.iload_n dX10_lookAt_13 (.refl 14) 0 rfl ?_
  obtain ⟨r5, e4, h⟩ := b1_s h
  refine AW.callV (r' := (some (.int r5))) (σ' := (sI σ 57 (r2).toNatClampNeg ((1 : Int32) &&& 1))) (rest := []) lm_X10_199 (c_X10_coinsOf e4) (by decide) (by decide) rfl rfl (by decide) rfl rfl (Nat.le_of_ble_eq_true rfl) dX10_lookAt_14 (.refl 17) (st' := [.int r5]) rfl ?_
  refine AW.aload_n dX10_lookAt_17 (.refl 18) 1 rfl ?_
  refine AW.getI lk_X10_208 rfl rfl (by decide) dX10_lookAt_18 (.refl 21) ?_
  refine AW.icmp_le (tgt := 58) dX10_lookAt_21 (by decide) (fun c8 => ?_) (fun c8 => ?_)
  · have h := ifp c8 h
    refine AW.sub (L' := [(0, .ref 46), (1, .int r2)]) [1, 0] rfl ?_
    exact (a_X10_lookAt_p58) r2 (sI σ 57 (r2).toNatClampNeg ((1 : Int32) &&& 1)) h
  · have h := ifn c8 h
    refine AW.aload_n dX10_lookAt_24 (.refl 25) 1 rfl ?_
    refine AW.aload_n dX10_lookAt_25 (.refl 26) 1 rfl ?_
    refine AW.iload_n dX10_lookAt_26 (.refl 27) 0 rfl ?_
    obtain ⟨r7, e6, h⟩ := b1_s h
    refine AW.callV (r' := (some (.int r7))) (σ' := (sI σ 57 (r2).toNatClampNeg ((1 : Int32) &&& 1))) (rest := [.ref 46]) lm_X10_199 (c_X10_coinsOf e6) (by decide) (by decide) rfl rfl (by decide) rfl rfl (Nat.le_of_ble_eq_true rfl) dX10_lookAt_27 (.refl 30) (st' := [.int r7, .ref 46]) rfl ?_
    refine AW.putI lp_X10_208 rfl rfl (by decide) dX10_lookAt_30 (.refl 33) ?_
    refine AW.iconst (v := (0 : Int32)) dX10_lookAt_33 (.refl 34) (by decide) ?_
    refine AW.istore_n (L' := [(2, .int (0 : Int32)), (1, .int r2), (0, .ref 46)]) dX10_lookAt_34 (.refl 35) (by decide) rfl ?_
    refine AW.sub (L' := [(0, .ref 46), (1, .int r2), (2, .int (0 : Int32))]) [2, 1, 0] rfl ?_
    exact a_X10_lookAt_p35 (a_X10_lookAt_p58) FU r2 (0 : Int32) (sI (sI σ 57 (r2).toNatClampNeg ((1 : Int32) &&& 1)) 46 20 r7) h
