def f_X10_tower_p30 (ke71 : Mm → Option (Int32 × Mm)) : Nat → Int32 → Mm → Option (Int32 × Mm)
  | 0, _, _ => none
  | n + 1, x1, σ => (if (3 : Int32) ≤ x1 then ke71 σ else gd (inB ((2 : Int32) * x1) 6) (gd (inB x1 3) (bnd ((sI σ 47 (x1).toNatClampNeg (σ.1 50 (((2 : Int32) * x1)).toNatClampNeg))) (fun (σ3 : Mm) => gd (inB (((2 : Int32) * x1) + (1 : Int32)) 6) (gd (inB x1 3) (bnd ((sI σ3 48 (x1).toNatClampNeg (σ3.1 50 ((((2 : Int32) * x1) + (1 : Int32))).toNatClampNeg))) (fun (σ7 : Mm) => (f_X10_tower_p30 ke71 n) (x1 + (1 : Int32)) σ7)))))))
def f_X10_tower_p73 (ke97 : Mm → Option (Int32 × Mm)) : Nat → Int32 → Mm → Option (Int32 × Mm)
  | 0, _, _ => none
  | n + 1, x1, σ => (if (30 : Int32) ≤ x1 then ke97 σ else gd (inB x1 30) (gd (inB x1 30) ((f_X10_tower_p73 ke97 n) (x1 + (1 : Int32)) (sI σ 49 (x1).toNatClampNeg (σ.1 51 (x1).toNatClampNeg)))))
def f_X10_tower_p99 (ke118 : Mm → Option (Int32 × Mm)) : Nat → Int32 → Mm → Option (Int32 × Mm)
  | 0, _, _ => none
  | n + 1, x1, σ => (if (5 : Int32) ≤ x1 then ke118 σ else gd (inB x1 5) ((f_X10_tower_p99 ke118 n) (x1 + (1 : Int32)) (sI σ 52 (x1).toNatClampNeg (-9 : Int32))))
def f_X10_tower_p118 (σ : Mm) : Option (Int32 × Mm) := gd (inB (0 : Int32) 2) (bnd ((sI (sI σ 46 14 (0 : Int32)) 73 ((0 : Int32)).toNatClampNeg ((0 : Int32) &&& 1))) (fun (σ2 : Mm) => gd (inB (1 : Int32) 2) (some ((((10 : Int32) * ((sI σ2 73 ((1 : Int32)).toNatClampNeg ((0 : Int32) &&& 1)).1 46 0)) + ((sI σ2 73 ((1 : Int32)).toNatClampNeg ((0 : Int32) &&& 1)).1 46 1)), (sI σ2 73 ((1 : Int32)).toNatClampNeg ((0 : Int32) &&& 1))))))
def f_X10_tower_p97 (σ : Mm) : Option (Int32 × Mm) := f_X10_tower_p99 (f_X10_tower_p118) FU (0 : Int32) σ
def f_X10_tower_p71 (σ : Mm) : Option (Int32 × Mm) := f_X10_tower_p73 (f_X10_tower_p97) FU (0 : Int32) σ
def f_X10_tower  (σ : Mm) : Option (Int32 × Mm) := b2 (f_X10_readText σ) (fun (r2 : Int32) (τ3 : Mm) => (if r2 = (-9 : Int32) then bnd ((sI (sI τ3 46 0 (τ3.1 46 12)) 46 1 ((sI τ3 46 0 (τ3.1 46 12)).1 46 13))) (fun (σ4 : Mm) => f_X10_tower_p30 (f_X10_tower_p71) FU (0 : Int32) σ4) else some ((-3 : Int32), τ3)))
set_option maxRecDepth 20000 in
theorem a_X10_tower_p30 {l : Launch} {G : Gg} {v : Int32} {τ : Mm} {ke71 : Mm → Option (Int32 × Mm)} (he71 : ∀  (σ : Mm), ke71  σ = some (v, τ) → AW l G 5 M_X10_tower (some (.int v)) τ 71 [(0, .ref 46)] [] σ) : ∀ (n : Nat) (x1 : Int32) (σ : Mm), f_X10_tower_p30 ke71 n x1 σ = some (v, τ) → AW l G 5 M_X10_tower (some (.int v)) τ 30 [(0, .ref 46), (1, .int x1)] [] σ := by
  intro n
  induction n with
  | zero => intro x1 σ h; exact no_some h
  | succ n ih =>
    intro x1 σ h
    rw [f_X10_tower_p30] at h
    refine AW.iload_n dX10_tower_30 (.refl 31) 1 rfl ?_
    refine AW.iconst (v := (3 : Int32)) dX10_tower_31 (.refl 32) (by decide) ?_
    refine AW.icmp_ge (tgt := 71) dX10_tower_32 (by decide) (fun c9 => ?_) (fun c9 => ?_)
    · have h := ifp c9 h
      refine AW.sub (L' := [(0, .ref 46)]) [0] rfl ?_
      exact he71 σ h
    · have h := ifn c9 h
      refine AW.aload_n dX10_tower_35 (.refl 36) 0 rfl ?_
      refine AW.getR (z := 47) lk_X10_7 rfl rfl (by decide) rfl dX10_tower_36 (.refl 39) ?_
      refine AW.iload_n dX10_tower_39 (.refl 40) 1 rfl ?_
      refine AW.aload_n dX10_tower_40 (.refl 41) 0 rfl ?_
      refine AW.getR (z := 50) lk_X10_19 rfl rfl (by decide) rfl dX10_tower_41 (.refl 44) ?_
      refine AW.iconst (v := (2 : Int32)) dX10_tower_44 (.refl 45) (by decide) ?_
      refine AW.iload_n dX10_tower_45 (.refl 46) 1 rfl ?_
      refine AW.imul dX10_tower_46 (.refl 47) ?_
      obtain ⟨g1, h⟩ := gd_s h
      refine AW.iaload rfl g1 dX10_tower_47 (.refl 48) ?_
      obtain ⟨g2, h⟩ := gd_s h
      refine AW.iastore rfl g2 dX10_tower_48 (.refl 49) ?_
      obtain ⟨σ3, e4, h⟩ := bnd_s h
      refine AW.nmM e4 ?_
      refine AW.aload_n dX10_tower_49 (.refl 50) 0 rfl ?_
      refine AW.getR (z := 48) lk_X10_13 rfl rfl (by decide) rfl dX10_tower_50 (.refl 53) ?_
      refine AW.iload_n dX10_tower_53 (.refl 54) 1 rfl ?_
      refine AW.aload_n dX10_tower_54 (.refl 55) 0 rfl ?_
      refine AW.getR (z := 50) lk_X10_19 rfl rfl (by decide) rfl dX10_tower_55 (.refl 58) ?_
      refine AW.iconst (v := (2 : Int32)) dX10_tower_58 (.refl 59) (by decide) ?_
      refine AW.iload_n dX10_tower_59 (.refl 60) 1 rfl ?_
      refine AW.imul dX10_tower_60 (.refl 61) ?_
      refine AW.iconst (v := (1 : Int32)) dX10_tower_61 (.refl 62) (by decide) ?_
      refine AW.iadd dX10_tower_62 (.refl 63) ?_
      obtain ⟨g5, h⟩ := gd_s h
      refine AW.iaload rfl g5 dX10_tower_63 (.refl 64) ?_
      obtain ⟨g6, h⟩ := gd_s h
      refine AW.iastore rfl g6 dX10_tower_64 (.refl 65) ?_
      obtain ⟨σ7, e8, h⟩ := bnd_s h
      refine AW.nmM e8 ?_
      refine AW.iinc (v := (x1 + (1 : Int32))) (L' := [(1, .int (x1 + (1 : Int32))), (0, .ref 46)]) dX10_tower_65 (.refl 68) 1 rfl rfl (by decide) rfl ?_
      refine AW.goto (tgt := 30) dX10_tower_68 (by decide) ?_
      refine AW.sub (L' := [(0, .ref 46), (1, .int (x1 + (1 : Int32)))]) [1, 0] rfl ?_
      exact ih (x1 + (1 : Int32)) σ7 h
set_option maxRecDepth 20000 in
theorem a_X10_tower_p73 {l : Launch} {G : Gg} {v : Int32} {τ : Mm} {ke97 : Mm → Option (Int32 × Mm)} (he97 : ∀  (σ : Mm), ke97  σ = some (v, τ) → AW l G 5 M_X10_tower (some (.int v)) τ 97 [(0, .ref 46)] [] σ) : ∀ (n : Nat) (x1 : Int32) (σ : Mm), f_X10_tower_p73 ke97 n x1 σ = some (v, τ) → AW l G 5 M_X10_tower (some (.int v)) τ 73 [(0, .ref 46), (1, .int x1)] [] σ := by
  intro n
  induction n with
  | zero => intro x1 σ h; exact no_some h
  | succ n ih =>
    intro x1 σ h
    rw [f_X10_tower_p73] at h
    refine AW.iload_n dX10_tower_73 (.refl 74) 1 rfl ?_
    refine AW.bipush (v := (30 : Int32)) dX10_tower_74 (.refl 76) (by decide) ?_
    refine AW.icmp_ge (tgt := 97) dX10_tower_76 (by decide) (fun c3 => ?_) (fun c3 => ?_)
    · have h := ifp c3 h
      refine AW.sub (L' := [(0, .ref 46)]) [0] rfl ?_
      exact he97 σ h
    · have h := ifn c3 h
      refine AW.aload_n dX10_tower_79 (.refl 80) 0 rfl ?_
      refine AW.getR (z := 49) lk_X10_16 rfl rfl (by decide) rfl dX10_tower_80 (.refl 83) ?_
      refine AW.iload_n dX10_tower_83 (.refl 84) 1 rfl ?_
      refine AW.aload_n dX10_tower_84 (.refl 85) 0 rfl ?_
      refine AW.getR (z := 51) lk_X10_22 rfl rfl (by decide) rfl dX10_tower_85 (.refl 88) ?_
      refine AW.iload_n dX10_tower_88 (.refl 89) 1 rfl ?_
      obtain ⟨g1, h⟩ := gd_s h
      refine AW.iaload rfl g1 dX10_tower_89 (.refl 90) ?_
      obtain ⟨g2, h⟩ := gd_s h
      refine AW.iastore rfl g2 dX10_tower_90 (.refl 91) ?_
      refine AW.iinc (v := (x1 + (1 : Int32))) (L' := [(1, .int (x1 + (1 : Int32))), (0, .ref 46)]) dX10_tower_91 (.refl 94) 1 rfl rfl (by decide) rfl ?_
      refine AW.goto (tgt := 73) dX10_tower_94 (by decide) ?_
      refine AW.sub (L' := [(0, .ref 46), (1, .int (x1 + (1 : Int32)))]) [1, 0] rfl ?_
      exact ih (x1 + (1 : Int32)) (sI σ 49 (x1).toNatClampNeg (σ.1 51 (x1).toNatClampNeg)) h
set_option maxRecDepth 20000 in
theorem a_X10_tower_p99 {l : Launch} {G : Gg} {v : Int32} {τ : Mm} {ke118 : Mm → Option (Int32 × Mm)} (he118 : ∀  (σ : Mm), ke118  σ = some (v, τ) → AW l G 5 M_X10_tower (some (.int v)) τ 118 [(0, .ref 46)] [] σ) : ∀ (n : Nat) (x1 : Int32) (σ : Mm), f_X10_tower_p99 ke118 n x1 σ = some (v, τ) → AW l G 5 M_X10_tower (some (.int v)) τ 99 [(0, .ref 46), (1, .int x1)] [] σ := by
  intro n
  induction n with
  | zero => intro x1 σ h; exact no_some h
  | succ n ih =>
    intro x1 σ h
    rw [f_X10_tower_p99] at h
    refine AW.iload_n dX10_tower_99 (.refl 100) 1 rfl ?_
    refine AW.iconst (v := (5 : Int32)) dX10_tower_100 (.refl 101) (by decide) ?_
    refine AW.icmp_ge (tgt := 118) dX10_tower_101 (by decide) (fun c2 => ?_) (fun c2 => ?_)
    · have h := ifp c2 h
      refine AW.sub (L' := [(0, .ref 46)]) [0] rfl ?_
      exact he118 σ h
    · have h := ifn c2 h
      refine AW.aload_n dX10_tower_104 (.refl 105) 0 rfl ?_
      refine AW.getR (z := 52) lk_X10_25 rfl rfl (by decide) rfl dX10_tower_105 (.refl 108) ?_
      refine AW.iload_n dX10_tower_108 (.refl 109) 1 rfl ?_
      refine AW.bipush (v := (-9 : Int32)) dX10_tower_109 (.refl 111) (by decide) ?_
      obtain ⟨g1, h⟩ := gd_s h
      refine AW.iastore rfl g1 dX10_tower_111 (.refl 112) ?_
      refine AW.iinc (v := (x1 + (1 : Int32))) (L' := [(1, .int (x1 + (1 : Int32))), (0, .ref 46)]) dX10_tower_112 (.refl 115) 1 rfl rfl (by decide) rfl ?_
      refine AW.goto (tgt := 99) dX10_tower_115 (by decide) ?_
      refine AW.sub (L' := [(0, .ref 46), (1, .int (x1 + (1 : Int32)))]) [1, 0] rfl ?_
      exact ih (x1 + (1 : Int32)) (sI σ 52 (x1).toNatClampNeg (-9 : Int32)) h
set_option maxRecDepth 20000 in
theorem a_X10_tower_p118 {l : Launch} {G : Gg} {v : Int32} {τ : Mm} (σ : Mm) (h : f_X10_tower_p118 σ = some (v, τ)) : AW l G 5 M_X10_tower (some (.int v)) τ 118 [(0, .ref 46)] [] σ := by
  unfold f_X10_tower_p118 at h
  refine AW.aload_n dX10_tower_118 (.refl 119) 0 rfl ?_
  refine AW.iconst (v := (0 : Int32)) dX10_tower_119 (.refl 120) (by decide) ?_
  refine AW.putI lp_X10_138 rfl rfl (by decide) dX10_tower_120 (.refl 123) ?_
  refine AW.aload_n dX10_tower_123 (.refl 124) 0 rfl ?_
  refine AW.getR (z := 73) lk_X10_89 rfl rfl (by decide) rfl dX10_tower_124 (.refl 127) ?_
  refine AW.iconst (v := (0 : Int32)) dX10_tower_127 (.refl 128) (by decide) ?_
  refine AW.iconst (v := (0 : Int32)) dX10_tower_128 (.refl 129) (by decide) ?_
  obtain ⟨g1, h⟩ := gd_s h
  refine AW.bastore rfl g1 dX10_tower_129 (.refl 130) ?_
  obtain ⟨σ2, e3, h⟩ := bnd_s h
  refine AW.nmM e3 ?_
  refine AW.aload_n dX10_tower_130 (.refl 131) 0 rfl ?_
  refine AW.getR (z := 73) lk_X10_89 rfl rfl (by decide) rfl dX10_tower_131 (.refl 134) ?_
  refine AW.iconst (v := (1 : Int32)) dX10_tower_134 (.refl 135) (by decide) ?_
  refine AW.iconst (v := (0 : Int32)) dX10_tower_135 (.refl 136) (by decide) ?_
  obtain ⟨g4, h⟩ := gd_s h
  refine AW.bastore rfl g4 dX10_tower_136 (.refl 137) ?_
  refine AW.bipush (v := (10 : Int32)) dX10_tower_137 (.refl 139) (by decide) ?_
  refine AW.aload_n dX10_tower_139 (.refl 140) 0 rfl ?_
  refine AW.getI lk_X10_132 rfl rfl (by decide) dX10_tower_140 (.refl 143) ?_
  refine AW.imul dX10_tower_143 (.refl 144) ?_
  refine AW.aload_n dX10_tower_144 (.refl 145) 0 rfl ?_
  refine AW.getI lk_X10_135 rfl rfl (by decide) dX10_tower_145 (.refl 148) ?_
  refine AW.iadd dX10_tower_148 (.refl 149) ?_
  cases h
  exact AW.ireturn rfl dX10_tower_149
set_option maxRecDepth 20000 in
theorem a_X10_tower_p97 {l : Launch} {G : Gg} {v : Int32} {τ : Mm} (σ : Mm) (h : f_X10_tower_p97 σ = some (v, τ)) : AW l G 5 M_X10_tower (some (.int v)) τ 97 [(0, .ref 46)] [] σ := by
  unfold f_X10_tower_p97 at h
  refine AW.iconst (v := (0 : Int32)) dX10_tower_97 (.refl 98) (by decide) ?_
  refine AW.istore_n (L' := [(1, .int (0 : Int32)), (0, .ref 46)]) dX10_tower_98 (.refl 99) (by decide) rfl ?_
  refine AW.sub (L' := [(0, .ref 46), (1, .int (0 : Int32))]) [1, 0] rfl ?_
  exact a_X10_tower_p99 (a_X10_tower_p118) FU (0 : Int32) σ h
set_option maxRecDepth 20000 in
theorem a_X10_tower_p71 {l : Launch} {G : Gg} {v : Int32} {τ : Mm} (σ : Mm) (h : f_X10_tower_p71 σ = some (v, τ)) : AW l G 5 M_X10_tower (some (.int v)) τ 71 [(0, .ref 46)] [] σ := by
  unfold f_X10_tower_p71 at h
  refine AW.iconst (v := (0 : Int32)) dX10_tower_71 (.refl 72) (by decide) ?_
  refine AW.istore_n (L' := [(1, .int (0 : Int32)), (0, .ref 46)]) dX10_tower_72 (.refl 73) (by decide) rfl ?_
  refine AW.sub (L' := [(0, .ref 46), (1, .int (0 : Int32))]) [1, 0] rfl ?_
  exact a_X10_tower_p73 (a_X10_tower_p97) FU (0 : Int32) σ h
set_option maxRecDepth 20000 in
theorem c_X10_tower {l : Launch} {G : Gg}  {σ : Mm} {v : Int32} {τ : Mm} (h : f_X10_tower  σ = some (v, τ)) : MR l G 5 M_X10_tower [.ref 46] σ (some (.int v)) τ := by
  unfold f_X10_tower at h
  refine MR.of (by decide +kernel) (Nat.le_of_ble_eq_true rfl) ?_
  show AW l G 5 M_X10_tower (some (.int v)) τ 0 [(0, .ref 46)] [] σ
  refine AW.aload_n dX10_tower_0 (.refl 1) 0 rfl ?_
  obtain ⟨r2, τ3, e1, h⟩ := b2_s h
  refine AW.callV (r' := (some (.int r2))) (σ' := τ3) (rest := []) lm_X10_128 (c_X10_readText e1) (by decide) (by decide) rfl rfl (by decide) rfl rfl (Nat.le_of_ble_eq_true rfl) dX10_tower_1 (.refl 4) (st' := [.int r2]) rfl ?_
  refine AW.bipush (v := (-9 : Int32)) dX10_tower_4 (.refl 6) (by decide) ?_
  refine AW.icmp_eq (tgt := 12) dX10_tower_6 (by decide) (fun c6 => ?_) (fun c6 => ?_)
  · have h := ifp c6 h
    refine AW.aload_n dX10_tower_12 (.refl 13) 0 rfl ?_
    refine AW.aload_n dX10_tower_13 (.refl 14) 0 rfl ?_
    refine AW.getI lk_X10_111 rfl rfl (by decide) dX10_tower_14 (.refl 17) ?_
    refine AW.putI lp_X10_132 rfl rfl (by decide) dX10_tower_17 (.refl 20) ?_
    refine AW.aload_n dX10_tower_20 (.refl 21) 0 rfl ?_
    refine AW.aload_n dX10_tower_21 (.refl 22) 0 rfl ?_
    refine AW.getI lk_X10_114 rfl rfl (by decide) dX10_tower_22 (.refl 25) ?_
    refine AW.putI lp_X10_135 rfl rfl (by decide) dX10_tower_25 (.refl 28) ?_
    obtain ⟨σ4, e5, h⟩ := bnd_s h
    refine AW.nmM e5 ?_
    refine AW.iconst (v := (0 : Int32)) dX10_tower_28 (.refl 29) (by decide) ?_
    refine AW.istore_n (L' := [(1, .int (0 : Int32)), (0, .ref 46)]) dX10_tower_29 (.refl 30) (by decide) rfl ?_
    refine AW.sub (L' := [(0, .ref 46), (1, .int (0 : Int32))]) [1, 0] rfl ?_
    exact a_X10_tower_p30 (a_X10_tower_p71) FU (0 : Int32) σ4 h
  · have h := ifn c6 h
    refine AW.bipush (v := (-3 : Int32)) dX10_tower_9 (.refl 11) (by decide) ?_
    cases h
    exact AW.ireturn rfl dX10_tower_11
def f_X10_isBell (σ : Mm) (x1 : Int32) : Option (Int32) := b1 (f_X10_in σ x1.toInt64 (0 : Int64) (((σ.1 46 0) - (1 : Int32)).toInt64)) (fun (r2 : Int32) => gd (decide (r2 &&& 1 = r2)) (some r2))
set_option maxRecDepth 20000 in
theorem c_X10_isBell {l : Launch} {G : Gg} {x1 : Int32} {σ : Mm} {v : Int32} (h : f_X10_isBell σ x1 = some v) : MR l G 1 M_X10_isBell [.ref 46, .int x1] σ (some (.int v)) σ := by
  unfold f_X10_isBell at h
  refine MR.of (by decide +kernel) (Nat.le_of_ble_eq_true rfl) ?_
  show AW l G 1 M_X10_isBell (some (.int v)) σ 0 [(0, .ref 46), (1, .int x1)] [] σ
  refine AW.iload_n dX10_isBell_0 (.refl 1) 1 rfl ?_
  refine AW.i2l dX10_isBell_1 (.refl 2) ?_
  refine AW.lconst (v := (0 : Int64)) dX10_isBell_2 (.refl 3) (by decide) ?_
  refine AW.aload_n dX10_isBell_3 (.refl 4) 0 rfl ?_
  refine AW.getI lk_X10_132 rfl rfl (by decide) dX10_isBell_4 (.refl 7) ?_
  refine AW.iconst (v := (1 : Int32)) dX10_isBell_7 (.refl 8) (by decide) ?_
  refine AW.isub dX10_isBell_8 (.refl 9) ?_
  refine AW.i2l dX10_isBell_9 (.refl 10) ?_
  obtain ⟨r2, e1, h⟩ := b1_s h
  refine AW.callS (r' := (some (.int r2))) (σ' := σ) (rest := []) lm_X10_97 (c_X10_in e1) (by decide) (by decide) rfl rfl (Nat.le_of_ble_eq_true rfl) dX10_isBell_10 (.refl 13) (st' := [.int r2]) rfl ?_
  obtain ⟨g3, h⟩ := gd_s h
  cases h
  exact AW.zreturn rfl (of_decide_eq_true g3) dX10_isBell_13
def f_X10_isBidder (σ : Mm) (x1 : Int32) : Option (Int32) := b1 (f_X10_in σ x1.toInt64 (0 : Int64) (((σ.1 46 1) - (1 : Int32)).toInt64)) (fun (r2 : Int32) => gd (decide (r2 &&& 1 = r2)) (some r2))
set_option maxRecDepth 20000 in
theorem c_X10_isBidder {l : Launch} {G : Gg} {x1 : Int32} {σ : Mm} {v : Int32} (h : f_X10_isBidder σ x1 = some v) : MR l G 1 M_X10_isBidder [.ref 46, .int x1] σ (some (.int v)) σ := by
  unfold f_X10_isBidder at h
  refine MR.of (by decide +kernel) (Nat.le_of_ble_eq_true rfl) ?_
  show AW l G 1 M_X10_isBidder (some (.int v)) σ 0 [(0, .ref 46), (1, .int x1)] [] σ
  refine AW.iload_n dX10_isBidder_0 (.refl 1) 1 rfl ?_
  refine AW.i2l dX10_isBidder_1 (.refl 2) ?_
  refine AW.lconst (v := (0 : Int64)) dX10_isBidder_2 (.refl 3) (by decide) ?_
  refine AW.aload_n dX10_isBidder_3 (.refl 4) 0 rfl ?_
  refine AW.getI lk_X10_135 rfl rfl (by decide) dX10_isBidder_4 (.refl 7) ?_
  refine AW.iconst (v := (1 : Int32)) dX10_isBidder_7 (.refl 8) (by decide) ?_
  refine AW.isub dX10_isBidder_8 (.refl 9) ?_
  refine AW.i2l dX10_isBidder_9 (.refl 10) ?_
  obtain ⟨r2, e1, h⟩ := b1_s h
  refine AW.callS (r' := (some (.int r2))) (σ' := σ) (rest := []) lm_X10_97 (c_X10_in e1) (by decide) (by decide) rfl rfl (Nat.le_of_ble_eq_true rfl) dX10_isBidder_10 (.refl 13) (st' := [.int r2]) rfl ?_
  obtain ⟨g3, h⟩ := gd_s h
  cases h
  exact AW.zreturn rfl (of_decide_eq_true g3) dX10_isBidder_13
def f_X10_isQuiet (σ : Mm) (x1 : Int32) : Option (Int32) := gd (inB ((6 : Int32) * x1) 30) ((if (σ.1 49 (((6 : Int32) * x1)).toNatClampNeg) = (-9 : Int32) then some (1 : Int32) else some (0 : Int32)))
set_option maxRecDepth 20000 in
theorem c_X10_isQuiet {l : Launch} {G : Gg} {x1 : Int32} {σ : Mm} {v : Int32} (h : f_X10_isQuiet σ x1 = some v) : MR l G 0 M_X10_isQuiet [.ref 46, .int x1] σ (some (.int v)) σ := by
  unfold f_X10_isQuiet at h
  refine MR.of (by decide +kernel) (Nat.le_of_ble_eq_true rfl) ?_
  show AW l G 0 M_X10_isQuiet (some (.int v)) σ 0 [(0, .ref 46), (1, .int x1)] [] σ
  refine AW.aload_n dX10_isQuiet_0 (.refl 1) 0 rfl ?_
  refine AW.getR (z := 49) lk_X10_16 rfl rfl (by decide) rfl dX10_isQuiet_1 (.refl 4) ?_
  refine AW.bipush (v := (6 : Int32)) dX10_isQuiet_4 (.refl 6) (by decide) ?_
  refine AW.iload_n dX10_isQuiet_6 (.refl 7) 1 rfl ?_
  refine AW.imul dX10_isQuiet_7 (.refl 8) ?_
  obtain ⟨g1, h⟩ := gd_s h
  refine AW.iaload rfl g1 dX10_isQuiet_8 (.refl 9) ?_
  refine AW.bipush (v := (-9 : Int32)) dX10_isQuiet_9 (.refl 11) (by decide) ?_
  refine AW.icmp_ne (tgt := 18) dX10_isQuiet_11 (by decide) (fun c2 => ?_) (fun c2 => ?_)
  · have h := ifn c2 h
    refine AW.iconst (v := (0 : Int32)) dX10_isQuiet_18 (.refl 19) (by decide) ?_
    cases h
    exact AW.zreturn rfl (by decide) dX10_isQuiet_19
  · have h := ifp c2 h
    refine AW.iconst (v := (1 : Int32)) dX10_isQuiet_14 (.refl 15) (by decide) ?_
    refine AW.goto (tgt := 19) dX10_isQuiet_15 (by decide) ?_
    cases h
    exact AW.zreturn rfl (by decide) dX10_isQuiet_19
def f_X10_strokeAt (σ : Mm) (x1 : Int32) (x2 : Int32) (x3 : Int32) : Option (Int32) := gd (inB ((6 : Int32) * x1) 30) (gd (inB (σ.1 49 (((6 : Int32) * x1)).toNatClampNeg) 3) (gd (inB (((6 : Int32) * x1) + (2 : Int32)) 30) (some (x2 + (x3 * ((σ.1 47 ((σ.1 49 (((6 : Int32) * x1)).toNatClampNeg)).toNatClampNeg) + (σ.1 49 ((((6 : Int32) * x1) + (2 : Int32))).toNatClampNeg)))))))
set_option maxRecDepth 20000 in
theorem c_X10_strokeAt {l : Launch} {G : Gg} {x1 : Int32} {x2 : Int32} {x3 : Int32} {σ : Mm} {v : Int32} (h : f_X10_strokeAt σ x1 x2 x3 = some v) : MR l G 0 M_X10_strokeAt [.ref 46, .int x1, .int x2, .int x3] σ (some (.int v)) σ := by
  unfold f_X10_strokeAt at h
  refine MR.of (by decide +kernel) (Nat.le_of_ble_eq_true rfl) ?_
  show AW l G 0 M_X10_strokeAt (some (.int v)) σ 0 [(0, .ref 46), (1, .int x1), (2, .int x2), (3, .int x3)] [] σ
  refine AW.iload_n dX10_strokeAt_0 (.refl 1) 2 rfl ?_
  refine AW.iload_n dX10_strokeAt_1 (.refl 2) 3 rfl ?_
  refine AW.aload_n dX10_strokeAt_2 (.refl 3) 0 rfl ?_
  refine AW.getR (z := 47) lk_X10_7 rfl rfl (by decide) rfl dX10_strokeAt_3 (.refl 6) ?_
  refine AW.aload_n dX10_strokeAt_6 (.refl 7) 0 rfl ?_
  refine AW.getR (z := 49) lk_X10_16 rfl rfl (by decide) rfl dX10_strokeAt_7 (.refl 10) ?_
  refine AW.bipush (v := (6 : Int32)) dX10_strokeAt_10 (.refl 12) (by decide) ?_
  refine AW.iload_n dX10_strokeAt_12 (.refl 13) 1 rfl ?_
  refine AW.imul dX10_strokeAt_13 (.refl 14) ?_
  obtain ⟨g1, h⟩ := gd_s h
  refine AW.iaload rfl g1 dX10_strokeAt_14 (.refl 15) ?_
  obtain ⟨g2, h⟩ := gd_s h
  refine AW.iaload rfl g2 dX10_strokeAt_15 (.refl 16) ?_
  refine AW.aload_n dX10_strokeAt_16 (.refl 17) 0 rfl ?_
  refine AW.getR (z := 49) lk_X10_16 rfl rfl (by decide) rfl dX10_strokeAt_17 (.refl 20) ?_
  refine AW.bipush (v := (6 : Int32)) dX10_strokeAt_20 (.refl 22) (by decide) ?_
  refine AW.iload_n dX10_strokeAt_22 (.refl 23) 1 rfl ?_
  refine AW.imul dX10_strokeAt_23 (.refl 24) ?_
  refine AW.iconst (v := (2 : Int32)) dX10_strokeAt_24 (.refl 25) (by decide) ?_
  refine AW.iadd dX10_strokeAt_25 (.refl 26) ?_
  obtain ⟨g3, h⟩ := gd_s h
  refine AW.iaload rfl g3 dX10_strokeAt_26 (.refl 27) ?_
  refine AW.iadd dX10_strokeAt_27 (.refl 28) ?_
  refine AW.imul dX10_strokeAt_28 (.refl 29) ?_
  refine AW.iadd dX10_strokeAt_29 (.refl 30) ?_
  cases h
  exact AW.ireturn rfl dX10_strokeAt_30
def f_X10_mayBegin_p79 (σ : Mm) (x1 : Int32) (x2 : Int32) (x3 : Int32) (s0 : Int32) : Option (Int32) := (if s0 = 0 then gd (inB (((6 : Int32) * x1) + (3 : Int32)) 30) ((if x2 < (σ.1 49 ((((6 : Int32) * x1) + (3 : Int32))).toNatClampNeg) then some (0 : Int32) else b1 (f_X10_strokeAt σ x1 x2 (x3 - (1 : Int32))) (fun (r3 : Int32) => gd (inB ((6 : Int32) * x1) 30) (gd (inB (σ.1 49 (((6 : Int32) * x1)).toNatClampNeg) 3) (gd (inB (((6 : Int32) * x1) + (4 : Int32)) 30) ((if (σ.1 49 ((((6 : Int32) * x1) + (4 : Int32))).toNatClampNeg) < ((r3 + (σ.1 47 ((σ.1 49 (((6 : Int32) * x1)).toNatClampNeg)).toNatClampNeg)) - (1 : Int32)) then some (0 : Int32) else some (1 : Int32)))))))) else some (0 : Int32))
def f_X10_mayBegin_p78 (σ : Mm) (x1 : Int32) (x2 : Int32) (x3 : Int32) : Option (Int32) := (f_X10_mayBegin_p79 σ) x1 x2 x3 (0 : Int32)
def f_X10_mayBegin (σ : Mm) (x1 : Int32) (x2 : Int32) : Option (Int32) := b1 (f_X10_isQuiet σ x1) (fun (r2 : Int32) => (if r2 = 0 then gd (inB (((6 : Int32) * x1) + (1 : Int32)) 30) (bnd ((σ.1 49 ((((6 : Int32) * x1) + (1 : Int32))).toNatClampNeg)) (fun (y4 : Int32) => (if y4 ≤ (1 : Int32) then (f_X10_mayBegin_p78 σ) x1 x2 y4 else gd (inB (((6 : Int32) * x1) + (2 : Int32)) 30) (gd (inB ((6 : Int32) * x1) 30) (gd (inB (σ.1 49 (((6 : Int32) * x1)).toNatClampNeg) 3) ((if (σ.1 48 ((σ.1 49 (((6 : Int32) * x1)).toNatClampNeg)).toNatClampNeg) ≤ (σ.1 49 ((((6 : Int32) * x1) + (2 : Int32))).toNatClampNeg) then (f_X10_mayBegin_p78 σ) x1 x2 y4 else (f_X10_mayBegin_p79 σ) x1 x2 y4 (1 : Int32)))))))) else gd (inB (((6 : Int32) * x1) + (3 : Int32)) 30) ((if x2 = (σ.1 49 ((((6 : Int32) * x1) + (3 : Int32))).toNatClampNeg) then some (1 : Int32) else some (0 : Int32)))))
set_option maxRecDepth 20000 in
theorem a_X10_mayBegin_p79 {l : Launch} {G : Gg} {v : Int32} {σ : Mm} (x1 : Int32) (x2 : Int32) (x3 : Int32) (s0 : Int32) (h : f_X10_mayBegin_p79 σ x1 x2 x3 s0 = some v) : AW l G 1 M_X10_mayBegin (some (.int v)) σ 79 [(0, .ref 46), (1, .int x1), (2, .int x2), (3, .int x3)] [.int s0] σ := by
  unfold f_X10_mayBegin_p79 at h
  refine AW.istore (L' := [(4, .int s0), (0, .ref 46), (1, .int x1), (2, .int x2), (3, .int x3)]) dX10_mayBegin_79 (.refl 81) (by decide) rfl ?_
  refine AW.iload dX10_mayBegin_81 (.refl 83) 0 rfl ?_
  refine AW.if_ne (tgt := 145) dX10_mayBegin_83 (by decide) (fun c9 => ?_) (fun c9 => ?_)
  · have h := ifn c9 h
    refine AW.iconst (v := (0 : Int32)) dX10_mayBegin_145 (.refl 146) (by decide) ?_
    cases h
    exact AW.zreturn rfl (by decide) dX10_mayBegin_146
  · have h := ifp c9 h
    refine AW.iload_n dX10_mayBegin_86 (.refl 87) 3 rfl ?_
    refine AW.aload_n dX10_mayBegin_87 (.refl 88) 1 rfl ?_
    refine AW.getR (z := 49) lk_X10_16 rfl rfl (by decide) rfl dX10_mayBegin_88 (.refl 91) ?_
    refine AW.bipush (v := (6 : Int32)) dX10_mayBegin_91 (.refl 93) (by decide) ?_
    refine AW.iload_n dX10_mayBegin_93 (.refl 94) 2 rfl ?_
    refine AW.imul dX10_mayBegin_94 (.refl 95) ?_
    refine AW.iconst (v := (3 : Int32)) dX10_mayBegin_95 (.refl 96) (by decide) ?_
    refine AW.iadd dX10_mayBegin_96 (.refl 97) ?_
    obtain ⟨g1, h⟩ := gd_s h
    refine AW.iaload rfl g1 dX10_mayBegin_97 (.refl 98) ?_
    refine AW.icmp_lt (tgt := 145) dX10_mayBegin_98 (by decide) (fun c8 => ?_) (fun c8 => ?_)
    · have h := ifp c8 h
      refine AW.iconst (v := (0 : Int32)) dX10_mayBegin_145 (.refl 146) (by decide) ?_
      cases h
      exact AW.zreturn rfl (by decide) dX10_mayBegin_146
    · have h := ifn c8 h
      refine AW.aload_n dX10_mayBegin_101 (.refl 102) 1 rfl ?_
      refine AW.iload_n dX10_mayBegin_102 (.refl 103) 2 rfl ?_
      refine AW.iload_n dX10_mayBegin_103 (.refl 104) 3 rfl ?_
      refine AW.iload_n dX10_mayBegin_104 (.refl 105) 4 rfl ?_
      refine AW.iconst (v := (1 : Int32)) dX10_mayBegin_105 (.refl 106) (by decide) ?_
      refine AW.isub dX10_mayBegin_106 (.refl 107) ?_
      obtain ⟨r3, e2, h⟩ := b1_s h
      refine AW.callV (r' := (some (.int r3))) (σ' := σ) (rest := []) lm_X10_145 (c_X10_strokeAt e2) (by decide) (by decide) rfl rfl (by decide) rfl rfl (Nat.le_of_ble_eq_true rfl) dX10_mayBegin_107 (.refl 110) (st' := [.int r3]) rfl ?_
      refine AW.aload_n dX10_mayBegin_110 (.refl 111) 1 rfl ?_
      refine AW.getR (z := 47) lk_X10_7 rfl rfl (by decide) rfl dX10_mayBegin_111 (.refl 114) ?_
      refine AW.aload_n dX10_mayBegin_114 (.refl 115) 1 rfl ?_
      refine AW.getR (z := 49) lk_X10_16 rfl rfl (by decide) rfl dX10_mayBegin_115 (.refl 118) ?_
      refine AW.bipush (v := (6 : Int32)) dX10_mayBegin_118 (.refl 120) (by decide) ?_
      refine AW.iload_n dX10_mayBegin_120 (.refl 121) 2 rfl ?_
      refine AW.imul dX10_mayBegin_121 (.refl 122) ?_
      obtain ⟨g4, h⟩ := gd_s h
      refine AW.iaload rfl g4 dX10_mayBegin_122 (.refl 123) ?_
      obtain ⟨g5, h⟩ := gd_s h
      refine AW.iaload rfl g5 dX10_mayBegin_123 (.refl 124) ?_
      refine AW.iadd dX10_mayBegin_124 (.refl 125) ?_
      refine AW.iconst (v := (1 : Int32)) dX10_mayBegin_125 (.refl 126) (by decide) ?_
      refine AW.isub dX10_mayBegin_126 (.refl 127) ?_
      refine AW.aload_n dX10_mayBegin_127 (.refl 128) 1 rfl ?_
      refine AW.getR (z := 49) lk_X10_16 rfl rfl (by decide) rfl dX10_mayBegin_128 (.refl 131) ?_
      refine AW.bipush (v := (6 : Int32)) dX10_mayBegin_131 (.refl 133) (by decide) ?_
      refine AW.iload_n dX10_mayBegin_133 (.refl 134) 2 rfl ?_
      refine AW.imul dX10_mayBegin_134 (.refl 135) ?_
      refine AW.iconst (v := (4 : Int32)) dX10_mayBegin_135 (.refl 136) (by decide) ?_
      refine AW.iadd dX10_mayBegin_136 (.refl 137) ?_
      obtain ⟨g6, h⟩ := gd_s h
      refine AW.iaload rfl g6 dX10_mayBegin_137 (.refl 138) ?_
      refine AW.icmp_gt (tgt := 145) dX10_mayBegin_138 (by decide) (fun c7 => ?_) (fun c7 => ?_)
      · have h := ifp c7 h
        refine AW.iconst (v := (0 : Int32)) dX10_mayBegin_145 (.refl 146) (by decide) ?_
        cases h
        exact AW.zreturn rfl (by decide) dX10_mayBegin_146
      · have h := ifn c7 h
        refine AW.iconst (v := (1 : Int32)) dX10_mayBegin_141 (.refl 142) (by decide) ?_
        refine AW.goto (tgt := 146) dX10_mayBegin_142 (by decide) ?_
        cases h
        exact AW.zreturn rfl (by decide) dX10_mayBegin_146
set_option maxRecDepth 20000 in
theorem a_X10_mayBegin_p78 {l : Launch} {G : Gg} {v : Int32} {σ : Mm} (x1 : Int32) (x2 : Int32) (x3 : Int32) (h : f_X10_mayBegin_p78 σ x1 x2 x3 = some v) : AW l G 1 M_X10_mayBegin (some (.int v)) σ 78 [(0, .ref 46), (1, .int x1), (2, .int x2), (3, .int x3)] [] σ := by
  unfold f_X10_mayBegin_p78 at h
  refine AW.iconst (v := (0 : Int32)) dX10_mayBegin_78 (.refl 79) (by decide) ?_
  exact (a_X10_mayBegin_p79) x1 x2 x3 (0 : Int32) h
set_option maxRecDepth 20000 in
theorem c_X10_mayBegin {l : Launch} {G : Gg} {x1 : Int32} {x2 : Int32} {σ : Mm} {v : Int32} (h : f_X10_mayBegin σ x1 x2 = some v) : MR l G 1 M_X10_mayBegin [.ref 46, .int x1, .int x2] σ (some (.int v)) σ := by
  unfold f_X10_mayBegin at h
  refine MR.of (by decide +kernel) (Nat.le_of_ble_eq_true rfl) ?_
  show AW l G 1 M_X10_mayBegin (some (.int v)) σ 0 [(0, .ref 46), (1, .int x1), (2, .int x2)] [] σ
  refine AW.aload_n dX10_mayBegin_0 (.refl 1) 0 rfl ?_
  refine AW.iload_n dX10_mayBegin_1 (.refl 2) 1 rfl ?_
  obtain ⟨r2, e1, h⟩ := b1_s h
  refine AW.callV (r' := (some (.int r2))) (σ' := σ) (rest := []) lm_X10_141 (c_X10_isQuiet e1) (by decide) (by decide) rfl rfl (by decide) rfl rfl (Nat.le_of_ble_eq_true rfl) dX10_mayBegin_2 (.refl 5) (st' := [.int r2]) rfl ?_
  refine AW.if_eq (tgt := 29) dX10_mayBegin_5 (by decide) (fun c13 => ?_) (fun c13 => ?_)
  · have h := ifp c13 h
    refine AW.aload_n dX10_mayBegin_29 (.refl 30) 0 rfl ?_
    refine AW.getR (z := 49) lk_X10_16 rfl rfl (by decide) rfl dX10_mayBegin_30 (.refl 33) ?_
    refine AW.bipush (v := (6 : Int32)) dX10_mayBegin_33 (.refl 35) (by decide) ?_
    refine AW.iload_n dX10_mayBegin_35 (.refl 36) 1 rfl ?_
    refine AW.imul dX10_mayBegin_36 (.refl 37) ?_
    refine AW.iconst (v := (1 : Int32)) dX10_mayBegin_37 (.refl 38) (by decide) ?_
    refine AW.iadd dX10_mayBegin_38 (.refl 39) ?_
    obtain ⟨g3, h⟩ := gd_s h
    refine AW.iaload rfl g3 dX10_mayBegin_39 (.refl 40) ?_
    obtain ⟨y4, e5, h⟩ := bnd_s h
    refine AW.nmI e5 ?_
    refine AW.istore_n (L' := [(3, .int y4), (0, .ref 46), (1, .int x1), (2, .int x2)]) dX10_mayBegin_40 (.refl 41) (by decide) rfl ?_
    refine AW.iload_n dX10_mayBegin_41 (.refl 42) 0 rfl ?_
    refine AW.iconst (v := (1 : Int32)) dX10_mayBegin_42 (.refl 43) (by decide) ?_
    refine AW.icmp_le (tgt := 78) dX10_mayBegin_43 (by decide) (fun c10 => ?_) (fun c10 => ?_)
    · have h := ifp c10 h
      refine AW.sub (L' := [(0, .ref 46), (1, .int x1), (2, .int x2), (3, .int y4)]) [1, 2, 3, 0] rfl ?_
      exact (a_X10_mayBegin_p78) x1 x2 y4 h
    · have h := ifn c10 h
      refine AW.aload_n dX10_mayBegin_46 (.refl 47) 1 rfl ?_
      refine AW.getR (z := 49) lk_X10_16 rfl rfl (by decide) rfl dX10_mayBegin_47 (.refl 50) ?_
      refine AW.bipush (v := (6 : Int32)) dX10_mayBegin_50 (.refl 52) (by decide) ?_
      refine AW.iload_n dX10_mayBegin_52 (.refl 53) 2 rfl ?_
      refine AW.imul dX10_mayBegin_53 (.refl 54) ?_
      refine AW.iconst (v := (2 : Int32)) dX10_mayBegin_54 (.refl 55) (by decide) ?_
      refine AW.iadd dX10_mayBegin_55 (.refl 56) ?_
      obtain ⟨g6, h⟩ := gd_s h
      refine AW.iaload rfl g6 dX10_mayBegin_56 (.refl 57) ?_
      refine AW.aload_n dX10_mayBegin_57 (.refl 58) 1 rfl ?_
      refine AW.getR (z := 48) lk_X10_13 rfl rfl (by decide) rfl dX10_mayBegin_58 (.refl 61) ?_
      refine AW.aload_n dX10_mayBegin_61 (.refl 62) 1 rfl ?_
      refine AW.getR (z := 49) lk_X10_16 rfl rfl (by decide) rfl dX10_mayBegin_62 (.refl 65) ?_
      refine AW.bipush (v := (6 : Int32)) dX10_mayBegin_65 (.refl 67) (by decide) ?_
      refine AW.iload_n dX10_mayBegin_67 (.refl 68) 2 rfl ?_
      refine AW.imul dX10_mayBegin_68 (.refl 69) ?_
      obtain ⟨g7, h⟩ := gd_s h
      refine AW.iaload rfl g7 dX10_mayBegin_69 (.refl 70) ?_
      obtain ⟨g8, h⟩ := gd_s h
      refine AW.iaload rfl g8 dX10_mayBegin_70 (.refl 71) ?_
      refine AW.icmp_ge (tgt := 78) dX10_mayBegin_71 (by decide) (fun c9 => ?_) (fun c9 => ?_)
      · have h := ifp c9 h
        refine AW.sub (L' := [(0, .ref 46), (1, .int x1), (2, .int x2), (3, .int y4)]) [1, 2, 3, 0] rfl ?_
        exact (a_X10_mayBegin_p78) x1 x2 y4 h
      · have h := ifn c9 h
        refine AW.iconst (v := (1 : Int32)) dX10_mayBegin_74 (.refl 75) (by decide) ?_
        refine AW.goto (tgt := 79) dX10_mayBegin_75 (by decide) ?_
        refine AW.sub (L' := [(0, .ref 46), (1, .int x1), (2, .int x2), (3, .int y4)]) [1, 2, 3, 0] rfl ?_
        exact (a_X10_mayBegin_p79) x1 x2 y4 (1 : Int32) h
  · have h := ifn c13 h
    refine AW.iload_n dX10_mayBegin_8 (.refl 9) 2 rfl ?_
    refine AW.aload_n dX10_mayBegin_9 (.refl 10) 0 rfl ?_
    refine AW.getR (z := 49) lk_X10_16 rfl rfl (by decide) rfl dX10_mayBegin_10 (.refl 13) ?_
    refine AW.bipush (v := (6 : Int32)) dX10_mayBegin_13 (.refl 15) (by decide) ?_
    refine AW.iload_n dX10_mayBegin_15 (.refl 16) 1 rfl ?_
    refine AW.imul dX10_mayBegin_16 (.refl 17) ?_
    refine AW.iconst (v := (3 : Int32)) dX10_mayBegin_17 (.refl 18) (by decide) ?_
    refine AW.iadd dX10_mayBegin_18 (.refl 19) ?_
    obtain ⟨g11, h⟩ := gd_s h
    refine AW.iaload rfl g11 dX10_mayBegin_19 (.refl 20) ?_
    refine AW.icmp_ne (tgt := 27) dX10_mayBegin_20 (by decide) (fun c12 => ?_) (fun c12 => ?_)
    · have h := ifn c12 h
      refine AW.iconst (v := (0 : Int32)) dX10_mayBegin_27 (.refl 28) (by decide) ?_
      cases h
      exact AW.zreturn rfl (by decide) dX10_mayBegin_28
    · have h := ifp c12 h
      refine AW.iconst (v := (1 : Int32)) dX10_mayBegin_23 (.refl 24) (by decide) ?_
      refine AW.goto (tgt := 28) dX10_mayBegin_24 (by decide) ?_
      cases h
      exact AW.zreturn rfl (by decide) dX10_mayBegin_28
def f_X10_span (σ : Mm) (x0 : Int32) (x1 : Int32) : Option (Int32) := some (jshl ((jshl (1 : Int32) x1) - (1 : Int32)) x0)
set_option maxRecDepth 20000 in
theorem c_X10_span {l : Launch} {G : Gg} {x0 : Int32} {x1 : Int32} {σ : Mm} {v : Int32} (h : f_X10_span σ x0 x1 = some v) : MR l G 0 M_X10_span [.int x0, .int x1] σ (some (.int v)) σ := by
  unfold f_X10_span at h
  refine MR.of (by decide +kernel) (Nat.le_of_ble_eq_true rfl) ?_
  show AW l G 0 M_X10_span (some (.int v)) σ 0 [(0, .int x0), (1, .int x1)] [] σ
  refine AW.iconst (v := (1 : Int32)) dX10_span_0 (.refl 1) (by decide) ?_
  refine AW.iload_n dX10_span_1 (.refl 2) 1 rfl ?_
  refine AW.ishl dX10_span_2 (.refl 3) ?_
  refine AW.iconst (v := (1 : Int32)) dX10_span_3 (.refl 4) (by decide) ?_
  refine AW.isub dX10_span_4 (.refl 5) ?_
  refine AW.iload_n dX10_span_5 (.refl 6) 0 rfl ?_
  refine AW.ishl dX10_span_6 (.refl 7) ?_
  cases h
  exact AW.ireturn rfl dX10_span_7
def f_X10_seconds_p65 (σ : Mm) : Nat → Int32 → Int32 → Int32 → Int32 → Int32 → Int32 → Option (Int32)
  | 0, _, _, _, _, _, _ => none
  | n + 1, x1, x2, x3, x4, x5, x6 => gd (inB (((6 : Int32) * x1) + (1 : Int32)) 30) ((if (σ.1 49 ((((6 : Int32) * x1) + (1 : Int32))).toNatClampNeg) ≤ x6 then some x5 else b1 (f_X10_strokeAt σ x1 x2 x6) (fun (r3 : Int32) => gd (inB x4 3) ((if x3 = 0 then b1 (f_X10_span σ r3 ((σ.1 47 (x4).toNatClampNeg) + (0 : Int32))) (fun (r6 : Int32) => (f_X10_seconds_p65 σ n) x1 x2 x3 x4 (x5 ||| r6) (x6 + (1 : Int32))) else gd (inB x4 3) (b1 (f_X10_span σ r3 ((σ.1 47 (x4).toNatClampNeg) + (σ.1 48 (x4).toNatClampNeg))) (fun (r9 : Int32) => (f_X10_seconds_p65 σ n) x1 x2 x3 x4 (x5 ||| r9) (x6 + (1 : Int32)))))))))
def f_X10_seconds (σ : Mm) (x1 : Int32) (x2 : Int32) (x3 : Int32) : Option (Int32) := b1 (f_X10_isQuiet σ x1) (fun (r2 : Int32) => (if r2 = 0 then gd (inB ((6 : Int32) * x1) 30) (f_X10_seconds_p65 σ FU x1 x2 x3 (σ.1 49 (((6 : Int32) * x1)).toNatClampNeg) (0 : Int32) (0 : Int32)) else gd (inB (((6 : Int32) * x1) + (3 : Int32)) 30) (gd (inB (((6 : Int32) * x1) + (4 : Int32)) 30) (gd (inB (((6 : Int32) * x1) + (3 : Int32)) 30) (b1 (f_X10_span σ (σ.1 49 ((((6 : Int32) * x1) + (3 : Int32))).toNatClampNeg) (((σ.1 49 ((((6 : Int32) * x1) + (4 : Int32))).toNatClampNeg) - (σ.1 49 ((((6 : Int32) * x1) + (3 : Int32))).toNatClampNeg)) + (1 : Int32))) (fun (r8 : Int32) => some r8))))))
set_option maxRecDepth 20000 in
theorem a_X10_seconds_p65 {l : Launch} {G : Gg} {v : Int32} {σ : Mm} : ∀ (n : Nat) (x1 : Int32) (x2 : Int32) (x3 : Int32) (x4 : Int32) (x5 : Int32) (x6 : Int32), f_X10_seconds_p65 σ n x1 x2 x3 x4 x5 x6 = some v → AW l G 1 M_X10_seconds (some (.int v)) σ 65 [(0, .ref 46), (1, .int x1), (2, .int x2), (3, .int x3), (4, .int x4), (5, .int x5), (6, .int x6)] [] σ := by
  intro n
  induction n with
  | zero => intro x1 x2 x3 x4 x5 x6 h; exact no_some h
  | succ n ih =>
    intro x1 x2 x3 x4 x5 x6 h
    rw [f_X10_seconds_p65] at h
    refine AW.iload dX10_seconds_65 (.refl 67) 6 rfl ?_
    refine AW.aload_n dX10_seconds_67 (.refl 68) 0 rfl ?_
    refine AW.getR (z := 49) lk_X10_16 rfl rfl (by decide) rfl dX10_seconds_68 (.refl 71) ?_
    refine AW.bipush (v := (6 : Int32)) dX10_seconds_71 (.refl 73) (by decide) ?_
    refine AW.iload_n dX10_seconds_73 (.refl 74) 1 rfl ?_
    refine AW.imul dX10_seconds_74 (.refl 75) ?_
    refine AW.iconst (v := (1 : Int32)) dX10_seconds_75 (.refl 76) (by decide) ?_
    refine AW.iadd dX10_seconds_76 (.refl 77) ?_
    obtain ⟨g1, h⟩ := gd_s h
    refine AW.iaload rfl g1 dX10_seconds_77 (.refl 78) ?_
    refine AW.icmp_ge (tgt := 126) dX10_seconds_78 (by decide) (fun c11 => ?_) (fun c11 => ?_)
    · have h := ifp c11 h
      refine AW.iload dX10_seconds_126 (.refl 128) 5 rfl ?_
      cases h
      exact AW.ireturn rfl dX10_seconds_128
    · have h := ifn c11 h
      refine AW.iload dX10_seconds_81 (.refl 83) 5 rfl ?_
      refine AW.aload_n dX10_seconds_83 (.refl 84) 0 rfl ?_
      refine AW.iload_n dX10_seconds_84 (.refl 85) 1 rfl ?_
      refine AW.iload_n dX10_seconds_85 (.refl 86) 2 rfl ?_
      refine AW.iload dX10_seconds_86 (.refl 88) 6 rfl ?_
      obtain ⟨r3, e2, h⟩ := b1_s h
      refine AW.callV (r' := (some (.int r3))) (σ' := σ) (rest := [.int x5]) lm_X10_145 (c_X10_strokeAt e2) (by decide) (by decide) rfl rfl (by decide) rfl rfl (Nat.le_of_ble_eq_true rfl) dX10_seconds_88 (.refl 91) (st' := [.int r3, .int x5]) rfl ?_
      refine AW.aload_n dX10_seconds_91 (.refl 92) 0 rfl ?_
      refine AW.getR (z := 47) lk_X10_7 rfl rfl (by decide) rfl dX10_seconds_92 (.refl 95) ?_
      refine AW.iload dX10_seconds_95 (.refl 97) 4 rfl ?_
      obtain ⟨g4, h⟩ := gd_s h
      refine AW.iaload rfl g4 dX10_seconds_97 (.refl 98) ?_
      refine AW.iload_n dX10_seconds_98 (.refl 99) 3 rfl ?_
      refine AW.if_eq (tgt := 112) dX10_seconds_99 (by decide) (fun c10 => ?_) (fun c10 => ?_)
      · have h := ifp c10 h
        refine AW.iconst (v := (0 : Int32)) dX10_seconds_112 (.refl 113) (by decide) ?_
        refine AW.iadd dX10_seconds_113 (.refl 114) ?_
        obtain ⟨r6, e5, h⟩ := b1_s h
        refine AW.callS (r' := (some (.int r6))) (σ' := σ) (rest := [.int x5]) lm_X10_149 (c_X10_span e5) (by decide) (by decide) rfl rfl (Nat.le_of_ble_eq_true rfl) dX10_seconds_114 (.refl 117) (st' := [.int r6, .int x5]) rfl ?_
        refine AW.ior dX10_seconds_117 (.refl 118) ?_
        refine AW.istore (L' := [(5, .int (x5 ||| r6)), (0, .ref 46), (1, .int x1), (2, .int x2), (3, .int x3), (4, .int x4), (6, .int x6)]) dX10_seconds_118 (.refl 120) (by decide) rfl ?_
        refine AW.iinc (v := (x6 + (1 : Int32))) (L' := [(6, .int (x6 + (1 : Int32))), (5, .int (x5 ||| r6)), (0, .ref 46), (1, .int x1), (2, .int x2), (3, .int x3), (4, .int x4)]) dX10_seconds_120 (.refl 123) 6 rfl rfl (by decide) rfl ?_
        refine AW.goto (tgt := 65) dX10_seconds_123 (by decide) ?_
        refine AW.sub (L' := [(0, .ref 46), (1, .int x1), (2, .int x2), (3, .int x3), (4, .int x4), (5, .int (x5 ||| r6)), (6, .int (x6 + (1 : Int32)))]) [2, 3, 4, 5, 6, 1, 0] rfl ?_
        exact ih x1 x2 x3 x4 (x5 ||| r6) (x6 + (1 : Int32)) h
      · have h := ifn c10 h
        refine AW.aload_n dX10_seconds_102 (.refl 103) 0 rfl ?_
        refine AW.getR (z := 48) lk_X10_13 rfl rfl (by decide) rfl dX10_seconds_103 (.refl 106) ?_
        refine AW.iload dX10_seconds_106 (.refl 108) 4 rfl ?_
        obtain ⟨g7, h⟩ := gd_s h
        refine AW.iaload rfl g7 dX10_seconds_108 (.refl 109) ?_
        refine AW.goto (tgt := 113) dX10_seconds_109 (by decide) ?_
        refine AW.iadd dX10_seconds_113 (.refl 114) ?_
        obtain ⟨r9, e8, h⟩ := b1_s h
        refine AW.callS (r' := (some (.int r9))) (σ' := σ) (rest := [.int x5]) lm_X10_149 (c_X10_span e8) (by decide) (by decide) rfl rfl (Nat.le_of_ble_eq_true rfl) dX10_seconds_114 (.refl 117) (st' := [.int r9, .int x5]) rfl ?_
        refine AW.ior dX10_seconds_117 (.refl 118) ?_
        refine AW.istore (L' := [(5, .int (x5 ||| r9)), (0, .ref 46), (1, .int x1), (2, .int x2), (3, .int x3), (4, .int x4), (6, .int x6)]) dX10_seconds_118 (.refl 120) (by decide) rfl ?_
        refine AW.iinc (v := (x6 + (1 : Int32))) (L' := [(6, .int (x6 + (1 : Int32))), (5, .int (x5 ||| r9)), (0, .ref 46), (1, .int x1), (2, .int x2), (3, .int x3), (4, .int x4)]) dX10_seconds_120 (.refl 123) 6 rfl rfl (by decide) rfl ?_
        refine AW.goto (tgt := 65) dX10_seconds_123 (by decide) ?_
        refine AW.sub (L' := [(0, .ref 46), (1, .int x1), (2, .int x2), (3, .int x3), (4, .int x4), (5, .int (x5 ||| r9)), (6, .int (x6 + (1 : Int32)))]) [2, 3, 4, 5, 6, 1, 0] rfl ?_
        exact ih x1 x2 x3 x4 (x5 ||| r9) (x6 + (1 : Int32)) h
set_option maxRecDepth 20000 in
theorem c_X10_seconds {l : Launch} {G : Gg} {x1 : Int32} {x2 : Int32} {x3 : Int32} {σ : Mm} {v : Int32} (h : f_X10_seconds σ x1 x2 x3 = some v) : MR l G 1 M_X10_seconds [.ref 46, .int x1, .int x2, .int x3] σ (some (.int v)) σ := by
  unfold f_X10_seconds at h
  refine MR.of (by decide +kernel) (Nat.le_of_ble_eq_true rfl) ?_
  show AW l G 1 M_X10_seconds (some (.int v)) σ 0 [(0, .ref 46), (1, .int x1), (2, .int x2), (3, .int x3)] [] σ
  refine AW.aload_n dX10_seconds_0 (.refl 1) 0 rfl ?_
  refine AW.iload_n dX10_seconds_1 (.refl 2) 1 rfl ?_
  obtain ⟨r2, e1, h⟩ := b1_s h
  refine AW.callV (r' := (some (.int r2))) (σ' := σ) (rest := []) lm_X10_141 (c_X10_isQuiet e1) (by decide) (by decide) rfl rfl (by decide) rfl rfl (Nat.le_of_ble_eq_true rfl) dX10_seconds_2 (.refl 5) (st' := [.int r2]) rfl ?_
  refine AW.if_eq (tgt := 48) dX10_seconds_5 (by decide) (fun c9 => ?_) (fun c9 => ?_)
  · have h := ifp c9 h
    refine AW.aload_n dX10_seconds_48 (.refl 49) 0 rfl ?_
    refine AW.getR (z := 49) lk_X10_16 rfl rfl (by decide) rfl dX10_seconds_49 (.refl 52) ?_
    refine AW.bipush (v := (6 : Int32)) dX10_seconds_52 (.refl 54) (by decide) ?_
    refine AW.iload_n dX10_seconds_54 (.refl 55) 1 rfl ?_
    refine AW.imul dX10_seconds_55 (.refl 56) ?_
    obtain ⟨g3, h⟩ := gd_s h
    refine AW.iaload rfl g3 dX10_seconds_56 (.refl 57) ?_
    refine AW.istore (L' := [(4, .int (σ.1 49 (((6 : Int32) * x1)).toNatClampNeg)), (0, .ref 46), (1, .int x1), (2, .int x2), (3, .int x3)]) dX10_seconds_57 (.refl 59) (by decide) rfl ?_
    refine AW.iconst (v := (0 : Int32)) dX10_seconds_59 (.refl 60) (by decide) ?_
    refine AW.istore (L' := [(5, .int (0 : Int32)), (4, .int (σ.1 49 (((6 : Int32) * x1)).toNatClampNeg)), (0, .ref 46), (1, .int x1), (2, .int x2), (3, .int x3)]) dX10_seconds_60 (.refl 62) (by decide) rfl ?_
    refine AW.iconst (v := (0 : Int32)) dX10_seconds_62 (.refl 63) (by decide) ?_
    refine AW.istore (L' := [(6, .int (0 : Int32)), (5, .int (0 : Int32)), (4, .int (σ.1 49 (((6 : Int32) * x1)).toNatClampNeg)), (0, .ref 46), (1, .int x1), (2, .int x2), (3, .int x3)]) dX10_seconds_63 (.refl 65) (by decide) rfl ?_
    refine AW.sub (L' := [(0, .ref 46), (1, .int x1), (2, .int x2), (3, .int x3), (4, .int (σ.1 49 (((6 : Int32) * x1)).toNatClampNeg)), (5, .int (0 : Int32)), (6, .int (0 : Int32))]) [3, 4, 5, 6, 2, 1, 0] rfl ?_
    exact a_X10_seconds_p65 FU x1 x2 x3 (σ.1 49 (((6 : Int32) * x1)).toNatClampNeg) (0 : Int32) (0 : Int32) h
  · have h := ifn c9 h
    refine AW.aload_n dX10_seconds_8 (.refl 9) 0 rfl ?_
    refine AW.getR (z := 49) lk_X10_16 rfl rfl (by decide) rfl dX10_seconds_9 (.refl 12) ?_
    refine AW.bipush (v := (6 : Int32)) dX10_seconds_12 (.refl 14) (by decide) ?_
    refine AW.iload_n dX10_seconds_14 (.refl 15) 1 rfl ?_
    refine AW.imul dX10_seconds_15 (.refl 16) ?_
    refine AW.iconst (v := (3 : Int32)) dX10_seconds_16 (.refl 17) (by decide) ?_
    refine AW.iadd dX10_seconds_17 (.refl 18) ?_
    obtain ⟨g4, h⟩ := gd_s h
    refine AW.iaload rfl g4 dX10_seconds_18 (.refl 19) ?_
    refine AW.aload_n dX10_seconds_19 (.refl 20) 0 rfl ?_
    refine AW.getR (z := 49) lk_X10_16 rfl rfl (by decide) rfl dX10_seconds_20 (.refl 23) ?_
    refine AW.bipush (v := (6 : Int32)) dX10_seconds_23 (.refl 25) (by decide) ?_
    refine AW.iload_n dX10_seconds_25 (.refl 26) 1 rfl ?_
    refine AW.imul dX10_seconds_26 (.refl 27) ?_
    refine AW.iconst (v := (4 : Int32)) dX10_seconds_27 (.refl 28) (by decide) ?_
    refine AW.iadd dX10_seconds_28 (.refl 29) ?_
    obtain ⟨g5, h⟩ := gd_s h
    refine AW.iaload rfl g5 dX10_seconds_29 (.refl 30) ?_
    refine AW.aload_n dX10_seconds_30 (.refl 31) 0 rfl ?_
    refine AW.getR (z := 49) lk_X10_16 rfl rfl (by decide) rfl dX10_seconds_31 (.refl 34) ?_
    refine AW.bipush (v := (6 : Int32)) dX10_seconds_34 (.refl 36) (by decide) ?_
    refine AW.iload_n dX10_seconds_36 (.refl 37) 1 rfl ?_
    refine AW.imul dX10_seconds_37 (.refl 38) ?_
    refine AW.iconst (v := (3 : Int32)) dX10_seconds_38 (.refl 39) (by decide) ?_
    refine AW.iadd dX10_seconds_39 (.refl 40) ?_
    obtain ⟨g6, h⟩ := gd_s h
    refine AW.iaload rfl g6 dX10_seconds_40 (.refl 41) ?_
    refine AW.isub dX10_seconds_41 (.refl 42) ?_
    refine AW.iconst (v := (1 : Int32)) dX10_seconds_42 (.refl 43) (by decide) ?_
    refine AW.iadd dX10_seconds_43 (.refl 44) ?_
    obtain ⟨r8, e7, h⟩ := b1_s h
    refine AW.callS (r' := (some (.int r8))) (σ' := σ) (rest := []) lm_X10_149 (c_X10_span e7) (by decide) (by decide) rfl rfl (Nat.le_of_ble_eq_true rfl) dX10_seconds_44 (.refl 47) (st' := [.int r8]) rfl ?_
    cases h
    exact AW.ireturn rfl dX10_seconds_47
def f_X10_clash_p80 (σ : Mm) (x1 : Int32) (x2 : Int32) (x3 : Int32) (x4 : Int32) : Option (Int32) := b1 (f_X10_seconds σ x1 x2 (0 : Int32)) (fun (r2 : Int32) => b1 (f_X10_seconds σ x3 x4 (0 : Int32)) (fun (r4 : Int32) => (if (r2 &&& r4) = 0 then some (0 : Int32) else some (1 : Int32))))
def f_X10_clash_p18 (σ : Mm) (x1 : Int32) (x2 : Int32) (x3 : Int32) (x4 : Int32) : Option (Int32) := b1 (f_X10_isQuiet σ x1) (fun (r2 : Int32) => (if r2 = 0 then b1 (f_X10_isQuiet σ x3) (fun (r4 : Int32) => (if r4 = 0 then gd (inB ((6 : Int32) * x1) 30) (gd (inB ((6 : Int32) * x3) 30) ((if (σ.1 49 (((6 : Int32) * x1)).toNatClampNeg) = (σ.1 49 (((6 : Int32) * x3)).toNatClampNeg) then b1 (f_X10_seconds σ x1 x2 (1 : Int32)) (fun (r8 : Int32) => b1 (f_X10_seconds σ x3 x4 (1 : Int32)) (fun (r10 : Int32) => (if (r8 &&& r10) = 0 then some (0 : Int32) else some (1 : Int32)))) else some (0 : Int32)))) else (f_X10_clash_p80 σ) x1 x2 x3 x4)) else (f_X10_clash_p80 σ) x1 x2 x3 x4))
def f_X10_clash (σ : Mm) (x1 : Int32) (x2 : Int32) (x3 : Int32) (x4 : Int32) : Option (Int32) := b1 (f_X10_isQuiet σ x1) (fun (r2 : Int32) => (if r2 = 0 then (f_X10_clash_p18 σ) x1 x2 x3 x4 else b1 (f_X10_isQuiet σ x3) (fun (r4 : Int32) => (if r4 = 0 then (f_X10_clash_p18 σ) x1 x2 x3 x4 else some (0 : Int32)))))
set_option maxRecDepth 20000 in
theorem a_X10_clash_p80 {l : Launch} {G : Gg} {v : Int32} {σ : Mm} (x1 : Int32) (x2 : Int32) (x3 : Int32) (x4 : Int32) (h : f_X10_clash_p80 σ x1 x2 x3 x4 = some v) : AW l G 2 M_X10_clash (some (.int v)) σ 80 [(0, .ref 46), (1, .int x1), (2, .int x2), (3, .int x3), (4, .int x4)] [] σ := by
  unfold f_X10_clash_p80 at h
  refine AW.aload_n dX10_clash_80 (.refl 81) 0 rfl ?_
  refine AW.iload_n dX10_clash_81 (.refl 82) 1 rfl ?_
  refine AW.iload_n dX10_clash_82 (.refl 83) 2 rfl ?_
  refine AW.iconst (v := (0 : Int32)) dX10_clash_83 (.refl 84) (by decide) ?_
  obtain ⟨r2, e1, h⟩ := b1_s h
  refine AW.callV (r' := (some (.int r2))) (σ' := σ) (rest := []) lm_X10_152 (c_X10_seconds e1) (by decide) (by decide) rfl rfl (by decide) rfl rfl (Nat.le_of_ble_eq_true rfl) dX10_clash_84 (.refl 87) (st' := [.int r2]) rfl ?_
  refine AW.aload_n dX10_clash_87 (.refl 88) 0 rfl ?_
  refine AW.iload_n dX10_clash_88 (.refl 89) 3 rfl ?_
  refine AW.iload dX10_clash_89 (.refl 91) 4 rfl ?_
  refine AW.iconst (v := (0 : Int32)) dX10_clash_91 (.refl 92) (by decide) ?_
  obtain ⟨r4, e3, h⟩ := b1_s h
  refine AW.callV (r' := (some (.int r4))) (σ' := σ) (rest := [.int r2]) lm_X10_152 (c_X10_seconds e3) (by decide) (by decide) rfl rfl (by decide) rfl rfl (Nat.le_of_ble_eq_true rfl) dX10_clash_92 (.refl 95) (st' := [.int r4, .int r2]) rfl ?_
  refine AW.iand dX10_clash_95 (.refl 96) ?_
  refine AW.if_eq (tgt := 103) dX10_clash_96 (by decide) (fun c5 => ?_) (fun c5 => ?_)
  · have h := ifp c5 h
    refine AW.iconst (v := (0 : Int32)) dX10_clash_103 (.refl 104) (by decide) ?_
    cases h
    exact AW.zreturn rfl (by decide) dX10_clash_104
  · have h := ifn c5 h
    refine AW.iconst (v := (1 : Int32)) dX10_clash_99 (.refl 100) (by decide) ?_
    refine AW.goto (tgt := 104) dX10_clash_100 (by decide) ?_
    cases h
    exact AW.zreturn rfl (by decide) dX10_clash_104
set_option maxRecDepth 20000 in
theorem a_X10_clash_p18 {l : Launch} {G : Gg} {v : Int32} {σ : Mm} (x1 : Int32) (x2 : Int32) (x3 : Int32) (x4 : Int32) (h : f_X10_clash_p18 σ x1 x2 x3 x4 = some v) : AW l G 2 M_X10_clash (some (.int v)) σ 18 [(0, .ref 46), (1, .int x1), (2, .int x2), (3, .int x3), (4, .int x4)] [] σ := by
  unfold f_X10_clash_p18 at h
  refine AW.aload_n dX10_clash_18 (.refl 19) 0 rfl ?_
  refine AW.iload_n dX10_clash_19 (.refl 20) 1 rfl ?_
  obtain ⟨r2, e1, h⟩ := b1_s h
  refine AW.callV (r' := (some (.int r2))) (σ' := σ) (rest := []) lm_X10_141 (c_X10_isQuiet e1) (by decide) (by decide) rfl rfl (by decide) rfl rfl (Nat.le_of_ble_eq_true rfl) dX10_clash_20 (.refl 23) (st' := [.int r2]) rfl ?_
  refine AW.if_ne (tgt := 80) dX10_clash_23 (by decide) (fun c14 => ?_) (fun c14 => ?_)
  · have h := ifn c14 h
    exact (a_X10_clash_p80) x1 x2 x3 x4 h
  · have h := ifp c14 h
    refine AW.aload_n dX10_clash_26 (.refl 27) 0 rfl ?_
    refine AW.iload_n dX10_clash_27 (.refl 28) 3 rfl ?_
    obtain ⟨r4, e3, h⟩ := b1_s h
    refine AW.callV (r' := (some (.int r4))) (σ' := σ) (rest := []) lm_X10_141 (c_X10_isQuiet e3) (by decide) (by decide) rfl rfl (by decide) rfl rfl (Nat.le_of_ble_eq_true rfl) dX10_clash_28 (.refl 31) (st' := [.int r4]) rfl ?_
    refine AW.if_ne (tgt := 80) dX10_clash_31 (by decide) (fun c13 => ?_) (fun c13 => ?_)
    · have h := ifn c13 h
      exact (a_X10_clash_p80) x1 x2 x3 x4 h
    · have h := ifp c13 h
      refine AW.aload_n dX10_clash_34 (.refl 35) 0 rfl ?_
      refine AW.getR (z := 49) lk_X10_16 rfl rfl (by decide) rfl dX10_clash_35 (.refl 38) ?_
      refine AW.bipush (v := (6 : Int32)) dX10_clash_38 (.refl 40) (by decide) ?_
      refine AW.iload_n dX10_clash_40 (.refl 41) 1 rfl ?_
      refine AW.imul dX10_clash_41 (.refl 42) ?_
      obtain ⟨g5, h⟩ := gd_s h
      refine AW.iaload rfl g5 dX10_clash_42 (.refl 43) ?_
      refine AW.aload_n dX10_clash_43 (.refl 44) 0 rfl ?_
      refine AW.getR (z := 49) lk_X10_16 rfl rfl (by decide) rfl dX10_clash_44 (.refl 47) ?_
      refine AW.bipush (v := (6 : Int32)) dX10_clash_47 (.refl 49) (by decide) ?_
      refine AW.iload_n dX10_clash_49 (.refl 50) 3 rfl ?_
      refine AW.imul dX10_clash_50 (.refl 51) ?_
      obtain ⟨g6, h⟩ := gd_s h
      refine AW.iaload rfl g6 dX10_clash_51 (.refl 52) ?_
      refine AW.icmp_ne (tgt := 78) dX10_clash_52 (by decide) (fun c12 => ?_) (fun c12 => ?_)
      · have h := ifn c12 h
        refine AW.iconst (v := (0 : Int32)) dX10_clash_78 (.refl 79) (by decide) ?_
        cases h
        exact AW.zreturn rfl (by decide) dX10_clash_79
      · have h := ifp c12 h
        refine AW.aload_n dX10_clash_55 (.refl 56) 0 rfl ?_
        refine AW.iload_n dX10_clash_56 (.refl 57) 1 rfl ?_
        refine AW.iload_n dX10_clash_57 (.refl 58) 2 rfl ?_
        refine AW.iconst (v := (1 : Int32)) dX10_clash_58 (.refl 59) (by decide) ?_
        obtain ⟨r8, e7, h⟩ := b1_s h
        refine AW.callV (r' := (some (.int r8))) (σ' := σ) (rest := []) lm_X10_152 (c_X10_seconds e7) (by decide) (by decide) rfl rfl (by decide) rfl rfl (Nat.le_of_ble_eq_true rfl) dX10_clash_59 (.refl 62) (st' := [.int r8]) rfl ?_
        refine AW.aload_n dX10_clash_62 (.refl 63) 0 rfl ?_
        refine AW.iload_n dX10_clash_63 (.refl 64) 3 rfl ?_
        refine AW.iload dX10_clash_64 (.refl 66) 4 rfl ?_
        refine AW.iconst (v := (1 : Int32)) dX10_clash_66 (.refl 67) (by decide) ?_
        obtain ⟨r10, e9, h⟩ := b1_s h
        refine AW.callV (r' := (some (.int r10))) (σ' := σ) (rest := [.int r8]) lm_X10_152 (c_X10_seconds e9) (by decide) (by decide) rfl rfl (by decide) rfl rfl (Nat.le_of_ble_eq_true rfl) dX10_clash_67 (.refl 70) (st' := [.int r10, .int r8]) rfl ?_
        refine AW.iand dX10_clash_70 (.refl 71) ?_
        refine AW.if_eq (tgt := 78) dX10_clash_71 (by decide) (fun c11 => ?_) (fun c11 => ?_)
        · have h := ifp c11 h
          refine AW.iconst (v := (0 : Int32)) dX10_clash_78 (.refl 79) (by decide) ?_
          cases h
          exact AW.zreturn rfl (by decide) dX10_clash_79
        · have h := ifn c11 h
          refine AW.iconst (v := (1 : Int32)) dX10_clash_74 (.refl 75) (by decide) ?_
          refine AW.goto (tgt := 79) dX10_clash_75 (by decide) ?_
          cases h
          exact AW.zreturn rfl (by decide) dX10_clash_79
set_option maxRecDepth 20000 in
theorem c_X10_clash {l : Launch} {G : Gg} {x1 : Int32} {x2 : Int32} {x3 : Int32} {x4 : Int32} {σ : Mm} {v : Int32} (h : f_X10_clash σ x1 x2 x3 x4 = some v) : MR l G 2 M_X10_clash [.ref 46, .int x1, .int x2, .int x3, .int x4] σ (some (.int v)) σ := by
  unfold f_X10_clash at h
  refine MR.of (by decide +kernel) (Nat.le_of_ble_eq_true rfl) ?_
  show AW l G 2 M_X10_clash (some (.int v)) σ 0 [(0, .ref 46), (1, .int x1), (2, .int x2), (3, .int x3), (4, .int x4)] [] σ
  refine AW.aload_n dX10_clash_0 (.refl 1) 0 rfl ?_
  refine AW.iload_n dX10_clash_1 (.refl 2) 1 rfl ?_
  obtain ⟨r2, e1, h⟩ := b1_s h
  refine AW.callV (r' := (some (.int r2))) (σ' := σ) (rest := []) lm_X10_141 (c_X10_isQuiet e1) (by decide) (by decide) rfl rfl (by decide) rfl rfl (Nat.le_of_ble_eq_true rfl) dX10_clash_2 (.refl 5) (st' := [.int r2]) rfl ?_
  refine AW.if_eq (tgt := 18) dX10_clash_5 (by decide) (fun c6 => ?_) (fun c6 => ?_)
  · have h := ifp c6 h
    exact (a_X10_clash_p18) x1 x2 x3 x4 h
  · have h := ifn c6 h
    refine AW.aload_n dX10_clash_8 (.refl 9) 0 rfl ?_
    refine AW.iload_n dX10_clash_9 (.refl 10) 3 rfl ?_
    obtain ⟨r4, e3, h⟩ := b1_s h
    refine AW.callV (r' := (some (.int r4))) (σ' := σ) (rest := []) lm_X10_141 (c_X10_isQuiet e3) (by decide) (by decide) rfl rfl (by decide) rfl rfl (Nat.le_of_ble_eq_true rfl) dX10_clash_10 (.refl 13) (st' := [.int r4]) rfl ?_
    refine AW.if_eq (tgt := 18) dX10_clash_13 (by decide) (fun c5 => ?_) (fun c5 => ?_)
    · have h := ifp c5 h
      exact (a_X10_clash_p18) x1 x2 x3 x4 h
    · have h := ifn c5 h
      refine AW.iconst (v := (0 : Int32)) dX10_clash_16 (.refl 17) (by decide) ?_
      cases h
      exact AW.zreturn rfl (by decide) dX10_clash_17
