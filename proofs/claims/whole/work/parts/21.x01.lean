def f_X6_forget (k0 : Nat)  (σ : Mm) : Option (Mm) := some (sI σ k0 1 (0 : Int32))
set_option maxRecDepth 20000 in
theorem c_X6_forget {l : Launch} {G : Gg} {k0 : Nat} (hk0 : cTag k0 = 6)  {σ : Mm} {τ : Mm} (h : f_X6_forget k0  σ = some τ) : MR l G 0 M_X6_forget [.ref k0] σ none τ := by
  unfold f_X6_forget at h
  refine MR.of (by decide +kernel) (Nat.le_of_ble_eq_true rfl) ?_
  show AW l G 0 M_X6_forget none τ 0 [(0, .ref k0)] [] σ
  refine AW.aload_n dX6_forget_0 (.refl 1) 0 rfl ?_
  refine AW.iconst (v := (0 : Int32)) dX6_forget_1 (.refl 2) (by decide) ?_
  refine AW.putZ lp_X6_7 hk0 rfl (by decide) (by decide) dX6_forget_2 (.refl 5) ?_
  cases h
  exact AW.vreturn rfl dX6_forget_5
def f_X8_addBell (x1 : Int32) (x2 : Int32) (σ : Mm) : Option (Mm) := (if (σ.1 3 0) < 0 then some σ else (if (σ.1 3 0) < (3 : Int32) then gd (inB (σ.1 3 0) 3) (gd (inB ((sI σ 4 ((σ.1 3 0)).toNatClampNeg x1).1 3 0) 3) (bnd ((sI (sI σ 4 ((σ.1 3 0)).toNatClampNeg x1) 5 (((sI σ 4 ((σ.1 3 0)).toNatClampNeg x1).1 3 0)).toNatClampNeg x2)) (fun (σ3 : Mm) => some (sI σ3 3 0 ((σ3.1 3 0) + (1 : Int32)))))) else some σ))
set_option maxRecDepth 20000 in
theorem c_X8_addBell {l : Launch} {G : Gg} {x1 : Int32} {x2 : Int32} {σ : Mm} {τ : Mm} (h : f_X8_addBell x1 x2 σ = some τ) : MR l G 0 M_X8_addBell [.ref 3, .int x1, .int x2] σ none τ := by
  unfold f_X8_addBell at h
  refine MR.of (by decide +kernel) (Nat.le_of_ble_eq_true rfl) ?_
  show AW l G 0 M_X8_addBell none τ 0 [(0, .ref 3), (1, .int x1), (2, .int x2)] [] σ
  refine AW.aload_n dX8_addBell_0 (.refl 1) 0 rfl ?_
  refine AW.getI lk_X8_9 rfl rfl (by decide) dX8_addBell_1 (.refl 4) ?_
  refine AW.if_lt (tgt := 15) dX8_addBell_4 (by decide) (fun c6 => ?_) (fun c6 => ?_)
  · have h := ifp c6 h
    cases h
    exact AW.vreturn rfl dX8_addBell_15
  · have h := ifn c6 h
    refine AW.aload_n dX8_addBell_7 (.refl 8) 0 rfl ?_
    refine AW.getI lk_X8_9 rfl rfl (by decide) dX8_addBell_8 (.refl 11) ?_
    refine AW.iconst (v := (3 : Int32)) dX8_addBell_11 (.refl 12) (by decide) ?_
    refine AW.icmp_lt (tgt := 16) dX8_addBell_12 (by decide) (fun c5 => ?_) (fun c5 => ?_)
    · have h := ifp c5 h
      refine AW.aload_n dX8_addBell_16 (.refl 17) 0 rfl ?_
      refine AW.getR (z := 4) lk_X8_18 rfl rfl (by decide) rfl dX8_addBell_17 (.refl 20) ?_
      refine AW.aload_n dX8_addBell_20 (.refl 21) 0 rfl ?_
      refine AW.getI lk_X8_9 rfl rfl (by decide) dX8_addBell_21 (.refl 24) ?_
      refine AW.iload_n dX8_addBell_24 (.refl 25) 1 rfl ?_
      obtain ⟨g1, h⟩ := gd_s h
      refine AW.iastore rfl g1 dX8_addBell_25 (.refl 26) ?_
      refine AW.aload_n dX8_addBell_26 (.refl 27) 0 rfl ?_
      refine AW.getR (z := 5) lk_X8_22 rfl rfl (by decide) rfl dX8_addBell_27 (.refl 30) ?_
      refine AW.aload_n dX8_addBell_30 (.refl 31) 0 rfl ?_
      refine AW.getI lk_X8_9 rfl rfl (by decide) dX8_addBell_31 (.refl 34) ?_
      refine AW.iload_n dX8_addBell_34 (.refl 35) 2 rfl ?_
      obtain ⟨g2, h⟩ := gd_s h
      refine AW.iastore rfl g2 dX8_addBell_35 (.refl 36) ?_
      obtain ⟨σ3, e4, h⟩ := bnd_s h
      refine AW.nmM e4 ?_
      refine AW.aload_n dX8_addBell_36 (.refl 37) 0 rfl ?_
      refine AW.dup dX8_addBell_37 (.refl 38) rfl ?_
      refine AW.getI lk_X8_9 rfl rfl (by decide) dX8_addBell_38 (.refl 41) ?_
      refine AW.iconst (v := (1 : Int32)) dX8_addBell_41 (.refl 42) (by decide) ?_
      refine AW.iadd dX8_addBell_42 (.refl 43) ?_
      refine AW.putI lp_X8_9 rfl rfl (by decide) dX8_addBell_43 (.refl 46) ?_
      cases h
      exact AW.vreturn rfl dX8_addBell_46
    · have h := ifn c5 h
      cases h
      exact AW.vreturn rfl dX8_addBell_15
def f_X9_stretch (σ : Mm) (x0 : Int32) (x1 : Int32) : Option (Int32) := some (jshl ((jshl (1 : Int32) x1) - (1 : Int32)) x0)
set_option maxRecDepth 20000 in
theorem c_X9_stretch {l : Launch} {G : Gg} {x0 : Int32} {x1 : Int32} {σ : Mm} {v : Int32} (h : f_X9_stretch σ x0 x1 = some v) : MR l G 0 M_X9_stretch [.int x0, .int x1] σ (some (.int v)) σ := by
  unfold f_X9_stretch at h
  refine MR.of (by decide +kernel) (Nat.le_of_ble_eq_true rfl) ?_
  show AW l G 0 M_X9_stretch (some (.int v)) σ 0 [(0, .int x0), (1, .int x1)] [] σ
  refine AW.iconst (v := (1 : Int32)) dX9_stretch_0 (.refl 1) (by decide) ?_
  refine AW.iload_n dX9_stretch_1 (.refl 2) 1 rfl ?_
  refine AW.ishl dX9_stretch_2 (.refl 3) ?_
  refine AW.iconst (v := (1 : Int32)) dX9_stretch_3 (.refl 4) (by decide) ?_
  refine AW.isub dX9_stretch_4 (.refl 5) ?_
  refine AW.iload_n dX9_stretch_5 (.refl 6) 0 rfl ?_
  refine AW.ishl dX9_stretch_6 (.refl 7) ?_
  cases h
  exact AW.ireturn rfl dX9_stretch_7
def f_X8_layPlace (x1 : Int32) (x2 : Int32) (x3 : Int64) (x5 : Int32) (σ : Mm) : Option (Mm) := (if x1 < 0 then some σ else (if (5 : Int32) ≤ x1 then some σ else (if x2 < 0 then some σ else (if (10 : Int32) ≤ x2 then some σ else gd (inB (((10 : Int32) * x1) + x2) 50) (gd (inB (((10 : Int32) * x1) + x2) 50) (bnd ((sI (sJ σ 14 ((((10 : Int32) * x1) + x2)).toNatClampNeg x3) 15 ((((10 : Int32) * x1) + x2)).toNatClampNeg x5)) (fun (σ3 : Mm) => some σ3)))))))
set_option maxRecDepth 20000 in
theorem c_X8_layPlace {l : Launch} {G : Gg} {x1 : Int32} {x2 : Int32} {x3 : Int64} {x5 : Int32} {σ : Mm} {τ : Mm} (h : f_X8_layPlace x1 x2 x3 x5 σ = some τ) : MR l G 0 M_X8_layPlace [.ref 3, .int x1, .int x2, .long x3, .int x5] σ none τ := by
  unfold f_X8_layPlace at h
  refine MR.of (by decide +kernel) (Nat.le_of_ble_eq_true rfl) ?_
  show AW l G 0 M_X8_layPlace none τ 0 [(0, .ref 3), (1, .int x1), (2, .int x2), (3, .long x3), (5, .int x5)] [] σ
  refine AW.iload_n dX8_layPlace_0 (.refl 1) 1 rfl ?_
  refine AW.if_lt (tgt := 44) dX8_layPlace_1 (by decide) (fun c8 => ?_) (fun c8 => ?_)
  · have h := ifp c8 h
    cases h
    exact AW.vreturn rfl dX8_layPlace_44
  · have h := ifn c8 h
    refine AW.iload_n dX8_layPlace_4 (.refl 5) 1 rfl ?_
    refine AW.iconst (v := (5 : Int32)) dX8_layPlace_5 (.refl 6) (by decide) ?_
    refine AW.icmp_ge (tgt := 44) dX8_layPlace_6 (by decide) (fun c7 => ?_) (fun c7 => ?_)
    · have h := ifp c7 h
      cases h
      exact AW.vreturn rfl dX8_layPlace_44
    · have h := ifn c7 h
      refine AW.iload_n dX8_layPlace_9 (.refl 10) 2 rfl ?_
      refine AW.if_lt (tgt := 44) dX8_layPlace_10 (by decide) (fun c6 => ?_) (fun c6 => ?_)
      · have h := ifp c6 h
        cases h
        exact AW.vreturn rfl dX8_layPlace_44
      · have h := ifn c6 h
        refine AW.iload_n dX8_layPlace_13 (.refl 14) 2 rfl ?_
        refine AW.bipush (v := (10 : Int32)) dX8_layPlace_14 (.refl 16) (by decide) ?_
        refine AW.icmp_ge (tgt := 44) dX8_layPlace_16 (by decide) (fun c5 => ?_) (fun c5 => ?_)
        · have h := ifp c5 h
          cases h
          exact AW.vreturn rfl dX8_layPlace_44
        · have h := ifn c5 h
          refine AW.aload_n dX8_layPlace_19 (.refl 20) 0 rfl ?_
          refine AW.getR (z := 14) lk_X8_49 rfl rfl (by decide) rfl dX8_layPlace_20 (.refl 23) ?_
          refine AW.bipush (v := (10 : Int32)) dX8_layPlace_23 (.refl 25) (by decide) ?_
          refine AW.iload_n dX8_layPlace_25 (.refl 26) 1 rfl ?_
          refine AW.imul dX8_layPlace_26 (.refl 27) ?_
          refine AW.iload_n dX8_layPlace_27 (.refl 28) 2 rfl ?_
          refine AW.iadd dX8_layPlace_28 (.refl 29) ?_
          refine AW.lload_n dX8_layPlace_29 (.refl 30) 3 rfl ?_
          obtain ⟨g1, h⟩ := gd_s h
          refine AW.lastore rfl g1 dX8_layPlace_30 (.refl 31) ?_
          refine AW.aload_n dX8_layPlace_31 (.refl 32) 0 rfl ?_
          refine AW.getR (z := 15) lk_X8_53 rfl rfl (by decide) rfl dX8_layPlace_32 (.refl 35) ?_
          refine AW.bipush (v := (10 : Int32)) dX8_layPlace_35 (.refl 37) (by decide) ?_
          refine AW.iload_n dX8_layPlace_37 (.refl 38) 1 rfl ?_
          refine AW.imul dX8_layPlace_38 (.refl 39) ?_
          refine AW.iload_n dX8_layPlace_39 (.refl 40) 2 rfl ?_
          refine AW.iadd dX8_layPlace_40 (.refl 41) ?_
          refine AW.iload dX8_layPlace_41 (.refl 43) 4 rfl ?_
          obtain ⟨g2, h⟩ := gd_s h
          refine AW.iastore rfl g2 dX8_layPlace_43 (.refl 44) ?_
          obtain ⟨σ3, e4, h⟩ := bnd_s h
          refine AW.nmM e4 ?_
          cases h
          exact AW.vreturn rfl dX8_layPlace_44
def f_X8_layPeal_p129 (ke186 : Int32 → Int32 → Int32 → Int32 → Int32 → Int32 → Int32 → Int32 → Int32 → Int32 → Int32 → Mm → Option (Mm)) : Nat → Int32 → Int32 → Int32 → Int32 → Int32 → Int32 → Int32 → Int32 → Int32 → Int32 → Int32 → Int32 → Mm → Option (Mm)
  | 0, _, _, _, _, _, _, _, _, _, _, _, _, _ => none
  | n + 1, x1, x2, x3, x4, x5, x6, x8, x9, x10, x11, x12, x13, σ => (if x3 ≤ x13 then ke186 x1 x2 x3 x4 x5 x6 x8 x9 x10 x11 x12 σ else b1 (f_X9_stretch σ (x10 + (x13 * (x5 + x4))) x5) (fun (r2 : Int32) => b1 (f_X9_stretch σ (x10 + (x13 * (x5 + x4))) (x5 + x6)) (fun (r4 : Int32) => (f_X8_layPeal_p129 ke186 n) x1 x2 x3 x4 x5 x6 x8 x9 x10 (x11 ||| r2) (x12 ||| r4) (x13 + (1 : Int32)) σ)))
def f_X8_layPeal_p186 (kh : Int32 → Int32 → Int32 → Int32 → Int32 → Int32 → Int32 → Int32 → Int32 → Mm → Option (Mm)) (x1 : Int32) (x2 : Int32) (x3 : Int32) (x4 : Int32) (x5 : Int32) (x6 : Int32) (x8 : Int32) (x9 : Int32) (x10 : Int32) (x11 : Int32) (x12 : Int32) (σ : Mm) : Option (Mm) := b1 (f_X8_layPlace x1 x10 (jlshl x12.toInt64 ((12 : Int32) * x2)) (jshl x11 ((10 : Int32) * x2)) σ) (fun (τ2 : Mm) => kh x1 x2 x3 x4 x5 x6 x8 (x9 ||| (jshl (1 : Int32) x10)) (x10 + (1 : Int32)) τ2)
def f_X8_layPeal_p106 : Nat → Int32 → Int32 → Int32 → Int32 → Int32 → Int32 → Int32 → Int32 → Int32 → Mm → Option (Mm)
  | 0, _, _, _, _, _, _, _, _, _, _ => none
  | n + 1, x1, x2, x3, x4, x5, x6, x8, x9, x10, σ => (if x8 < x10 then gd (inB x1 5) (some (sI σ 12 (x1).toNatClampNeg x9)) else (if (10 : Int32) ≤ x10 then gd (inB x1 5) (some (sI σ 12 (x1).toNatClampNeg x9)) else f_X8_layPeal_p129 (f_X8_layPeal_p186 (f_X8_layPeal_p106 n)) FU x1 x2 x3 x4 x5 x6 x8 x9 x10 (0 : Int32) (0 : Int32) (0 : Int32) σ))
def f_X8_layPeal_p78 (x1 : Int32) (x2 : Int32) (x3 : Int32) (x4 : Int32) (x5 : Int32) (x6 : Int32) (x7 : Int32) (σ : Mm) : Option (Mm) := b1 (f_X9_at σ 10 x1) (fun (r2 : Int32) => b1 (f_X9_at σ 9 x1) (fun (r4 : Int32) => f_X8_layPeal_p106 FU x1 x2 x3 x4 x5 x6 ((r2 + (1 : Int32)) - x7) (0 : Int32) r4 σ))
def f_X8_layPeal (x1 : Int32) (σ : Mm) : Option (Mm) := b1 (f_X9_at σ 6 x1) (fun (r2 : Int32) => b1 (f_X9_at σ 7 x1) (fun (r4 : Int32) => b1 (f_X9_at σ 8 x1) (fun (r6 : Int32) => b1 (f_X9_at σ 4 r2) (fun (r8 : Int32) => b1 (f_X9_at σ 5 r2) (fun (r10 : Int32) => (if r4 ≤ (1 : Int32) then (f_X8_layPeal_p78) x1 r2 r4 r6 r8 r10 ((r4 * r8) + ((r4 - (1 : Int32)) * r6)) σ else (if r10 ≤ r6 then (f_X8_layPeal_p78) x1 r2 r4 r6 r8 r10 ((r4 * r8) + ((r4 - (1 : Int32)) * r6)) σ else b1 (f_X9_at σ 9 x1) (fun (r12 : Int32) => f_X8_layPeal_p106 FU x1 r2 r4 r6 r8 r10 (-9 : Int32) (0 : Int32) r12 σ))))))))
set_option maxRecDepth 20000 in
theorem a_X8_layPeal_p129 {l : Launch} {G : Gg} {τ : Mm} {ke186 : Int32 → Int32 → Int32 → Int32 → Int32 → Int32 → Int32 → Int32 → Int32 → Int32 → Int32 → Mm → Option (Mm)} (he186 : ∀ (x1 : Int32) (x2 : Int32) (x3 : Int32) (x4 : Int32) (x5 : Int32) (x6 : Int32) (x8 : Int32) (x9 : Int32) (x10 : Int32) (x11 : Int32) (x12 : Int32) (σ : Mm), ke186 x1 x2 x3 x4 x5 x6 x8 x9 x10 x11 x12 σ = some τ → AW l G 1 M_X8_layPeal none τ 186 [(0, .ref 3), (1, .int x1), (2, .int x2), (3, .int x3), (4, .int x4), (5, .int x5), (6, .int x6), (8, .int x8), (9, .int x9), (10, .int x10), (11, .int x11), (12, .int x12)] [] σ) : ∀ (n : Nat) (x1 : Int32) (x2 : Int32) (x3 : Int32) (x4 : Int32) (x5 : Int32) (x6 : Int32) (x8 : Int32) (x9 : Int32) (x10 : Int32) (x11 : Int32) (x12 : Int32) (x13 : Int32) (σ : Mm), f_X8_layPeal_p129 ke186 n x1 x2 x3 x4 x5 x6 x8 x9 x10 x11 x12 x13 σ = some τ → AW l G 1 M_X8_layPeal none τ 129 [(0, .ref 3), (1, .int x1), (2, .int x2), (3, .int x3), (4, .int x4), (5, .int x5), (6, .int x6), (8, .int x8), (9, .int x9), (10, .int x10), (11, .int x11), (12, .int x12), (13, .int x13)] [] σ := by
  intro n
  induction n with
  | zero => intro x1 x2 x3 x4 x5 x6 x8 x9 x10 x11 x12 x13 σ h; exact no_some h
  | succ n ih =>
    intro x1 x2 x3 x4 x5 x6 x8 x9 x10 x11 x12 x13 σ h
    rw [f_X8_layPeal_p129] at h
    refine AW.iload dX8_layPeal_129 (.refl 131) 12 rfl ?_
    refine AW.iload_n dX8_layPeal_131 (.refl 132) 3 rfl ?_
    refine AW.icmp_ge (tgt := 186) dX8_layPeal_132 (by decide) (fun c5 => ?_) (fun c5 => ?_)
    · have h := ifp c5 h
      refine AW.sub (L' := [(0, .ref 3), (1, .int x1), (2, .int x2), (3, .int x3), (4, .int x4), (5, .int x5), (6, .int x6), (8, .int x8), (9, .int x9), (10, .int x10), (11, .int x11), (12, .int x12)]) [0, 1, 2, 3, 4, 5, 6, 7, 8, 9, 10, 11] rfl ?_
      exact he186 x1 x2 x3 x4 x5 x6 x8 x9 x10 x11 x12 σ h
    · have h := ifn c5 h
      refine AW.iload dX8_layPeal_135 (.refl 137) 10 rfl ?_
      refine AW.iload dX8_layPeal_137 (.refl 139) 9 rfl ?_
      refine AW.iload dX8_layPeal_139 (.refl 141) 12 rfl ?_
      refine AW.iload dX8_layPeal_141 (.refl 143) 5 rfl ?_
      refine AW.iload dX8_layPeal_143 (.refl 145) 4 rfl ?_
      refine AW.iadd dX8_layPeal_145 (.refl 146) ?_
      refine AW.imul dX8_layPeal_146 (.refl 147) ?_
      refine AW.iadd dX8_layPeal_147 (.refl 148) ?_
      refine AW.iload dX8_layPeal_148 (.refl 150) 5 rfl ?_
      obtain ⟨r2, e1, h⟩ := b1_s h
      refine AW.callN (r' := (some (.int r2))) (σ' := σ) (rest := [.int x11]) lm_X8_108 (c_X9_stretch e1) (by decide) (by decide) rfl rfl (Nat.le_of_ble_eq_true rfl) dX8_layPeal_150 (.refl 153) (st' := [.int r2, .int x11]) rfl ?_
      refine AW.ior dX8_layPeal_153 (.refl 154) ?_
      refine AW.istore (L' := [(11, .int (x11 ||| r2)), (0, .ref 3), (1, .int x1), (2, .int x2), (3, .int x3), (4, .int x4), (5, .int x5), (6, .int x6), (8, .int x8), (9, .int x9), (10, .int x10), (12, .int x12), (13, .int x13)]) dX8_layPeal_154 (.refl 156) (by decide) rfl ?_
      refine AW.iload dX8_layPeal_156 (.refl 158) 11 rfl ?_
      refine AW.iload dX8_layPeal_158 (.refl 160) 10 rfl ?_
      refine AW.iload dX8_layPeal_160 (.refl 162) 12 rfl ?_
      refine AW.iload dX8_layPeal_162 (.refl 164) 6 rfl ?_
      refine AW.iload dX8_layPeal_164 (.refl 166) 5 rfl ?_
      refine AW.iadd dX8_layPeal_166 (.refl 167) ?_
      refine AW.imul dX8_layPeal_167 (.refl 168) ?_
      refine AW.iadd dX8_layPeal_168 (.refl 169) ?_
      refine AW.iload dX8_layPeal_169 (.refl 171) 6 rfl ?_
      refine AW.iload dX8_layPeal_171 (.refl 173) 7 rfl ?_
      refine AW.iadd dX8_layPeal_173 (.refl 174) ?_
      obtain ⟨r4, e3, h⟩ := b1_s h
      refine AW.callN (r' := (some (.int r4))) (σ' := σ) (rest := [.int x12]) lm_X8_108 (c_X9_stretch e3) (by decide) (by decide) rfl rfl (Nat.le_of_ble_eq_true rfl) dX8_layPeal_174 (.refl 177) (st' := [.int r4, .int x12]) rfl ?_
      refine AW.ior dX8_layPeal_177 (.refl 178) ?_
      refine AW.istore (L' := [(12, .int (x12 ||| r4)), (11, .int (x11 ||| r2)), (0, .ref 3), (1, .int x1), (2, .int x2), (3, .int x3), (4, .int x4), (5, .int x5), (6, .int x6), (8, .int x8), (9, .int x9), (10, .int x10), (13, .int x13)]) dX8_layPeal_178 (.refl 180) (by decide) rfl ?_
      refine AW.iinc (v := (x13 + (1 : Int32))) (L' := [(13, .int (x13 + (1 : Int32))), (12, .int (x12 ||| r4)), (11, .int (x11 ||| r2)), (0, .ref 3), (1, .int x1), (2, .int x2), (3, .int x3), (4, .int x4), (5, .int x5), (6, .int x6), (8, .int x8), (9, .int x9), (10, .int x10)]) dX8_layPeal_180 (.refl 183) 12 rfl rfl (by decide) rfl ?_
      refine AW.goto (tgt := 129) dX8_layPeal_183 (by decide) ?_
      refine AW.sub (L' := [(0, .ref 3), (1, .int x1), (2, .int x2), (3, .int x3), (4, .int x4), (5, .int x5), (6, .int x6), (8, .int x8), (9, .int x9), (10, .int x10), (11, .int (x11 ||| r2)), (12, .int (x12 ||| r4)), (13, .int (x13 + (1 : Int32)))]) [3, 4, 5, 6, 7, 8, 9, 10, 11, 12, 2, 1, 0] rfl ?_
      exact ih x1 x2 x3 x4 x5 x6 x8 x9 x10 (x11 ||| r2) (x12 ||| r4) (x13 + (1 : Int32)) σ h
set_option maxRecDepth 20000 in
theorem a_X8_layPeal_p186 {l : Launch} {G : Gg} {τ : Mm} {kh : Int32 → Int32 → Int32 → Int32 → Int32 → Int32 → Int32 → Int32 → Int32 → Mm → Option (Mm)} (hkh : ∀ (x1 : Int32) (x2 : Int32) (x3 : Int32) (x4 : Int32) (x5 : Int32) (x6 : Int32) (x8 : Int32) (x9 : Int32) (x10 : Int32) (σ : Mm), kh x1 x2 x3 x4 x5 x6 x8 x9 x10 σ = some τ → AW l G 1 M_X8_layPeal none τ 106 [(0, .ref 3), (1, .int x1), (2, .int x2), (3, .int x3), (4, .int x4), (5, .int x5), (6, .int x6), (8, .int x8), (9, .int x9), (10, .int x10)] [] σ) (x1 : Int32) (x2 : Int32) (x3 : Int32) (x4 : Int32) (x5 : Int32) (x6 : Int32) (x8 : Int32) (x9 : Int32) (x10 : Int32) (x11 : Int32) (x12 : Int32) (σ : Mm) (h : f_X8_layPeal_p186 kh x1 x2 x3 x4 x5 x6 x8 x9 x10 x11 x12 σ = some τ) : AW l G 1 M_X8_layPeal none τ 186 [(0, .ref 3), (1, .int x1), (2, .int x2), (3, .int x3), (4, .int x4), (5, .int x5), (6, .int x6), (8, .int x8), (9, .int x9), (10, .int x10), (11, .int x11), (12, .int x12)] [] σ := by
  unfold f_X8_layPeal_p186 at h
  refine AW.aload_n dX8_layPeal_186 (.refl 187) 0 rfl ?_
  refine AW.iload_n dX8_layPeal_187 (.refl 188) 1 rfl ?_
  refine AW.iload dX8_layPeal_188 (.refl 190) 9 rfl ?_
  refine AW.iload dX8_layPeal_190 (.refl 192) 11 rfl ?_
  refine AW.i2l dX8_layPeal_192 (.refl 193) ?_
  refine AW.bipush (v := (12 : Int32)) dX8_layPeal_193 (.refl 195) (by decide) ?_
  refine AW.iload_n dX8_layPeal_195 (.refl 196) 2 rfl ?_
  refine AW.imul dX8_layPeal_196 (.refl 197) ?_
  refine AW.lshl dX8_layPeal_197 (.refl 198) ?_
  refine AW.iload dX8_layPeal_198 (.refl 200) 10 rfl ?_
  refine AW.bipush (v := (10 : Int32)) dX8_layPeal_200 (.refl 202) (by decide) ?_
  refine AW.iload_n dX8_layPeal_202 (.refl 203) 2 rfl ?_
  refine AW.imul dX8_layPeal_203 (.refl 204) ?_
  refine AW.ishl dX8_layPeal_204 (.refl 205) ?_
  obtain ⟨τ2, e1, h⟩ := b1_s h
  refine AW.callV (r' := none) (σ' := τ2) (rest := []) lm_X8_100 (c_X8_layPlace e1) (by decide) (by decide) rfl rfl (by decide) rfl rfl (Nat.le_of_ble_eq_true rfl) dX8_layPeal_205 (.refl 208) (st' := []) rfl ?_
  refine AW.iload dX8_layPeal_208 (.refl 210) 8 rfl ?_
  refine AW.iconst (v := (1 : Int32)) dX8_layPeal_210 (.refl 211) (by decide) ?_
  refine AW.iload dX8_layPeal_211 (.refl 213) 9 rfl ?_
  refine AW.ishl dX8_layPeal_213 (.refl 214) ?_
  refine AW.ior dX8_layPeal_214 (.refl 215) ?_
  refine AW.istore (L' := [(9, .int (x9 ||| (jshl (1 : Int32) x10))), (0, .ref 3), (1, .int x1), (2, .int x2), (3, .int x3), (4, .int x4), (5, .int x5), (6, .int x6), (8, .int x8), (10, .int x10), (11, .int x11), (12, .int x12)]) dX8_layPeal_215 (.refl 217) (by decide) rfl ?_
  refine AW.iinc (v := (x10 + (1 : Int32))) (L' := [(10, .int (x10 + (1 : Int32))), (9, .int (x9 ||| (jshl (1 : Int32) x10))), (0, .ref 3), (1, .int x1), (2, .int x2), (3, .int x3), (4, .int x4), (5, .int x5), (6, .int x6), (8, .int x8), (11, .int x11), (12, .int x12)]) dX8_layPeal_217 (.refl 220) 9 rfl rfl (by decide) rfl ?_
  refine AW.goto (tgt := 106) dX8_layPeal_220 (by decide) ?_
  refine AW.sub (L' := [(0, .ref 3), (1, .int x1), (2, .int x2), (3, .int x3), (4, .int x4), (5, .int x5), (6, .int x6), (8, .int x8), (9, .int (x9 ||| (jshl (1 : Int32) x10))), (10, .int (x10 + (1 : Int32)))]) [2, 3, 4, 5, 6, 7, 8, 9, 1, 0] rfl ?_
  exact hkh x1 x2 x3 x4 x5 x6 x8 (x9 ||| (jshl (1 : Int32) x10)) (x10 + (1 : Int32)) τ2 h
set_option maxRecDepth 20000 in
theorem a_X8_layPeal_p106 {l : Launch} {G : Gg} {τ : Mm} : ∀ (n : Nat) (x1 : Int32) (x2 : Int32) (x3 : Int32) (x4 : Int32) (x5 : Int32) (x6 : Int32) (x8 : Int32) (x9 : Int32) (x10 : Int32) (σ : Mm), f_X8_layPeal_p106 n x1 x2 x3 x4 x5 x6 x8 x9 x10 σ = some τ → AW l G 1 M_X8_layPeal none τ 106 [(0, .ref 3), (1, .int x1), (2, .int x2), (3, .int x3), (4, .int x4), (5, .int x5), (6, .int x6), (8, .int x8), (9, .int x9), (10, .int x10)] [] σ := by
  intro n
  induction n with
  | zero => intro x1 x2 x3 x4 x5 x6 x8 x9 x10 σ h; exact no_some h
  | succ n ih =>
    intro x1 x2 x3 x4 x5 x6 x8 x9 x10 σ h
    rw [f_X8_layPeal_p106] at h
    refine AW.iload dX8_layPeal_106 (.refl 108) 9 rfl ?_
    refine AW.iload dX8_layPeal_108 (.refl 110) 7 rfl ?_
    refine AW.icmp_gt (tgt := 223) dX8_layPeal_110 (by decide) (fun c4 => ?_) (fun c4 => ?_)
    · have h := ifp c4 h
      refine AW.aload_n dX8_layPeal_223 (.refl 224) 0 rfl ?_
      refine AW.getR (z := 12) lk_X8_43 rfl rfl (by decide) rfl dX8_layPeal_224 (.refl 227) ?_
      refine AW.iload_n dX8_layPeal_227 (.refl 228) 1 rfl ?_
      refine AW.iload dX8_layPeal_228 (.refl 230) 8 rfl ?_
      obtain ⟨g1, h⟩ := gd_s h
      refine AW.iastore rfl g1 dX8_layPeal_230 (.refl 231) ?_
      cases h
      exact AW.vreturn rfl dX8_layPeal_231
    · have h := ifn c4 h
      refine AW.iload dX8_layPeal_113 (.refl 115) 9 rfl ?_
      refine AW.bipush (v := (10 : Int32)) dX8_layPeal_115 (.refl 117) (by decide) ?_
      refine AW.icmp_ge (tgt := 223) dX8_layPeal_117 (by decide) (fun c3 => ?_) (fun c3 => ?_)
      · have h := ifp c3 h
        refine AW.aload_n dX8_layPeal_223 (.refl 224) 0 rfl ?_
        refine AW.getR (z := 12) lk_X8_43 rfl rfl (by decide) rfl dX8_layPeal_224 (.refl 227) ?_
        refine AW.iload_n dX8_layPeal_227 (.refl 228) 1 rfl ?_
        refine AW.iload dX8_layPeal_228 (.refl 230) 8 rfl ?_
        obtain ⟨g2, h⟩ := gd_s h
        refine AW.iastore rfl g2 dX8_layPeal_230 (.refl 231) ?_
        cases h
        exact AW.vreturn rfl dX8_layPeal_231
      · have h := ifn c3 h
        refine AW.iconst (v := (0 : Int32)) dX8_layPeal_120 (.refl 121) (by decide) ?_
        refine AW.istore (L' := [(11, .int (0 : Int32)), (0, .ref 3), (1, .int x1), (2, .int x2), (3, .int x3), (4, .int x4), (5, .int x5), (6, .int x6), (8, .int x8), (9, .int x9), (10, .int x10)]) dX8_layPeal_121 (.refl 123) (by decide) rfl ?_
        refine AW.iconst (v := (0 : Int32)) dX8_layPeal_123 (.refl 124) (by decide) ?_
        refine AW.istore (L' := [(12, .int (0 : Int32)), (11, .int (0 : Int32)), (0, .ref 3), (1, .int x1), (2, .int x2), (3, .int x3), (4, .int x4), (5, .int x5), (6, .int x6), (8, .int x8), (9, .int x9), (10, .int x10)]) dX8_layPeal_124 (.refl 126) (by decide) rfl ?_
        refine AW.iconst (v := (0 : Int32)) dX8_layPeal_126 (.refl 127) (by decide) ?_
        refine AW.istore (L' := [(13, .int (0 : Int32)), (12, .int (0 : Int32)), (11, .int (0 : Int32)), (0, .ref 3), (1, .int x1), (2, .int x2), (3, .int x3), (4, .int x4), (5, .int x5), (6, .int x6), (8, .int x8), (9, .int x9), (10, .int x10)]) dX8_layPeal_127 (.refl 129) (by decide) rfl ?_
        refine AW.sub (L' := [(0, .ref 3), (1, .int x1), (2, .int x2), (3, .int x3), (4, .int x4), (5, .int x5), (6, .int x6), (8, .int x8), (9, .int x9), (10, .int x10), (11, .int (0 : Int32)), (12, .int (0 : Int32)), (13, .int (0 : Int32))]) [3, 4, 5, 6, 7, 8, 9, 10, 11, 12, 2, 1, 0] rfl ?_
        exact a_X8_layPeal_p129 (a_X8_layPeal_p186 ih) FU x1 x2 x3 x4 x5 x6 x8 x9 x10 (0 : Int32) (0 : Int32) (0 : Int32) σ h
set_option maxRecDepth 20000 in
theorem a_X8_layPeal_p78 {l : Launch} {G : Gg} {τ : Mm} (x1 : Int32) (x2 : Int32) (x3 : Int32) (x4 : Int32) (x5 : Int32) (x6 : Int32) (x7 : Int32) (σ : Mm) (h : f_X8_layPeal_p78 x1 x2 x3 x4 x5 x6 x7 σ = some τ) : AW l G 1 M_X8_layPeal none τ 78 [(0, .ref 3), (1, .int x1), (2, .int x2), (3, .int x3), (4, .int x4), (5, .int x5), (6, .int x6), (7, .int x7)] [] σ := by
  unfold f_X8_layPeal_p78 at h
  refine AW.aload_n dX8_layPeal_78 (.refl 79) 0 rfl ?_
  refine AW.getR (z := 10) lk_X8_37 rfl rfl (by decide) rfl dX8_layPeal_79 (.refl 82) ?_
  refine AW.iload_n dX8_layPeal_82 (.refl 83) 1 rfl ?_
  obtain ⟨r2, e1, h⟩ := b1_s h
  refine AW.callN (r' := (some (.int r2))) (σ' := σ) (rest := []) lm_X8_60 (c_X9_at rfl e1) (by decide) (by decide) rfl rfl (Nat.le_of_ble_eq_true rfl) dX8_layPeal_83 (.refl 86) (st' := [.int r2]) rfl ?_
  refine AW.iconst (v := (1 : Int32)) dX8_layPeal_86 (.refl 87) (by decide) ?_
  refine AW.iadd dX8_layPeal_87 (.refl 88) ?_
  refine AW.iload dX8_layPeal_88 (.refl 90) 7 rfl ?_
  refine AW.isub dX8_layPeal_90 (.refl 91) ?_
  refine AW.istore (L' := [(8, .int ((r2 + (1 : Int32)) - x7)), (0, .ref 3), (1, .int x1), (2, .int x2), (3, .int x3), (4, .int x4), (5, .int x5), (6, .int x6), (7, .int x7)]) dX8_layPeal_91 (.refl 93) (by decide) rfl ?_
  refine AW.iconst (v := (0 : Int32)) dX8_layPeal_93 (.refl 94) (by decide) ?_
  refine AW.istore (L' := [(9, .int (0 : Int32)), (8, .int ((r2 + (1 : Int32)) - x7)), (0, .ref 3), (1, .int x1), (2, .int x2), (3, .int x3), (4, .int x4), (5, .int x5), (6, .int x6), (7, .int x7)]) dX8_layPeal_94 (.refl 96) (by decide) rfl ?_
  refine AW.aload_n dX8_layPeal_96 (.refl 97) 2 rfl ?_
  refine AW.getR (z := 9) lk_X8_34 rfl rfl (by decide) rfl dX8_layPeal_97 (.refl 100) ?_
  refine AW.iload_n dX8_layPeal_100 (.refl 101) 3 rfl ?_
  obtain ⟨r4, e3, h⟩ := b1_s h
  refine AW.callN (r' := (some (.int r4))) (σ' := σ) (rest := []) lm_X8_60 (c_X9_at rfl e3) (by decide) (by decide) rfl rfl (Nat.le_of_ble_eq_true rfl) dX8_layPeal_101 (.refl 104) (st' := [.int r4]) rfl ?_
  refine AW.istore (L' := [(10, .int r4), (9, .int (0 : Int32)), (8, .int ((r2 + (1 : Int32)) - x7)), (0, .ref 3), (1, .int x1), (2, .int x2), (3, .int x3), (4, .int x4), (5, .int x5), (6, .int x6), (7, .int x7)]) dX8_layPeal_104 (.refl 106) (by decide) rfl ?_
  refine AW.sub (L' := [(0, .ref 3), (1, .int x1), (2, .int x2), (3, .int x3), (4, .int x4), (5, .int x5), (6, .int x6), (8, .int ((r2 + (1 : Int32)) - x7)), (9, .int (0 : Int32)), (10, .int r4)]) [3, 4, 5, 6, 7, 8, 9, 2, 1, 0] rfl ?_
  exact a_X8_layPeal_p106 FU x1 x2 x3 x4 x5 x6 ((r2 + (1 : Int32)) - x7) (0 : Int32) r4 σ h
set_option maxRecDepth 20000 in
theorem c_X8_layPeal {l : Launch} {G : Gg} {x1 : Int32} {σ : Mm} {τ : Mm} (h : f_X8_layPeal x1 σ = some τ) : MR l G 1 M_X8_layPeal [.ref 3, .int x1] σ none τ := by
  unfold f_X8_layPeal at h
  refine MR.of (by decide +kernel) (Nat.le_of_ble_eq_true rfl) ?_
  show AW l G 1 M_X8_layPeal none τ 0 [(0, .ref 3), (1, .int x1)] [] σ
  refine AW.aload_n dX8_layPeal_0 (.refl 1) 0 rfl ?_
  refine AW.getR (z := 6) lk_X8_25 rfl rfl (by decide) rfl dX8_layPeal_1 (.refl 4) ?_
  refine AW.iload_n dX8_layPeal_4 (.refl 5) 1 rfl ?_
  obtain ⟨r2, e1, h⟩ := b1_s h
  refine AW.callN (r' := (some (.int r2))) (σ' := σ) (rest := []) lm_X8_60 (c_X9_at rfl e1) (by decide) (by decide) rfl rfl (Nat.le_of_ble_eq_true rfl) dX8_layPeal_5 (.refl 8) (st' := [.int r2]) rfl ?_
  refine AW.istore_n (L' := [(2, .int r2), (0, .ref 3), (1, .int x1)]) dX8_layPeal_8 (.refl 9) (by decide) rfl ?_
  refine AW.aload_n dX8_layPeal_9 (.refl 10) 1 rfl ?_
  refine AW.getR (z := 7) lk_X8_28 rfl rfl (by decide) rfl dX8_layPeal_10 (.refl 13) ?_
  refine AW.iload_n dX8_layPeal_13 (.refl 14) 2 rfl ?_
  obtain ⟨r4, e3, h⟩ := b1_s h
  refine AW.callN (r' := (some (.int r4))) (σ' := σ) (rest := []) lm_X8_60 (c_X9_at rfl e3) (by decide) (by decide) rfl rfl (Nat.le_of_ble_eq_true rfl) dX8_layPeal_14 (.refl 17) (st' := [.int r4]) rfl ?_
  refine AW.istore_n (L' := [(3, .int r4), (2, .int r2), (0, .ref 3), (1, .int x1)]) dX8_layPeal_17 (.refl 18) (by decide) rfl ?_
  refine AW.aload_n dX8_layPeal_18 (.refl 19) 2 rfl ?_
  refine AW.getR (z := 8) lk_X8_31 rfl rfl (by decide) rfl dX8_layPeal_19 (.refl 22) ?_
  refine AW.iload_n dX8_layPeal_22 (.refl 23) 3 rfl ?_
  obtain ⟨r6, e5, h⟩ := b1_s h
  refine AW.callN (r' := (some (.int r6))) (σ' := σ) (rest := []) lm_X8_60 (c_X9_at rfl e5) (by decide) (by decide) rfl rfl (Nat.le_of_ble_eq_true rfl) dX8_layPeal_23 (.refl 26) (st' := [.int r6]) rfl ?_
  refine AW.istore (L' := [(4, .int r6), (3, .int r4), (2, .int r2), (0, .ref 3), (1, .int x1)]) dX8_layPeal_26 (.refl 28) (by decide) rfl ?_
  refine AW.aload_n dX8_layPeal_28 (.refl 29) 3 rfl ?_
  refine AW.getR (z := 4) lk_X8_18 rfl rfl (by decide) rfl dX8_layPeal_29 (.refl 32) ?_
  refine AW.iload_n dX8_layPeal_32 (.refl 33) 2 rfl ?_
  obtain ⟨r8, e7, h⟩ := b1_s h
  refine AW.callN (r' := (some (.int r8))) (σ' := σ) (rest := []) lm_X8_60 (c_X9_at rfl e7) (by decide) (by decide) rfl rfl (Nat.le_of_ble_eq_true rfl) dX8_layPeal_33 (.refl 36) (st' := [.int r8]) rfl ?_
  refine AW.istore (L' := [(5, .int r8), (4, .int r6), (3, .int r4), (2, .int r2), (0, .ref 3), (1, .int x1)]) dX8_layPeal_36 (.refl 38) (by decide) rfl ?_
  refine AW.aload_n dX8_layPeal_38 (.refl 39) 4 rfl ?_
  refine AW.getR (z := 5) lk_X8_22 rfl rfl (by decide) rfl dX8_layPeal_39 (.refl 42) ?_
  refine AW.iload_n dX8_layPeal_42 (.refl 43) 3 rfl ?_
  obtain ⟨r10, e9, h⟩ := b1_s h
  refine AW.callN (r' := (some (.int r10))) (σ' := σ) (rest := []) lm_X8_60 (c_X9_at rfl e9) (by decide) (by decide) rfl rfl (Nat.le_of_ble_eq_true rfl) dX8_layPeal_43 (.refl 46) (st' := [.int r10]) rfl ?_
  refine AW.istore (L' := [(6, .int r10), (5, .int r8), (4, .int r6), (3, .int r4), (2, .int r2), (0, .ref 3), (1, .int x1)]) dX8_layPeal_46 (.refl 48) (by decide) rfl ?_
  refine AW.iload_n dX8_layPeal_48 (.refl 49) 3 rfl ?_
  refine AW.iload dX8_layPeal_49 (.refl 51) 1 rfl ?_
  refine AW.imul dX8_layPeal_51 (.refl 52) ?_
  refine AW.iload_n dX8_layPeal_52 (.refl 53) 3 rfl ?_
  refine AW.iconst (v := (1 : Int32)) dX8_layPeal_53 (.refl 54) (by decide) ?_
  refine AW.isub dX8_layPeal_54 (.refl 55) ?_
  refine AW.iload dX8_layPeal_55 (.refl 57) 2 rfl ?_
  refine AW.imul dX8_layPeal_57 (.refl 58) ?_
  refine AW.iadd dX8_layPeal_58 (.refl 59) ?_
  refine AW.istore (L' := [(7, .int ((r4 * r8) + ((r4 - (1 : Int32)) * r6))), (6, .int r10), (5, .int r8), (4, .int r6), (3, .int r4), (2, .int r2), (0, .ref 3), (1, .int x1)]) dX8_layPeal_59 (.refl 61) (by decide) rfl ?_
  refine AW.iload_n dX8_layPeal_61 (.refl 62) 4 rfl ?_
  refine AW.iconst (v := (1 : Int32)) dX8_layPeal_62 (.refl 63) (by decide) ?_
  refine AW.icmp_le (tgt := 78) dX8_layPeal_63 (by decide) (fun c14 => ?_) (fun c14 => ?_)
  · have h := ifp c14 h
    refine AW.sub (L' := [(0, .ref 3), (1, .int x1), (2, .int r2), (3, .int r4), (4, .int r6), (5, .int r8), (6, .int r10), (7, .int ((r4 * r8) + ((r4 - (1 : Int32)) * r6)))]) [6, 7, 5, 4, 3, 2, 1, 0] rfl ?_
    exact (a_X8_layPeal_p78) x1 r2 r4 r6 r8 r10 ((r4 * r8) + ((r4 - (1 : Int32)) * r6)) σ h
  · have h := ifn c14 h
    refine AW.iload dX8_layPeal_66 (.refl 68) 3 rfl ?_
    refine AW.iload dX8_layPeal_68 (.refl 70) 1 rfl ?_
    refine AW.icmp_ge (tgt := 78) dX8_layPeal_70 (by decide) (fun c13 => ?_) (fun c13 => ?_)
    · have h := ifp c13 h
      refine AW.sub (L' := [(0, .ref 3), (1, .int x1), (2, .int r2), (3, .int r4), (4, .int r6), (5, .int r8), (6, .int r10), (7, .int ((r4 * r8) + ((r4 - (1 : Int32)) * r6)))]) [6, 7, 5, 4, 3, 2, 1, 0] rfl ?_
      exact (a_X8_layPeal_p78) x1 r2 r4 r6 r8 r10 ((r4 * r8) + ((r4 - (1 : Int32)) * r6)) σ h
    · have h := ifn c13 h
      refine AW.bipush (v := (-9 : Int32)) dX8_layPeal_73 (.refl 75) (by decide) ?_
      refine AW.goto (tgt := 91) dX8_layPeal_75 (by decide) ?_
      refine AW.istore (L' := [(8, .int (-9 : Int32)), (7, .int ((r4 * r8) + ((r4 - (1 : Int32)) * r6))), (6, .int r10), (5, .int r8), (4, .int r6), (3, .int r4), (2, .int r2), (0, .ref 3), (1, .int x1)]) dX8_layPeal_91 (.refl 93) (by decide) rfl ?_
      refine AW.iconst (v := (0 : Int32)) dX8_layPeal_93 (.refl 94) (by decide) ?_
      refine AW.istore (L' := [(9, .int (0 : Int32)), (8, .int (-9 : Int32)), (7, .int ((r4 * r8) + ((r4 - (1 : Int32)) * r6))), (6, .int r10), (5, .int r8), (4, .int r6), (3, .int r4), (2, .int r2), (0, .ref 3), (1, .int x1)]) dX8_layPeal_94 (.refl 96) (by decide) rfl ?_
      refine AW.aload_n dX8_layPeal_96 (.refl 97) 8 rfl ?_
      refine AW.getR (z := 9) lk_X8_34 rfl rfl (by decide) rfl dX8_layPeal_97 (.refl 100) ?_
      refine AW.iload_n dX8_layPeal_100 (.refl 101) 9 rfl ?_
      obtain ⟨r12, e11, h⟩ := b1_s h
      refine AW.callN (r' := (some (.int r12))) (σ' := σ) (rest := []) lm_X8_60 (c_X9_at rfl e11) (by decide) (by decide) rfl rfl (Nat.le_of_ble_eq_true rfl) dX8_layPeal_101 (.refl 104) (st' := [.int r12]) rfl ?_
      refine AW.istore (L' := [(10, .int r12), (9, .int (0 : Int32)), (8, .int (-9 : Int32)), (7, .int ((r4 * r8) + ((r4 - (1 : Int32)) * r6))), (6, .int r10), (5, .int r8), (4, .int r6), (3, .int r4), (2, .int r2), (0, .ref 3), (1, .int x1)]) dX8_layPeal_104 (.refl 106) (by decide) rfl ?_
      refine AW.sub (L' := [(0, .ref 3), (1, .int x1), (2, .int r2), (3, .int r4), (4, .int r6), (5, .int r8), (6, .int r10), (8, .int (-9 : Int32)), (9, .int (0 : Int32)), (10, .int r12)]) [9, 10, 8, 7, 6, 5, 4, 2, 1, 0] rfl ?_
      exact a_X8_layPeal_p106 FU x1 r2 r4 r6 r8 r10 (-9 : Int32) (0 : Int32) r12 σ h
def f_X8_addBidder_p116 (x4 : Int32) (x5 : Int32) (x6 : Int32) (s0 : Int32) (s1 : Int32) (σ : Mm) : Option (Mm) := gd (inB s1 5) (b1 (f_X7_figureAt (sI σ 8 (s1).toNatClampNeg s0) x6) (fun (r3 : Int32) => gd (inB x4 5) (b1 (f_X7_figureAt (sI (sI σ 8 (s1).toNatClampNeg s0) 9 (x4).toNatClampNeg r3) (x6 + (1 : Int32))) (fun (r6 : Int32) => gd (inB x4 5) (bnd ((sI (sI (sI σ 8 (s1).toNatClampNeg s0) 9 (x4).toNatClampNeg r3) 10 (x4).toNatClampNeg r6)) (fun (σ8 : Mm) => b1 (f_X7_figureAt σ8 (x6 + (2 : Int32))) (fun (r11 : Int32) => gd (inB x4 5) (bnd ((sI (sI σ8 11 (x4).toNatClampNeg r11) 3 1 (((sI σ8 11 (x4).toNatClampNeg r11).1 3 1) + (1 : Int32)))) (fun (σ13 : Mm) => (if x5 = 0 then gd (inB x4 5) (gd (inB x4 5) (gd (inB x4 5) (b1 (f_X9_stretch σ13 (σ13.1 9 (x4).toNatClampNeg) (((σ13.1 10 (x4).toNatClampNeg) - (σ13.1 9 (x4).toNatClampNeg)) + (1 : Int32))) (fun (r19 : Int32) => gd (inB x4 5) (gd (inB x4 5) (gd (inB x4 5) (bnd ((sI (sI σ13 13 (x4).toNatClampNeg (r19 * (1049601 : Int32))) 12 (x4).toNatClampNeg (jshl (1 : Int32) ((sI σ13 13 (x4).toNatClampNeg (r19 * (1049601 : Int32))).1 9 (x4).toNatClampNeg)))) (fun (σ23 : Mm) => some σ23)))))))) else b1 (f_X8_layPeal x4 σ13) (fun (τ26 : Mm) => some τ26)))))))))))
def f_X8_addBidder_p93 (x3 : Int32) (x4 : Int32) (x5 : Int32) (x6 : Int32) (s0 : Int32) (s1 : Int32) (σ : Mm) : Option (Mm) := gd (inB s1 5) ((if x5 = 0 then (f_X8_addBidder_p116) x4 x5 x6 (0 : Int32) x4 (sI σ 7 (s1).toNatClampNeg s0) else b1 (f_X7_figureAt (sI σ 7 (s1).toNatClampNeg s0) (x3 + (3 : Int32))) (fun (r3 : Int32) => (f_X8_addBidder_p116) x4 x5 x6 r3 x4 (sI σ 7 (s1).toNatClampNeg s0))))
def f_X8_addBidder_p70 (x3 : Int32) (x4 : Int32) (x5 : Int32) (x6 : Int32) (s0 : Int32) (s1 : Int32) (σ : Mm) : Option (Mm) := gd (inB s1 5) ((if x5 = 0 then (f_X8_addBidder_p93) x3 x4 x5 x6 (0 : Int32) x4 (sI σ 6 (s1).toNatClampNeg s0) else b1 (f_X7_figureAt (sI σ 6 (s1).toNatClampNeg s0) (x3 + (2 : Int32))) (fun (r3 : Int32) => (f_X8_addBidder_p93) x3 x4 x5 x6 r3 x4 (sI σ 6 (s1).toNatClampNeg s0))))
def f_X8_addBidder_p45 (x3 : Int32) (x4 : Int32) (x5 : Int32) (s0 : Int32) (σ : Mm) : Option (Mm) := (if x5 = 0 then (f_X8_addBidder_p70) x3 x4 x5 s0 (-9 : Int32) x4 σ else b1 (f_X7_figureAt σ (x3 + (1 : Int32))) (fun (r2 : Int32) => (f_X8_addBidder_p70) x3 x4 x5 s0 r2 x4 σ))
def f_X8_addBidder_p29 (x3 : Int32) (x4 : Int32) (s0 : Int32) (σ : Mm) : Option (Mm) := (if s0 = 0 then (f_X8_addBidder_p45) x3 x4 s0 (x3 + (1 : Int32)) σ else (f_X8_addBidder_p45) x3 x4 s0 (x3 + (4 : Int32)) σ)
def f_X8_addBidder (x1 : Int32) (x3 : Int32) (σ : Mm) : Option (Mm) := (if (σ.1 3 1) < 0 then some σ else (if (σ.1 3 1) < (5 : Int32) then (if x1 = (80 : Int32) then (f_X8_addBidder_p29) x3 (σ.1 3 1) (1 : Int32) σ else (f_X8_addBidder_p29) x3 (σ.1 3 1) (0 : Int32) σ) else some σ))
set_option maxRecDepth 20000 in
theorem a_X8_addBidder_p116 {l : Launch} {G : Gg} {τ : Mm} (x4 : Int32) (x5 : Int32) (x6 : Int32) (s0 : Int32) (s1 : Int32) (σ : Mm) (h : f_X8_addBidder_p116 x4 x5 x6 s0 s1 σ = some τ) : AW l G 3 M_X8_addBidder none τ 116 [(0, .ref 3), (2, .ref 1), (4, .int x4), (5, .int x5), (6, .int x6)] [.int s0, .int s1, .ref 8] σ := by
  unfold f_X8_addBidder_p116 at h
  obtain ⟨g1, h⟩ := gd_s h
  refine AW.iastore rfl g1 dX8_addBidder_116 (.refl 117) ?_
  refine AW.aload_n dX8_addBidder_117 (.refl 118) 0 rfl ?_
  refine AW.getR (z := 9) lk_X8_34 rfl rfl (by decide) rfl dX8_addBidder_118 (.refl 121) ?_
  refine AW.iload dX8_addBidder_121 (.refl 123) 2 rfl ?_
  refine AW.aload_n dX8_addBidder_123 (.refl 124) 1 rfl ?_
  refine AW.iload dX8_addBidder_124 (.refl 126) 4 rfl ?_
  obtain ⟨r3, e2, h⟩ := b1_s h
  refine AW.callV (r' := (some (.int r3))) (σ' := (sI σ 8 (s1).toNatClampNeg s0)) (rest := [.int x4, .ref 9]) lm_X8_86 (c_X7_figureAt e2) (by decide) (by decide) rfl rfl (by decide) rfl rfl (Nat.le_of_ble_eq_true rfl) dX8_addBidder_126 (.refl 129) (st' := [.int r3, .int x4, .ref 9]) rfl ?_
  obtain ⟨g4, h⟩ := gd_s h
  refine AW.iastore rfl g4 dX8_addBidder_129 (.refl 130) ?_
  refine AW.aload_n dX8_addBidder_130 (.refl 131) 0 rfl ?_
  refine AW.getR (z := 10) lk_X8_37 rfl rfl (by decide) rfl dX8_addBidder_131 (.refl 134) ?_
  refine AW.iload dX8_addBidder_134 (.refl 136) 2 rfl ?_
  refine AW.aload_n dX8_addBidder_136 (.refl 137) 1 rfl ?_
  refine AW.iload dX8_addBidder_137 (.refl 139) 4 rfl ?_
  refine AW.iconst (v := (1 : Int32)) dX8_addBidder_139 (.refl 140) (by decide) ?_
  refine AW.iadd dX8_addBidder_140 (.refl 141) ?_
  obtain ⟨r6, e5, h⟩ := b1_s h
  refine AW.callV (r' := (some (.int r6))) (σ' := (sI (sI σ 8 (s1).toNatClampNeg s0) 9 (x4).toNatClampNeg r3)) (rest := [.int x4, .ref 10]) lm_X8_86 (c_X7_figureAt e5) (by decide) (by decide) rfl rfl (by decide) rfl rfl (Nat.le_of_ble_eq_true rfl) dX8_addBidder_141 (.refl 144) (st' := [.int r6, .int x4, .ref 10]) rfl ?_
  obtain ⟨g7, h⟩ := gd_s h
  refine AW.iastore rfl g7 dX8_addBidder_144 (.refl 145) ?_
  obtain ⟨σ8, e9, h⟩ := bnd_s h
  refine AW.nmM e9 ?_
  refine AW.aload_n dX8_addBidder_145 (.refl 146) 0 rfl ?_
  refine AW.getR (z := 11) lk_X8_40 rfl rfl (by decide) rfl dX8_addBidder_146 (.refl 149) ?_
  refine AW.iload dX8_addBidder_149 (.refl 151) 2 rfl ?_
  refine AW.aload_n dX8_addBidder_151 (.refl 152) 1 rfl ?_
  refine AW.iload dX8_addBidder_152 (.refl 154) 4 rfl ?_
  refine AW.iconst (v := (2 : Int32)) dX8_addBidder_154 (.refl 155) (by decide) ?_
  refine AW.iadd dX8_addBidder_155 (.refl 156) ?_
  obtain ⟨r11, e10, h⟩ := b1_s h
  refine AW.callV (r' := (some (.int r11))) (σ' := σ8) (rest := [.int x4, .ref 11]) lm_X8_86 (c_X7_figureAt e10) (by decide) (by decide) rfl rfl (by decide) rfl rfl (Nat.le_of_ble_eq_true rfl) dX8_addBidder_156 (.refl 159) (st' := [.int r11, .int x4, .ref 11]) rfl ?_
  obtain ⟨g12, h⟩ := gd_s h
  refine AW.iastore rfl g12 dX8_addBidder_159 (.refl 160) ?_
  refine AW.aload_n dX8_addBidder_160 (.refl 161) 0 rfl ?_
  refine AW.dup dX8_addBidder_161 (.refl 162) rfl ?_
  refine AW.getI lk_X8_15 rfl rfl (by decide) dX8_addBidder_162 (.refl 165) ?_
  refine AW.iconst (v := (1 : Int32)) dX8_addBidder_165 (.refl 166) (by decide) ?_
  refine AW.iadd dX8_addBidder_166 (.refl 167) ?_
  refine AW.putI lp_X8_15 rfl rfl (by decide) dX8_addBidder_167 (.refl 170) ?_
  obtain ⟨σ13, e14, h⟩ := bnd_s h
  refine AW.nmM e14 ?_
  refine AW.iload dX8_addBidder_170 (.refl 172) 3 rfl ?_
  refine AW.if_eq (tgt := 184) dX8_addBidder_172 (by decide) (fun c27 => ?_) (fun c27 => ?_)
  · have h := ifp c27 h
    refine AW.aload_n dX8_addBidder_184 (.refl 185) 0 rfl ?_
    refine AW.getR (z := 13) lk_X8_46 rfl rfl (by decide) rfl dX8_addBidder_185 (.refl 188) ?_
    refine AW.iload dX8_addBidder_188 (.refl 190) 2 rfl ?_
    refine AW.aload_n dX8_addBidder_190 (.refl 191) 0 rfl ?_
    refine AW.getR (z := 9) lk_X8_34 rfl rfl (by decide) rfl dX8_addBidder_191 (.refl 194) ?_
    refine AW.iload dX8_addBidder_194 (.refl 196) 2 rfl ?_
    obtain ⟨g15, h⟩ := gd_s h
    refine AW.iaload rfl g15 dX8_addBidder_196 (.refl 197) ?_
    refine AW.aload_n dX8_addBidder_197 (.refl 198) 0 rfl ?_
    refine AW.getR (z := 10) lk_X8_37 rfl rfl (by decide) rfl dX8_addBidder_198 (.refl 201) ?_
    refine AW.iload dX8_addBidder_201 (.refl 203) 2 rfl ?_
    obtain ⟨g16, h⟩ := gd_s h
    refine AW.iaload rfl g16 dX8_addBidder_203 (.refl 204) ?_
    refine AW.aload_n dX8_addBidder_204 (.refl 205) 0 rfl ?_
    refine AW.getR (z := 9) lk_X8_34 rfl rfl (by decide) rfl dX8_addBidder_205 (.refl 208) ?_
    refine AW.iload dX8_addBidder_208 (.refl 210) 2 rfl ?_
    obtain ⟨g17, h⟩ := gd_s h
    refine AW.iaload rfl g17 dX8_addBidder_210 (.refl 211) ?_
    refine AW.isub dX8_addBidder_211 (.refl 212) ?_
    refine AW.iconst (v := (1 : Int32)) dX8_addBidder_212 (.refl 213) (by decide) ?_
    refine AW.iadd dX8_addBidder_213 (.refl 214) ?_
    obtain ⟨r19, e18, h⟩ := b1_s h
    refine AW.callN (r' := (some (.int r19))) (σ' := σ13) (rest := [.int x4, .ref 13]) lm_X8_108 (c_X9_stretch e18) (by decide) (by decide) rfl rfl (Nat.le_of_ble_eq_true rfl) dX8_addBidder_214 (.refl 217) (st' := [.int r19, .int x4, .ref 13]) rfl ?_
    refine AW.ldc lc_X8_111 dX8_addBidder_217 (.refl 219) ?_
    refine AW.imul dX8_addBidder_219 (.refl 220) ?_
    obtain ⟨g20, h⟩ := gd_s h
    refine AW.iastore rfl g20 dX8_addBidder_220 (.refl 221) ?_
    refine AW.aload_n dX8_addBidder_221 (.refl 222) 0 rfl ?_
    refine AW.getR (z := 12) lk_X8_43 rfl rfl (by decide) rfl dX8_addBidder_222 (.refl 225) ?_
    refine AW.iload dX8_addBidder_225 (.refl 227) 2 rfl ?_
    refine AW.iconst (v := (1 : Int32)) dX8_addBidder_227 (.refl 228) (by decide) ?_
    refine AW.aload_n dX8_addBidder_228 (.refl 229) 0 rfl ?_
    refine AW.getR (z := 9) lk_X8_34 rfl rfl (by decide) rfl dX8_addBidder_229 (.refl 232) ?_
    refine AW.iload dX8_addBidder_232 (.refl 234) 2 rfl ?_
    obtain ⟨g21, h⟩ := gd_s h
    refine AW.iaload rfl g21 dX8_addBidder_234 (.refl 235) ?_
    refine AW.ishl dX8_addBidder_235 (.refl 236) ?_
    obtain ⟨g22, h⟩ := gd_s h
    refine AW.iastore rfl g22 dX8_addBidder_236 (.refl 237) ?_
    obtain ⟨σ23, e24, h⟩ := bnd_s h
    refine AW.nmM e24 ?_
    cases h
    exact AW.vreturn rfl dX8_addBidder_237
  · have h := ifn c27 h
    refine AW.aload_n dX8_addBidder_175 (.refl 176) 0 rfl ?_
    refine AW.iload dX8_addBidder_176 (.refl 178) 2 rfl ?_
    obtain ⟨τ26, e25, h⟩ := b1_s h
    refine AW.callV (r' := none) (σ' := τ26) (rest := []) lm_X8_104 (c_X8_layPeal e25) (by decide) (by decide) rfl rfl (by decide) rfl rfl (Nat.le_of_ble_eq_true rfl) dX8_addBidder_178 (.refl 181) (st' := []) rfl ?_
    refine AW.goto (tgt := 237) dX8_addBidder_181 (by decide) ?_
    cases h
    exact AW.vreturn rfl dX8_addBidder_237
set_option maxRecDepth 20000 in
theorem a_X8_addBidder_p93 {l : Launch} {G : Gg} {τ : Mm} (x3 : Int32) (x4 : Int32) (x5 : Int32) (x6 : Int32) (s0 : Int32) (s1 : Int32) (σ : Mm) (h : f_X8_addBidder_p93 x3 x4 x5 x6 s0 s1 σ = some τ) : AW l G 3 M_X8_addBidder none τ 93 [(0, .ref 3), (2, .ref 1), (3, .int x3), (4, .int x4), (5, .int x5), (6, .int x6)] [.int s0, .int s1, .ref 7] σ := by
  unfold f_X8_addBidder_p93 at h
  obtain ⟨g1, h⟩ := gd_s h
  refine AW.iastore rfl g1 dX8_addBidder_93 (.refl 94) ?_
  refine AW.aload_n dX8_addBidder_94 (.refl 95) 0 rfl ?_
  refine AW.getR (z := 8) lk_X8_31 rfl rfl (by decide) rfl dX8_addBidder_95 (.refl 98) ?_
  refine AW.iload dX8_addBidder_98 (.refl 100) 3 rfl ?_
  refine AW.iload dX8_addBidder_100 (.refl 102) 4 rfl ?_
  refine AW.if_eq (tgt := 115) dX8_addBidder_102 (by decide) (fun c4 => ?_) (fun c4 => ?_)
  · have h := ifp c4 h
    refine AW.iconst (v := (0 : Int32)) dX8_addBidder_115 (.refl 116) (by decide) ?_
    refine AW.sub (L' := [(0, .ref 3), (2, .ref 1), (4, .int x4), (5, .int x5), (6, .int x6)]) [0, 1, 3, 4, 5] rfl ?_
    exact (a_X8_addBidder_p116) x4 x5 x6 (0 : Int32) x4 (sI σ 7 (s1).toNatClampNeg s0) h
  · have h := ifn c4 h
    refine AW.aload_n dX8_addBidder_105 (.refl 106) 1 rfl ?_
    refine AW.iload_n dX8_addBidder_106 (.refl 107) 2 rfl ?_
    refine AW.iconst (v := (3 : Int32)) dX8_addBidder_107 (.refl 108) (by decide) ?_
    refine AW.iadd dX8_addBidder_108 (.refl 109) ?_
    obtain ⟨r3, e2, h⟩ := b1_s h
    refine AW.callV (r' := (some (.int r3))) (σ' := (sI σ 7 (s1).toNatClampNeg s0)) (rest := [.int x4, .ref 8]) lm_X8_86 (c_X7_figureAt e2) (by decide) (by decide) rfl rfl (by decide) rfl rfl (Nat.le_of_ble_eq_true rfl) dX8_addBidder_109 (.refl 112) (st' := [.int r3, .int x4, .ref 8]) rfl ?_
    refine AW.goto (tgt := 116) dX8_addBidder_112 (by decide) ?_
    refine AW.sub (L' := [(0, .ref 3), (2, .ref 1), (4, .int x4), (5, .int x5), (6, .int x6)]) [0, 1, 3, 4, 5] rfl ?_
    exact (a_X8_addBidder_p116) x4 x5 x6 r3 x4 (sI σ 7 (s1).toNatClampNeg s0) h
set_option maxRecDepth 20000 in
theorem a_X8_addBidder_p70 {l : Launch} {G : Gg} {τ : Mm} (x3 : Int32) (x4 : Int32) (x5 : Int32) (x6 : Int32) (s0 : Int32) (s1 : Int32) (σ : Mm) (h : f_X8_addBidder_p70 x3 x4 x5 x6 s0 s1 σ = some τ) : AW l G 3 M_X8_addBidder none τ 70 [(0, .ref 3), (2, .ref 1), (3, .int x3), (4, .int x4), (5, .int x5), (6, .int x6)] [.int s0, .int s1, .ref 6] σ := by
  unfold f_X8_addBidder_p70 at h
  obtain ⟨g1, h⟩ := gd_s h
  refine AW.iastore rfl g1 dX8_addBidder_70 (.refl 71) ?_
  refine AW.aload_n dX8_addBidder_71 (.refl 72) 0 rfl ?_
  refine AW.getR (z := 7) lk_X8_28 rfl rfl (by decide) rfl dX8_addBidder_72 (.refl 75) ?_
  refine AW.iload dX8_addBidder_75 (.refl 77) 3 rfl ?_
  refine AW.iload dX8_addBidder_77 (.refl 79) 4 rfl ?_
  refine AW.if_eq (tgt := 92) dX8_addBidder_79 (by decide) (fun c4 => ?_) (fun c4 => ?_)
  · have h := ifp c4 h
    refine AW.iconst (v := (0 : Int32)) dX8_addBidder_92 (.refl 93) (by decide) ?_
    exact (a_X8_addBidder_p93) x3 x4 x5 x6 (0 : Int32) x4 (sI σ 6 (s1).toNatClampNeg s0) h
  · have h := ifn c4 h
    refine AW.aload_n dX8_addBidder_82 (.refl 83) 1 rfl ?_
    refine AW.iload_n dX8_addBidder_83 (.refl 84) 2 rfl ?_
    refine AW.iconst (v := (2 : Int32)) dX8_addBidder_84 (.refl 85) (by decide) ?_
    refine AW.iadd dX8_addBidder_85 (.refl 86) ?_
    obtain ⟨r3, e2, h⟩ := b1_s h
    refine AW.callV (r' := (some (.int r3))) (σ' := (sI σ 6 (s1).toNatClampNeg s0)) (rest := [.int x4, .ref 7]) lm_X8_86 (c_X7_figureAt e2) (by decide) (by decide) rfl rfl (by decide) rfl rfl (Nat.le_of_ble_eq_true rfl) dX8_addBidder_86 (.refl 89) (st' := [.int r3, .int x4, .ref 7]) rfl ?_
    refine AW.goto (tgt := 93) dX8_addBidder_89 (by decide) ?_
    exact (a_X8_addBidder_p93) x3 x4 x5 x6 r3 x4 (sI σ 6 (s1).toNatClampNeg s0) h
set_option maxRecDepth 20000 in
theorem a_X8_addBidder_p45 {l : Launch} {G : Gg} {τ : Mm} (x3 : Int32) (x4 : Int32) (x5 : Int32) (s0 : Int32) (σ : Mm) (h : f_X8_addBidder_p45 x3 x4 x5 s0 σ = some τ) : AW l G 3 M_X8_addBidder none τ 45 [(0, .ref 3), (2, .ref 1), (3, .int x3), (4, .int x4), (5, .int x5)] [.int s0] σ := by
  unfold f_X8_addBidder_p45 at h
  refine AW.istore (L' := [(6, .int s0), (0, .ref 3), (2, .ref 1), (3, .int x3), (4, .int x4), (5, .int x5)]) dX8_addBidder_45 (.refl 47) (by decide) rfl ?_
  refine AW.aload_n dX8_addBidder_47 (.refl 48) 1 rfl ?_
  refine AW.getR (z := 6) lk_X8_25 rfl rfl (by decide) rfl dX8_addBidder_48 (.refl 51) ?_
  refine AW.iload dX8_addBidder_51 (.refl 53) 4 rfl ?_
  refine AW.iload dX8_addBidder_53 (.refl 55) 5 rfl ?_
  refine AW.if_eq (tgt := 68) dX8_addBidder_55 (by decide) (fun c3 => ?_) (fun c3 => ?_)
  · have h := ifp c3 h
    refine AW.bipush (v := (-9 : Int32)) dX8_addBidder_68 (.refl 70) (by decide) ?_
    refine AW.sub (L' := [(0, .ref 3), (2, .ref 1), (3, .int x3), (4, .int x4), (5, .int x5), (6, .int s0)]) [1, 2, 3, 4, 5, 0] rfl ?_
    exact (a_X8_addBidder_p70) x3 x4 x5 s0 (-9 : Int32) x4 σ h
  · have h := ifn c3 h
    refine AW.aload_n dX8_addBidder_58 (.refl 59) 2 rfl ?_
    refine AW.iload_n dX8_addBidder_59 (.refl 60) 3 rfl ?_
    refine AW.iconst (v := (1 : Int32)) dX8_addBidder_60 (.refl 61) (by decide) ?_
    refine AW.iadd dX8_addBidder_61 (.refl 62) ?_
    obtain ⟨r2, e1, h⟩ := b1_s h
    refine AW.callV (r' := (some (.int r2))) (σ' := σ) (rest := [.int x4, .ref 6]) lm_X8_86 (c_X7_figureAt e1) (by decide) (by decide) rfl rfl (by decide) rfl rfl (Nat.le_of_ble_eq_true rfl) dX8_addBidder_62 (.refl 65) (st' := [.int r2, .int x4, .ref 6]) rfl ?_
    refine AW.goto (tgt := 70) dX8_addBidder_65 (by decide) ?_
    refine AW.sub (L' := [(0, .ref 3), (2, .ref 1), (3, .int x3), (4, .int x4), (5, .int x5), (6, .int s0)]) [1, 2, 3, 4, 5, 0] rfl ?_
    exact (a_X8_addBidder_p70) x3 x4 x5 s0 r2 x4 σ h
set_option maxRecDepth 20000 in
theorem a_X8_addBidder_p29 {l : Launch} {G : Gg} {τ : Mm} (x3 : Int32) (x4 : Int32) (s0 : Int32) (σ : Mm) (h : f_X8_addBidder_p29 x3 x4 s0 σ = some τ) : AW l G 3 M_X8_addBidder none τ 29 [(0, .ref 3), (2, .ref 1), (3, .int x3), (4, .int x4)] [.int s0] σ := by
  unfold f_X8_addBidder_p29 at h
  refine AW.istore (L' := [(5, .int s0), (0, .ref 3), (2, .ref 1), (3, .int x3), (4, .int x4)]) dX8_addBidder_29 (.refl 31) (by decide) rfl ?_
  refine AW.iload dX8_addBidder_31 (.refl 33) 0 rfl ?_
  refine AW.if_eq (tgt := 42) dX8_addBidder_33 (by decide) (fun c1 => ?_) (fun c1 => ?_)
  · have h := ifp c1 h
    refine AW.iload_n dX8_addBidder_42 (.refl 43) 3 rfl ?_
    refine AW.iconst (v := (1 : Int32)) dX8_addBidder_43 (.refl 44) (by decide) ?_
    refine AW.iadd dX8_addBidder_44 (.refl 45) ?_
    refine AW.sub (L' := [(0, .ref 3), (2, .ref 1), (3, .int x3), (4, .int x4), (5, .int s0)]) [1, 2, 3, 4, 0] rfl ?_
    exact (a_X8_addBidder_p45) x3 x4 s0 (x3 + (1 : Int32)) σ h
  · have h := ifn c1 h
    refine AW.iload_n dX8_addBidder_36 (.refl 37) 3 rfl ?_
    refine AW.iconst (v := (4 : Int32)) dX8_addBidder_37 (.refl 38) (by decide) ?_
    refine AW.iadd dX8_addBidder_38 (.refl 39) ?_
    refine AW.goto (tgt := 45) dX8_addBidder_39 (by decide) ?_
    refine AW.sub (L' := [(0, .ref 3), (2, .ref 1), (3, .int x3), (4, .int x4), (5, .int s0)]) [1, 2, 3, 4, 0] rfl ?_
    exact (a_X8_addBidder_p45) x3 x4 s0 (x3 + (4 : Int32)) σ h
set_option maxRecDepth 20000 in
theorem c_X8_addBidder {l : Launch} {G : Gg} {x1 : Int32} {x3 : Int32} {σ : Mm} {τ : Mm} (h : f_X8_addBidder x1 x3 σ = some τ) : MR l G 3 M_X8_addBidder [.ref 3, .int x1, .ref 1, .int x3] σ none τ := by
  unfold f_X8_addBidder at h
  refine MR.of (by decide +kernel) (Nat.le_of_ble_eq_true rfl) ?_
  show AW l G 3 M_X8_addBidder none τ 0 [(0, .ref 3), (1, .int x1), (2, .ref 1), (3, .int x3)] [] σ
  refine AW.aload_n dX8_addBidder_0 (.refl 1) 0 rfl ?_
  refine AW.getI lk_X8_15 rfl rfl (by decide) dX8_addBidder_1 (.refl 4) ?_
  refine AW.istore (L' := [(4, .int (σ.1 3 1)), (0, .ref 3), (1, .int x1), (2, .ref 1), (3, .int x3)]) dX8_addBidder_4 (.refl 6) (by decide) rfl ?_
  refine AW.iload dX8_addBidder_6 (.refl 8) 0 rfl ?_
  refine AW.if_lt (tgt := 17) dX8_addBidder_8 (by decide) (fun c3 => ?_) (fun c3 => ?_)
  · have h := ifp c3 h
    cases h
    exact AW.vreturn rfl dX8_addBidder_17
  · have h := ifn c3 h
    refine AW.iload dX8_addBidder_11 (.refl 13) 0 rfl ?_
    refine AW.iconst (v := (5 : Int32)) dX8_addBidder_13 (.refl 14) (by decide) ?_
    refine AW.icmp_lt (tgt := 18) dX8_addBidder_14 (by decide) (fun c2 => ?_) (fun c2 => ?_)
    · have h := ifp c2 h
      refine AW.iload_n dX8_addBidder_18 (.refl 19) 2 rfl ?_
      refine AW.bipush (v := (80 : Int32)) dX8_addBidder_19 (.refl 21) (by decide) ?_
      refine AW.icmp_ne (tgt := 28) dX8_addBidder_21 (by decide) (fun c1 => ?_) (fun c1 => ?_)
      · have h := ifn c1 h
        refine AW.iconst (v := (0 : Int32)) dX8_addBidder_28 (.refl 29) (by decide) ?_
        refine AW.sub (L' := [(0, .ref 3), (2, .ref 1), (3, .int x3), (4, .int (σ.1 3 1))]) [1, 3, 4, 0] rfl ?_
        exact (a_X8_addBidder_p29) x3 (σ.1 3 1) (0 : Int32) σ h
      · have h := ifp c1 h
        refine AW.iconst (v := (1 : Int32)) dX8_addBidder_24 (.refl 25) (by decide) ?_
        refine AW.goto (tgt := 29) dX8_addBidder_25 (by decide) ?_
        refine AW.sub (L' := [(0, .ref 3), (2, .ref 1), (3, .int x3), (4, .int (σ.1 3 1))]) [1, 3, 4, 0] rfl ?_
        exact (a_X8_addBidder_p29) x3 (σ.1 3 1) (1 : Int32) σ h
    · have h := ifn c2 h
      cases h
      exact AW.vreturn rfl dX8_addBidder_17
def f_X8_clear_p33 (ke53 : Int32 → Mm → Option (Mm)) : Nat → Int32 → Int32 → Mm → Option (Mm)
  | 0, _, _, _ => none
  | n + 1, x1, x2, σ => (if (10 : Int32) ≤ x2 then ke53 x1 σ else b1 (f_X8_layPlace x1 x2 (0 : Int64) (0 : Int32) σ) (fun (τ2 : Mm) => (f_X8_clear_p33 ke53 n) x1 (x2 + (1 : Int32)) τ2))
def f_X8_clear_p53 (kh : Int32 → Mm → Option (Mm)) (x1 : Int32) (σ : Mm) : Option (Mm) := kh (x1 + (1 : Int32)) σ
def f_X8_clear_p12 : Nat → Int32 → Mm → Option (Mm)
  | 0, _, _ => none
  | n + 1, x1, σ => (if (5 : Int32) ≤ x1 then some σ else gd (inB x1 5) (gd (inB x1 5) (bnd ((sI (sI σ 12 (x1).toNatClampNeg (0 : Int32)) 13 (x1).toNatClampNeg (0 : Int32))) (fun (σ3 : Mm) => f_X8_clear_p33 (f_X8_clear_p53 (f_X8_clear_p12 n)) FU x1 (0 : Int32) σ3))))
def f_X8_clear  (σ : Mm) : Option (Mm) := f_X8_clear_p12 FU (0 : Int32) (sI (sI σ 3 0 (0 : Int32)) 3 1 (0 : Int32))
set_option maxRecDepth 20000 in
theorem a_X8_clear_p33 {l : Launch} {G : Gg} {τ : Mm} {ke53 : Int32 → Mm → Option (Mm)} (he53 : ∀ (x1 : Int32) (σ : Mm), ke53 x1 σ = some τ → AW l G 1 M_X8_clear none τ 53 [(0, .ref 3), (1, .int x1)] [] σ) : ∀ (n : Nat) (x1 : Int32) (x2 : Int32) (σ : Mm), f_X8_clear_p33 ke53 n x1 x2 σ = some τ → AW l G 1 M_X8_clear none τ 33 [(0, .ref 3), (1, .int x1), (2, .int x2)] [] σ := by
  intro n
  induction n with
  | zero => intro x1 x2 σ h; exact no_some h
  | succ n ih =>
    intro x1 x2 σ h
    rw [f_X8_clear_p33] at h
    refine AW.iload_n dX8_clear_33 (.refl 34) 2 rfl ?_
    refine AW.bipush (v := (10 : Int32)) dX8_clear_34 (.refl 36) (by decide) ?_
    refine AW.icmp_ge (tgt := 53) dX8_clear_36 (by decide) (fun c3 => ?_) (fun c3 => ?_)
    · have h := ifp c3 h
      refine AW.sub (L' := [(0, .ref 3), (1, .int x1)]) [0, 1] rfl ?_
      exact he53 x1 σ h
    · have h := ifn c3 h
      refine AW.aload_n dX8_clear_39 (.refl 40) 0 rfl ?_
      refine AW.iload_n dX8_clear_40 (.refl 41) 1 rfl ?_
      refine AW.iload_n dX8_clear_41 (.refl 42) 2 rfl ?_
      refine AW.lconst (v := (0 : Int64)) dX8_clear_42 (.refl 43) (by decide) ?_
      refine AW.iconst (v := (0 : Int32)) dX8_clear_43 (.refl 44) (by decide) ?_
      obtain ⟨τ2, e1, h⟩ := b1_s h
      refine AW.callV (r' := none) (σ' := τ2) (rest := []) lm_X8_100 (c_X8_layPlace e1) (by decide) (by decide) rfl rfl (by decide) rfl rfl (Nat.le_of_ble_eq_true rfl) dX8_clear_44 (.refl 47) (st' := []) rfl ?_
      refine AW.iinc (v := (x2 + (1 : Int32))) (L' := [(2, .int (x2 + (1 : Int32))), (0, .ref 3), (1, .int x1)]) dX8_clear_47 (.refl 50) 2 rfl rfl (by decide) rfl ?_
      refine AW.goto (tgt := 33) dX8_clear_50 (by decide) ?_
      refine AW.sub (L' := [(0, .ref 3), (1, .int x1), (2, .int (x2 + (1 : Int32)))]) [1, 2, 0] rfl ?_
      exact ih x1 (x2 + (1 : Int32)) τ2 h
set_option maxRecDepth 20000 in
theorem a_X8_clear_p53 {l : Launch} {G : Gg} {τ : Mm} {kh : Int32 → Mm → Option (Mm)} (hkh : ∀ (x1 : Int32) (σ : Mm), kh x1 σ = some τ → AW l G 1 M_X8_clear none τ 12 [(0, .ref 3), (1, .int x1)] [] σ) (x1 : Int32) (σ : Mm) (h : f_X8_clear_p53 kh x1 σ = some τ) : AW l G 1 M_X8_clear none τ 53 [(0, .ref 3), (1, .int x1)] [] σ := by
  unfold f_X8_clear_p53 at h
  refine AW.iinc (v := (x1 + (1 : Int32))) (L' := [(1, .int (x1 + (1 : Int32))), (0, .ref 3)]) dX8_clear_53 (.refl 56) 1 rfl rfl (by decide) rfl ?_
  refine AW.goto (tgt := 12) dX8_clear_56 (by decide) ?_
  refine AW.sub (L' := [(0, .ref 3), (1, .int (x1 + (1 : Int32)))]) [1, 0] rfl ?_
  exact hkh (x1 + (1 : Int32)) σ h
set_option maxRecDepth 20000 in
theorem a_X8_clear_p12 {l : Launch} {G : Gg} {τ : Mm} : ∀ (n : Nat) (x1 : Int32) (σ : Mm), f_X8_clear_p12 n x1 σ = some τ → AW l G 1 M_X8_clear none τ 12 [(0, .ref 3), (1, .int x1)] [] σ := by
  intro n
  induction n with
  | zero => intro x1 σ h; exact no_some h
  | succ n ih =>
    intro x1 σ h
    rw [f_X8_clear_p12] at h
    refine AW.iload_n dX8_clear_12 (.refl 13) 1 rfl ?_
    refine AW.iconst (v := (5 : Int32)) dX8_clear_13 (.refl 14) (by decide) ?_
    refine AW.icmp_ge (tgt := 59) dX8_clear_14 (by decide) (fun c5 => ?_) (fun c5 => ?_)
    · have h := ifp c5 h
      cases h
      exact AW.vreturn rfl dX8_clear_59
    · have h := ifn c5 h
      refine AW.aload_n dX8_clear_17 (.refl 18) 0 rfl ?_
      refine AW.getR (z := 12) lk_X8_43 rfl rfl (by decide) rfl dX8_clear_18 (.refl 21) ?_
      refine AW.iload_n dX8_clear_21 (.refl 22) 1 rfl ?_
      refine AW.iconst (v := (0 : Int32)) dX8_clear_22 (.refl 23) (by decide) ?_
      obtain ⟨g1, h⟩ := gd_s h
      refine AW.iastore rfl g1 dX8_clear_23 (.refl 24) ?_
      refine AW.aload_n dX8_clear_24 (.refl 25) 0 rfl ?_
      refine AW.getR (z := 13) lk_X8_46 rfl rfl (by decide) rfl dX8_clear_25 (.refl 28) ?_
      refine AW.iload_n dX8_clear_28 (.refl 29) 1 rfl ?_
      refine AW.iconst (v := (0 : Int32)) dX8_clear_29 (.refl 30) (by decide) ?_
      obtain ⟨g2, h⟩ := gd_s h
      refine AW.iastore rfl g2 dX8_clear_30 (.refl 31) ?_
      obtain ⟨σ3, e4, h⟩ := bnd_s h
      refine AW.nmM e4 ?_
      refine AW.iconst (v := (0 : Int32)) dX8_clear_31 (.refl 32) (by decide) ?_
      refine AW.istore_n (L' := [(2, .int (0 : Int32)), (0, .ref 3), (1, .int x1)]) dX8_clear_32 (.refl 33) (by decide) rfl ?_
      refine AW.sub (L' := [(0, .ref 3), (1, .int x1), (2, .int (0 : Int32))]) [1, 2, 0] rfl ?_
      exact a_X8_clear_p33 (a_X8_clear_p53 ih) FU x1 (0 : Int32) σ3 h
set_option maxRecDepth 20000 in
theorem c_X8_clear {l : Launch} {G : Gg}  {σ : Mm} {τ : Mm} (h : f_X8_clear  σ = some τ) : MR l G 1 M_X8_clear [.ref 3] σ none τ := by
  unfold f_X8_clear at h
  refine MR.of (by decide +kernel) (Nat.le_of_ble_eq_true rfl) ?_
  show AW l G 1 M_X8_clear none τ 0 [(0, .ref 3)] [] σ
  refine AW.aload_n dX8_clear_0 (.refl 1) 0 rfl ?_
  refine AW.iconst (v := (0 : Int32)) dX8_clear_1 (.refl 2) (by decide) ?_
  refine AW.putI lp_X8_9 rfl rfl (by decide) dX8_clear_2 (.refl 5) ?_
  refine AW.aload_n dX8_clear_5 (.refl 6) 0 rfl ?_
  refine AW.iconst (v := (0 : Int32)) dX8_clear_6 (.refl 7) (by decide) ?_
  refine AW.putI lp_X8_15 rfl rfl (by decide) dX8_clear_7 (.refl 10) ?_
  refine AW.iconst (v := (0 : Int32)) dX8_clear_10 (.refl 11) (by decide) ?_
  refine AW.istore_n (L' := [(1, .int (0 : Int32)), (0, .ref 3)]) dX8_clear_11 (.refl 12) (by decide) rfl ?_
  refine AW.sub (L' := [(0, .ref 3), (1, .int (0 : Int32))]) [1, 0] rfl ?_
  exact a_X8_clear_p12 FU (0 : Int32) (sI (sI σ 3 0 (0 : Int32)) 3 1 (0 : Int32)) h
