def f_X10_goThrough_p6 (ke25 : Int32 → Mm → Option (Mm)) : Nat → Int32 → Int32 → Mm → Option (Mm)
  | 0, _, _, _ => none
  | n + 1, x1, x2, σ => (if (32 : Int32) ≤ x2 then ke25 x1 σ else gd (inB x2 32) ((f_X10_goThrough_p6 ke25 n) x1 (x2 + (1 : Int32)) (sI σ 57 (x2).toNatClampNeg ((0 : Int32) &&& 1))))
def f_X10_goThrough_p27 (ke46 : Int32 → Mm → Option (Mm)) : Nat → Int32 → Int32 → Mm → Option (Mm)
  | 0, _, _, _ => none
  | n + 1, x1, x2, σ => (if (10 : Int32) ≤ x2 then ke46 x1 σ else gd (inB x2 10) ((f_X10_goThrough_p27 ke46 n) x1 (x2 + (1 : Int32)) (sI σ 58 (x2).toNatClampNeg (0 : Int32))))
def f_X10_goThrough_p115 (ke148 : Int32 → Int32 → Mm → Option (Mm)) : Nat → Int32 → Int32 → Mm → Option (Mm)
  | 0, _, _, _ => none
  | n + 1, x1, x2, σ => gd (inB x2 5) ((if (11 : Int32) ≤ (σ.1 55 (x2).toNatClampNeg) then ke148 x1 x2 σ else b1 (f_X10_mayHave σ x2 x1) (fun (r3 : Int32) => (if r3 = 0 then gd (inB x2 5) (gd (inB x2 5) (bnd ((sI σ 55 (x2).toNatClampNeg ((σ.1 55 (x2).toNatClampNeg) + (1 : Int32)))) (fun (σ6 : Mm) => (f_X10_goThrough_p115 ke148 n) x1 x2 σ6))) else ke148 x1 x2 σ))))
def f_X10_goThrough_p148 (kh : Int32 → Int32 → Mm → Option (Mm)) (x1 : Int32) (x2 : Int32) (σ : Mm) : Option (Mm) := gd (inB x2 5) ((if (σ.1 55 (x2).toNatClampNeg) ≤ (10 : Int32) then (if (σ.1 46 1) ≤ (x2 + (1 : Int32)) then kh x1 (x2 + (1 : Int32)) σ else gd (inB (x2 + (1 : Int32)) 5) (kh x1 (x2 + (1 : Int32)) (sI σ 55 ((x2 + (1 : Int32))).toNatClampNeg (-1 : Int32)))) else kh x1 (x2 + (-1 : Int32)) σ))
def f_X10_goThrough_p83 : Nat → Int32 → Int32 → Mm → Option (Mm)
  | 0, _, _, _ => none
  | n + 1, x1, x2, σ => (if x2 < 0 then some σ else (if x2 = (σ.1 46 1) then b1 (f_X10_lookAt σ) (fun (τ6 : Mm) => (f_X10_goThrough_p83 n) x1 (x2 + (-1 : Int32)) τ6) else gd (inB x2 5) (gd (inB x2 5) (bnd ((sI σ 55 (x2).toNatClampNeg ((σ.1 55 (x2).toNatClampNeg) + (1 : Int32)))) (fun (σ3 : Mm) => f_X10_goThrough_p115 (f_X10_goThrough_p148 (f_X10_goThrough_p83 n)) FU x1 x2 σ3)))))
def f_X10_goThrough_p46 (x1 : Int32) (σ : Mm) : Option (Mm) := bnd ((sI (sI (sI σ 46 20 (-9 : Int32)) 46 21 (0 : Int32)) 46 22 ((jshl (1 : Int32) ((sI (sI σ 46 20 (-9 : Int32)) 46 21 (0 : Int32)).1 46 1)) - (1 : Int32)))) (fun (σ1 : Mm) => gd (inB (0 : Int32) 5) (bnd ((sI (sI σ1 46 23 (0 : Int32)) 55 ((0 : Int32)).toNatClampNeg (-1 : Int32))) (fun (σ4 : Mm) => f_X10_goThrough_p83 FU x1 (0 : Int32) σ4)))
def f_X10_goThrough_p25 (x1 : Int32) (σ : Mm) : Option (Mm) := f_X10_goThrough_p27 (f_X10_goThrough_p46) FU x1 (0 : Int32) σ
def f_X10_goThrough (x1 : Int32) (σ : Mm) : Option (Mm) := b1 (f_X10_layTables σ) (fun (τ2 : Mm) => f_X10_goThrough_p6 (f_X10_goThrough_p25) FU x1 (0 : Int32) τ2)
set_option maxRecDepth 20000 in
theorem a_X10_goThrough_p6 {l : Launch} {G : Gg} {τ : Mm} {ke25 : Int32 → Mm → Option (Mm)} (he25 : ∀ (x1 : Int32) (σ : Mm), ke25 x1 σ = some τ → AW l G 3 M_X10_goThrough none τ 25 [(0, .ref 46), (1, .int x1)] [] σ) : ∀ (n : Nat) (x1 : Int32) (x2 : Int32) (σ : Mm), f_X10_goThrough_p6 ke25 n x1 x2 σ = some τ → AW l G 3 M_X10_goThrough none τ 6 [(0, .ref 46), (1, .int x1), (2, .int x2)] [] σ := by
  intro n
  induction n with
  | zero => intro x1 x2 σ h; exact no_some h
  | succ n ih =>
    intro x1 x2 σ h
    rw [f_X10_goThrough_p6] at h
    refine AW.iload_n dX10_goThrough_6 (.refl 7) 2 rfl ?_
    refine AW.bipush (v := (32 : Int32)) dX10_goThrough_7 (.refl 9) (by decide) ?_
    refine AW.icmp_ge (tgt := 25) dX10_goThrough_9 (by decide) (fun c2 => ?_) (fun c2 => ?_)
    · have h := ifp c2 h
      refine AW.sub (L' := [(0, .ref 46), (1, .int x1)]) [0, 1] rfl ?_
      exact he25 x1 σ h
    · have h := ifn c2 h
      refine AW.aload_n dX10_goThrough_12 (.refl 13) 0 rfl ?_
      refine AW.getR (z := 57) lk_X10_40 rfl rfl (by decide) rfl dX10_goThrough_13 (.refl 16) ?_
      refine AW.iload_n dX10_goThrough_16 (.refl 17) 2 rfl ?_
      refine AW.iconst (v := (0 : Int32)) dX10_goThrough_17 (.refl 18) (by decide) ?_
      obtain ⟨g1, h⟩ := gd_s h
      refine AW.bastore rfl g1 dX10_goThrough_18 (.refl 19) ?_
      refine AW.iinc (v := (x2 + (1 : Int32))) (L' := [(2, .int (x2 + (1 : Int32))), (0, .ref 46), (1, .int x1)]) dX10_goThrough_19 (.refl 22) 2 rfl rfl (by decide) rfl ?_
      refine AW.goto (tgt := 6) dX10_goThrough_22 (by decide) ?_
      refine AW.sub (L' := [(0, .ref 46), (1, .int x1), (2, .int (x2 + (1 : Int32)))]) [1, 2, 0] rfl ?_
      exact ih x1 (x2 + (1 : Int32)) (sI σ 57 (x2).toNatClampNeg ((0 : Int32) &&& 1)) h
set_option maxRecDepth 20000 in
theorem a_X10_goThrough_p27 {l : Launch} {G : Gg} {τ : Mm} {ke46 : Int32 → Mm → Option (Mm)} (he46 : ∀ (x1 : Int32) (σ : Mm), ke46 x1 σ = some τ → AW l G 3 M_X10_goThrough none τ 46 [(0, .ref 46), (1, .int x1)] [] σ) : ∀ (n : Nat) (x1 : Int32) (x2 : Int32) (σ : Mm), f_X10_goThrough_p27 ke46 n x1 x2 σ = some τ → AW l G 3 M_X10_goThrough none τ 27 [(0, .ref 46), (1, .int x1), (2, .int x2)] [] σ := by
  intro n
  induction n with
  | zero => intro x1 x2 σ h; exact no_some h
  | succ n ih =>
    intro x1 x2 σ h
    rw [f_X10_goThrough_p27] at h
    refine AW.iload_n dX10_goThrough_27 (.refl 28) 2 rfl ?_
    refine AW.bipush (v := (10 : Int32)) dX10_goThrough_28 (.refl 30) (by decide) ?_
    refine AW.icmp_ge (tgt := 46) dX10_goThrough_30 (by decide) (fun c2 => ?_) (fun c2 => ?_)
    · have h := ifp c2 h
      refine AW.sub (L' := [(0, .ref 46), (1, .int x1)]) [0, 1] rfl ?_
      exact he46 x1 σ h
    · have h := ifn c2 h
      refine AW.aload_n dX10_goThrough_33 (.refl 34) 0 rfl ?_
      refine AW.getR (z := 58) lk_X10_44 rfl rfl (by decide) rfl dX10_goThrough_34 (.refl 37) ?_
      refine AW.iload_n dX10_goThrough_37 (.refl 38) 2 rfl ?_
      refine AW.iconst (v := (0 : Int32)) dX10_goThrough_38 (.refl 39) (by decide) ?_
      obtain ⟨g1, h⟩ := gd_s h
      refine AW.iastore rfl g1 dX10_goThrough_39 (.refl 40) ?_
      refine AW.iinc (v := (x2 + (1 : Int32))) (L' := [(2, .int (x2 + (1 : Int32))), (0, .ref 46), (1, .int x1)]) dX10_goThrough_40 (.refl 43) 2 rfl rfl (by decide) rfl ?_
      refine AW.goto (tgt := 27) dX10_goThrough_43 (by decide) ?_
      refine AW.sub (L' := [(0, .ref 46), (1, .int x1), (2, .int (x2 + (1 : Int32)))]) [1, 2, 0] rfl ?_
      exact ih x1 (x2 + (1 : Int32)) (sI σ 58 (x2).toNatClampNeg (0 : Int32)) h
set_option maxRecDepth 20000 in
theorem a_X10_goThrough_p115 {l : Launch} {G : Gg} {τ : Mm} {ke148 : Int32 → Int32 → Mm → Option (Mm)} (he148 : ∀ (x1 : Int32) (x2 : Int32) (σ : Mm), ke148 x1 x2 σ = some τ → AW l G 3 M_X10_goThrough none τ 148 [(0, .ref 46), (1, .int x1), (2, .int x2)] [] σ) : ∀ (n : Nat) (x1 : Int32) (x2 : Int32) (σ : Mm), f_X10_goThrough_p115 ke148 n x1 x2 σ = some τ → AW l G 3 M_X10_goThrough none τ 115 [(0, .ref 46), (1, .int x1), (2, .int x2)] [] σ := by
  intro n
  induction n with
  | zero => intro x1 x2 σ h; exact no_some h
  | succ n ih =>
    intro x1 x2 σ h
    rw [f_X10_goThrough_p115] at h
    refine AW.aload_n dX10_goThrough_115 (.refl 116) 0 rfl ?_
    refine AW.getR (z := 55) lk_X10_34 rfl rfl (by decide) rfl dX10_goThrough_116 (.refl 119) ?_
    refine AW.iload_n dX10_goThrough_119 (.refl 120) 2 rfl ?_
    obtain ⟨g1, h⟩ := gd_s h
    refine AW.iaload rfl g1 dX10_goThrough_120 (.refl 121) ?_
    refine AW.bipush (v := (11 : Int32)) dX10_goThrough_121 (.refl 123) (by decide) ?_
    refine AW.icmp_ge (tgt := 148) dX10_goThrough_123 (by decide) (fun c9 => ?_) (fun c9 => ?_)
    · have h := ifp c9 h
      exact he148 x1 x2 σ h
    · have h := ifn c9 h
      refine AW.aload_n dX10_goThrough_126 (.refl 127) 0 rfl ?_
      refine AW.iload_n dX10_goThrough_127 (.refl 128) 2 rfl ?_
      refine AW.iload_n dX10_goThrough_128 (.refl 129) 1 rfl ?_
      obtain ⟨r3, e2, h⟩ := b1_s h
      refine AW.callV (r' := (some (.int r3))) (σ' := σ) (rest := []) lm_X10_233 (c_X10_mayHave e2) (by decide) (by decide) rfl rfl (by decide) rfl rfl (Nat.le_of_ble_eq_true rfl) dX10_goThrough_129 (.refl 132) (st' := [.int r3]) rfl ?_
      refine AW.if_ne (tgt := 148) dX10_goThrough_132 (by decide) (fun c8 => ?_) (fun c8 => ?_)
      · have h := ifn c8 h
        exact he148 x1 x2 σ h
      · have h := ifp c8 h
        refine AW.aload_n dX10_goThrough_135 (.refl 136) 0 rfl ?_
        refine AW.getR (z := 55) lk_X10_34 rfl rfl (by decide) rfl dX10_goThrough_136 (.refl 139) ?_
        refine AW.iload_n dX10_goThrough_139 (.refl 140) 2 rfl ?_
        refine AW.dup2 dX10_goThrough_140 (.refl 141) rfl rfl ?_
        obtain ⟨g4, h⟩ := gd_s h
        refine AW.iaload rfl g4 dX10_goThrough_141 (.refl 142) ?_
        refine AW.iconst (v := (1 : Int32)) dX10_goThrough_142 (.refl 143) (by decide) ?_
        refine AW.iadd dX10_goThrough_143 (.refl 144) ?_
        obtain ⟨g5, h⟩ := gd_s h
        refine AW.iastore rfl g5 dX10_goThrough_144 (.refl 145) ?_
        obtain ⟨σ6, e7, h⟩ := bnd_s h
        refine AW.nmM e7 ?_
        refine AW.goto (tgt := 115) dX10_goThrough_145 (by decide) ?_
        exact ih x1 x2 σ6 h
set_option maxRecDepth 20000 in
theorem a_X10_goThrough_p148 {l : Launch} {G : Gg} {τ : Mm} {kh : Int32 → Int32 → Mm → Option (Mm)} (hkh : ∀ (x1 : Int32) (x2 : Int32) (σ : Mm), kh x1 x2 σ = some τ → AW l G 3 M_X10_goThrough none τ 83 [(0, .ref 46), (1, .int x1), (2, .int x2)] [] σ) (x1 : Int32) (x2 : Int32) (σ : Mm) (h : f_X10_goThrough_p148 kh x1 x2 σ = some τ) : AW l G 3 M_X10_goThrough none τ 148 [(0, .ref 46), (1, .int x1), (2, .int x2)] [] σ := by
  unfold f_X10_goThrough_p148 at h
  refine AW.aload_n dX10_goThrough_148 (.refl 149) 0 rfl ?_
  refine AW.getR (z := 55) lk_X10_34 rfl rfl (by decide) rfl dX10_goThrough_149 (.refl 152) ?_
  refine AW.iload_n dX10_goThrough_152 (.refl 153) 2 rfl ?_
  obtain ⟨g1, h⟩ := gd_s h
  refine AW.iaload rfl g1 dX10_goThrough_153 (.refl 154) ?_
  refine AW.bipush (v := (10 : Int32)) dX10_goThrough_154 (.refl 156) (by decide) ?_
  refine AW.icmp_le (tgt := 165) dX10_goThrough_156 (by decide) (fun c4 => ?_) (fun c4 => ?_)
  · have h := ifp c4 h
    refine AW.iinc (v := (x2 + (1 : Int32))) (L' := [(2, .int (x2 + (1 : Int32))), (0, .ref 46), (1, .int x1)]) dX10_goThrough_165 (.refl 168) 2 rfl rfl (by decide) rfl ?_
    refine AW.iload_n dX10_goThrough_168 (.refl 169) 0 rfl ?_
    refine AW.aload_n dX10_goThrough_169 (.refl 170) 1 rfl ?_
    refine AW.getI lk_X10_135 rfl rfl (by decide) dX10_goThrough_170 (.refl 173) ?_
    refine AW.icmp_ge (tgt := 83) dX10_goThrough_173 (by decide) (fun c3 => ?_) (fun c3 => ?_)
    · have h := ifp c3 h
      refine AW.sub (L' := [(0, .ref 46), (1, .int x1), (2, .int (x2 + (1 : Int32)))]) [1, 2, 0] rfl ?_
      exact hkh x1 (x2 + (1 : Int32)) σ h
    · have h := ifn c3 h
      refine AW.aload_n dX10_goThrough_176 (.refl 177) 1 rfl ?_
      refine AW.getR (z := 55) lk_X10_34 rfl rfl (by decide) rfl dX10_goThrough_177 (.refl 180) ?_
      refine AW.iload_n dX10_goThrough_180 (.refl 181) 0 rfl ?_
      refine AW.iconst (v := (-1 : Int32)) dX10_goThrough_181 (.refl 182) (by decide) ?_
      obtain ⟨g2, h⟩ := gd_s h
      refine AW.iastore rfl g2 dX10_goThrough_182 (.refl 183) ?_
      refine AW.goto (tgt := 83) dX10_goThrough_183 (by decide) ?_
      refine AW.sub (L' := [(0, .ref 46), (1, .int x1), (2, .int (x2 + (1 : Int32)))]) [1, 2, 0] rfl ?_
      exact hkh x1 (x2 + (1 : Int32)) (sI σ 55 ((x2 + (1 : Int32))).toNatClampNeg (-1 : Int32)) h
  · have h := ifn c4 h
    refine AW.iinc (v := (x2 + (-1 : Int32))) (L' := [(2, .int (x2 + (-1 : Int32))), (0, .ref 46), (1, .int x1)]) dX10_goThrough_159 (.refl 162) 2 rfl rfl (by decide) rfl ?_
    refine AW.goto (tgt := 83) dX10_goThrough_162 (by decide) ?_
    refine AW.sub (L' := [(0, .ref 46), (1, .int x1), (2, .int (x2 + (-1 : Int32)))]) [1, 2, 0] rfl ?_
    exact hkh x1 (x2 + (-1 : Int32)) σ h
set_option maxRecDepth 20000 in
theorem a_X10_goThrough_p83 {l : Launch} {G : Gg} {τ : Mm} : ∀ (n : Nat) (x1 : Int32) (x2 : Int32) (σ : Mm), f_X10_goThrough_p83 n x1 x2 σ = some τ → AW l G 3 M_X10_goThrough none τ 83 [(0, .ref 46), (1, .int x1), (2, .int x2)] [] σ := by
  intro n
  induction n with
  | zero => intro x1 x2 σ h; exact no_some h
  | succ n ih =>
    intro x1 x2 σ h
    rw [f_X10_goThrough_p83] at h
    refine AW.iload_n dX10_goThrough_83 (.refl 84) 2 rfl ?_
    refine AW.if_lt (tgt := 186) dX10_goThrough_84 (by decide) (fun c8 => ?_) (fun c8 => ?_)
    · have h := ifp c8 h
      cases h
      exact AW.vreturn rfl dX10_goThrough_186
    · have h := ifn c8 h
      refine AW.iload_n dX10_goThrough_87 (.refl 88) 2 rfl ?_
      refine AW.aload_n dX10_goThrough_88 (.refl 89) 0 rfl ?_
      refine AW.getI lk_X10_135 rfl rfl (by decide) dX10_goThrough_89 (.refl 92) ?_
      refine AW.icmp_ne (tgt := 105) dX10_goThrough_92 (by decide) (fun c7 => ?_) (fun c7 => ?_)
      · have h := ifn c7 h
        refine AW.aload_n dX10_goThrough_105 (.refl 106) 0 rfl ?_
        refine AW.getR (z := 55) lk_X10_34 rfl rfl (by decide) rfl dX10_goThrough_106 (.refl 109) ?_
        refine AW.iload_n dX10_goThrough_109 (.refl 110) 2 rfl ?_
        refine AW.dup2 dX10_goThrough_110 (.refl 111) rfl rfl ?_
        obtain ⟨g1, h⟩ := gd_s h
        refine AW.iaload rfl g1 dX10_goThrough_111 (.refl 112) ?_
        refine AW.iconst (v := (1 : Int32)) dX10_goThrough_112 (.refl 113) (by decide) ?_
        refine AW.iadd dX10_goThrough_113 (.refl 114) ?_
        obtain ⟨g2, h⟩ := gd_s h
        refine AW.iastore rfl g2 dX10_goThrough_114 (.refl 115) ?_
        obtain ⟨σ3, e4, h⟩ := bnd_s h
        refine AW.nmM e4 ?_
        exact a_X10_goThrough_p115 (a_X10_goThrough_p148 ih) FU x1 x2 σ3 h
      · have h := ifp c7 h
        refine AW.aload_n dX10_goThrough_95 (.refl 96) 0 rfl ?_
        obtain ⟨τ6, e5, h⟩ := b1_s h
        refine AW.callV (r' := none) (σ' := τ6) (rest := []) lm_X10_230 (c_X10_lookAt e5) (by decide) (by decide) rfl rfl (by decide) rfl rfl (Nat.le_of_ble_eq_true rfl) dX10_goThrough_96 (.refl 99) (st' := []) rfl ?_
        refine AW.iinc (v := (x2 + (-1 : Int32))) (L' := [(2, .int (x2 + (-1 : Int32))), (0, .ref 46), (1, .int x1)]) dX10_goThrough_99 (.refl 102) 2 rfl rfl (by decide) rfl ?_
        refine AW.goto (tgt := 83) dX10_goThrough_102 (by decide) ?_
        refine AW.sub (L' := [(0, .ref 46), (1, .int x1), (2, .int (x2 + (-1 : Int32)))]) [1, 2, 0] rfl ?_
        exact ih x1 (x2 + (-1 : Int32)) τ6 h
set_option maxRecDepth 20000 in
theorem a_X10_goThrough_p46 {l : Launch} {G : Gg} {τ : Mm} (x1 : Int32) (σ : Mm) (h : f_X10_goThrough_p46 x1 σ = some τ) : AW l G 3 M_X10_goThrough none τ 46 [(0, .ref 46), (1, .int x1)] [] σ := by
  unfold f_X10_goThrough_p46 at h
  refine AW.aload_n dX10_goThrough_46 (.refl 47) 0 rfl ?_
  refine AW.bipush (v := (-9 : Int32)) dX10_goThrough_47 (.refl 49) (by decide) ?_
  refine AW.putI lp_X10_208 rfl rfl (by decide) dX10_goThrough_49 (.refl 52) ?_
  refine AW.aload_n dX10_goThrough_52 (.refl 53) 0 rfl ?_
  refine AW.iconst (v := (0 : Int32)) dX10_goThrough_53 (.refl 54) (by decide) ?_
  refine AW.putI lp_X10_218 rfl rfl (by decide) dX10_goThrough_54 (.refl 57) ?_
  refine AW.aload_n dX10_goThrough_57 (.refl 58) 0 rfl ?_
  refine AW.iconst (v := (1 : Int32)) dX10_goThrough_58 (.refl 59) (by decide) ?_
  refine AW.aload_n dX10_goThrough_59 (.refl 60) 0 rfl ?_
  refine AW.getI lk_X10_135 rfl rfl (by decide) dX10_goThrough_60 (.refl 63) ?_
  refine AW.ishl dX10_goThrough_63 (.refl 64) ?_
  refine AW.iconst (v := (1 : Int32)) dX10_goThrough_64 (.refl 65) (by decide) ?_
  refine AW.isub dX10_goThrough_65 (.refl 66) ?_
  refine AW.putI lp_X10_221 rfl rfl (by decide) dX10_goThrough_66 (.refl 69) ?_
  obtain ⟨σ1, e2, h⟩ := bnd_s h
  refine AW.nmM e2 ?_
  refine AW.aload_n dX10_goThrough_69 (.refl 70) 0 rfl ?_
  refine AW.iconst (v := (0 : Int32)) dX10_goThrough_70 (.refl 71) (by decide) ?_
  refine AW.putI lp_X10_224 rfl rfl (by decide) dX10_goThrough_71 (.refl 74) ?_
  refine AW.iconst (v := (0 : Int32)) dX10_goThrough_74 (.refl 75) (by decide) ?_
  refine AW.istore_n (L' := [(2, .int (0 : Int32)), (0, .ref 46), (1, .int x1)]) dX10_goThrough_75 (.refl 76) (by decide) rfl ?_
  refine AW.aload_n dX10_goThrough_76 (.refl 77) 1 rfl ?_
  refine AW.getR (z := 55) lk_X10_34 rfl rfl (by decide) rfl dX10_goThrough_77 (.refl 80) ?_
  refine AW.iconst (v := (0 : Int32)) dX10_goThrough_80 (.refl 81) (by decide) ?_
  refine AW.iconst (v := (-1 : Int32)) dX10_goThrough_81 (.refl 82) (by decide) ?_
  obtain ⟨g3, h⟩ := gd_s h
  refine AW.iastore rfl g3 dX10_goThrough_82 (.refl 83) ?_
  obtain ⟨σ4, e5, h⟩ := bnd_s h
  refine AW.nmM e5 ?_
  refine AW.sub (L' := [(0, .ref 46), (1, .int x1), (2, .int (0 : Int32))]) [1, 2, 0] rfl ?_
  exact a_X10_goThrough_p83 FU x1 (0 : Int32) σ4 h
set_option maxRecDepth 20000 in
theorem a_X10_goThrough_p25 {l : Launch} {G : Gg} {τ : Mm} (x1 : Int32) (σ : Mm) (h : f_X10_goThrough_p25 x1 σ = some τ) : AW l G 3 M_X10_goThrough none τ 25 [(0, .ref 46), (1, .int x1)] [] σ := by
  unfold f_X10_goThrough_p25 at h
  refine AW.iconst (v := (0 : Int32)) dX10_goThrough_25 (.refl 26) (by decide) ?_
  refine AW.istore_n (L' := [(2, .int (0 : Int32)), (0, .ref 46), (1, .int x1)]) dX10_goThrough_26 (.refl 27) (by decide) rfl ?_
  refine AW.sub (L' := [(0, .ref 46), (1, .int x1), (2, .int (0 : Int32))]) [1, 2, 0] rfl ?_
  exact a_X10_goThrough_p27 (a_X10_goThrough_p46) FU x1 (0 : Int32) σ h
set_option maxRecDepth 20000 in
theorem c_X10_goThrough {l : Launch} {G : Gg} {x1 : Int32} {σ : Mm} {τ : Mm} (h : f_X10_goThrough x1 σ = some τ) : MR l G 3 M_X10_goThrough [.ref 46, .int x1] σ none τ := by
  unfold f_X10_goThrough at h
  refine MR.of (by decide +kernel) (Nat.le_of_ble_eq_true rfl) ?_
  show AW l G 3 M_X10_goThrough none τ 0 [(0, .ref 46), (1, .int x1)] [] σ
  refine AW.aload_n dX10_goThrough_0 (.refl 1) 0 rfl ?_
  obtain ⟨τ2, e1, h⟩ := b1_s h
  refine AW.callV (r' := none) (σ' := τ2) (rest := []) lm_X10_227 (c_X10_layTables e1) (by decide) (by decide) rfl rfl (by decide) rfl rfl (Nat.le_of_ble_eq_true rfl) dX10_goThrough_1 (.refl 4) (st' := []) rfl ?_
  refine AW.iconst (v := (0 : Int32)) dX10_goThrough_4 (.refl 5) (by decide) ?_
  refine AW.istore_n (L' := [(2, .int (0 : Int32)), (0, .ref 46), (1, .int x1)]) dX10_goThrough_5 (.refl 6) (by decide) rfl ?_
  refine AW.sub (L' := [(0, .ref 46), (1, .int x1), (2, .int (0 : Int32))]) [1, 2, 0] rfl ?_
  exact a_X10_goThrough_p6 (a_X10_goThrough_p25) FU x1 (0 : Int32) τ2 h
def f_X10_bestOfSet_p4 (σ : Mm) : Nat → Int32 → Int32 → Int32 → Option (Int32)
  | 0, _, _, _ => none
  | n + 1, x1, x2, x3 => (if (jshl (1 : Int32) (σ.1 46 1)) ≤ x3 then some x2 else gd (inB x3 32) ((if (σ.1 57 (x3).toNatClampNeg) = 0 then (f_X10_bestOfSet_p4 σ n) x1 x2 (x3 + (1 : Int32)) else (if (x3 &&& (x1 ^^^ (-1 : Int32))) = 0 then b1 (f_X10_coinsOf σ x3) (fun (r3 : Int32) => (if r3 ≤ x2 then (f_X10_bestOfSet_p4 σ n) x1 x2 (x3 + (1 : Int32)) else b1 (f_X10_coinsOf σ x3) (fun (r5 : Int32) => (f_X10_bestOfSet_p4 σ n) x1 r5 (x3 + (1 : Int32))))) else (f_X10_bestOfSet_p4 σ n) x1 x2 (x3 + (1 : Int32))))))
def f_X10_bestOfSet (σ : Mm) (x1 : Int32) : Option (Int32) := f_X10_bestOfSet_p4 σ FU x1 (0 : Int32) (0 : Int32)
set_option maxRecDepth 20000 in
theorem a_X10_bestOfSet_p4 {l : Launch} {G : Gg} {v : Int32} {σ : Mm} : ∀ (n : Nat) (x1 : Int32) (x2 : Int32) (x3 : Int32), f_X10_bestOfSet_p4 σ n x1 x2 x3 = some v → AW l G 2 M_X10_bestOfSet (some (.int v)) σ 4 [(0, .ref 46), (1, .int x1), (2, .int x2), (3, .int x3)] [] σ := by
  intro n
  induction n with
  | zero => intro x1 x2 x3 h; exact no_some h
  | succ n ih =>
    intro x1 x2 x3 h
    rw [f_X10_bestOfSet_p4] at h
    refine AW.iload_n dX10_bestOfSet_4 (.refl 5) 3 rfl ?_
    refine AW.iconst (v := (1 : Int32)) dX10_bestOfSet_5 (.refl 6) (by decide) ?_
    refine AW.aload_n dX10_bestOfSet_6 (.refl 7) 0 rfl ?_
    refine AW.getI lk_X10_135 rfl rfl (by decide) dX10_bestOfSet_7 (.refl 10) ?_
    refine AW.ishl dX10_bestOfSet_10 (.refl 11) ?_
    refine AW.icmp_ge (tgt := 56) dX10_bestOfSet_11 (by decide) (fun c9 => ?_) (fun c9 => ?_)
    · have h := ifp c9 h
      refine AW.iload_n dX10_bestOfSet_56 (.refl 57) 2 rfl ?_
      cases h
      exact AW.ireturn rfl dX10_bestOfSet_57
    · have h := ifn c9 h
      refine AW.aload_n dX10_bestOfSet_14 (.refl 15) 0 rfl ?_
      refine AW.getR (z := 57) lk_X10_40 rfl rfl (by decide) rfl dX10_bestOfSet_15 (.refl 18) ?_
      refine AW.iload_n dX10_bestOfSet_18 (.refl 19) 3 rfl ?_
      obtain ⟨g1, h⟩ := gd_s h
      refine AW.baload rfl g1 dX10_bestOfSet_19 (.refl 20) ?_
      refine AW.if_eq (tgt := 48) dX10_bestOfSet_20 (by decide) (fun c8 => ?_) (fun c8 => ?_)
      · have h := ifp c8 h
        refine AW.iload_n dX10_bestOfSet_48 (.refl 49) 2 rfl ?_
        refine AW.istore_n (L' := [(2, .int x2), (0, .ref 46), (1, .int x1), (3, .int x3)]) dX10_bestOfSet_49 (.refl 50) (by decide) rfl ?_
        refine AW.iinc (v := (x3 + (1 : Int32))) (L' := [(3, .int (x3 + (1 : Int32))), (2, .int x2), (0, .ref 46), (1, .int x1)]) dX10_bestOfSet_50 (.refl 53) 3 rfl rfl (by decide) rfl ?_
        refine AW.goto (tgt := 4) dX10_bestOfSet_53 (by decide) ?_
        refine AW.sub (L' := [(0, .ref 46), (1, .int x1), (2, .int x2), (3, .int (x3 + (1 : Int32)))]) [2, 3, 1, 0] rfl ?_
        exact ih x1 x2 (x3 + (1 : Int32)) h
      · have h := ifn c8 h
        refine AW.iload_n dX10_bestOfSet_23 (.refl 24) 3 rfl ?_
        refine AW.iload_n dX10_bestOfSet_24 (.refl 25) 1 rfl ?_
        refine AW.iconst (v := (-1 : Int32)) dX10_bestOfSet_25 (.refl 26) (by decide) ?_
        refine AW.ixor dX10_bestOfSet_26 (.refl 27) ?_
        refine AW.iand dX10_bestOfSet_27 (.refl 28) ?_
        refine AW.if_ne (tgt := 48) dX10_bestOfSet_28 (by decide) (fun c7 => ?_) (fun c7 => ?_)
        · have h := ifn c7 h
          refine AW.iload_n dX10_bestOfSet_48 (.refl 49) 2 rfl ?_
          refine AW.istore_n (L' := [(2, .int x2), (0, .ref 46), (1, .int x1), (3, .int x3)]) dX10_bestOfSet_49 (.refl 50) (by decide) rfl ?_
          refine AW.iinc (v := (x3 + (1 : Int32))) (L' := [(3, .int (x3 + (1 : Int32))), (2, .int x2), (0, .ref 46), (1, .int x1)]) dX10_bestOfSet_50 (.refl 53) 3 rfl rfl (by decide) rfl ?_
          refine AW.goto (tgt := 4) dX10_bestOfSet_53 (by decide) ?_
          refine AW.sub (L' := [(0, .ref 46), (1, .int x1), (2, .int x2), (3, .int (x3 + (1 : Int32)))]) [2, 3, 1, 0] rfl ?_
          exact ih x1 x2 (x3 + (1 : Int32)) h
        · have h := ifp c7 h
          refine AW.aload_n dX10_bestOfSet_31 (.refl 32) 0 rfl ?_
          refine AW.iload_n dX10_bestOfSet_32 (.refl 33) 3 rfl ?_
          obtain ⟨r3, e2, h⟩ := b1_s h
          refine AW.callV (r' := (some (.int r3))) (σ' := σ) (rest := []) lm_X10_199 (c_X10_coinsOf e2) (by decide) (by decide) rfl rfl (by decide) rfl rfl (Nat.le_of_ble_eq_true rfl) dX10_bestOfSet_33 (.refl 36) (st' := [.int r3]) rfl ?_
          refine AW.iload_n dX10_bestOfSet_36 (.refl 37) 2 rfl ?_
          refine AW.icmp_le (tgt := 48) dX10_bestOfSet_37 (by decide) (fun c6 => ?_) (fun c6 => ?_)
          · have h := ifp c6 h
            refine AW.iload_n dX10_bestOfSet_48 (.refl 49) 2 rfl ?_
            refine AW.istore_n (L' := [(2, .int x2), (0, .ref 46), (1, .int x1), (3, .int x3)]) dX10_bestOfSet_49 (.refl 50) (by decide) rfl ?_
            refine AW.iinc (v := (x3 + (1 : Int32))) (L' := [(3, .int (x3 + (1 : Int32))), (2, .int x2), (0, .ref 46), (1, .int x1)]) dX10_bestOfSet_50 (.refl 53) 3 rfl rfl (by decide) rfl ?_
            refine AW.goto (tgt := 4) dX10_bestOfSet_53 (by decide) ?_
            refine AW.sub (L' := [(0, .ref 46), (1, .int x1), (2, .int x2), (3, .int (x3 + (1 : Int32)))]) [2, 3, 1, 0] rfl ?_
            exact ih x1 x2 (x3 + (1 : Int32)) h
          · have h := ifn c6 h
            refine AW.aload_n dX10_bestOfSet_40 (.refl 41) 0 rfl ?_
            refine AW.iload_n dX10_bestOfSet_41 (.refl 42) 3 rfl ?_
            obtain ⟨r5, e4, h⟩ := b1_s h
            refine AW.callV (r' := (some (.int r5))) (σ' := σ) (rest := []) lm_X10_199 (c_X10_coinsOf e4) (by decide) (by decide) rfl rfl (by decide) rfl rfl (Nat.le_of_ble_eq_true rfl) dX10_bestOfSet_42 (.refl 45) (st' := [.int r5]) rfl ?_
            refine AW.goto (tgt := 49) dX10_bestOfSet_45 (by decide) ?_
            refine AW.istore_n (L' := [(2, .int r5), (0, .ref 46), (1, .int x1), (3, .int x3)]) dX10_bestOfSet_49 (.refl 50) (by decide) rfl ?_
            refine AW.iinc (v := (x3 + (1 : Int32))) (L' := [(3, .int (x3 + (1 : Int32))), (2, .int r5), (0, .ref 46), (1, .int x1)]) dX10_bestOfSet_50 (.refl 53) 3 rfl rfl (by decide) rfl ?_
            refine AW.goto (tgt := 4) dX10_bestOfSet_53 (by decide) ?_
            refine AW.sub (L' := [(0, .ref 46), (1, .int x1), (2, .int r5), (3, .int (x3 + (1 : Int32)))]) [2, 3, 1, 0] rfl ?_
            exact ih x1 r5 (x3 + (1 : Int32)) h
set_option maxRecDepth 20000 in
theorem c_X10_bestOfSet {l : Launch} {G : Gg} {x1 : Int32} {σ : Mm} {v : Int32} (h : f_X10_bestOfSet σ x1 = some v) : MR l G 2 M_X10_bestOfSet [.ref 46, .int x1] σ (some (.int v)) σ := by
  unfold f_X10_bestOfSet at h
  refine MR.of (by decide +kernel) (Nat.le_of_ble_eq_true rfl) ?_
  show AW l G 2 M_X10_bestOfSet (some (.int v)) σ 0 [(0, .ref 46), (1, .int x1)] [] σ
  refine AW.iconst (v := (0 : Int32)) dX10_bestOfSet_0 (.refl 1) (by decide) ?_
  refine AW.istore_n (L' := [(2, .int (0 : Int32)), (0, .ref 46), (1, .int x1)]) dX10_bestOfSet_1 (.refl 2) (by decide) rfl ?_
  refine AW.iconst (v := (0 : Int32)) dX10_bestOfSet_2 (.refl 3) (by decide) ?_
  refine AW.istore_n (L' := [(3, .int (0 : Int32)), (2, .int (0 : Int32)), (0, .ref 46), (1, .int x1)]) dX10_bestOfSet_3 (.refl 4) (by decide) rfl ?_
  refine AW.sub (L' := [(0, .ref 46), (1, .int x1), (2, .int (0 : Int32)), (3, .int (0 : Int32))]) [2, 3, 1, 0] rfl ?_
  exact a_X10_bestOfSet_p4 FU x1 (0 : Int32) (0 : Int32) h
def f_X10_best (x1 : Int32) (σ : Mm) : Option (Int32 × Mm) := b1 (f_X10_in σ x1.toInt64 (0 : Int64) (((jshl (1 : Int32) (σ.1 46 1)) - (1 : Int32)).toInt64)) (fun (r2 : Int32) => (if r2 = 0 then some ((-2 : Int32), σ) else b1 (f_X10_goThrough (0 : Int32) σ) (fun (τ4 : Mm) => b1 (f_X10_bestOfSet τ4 x1) (fun (r6 : Int32) => some (r6, τ4)))))
set_option maxRecDepth 20000 in
theorem c_X10_best {l : Launch} {G : Gg} {x1 : Int32} {σ : Mm} {v : Int32} {τ : Mm} (h : f_X10_best x1 σ = some (v, τ)) : MR l G 4 M_X10_best [.ref 46, .int x1] σ (some (.int v)) τ := by
  unfold f_X10_best at h
  refine MR.of (by decide +kernel) (Nat.le_of_ble_eq_true rfl) ?_
  show AW l G 4 M_X10_best (some (.int v)) τ 0 [(0, .ref 46), (1, .int x1)] [] σ
  refine AW.iload_n dX10_best_0 (.refl 1) 1 rfl ?_
  refine AW.i2l dX10_best_1 (.refl 2) ?_
  refine AW.lconst (v := (0 : Int64)) dX10_best_2 (.refl 3) (by decide) ?_
  refine AW.iconst (v := (1 : Int32)) dX10_best_3 (.refl 4) (by decide) ?_
  refine AW.aload_n dX10_best_4 (.refl 5) 0 rfl ?_
  refine AW.getI lk_X10_135 rfl rfl (by decide) dX10_best_5 (.refl 8) ?_
  refine AW.ishl dX10_best_8 (.refl 9) ?_
  refine AW.iconst (v := (1 : Int32)) dX10_best_9 (.refl 10) (by decide) ?_
  refine AW.isub dX10_best_10 (.refl 11) ?_
  refine AW.i2l dX10_best_11 (.refl 12) ?_
  obtain ⟨r2, e1, h⟩ := b1_s h
  refine AW.callS (r' := (some (.int r2))) (σ' := σ) (rest := []) lm_X10_97 (c_X10_in e1) (by decide) (by decide) rfl rfl (Nat.le_of_ble_eq_true rfl) dX10_best_12 (.refl 15) (st' := [.int r2]) rfl ?_
  refine AW.if_ne (tgt := 21) dX10_best_15 (by decide) (fun c7 => ?_) (fun c7 => ?_)
  · have h := ifn c7 h
    refine AW.aload_n dX10_best_21 (.refl 22) 0 rfl ?_
    refine AW.iconst (v := (0 : Int32)) dX10_best_22 (.refl 23) (by decide) ?_
    obtain ⟨τ4, e3, h⟩ := b1_s h
    refine AW.callV (r' := none) (σ' := τ4) (rest := []) lm_X10_237 (c_X10_goThrough e3) (by decide) (by decide) rfl rfl (by decide) rfl rfl (Nat.le_of_ble_eq_true rfl) dX10_best_23 (.refl 26) (st' := []) rfl ?_
    refine AW.aload_n dX10_best_26 (.refl 27) 0 rfl ?_
    refine AW.iload_n dX10_best_27 (.refl 28) 1 rfl ?_
    obtain ⟨r6, e5, h⟩ := b1_s h
    refine AW.callV (r' := (some (.int r6))) (σ' := τ4) (rest := []) lm_X10_241 (c_X10_bestOfSet e5) (by decide) (by decide) rfl rfl (by decide) rfl rfl (Nat.le_of_ble_eq_true rfl) dX10_best_28 (.refl 31) (st' := [.int r6]) rfl ?_
    cases h
    exact AW.ireturn rfl dX10_best_31
  · have h := ifp c7 h
    refine AW.bipush (v := (-2 : Int32)) dX10_best_18 (.refl 20) (by decide) ?_
    cases h
    exact AW.ireturn rfl dX10_best_20
def f_X10_bestOf (x1 : Int32) (σ : Mm) : Option (Int32 × Mm) := b1 (f_X10_isBidder σ x1) (fun (r2 : Int32) => (if r2 = 0 then some ((-1 : Int32), σ) else b1 (f_X10_goThrough (0 : Int32) σ) (fun (τ4 : Mm) => gd (inB x1 5) ((if (τ4.1 56 (x1).toNatClampNeg) = 0 then some ((-9 : Int32), τ4) else gd (inB x1 5) (some (((τ4.1 56 (x1).toNatClampNeg) - (1 : Int32)), τ4)))))))
set_option maxRecDepth 20000 in
theorem c_X10_bestOf {l : Launch} {G : Gg} {x1 : Int32} {σ : Mm} {v : Int32} {τ : Mm} (h : f_X10_bestOf x1 σ = some (v, τ)) : MR l G 4 M_X10_bestOf [.ref 46, .int x1] σ (some (.int v)) τ := by
  unfold f_X10_bestOf at h
  refine MR.of (by decide +kernel) (Nat.le_of_ble_eq_true rfl) ?_
  show AW l G 4 M_X10_bestOf (some (.int v)) τ 0 [(0, .ref 46), (1, .int x1)] [] σ
  refine AW.aload_n dX10_bestOf_0 (.refl 1) 0 rfl ?_
  refine AW.iload_n dX10_bestOf_1 (.refl 2) 1 rfl ?_
  obtain ⟨r2, e1, h⟩ := b1_s h
  refine AW.callV (r' := (some (.int r2))) (σ' := σ) (rest := []) lm_X10_174 (c_X10_isBidder e1) (by decide) (by decide) rfl rfl (by decide) rfl rfl (Nat.le_of_ble_eq_true rfl) dX10_bestOf_2 (.refl 5) (st' := [.int r2]) rfl ?_
  refine AW.if_ne (tgt := 10) dX10_bestOf_5 (by decide) (fun c8 => ?_) (fun c8 => ?_)
  · have h := ifn c8 h
    refine AW.aload_n dX10_bestOf_10 (.refl 11) 0 rfl ?_
    refine AW.iconst (v := (0 : Int32)) dX10_bestOf_11 (.refl 12) (by decide) ?_
    obtain ⟨τ4, e3, h⟩ := b1_s h
    refine AW.callV (r' := none) (σ' := τ4) (rest := []) lm_X10_237 (c_X10_goThrough e3) (by decide) (by decide) rfl rfl (by decide) rfl rfl (Nat.le_of_ble_eq_true rfl) dX10_bestOf_12 (.refl 15) (st' := []) rfl ?_
    refine AW.aload_n dX10_bestOf_15 (.refl 16) 0 rfl ?_
    refine AW.getR (z := 56) lk_X10_37 rfl rfl (by decide) rfl dX10_bestOf_16 (.refl 19) ?_
    refine AW.iload_n dX10_bestOf_19 (.refl 20) 1 rfl ?_
    obtain ⟨g5, h⟩ := gd_s h
    refine AW.iaload rfl g5 dX10_bestOf_20 (.refl 21) ?_
    refine AW.if_ne (tgt := 29) dX10_bestOf_21 (by decide) (fun c7 => ?_) (fun c7 => ?_)
    · have h := ifn c7 h
      refine AW.aload_n dX10_bestOf_29 (.refl 30) 0 rfl ?_
      refine AW.getR (z := 56) lk_X10_37 rfl rfl (by decide) rfl dX10_bestOf_30 (.refl 33) ?_
      refine AW.iload_n dX10_bestOf_33 (.refl 34) 1 rfl ?_
      obtain ⟨g6, h⟩ := gd_s h
      refine AW.iaload rfl g6 dX10_bestOf_34 (.refl 35) ?_
      refine AW.iconst (v := (1 : Int32)) dX10_bestOf_35 (.refl 36) (by decide) ?_
      refine AW.isub dX10_bestOf_36 (.refl 37) ?_
      cases h
      exact AW.ireturn rfl dX10_bestOf_37
    · have h := ifp c7 h
      refine AW.bipush (v := (-9 : Int32)) dX10_bestOf_24 (.refl 26) (by decide) ?_
      refine AW.goto (tgt := 37) dX10_bestOf_26 (by decide) ?_
      cases h
      exact AW.ireturn rfl dX10_bestOf_37
  · have h := ifp c8 h
    refine AW.iconst (v := (-1 : Int32)) dX10_bestOf_8 (.refl 9) (by decide) ?_
    cases h
    exact AW.ireturn rfl dX10_bestOf_9
def f_X10_beside  (σ : Mm) : Option (Int32 × Mm) := b1 (f_X10_goThrough (1 : Int32) σ) (fun (τ2 : Mm) => b1 (f_X10_letNow τ2) (fun (r4 : Int32) => b1 (f_X10_coinsOf τ2 r4) (fun (r6 : Int32) => some (((τ2.1 46 20) - r6), τ2))))
set_option maxRecDepth 20000 in
theorem c_X10_beside {l : Launch} {G : Gg}  {σ : Mm} {v : Int32} {τ : Mm} (h : f_X10_beside  σ = some (v, τ)) : MR l G 4 M_X10_beside [.ref 46] σ (some (.int v)) τ := by
  unfold f_X10_beside at h
  refine MR.of (by decide +kernel) (Nat.le_of_ble_eq_true rfl) ?_
  show AW l G 4 M_X10_beside (some (.int v)) τ 0 [(0, .ref 46)] [] σ
  refine AW.aload_n dX10_beside_0 (.refl 1) 0 rfl ?_
  refine AW.iconst (v := (1 : Int32)) dX10_beside_1 (.refl 2) (by decide) ?_
  obtain ⟨τ2, e1, h⟩ := b1_s h
  refine AW.callV (r' := none) (σ' := τ2) (rest := []) lm_X10_237 (c_X10_goThrough e1) (by decide) (by decide) rfl rfl (by decide) rfl rfl (Nat.le_of_ble_eq_true rfl) dX10_beside_2 (.refl 5) (st' := []) rfl ?_
  refine AW.aload_n dX10_beside_5 (.refl 6) 0 rfl ?_
  refine AW.getI lk_X10_208 rfl rfl (by decide) dX10_beside_6 (.refl 9) ?_
  refine AW.aload_n dX10_beside_9 (.refl 10) 0 rfl ?_
  refine AW.aload_n dX10_beside_10 (.refl 11) 0 rfl ?_
  obtain ⟨r4, e3, h⟩ := b1_s h
  refine AW.callV (r' := (some (.int r4))) (σ' := τ2) (rest := [.ref 46, .int (τ2.1 46 20)]) lm_X10_196 (c_X10_letNow e3) (by decide) (by decide) rfl rfl (by decide) rfl rfl (Nat.le_of_ble_eq_true rfl) dX10_beside_11 (.refl 14) (st' := [.int r4, .ref 46, .int (τ2.1 46 20)]) rfl ?_
  obtain ⟨r6, e5, h⟩ := b1_s h
  refine AW.callV (r' := (some (.int r6))) (σ' := τ2) (rest := [.int (τ2.1 46 20)]) lm_X10_199 (c_X10_coinsOf e5) (by decide) (by decide) rfl rfl (by decide) rfl rfl (Nat.le_of_ble_eq_true rfl) dX10_beside_14 (.refl 17) (st' := [.int r6, .int (τ2.1 46 20)]) rfl ?_
  refine AW.isub dX10_beside_17 (.refl 18) ?_
  cases h
  exact AW.ireturn rfl dX10_beside_18
def f_X10_price (x1 : Int32) (σ : Mm) : Option (Int32 × Mm) := b1 (f_X10_isBidder σ x1) (fun (r2 : Int32) => (if r2 = 0 then some ((-1 : Int32), σ) else b1 (f_X10_goThrough (0 : Int32) σ) (fun (τ4 : Mm) => gd (inB x1 5) ((if (τ4.1 56 (x1).toNatClampNeg) = 0 then some ((-9 : Int32), τ4) else b1 (f_X10_bestOfSet τ4 (((jshl (1 : Int32) (τ4.1 46 1)) - (1 : Int32)) &&& ((jshl (1 : Int32) x1) ^^^ (-1 : Int32)))) (fun (r7 : Int32) => gd (inB (((6 : Int32) * x1) + (5 : Int32)) 30) (some ((r7 - ((τ4.1 46 20) - (τ4.1 49 ((((6 : Int32) * x1) + (5 : Int32))).toNatClampNeg))), τ4))))))))
set_option maxRecDepth 20000 in
theorem c_X10_price {l : Launch} {G : Gg} {x1 : Int32} {σ : Mm} {v : Int32} {τ : Mm} (h : f_X10_price x1 σ = some (v, τ)) : MR l G 4 M_X10_price [.ref 46, .int x1] σ (some (.int v)) τ := by
  unfold f_X10_price at h
  refine MR.of (by decide +kernel) (Nat.le_of_ble_eq_true rfl) ?_
  show AW l G 4 M_X10_price (some (.int v)) τ 0 [(0, .ref 46), (1, .int x1)] [] σ
  refine AW.aload_n dX10_price_0 (.refl 1) 0 rfl ?_
  refine AW.iload_n dX10_price_1 (.refl 2) 1 rfl ?_
  obtain ⟨r2, e1, h⟩ := b1_s h
  refine AW.callV (r' := (some (.int r2))) (σ' := σ) (rest := []) lm_X10_174 (c_X10_isBidder e1) (by decide) (by decide) rfl rfl (by decide) rfl rfl (Nat.le_of_ble_eq_true rfl) dX10_price_2 (.refl 5) (st' := [.int r2]) rfl ?_
  refine AW.if_ne (tgt := 10) dX10_price_5 (by decide) (fun c10 => ?_) (fun c10 => ?_)
  · have h := ifn c10 h
    refine AW.aload_n dX10_price_10 (.refl 11) 0 rfl ?_
    refine AW.iconst (v := (0 : Int32)) dX10_price_11 (.refl 12) (by decide) ?_
    obtain ⟨τ4, e3, h⟩ := b1_s h
    refine AW.callV (r' := none) (σ' := τ4) (rest := []) lm_X10_237 (c_X10_goThrough e3) (by decide) (by decide) rfl rfl (by decide) rfl rfl (Nat.le_of_ble_eq_true rfl) dX10_price_12 (.refl 15) (st' := []) rfl ?_
    refine AW.aload_n dX10_price_15 (.refl 16) 0 rfl ?_
    refine AW.getR (z := 56) lk_X10_37 rfl rfl (by decide) rfl dX10_price_16 (.refl 19) ?_
    refine AW.iload_n dX10_price_19 (.refl 20) 1 rfl ?_
    obtain ⟨g5, h⟩ := gd_s h
    refine AW.iaload rfl g5 dX10_price_20 (.refl 21) ?_
    refine AW.if_ne (tgt := 27) dX10_price_21 (by decide) (fun c9 => ?_) (fun c9 => ?_)
    · have h := ifn c9 h
      refine AW.aload_n dX10_price_27 (.refl 28) 0 rfl ?_
      refine AW.iconst (v := (1 : Int32)) dX10_price_28 (.refl 29) (by decide) ?_
      refine AW.aload_n dX10_price_29 (.refl 30) 0 rfl ?_
      refine AW.getI lk_X10_135 rfl rfl (by decide) dX10_price_30 (.refl 33) ?_
      refine AW.ishl dX10_price_33 (.refl 34) ?_
      refine AW.iconst (v := (1 : Int32)) dX10_price_34 (.refl 35) (by decide) ?_
      refine AW.isub dX10_price_35 (.refl 36) ?_
      refine AW.iconst (v := (1 : Int32)) dX10_price_36 (.refl 37) (by decide) ?_
      refine AW.iload_n dX10_price_37 (.refl 38) 1 rfl ?_
      refine AW.ishl dX10_price_38 (.refl 39) ?_
      refine AW.iconst (v := (-1 : Int32)) dX10_price_39 (.refl 40) (by decide) ?_
      refine AW.ixor dX10_price_40 (.refl 41) ?_
      refine AW.iand dX10_price_41 (.refl 42) ?_
      obtain ⟨r7, e6, h⟩ := b1_s h
      refine AW.callV (r' := (some (.int r7))) (σ' := τ4) (rest := []) lm_X10_241 (c_X10_bestOfSet e6) (by decide) (by decide) rfl rfl (by decide) rfl rfl (Nat.le_of_ble_eq_true rfl) dX10_price_42 (.refl 45) (st' := [.int r7]) rfl ?_
      refine AW.aload_n dX10_price_45 (.refl 46) 0 rfl ?_
      refine AW.getI lk_X10_208 rfl rfl (by decide) dX10_price_46 (.refl 49) ?_
      refine AW.aload_n dX10_price_49 (.refl 50) 0 rfl ?_
      refine AW.getR (z := 49) lk_X10_16 rfl rfl (by decide) rfl dX10_price_50 (.refl 53) ?_
      refine AW.bipush (v := (6 : Int32)) dX10_price_53 (.refl 55) (by decide) ?_
      refine AW.iload_n dX10_price_55 (.refl 56) 1 rfl ?_
      refine AW.imul dX10_price_56 (.refl 57) ?_
      refine AW.iconst (v := (5 : Int32)) dX10_price_57 (.refl 58) (by decide) ?_
      refine AW.iadd dX10_price_58 (.refl 59) ?_
      obtain ⟨g8, h⟩ := gd_s h
      refine AW.iaload rfl g8 dX10_price_59 (.refl 60) ?_
      refine AW.isub dX10_price_60 (.refl 61) ?_
      refine AW.isub dX10_price_61 (.refl 62) ?_
      cases h
      exact AW.ireturn rfl dX10_price_62
    · have h := ifp c9 h
      refine AW.bipush (v := (-9 : Int32)) dX10_price_24 (.refl 26) (by decide) ?_
      cases h
      exact AW.ireturn rfl dX10_price_26
  · have h := ifp c10 h
    refine AW.iconst (v := (-1 : Int32)) dX10_price_8 (.refl 9) (by decide) ?_
    cases h
    exact AW.ireturn rfl dX10_price_9
def f_X10_many_p9 : Nat → Int32 → Int32 → Mm → Option (Int32 × Mm)
  | 0, _, _, _ => none
  | n + 1, x1, x2, σ => (if (32 : Int32) ≤ x2 then some (x1, σ) else gd (inB x2 32) ((if (σ.1 57 (x2).toNatClampNeg) = 0 then (f_X10_many_p9 n) x1 (x2 + (1 : Int32)) σ else b1 (f_X10_ones σ x2) (fun (r3 : Int32) => (if r3 ≤ x1 then (f_X10_many_p9 n) x1 (x2 + (1 : Int32)) σ else b1 (f_X10_ones σ x2) (fun (r5 : Int32) => (f_X10_many_p9 n) r5 (x2 + (1 : Int32)) σ))))))
def f_X10_many  (σ : Mm) : Option (Int32 × Mm) := b1 (f_X10_goThrough (0 : Int32) σ) (fun (τ2 : Mm) => f_X10_many_p9 FU (0 : Int32) (0 : Int32) τ2)
set_option maxRecDepth 20000 in
theorem a_X10_many_p9 {l : Launch} {G : Gg} {v : Int32} {τ : Mm} : ∀ (n : Nat) (x1 : Int32) (x2 : Int32) (σ : Mm), f_X10_many_p9 n x1 x2 σ = some (v, τ) → AW l G 4 M_X10_many (some (.int v)) τ 9 [(0, .ref 46), (1, .int x1), (2, .int x2)] [] σ := by
  intro n
  induction n with
  | zero => intro x1 x2 σ h; exact no_some h
  | succ n ih =>
    intro x1 x2 σ h
    rw [f_X10_many_p9] at h
    refine AW.iload_n dX10_many_9 (.refl 10) 2 rfl ?_
    refine AW.bipush (v := (32 : Int32)) dX10_many_10 (.refl 12) (by decide) ?_
    refine AW.icmp_ge (tgt := 47) dX10_many_12 (by decide) (fun c8 => ?_) (fun c8 => ?_)
    · have h := ifp c8 h
      refine AW.iload_n dX10_many_47 (.refl 48) 1 rfl ?_
      cases h
      exact AW.ireturn rfl dX10_many_48
    · have h := ifn c8 h
      refine AW.aload_n dX10_many_15 (.refl 16) 0 rfl ?_
      refine AW.getR (z := 57) lk_X10_40 rfl rfl (by decide) rfl dX10_many_16 (.refl 19) ?_
      refine AW.iload_n dX10_many_19 (.refl 20) 2 rfl ?_
      obtain ⟨g1, h⟩ := gd_s h
      refine AW.baload rfl g1 dX10_many_20 (.refl 21) ?_
      refine AW.if_eq (tgt := 39) dX10_many_21 (by decide) (fun c7 => ?_) (fun c7 => ?_)
      · have h := ifp c7 h
        refine AW.iload_n dX10_many_39 (.refl 40) 1 rfl ?_
        refine AW.istore_n (L' := [(1, .int x1), (0, .ref 46), (2, .int x2)]) dX10_many_40 (.refl 41) (by decide) rfl ?_
        refine AW.iinc (v := (x2 + (1 : Int32))) (L' := [(2, .int (x2 + (1 : Int32))), (1, .int x1), (0, .ref 46)]) dX10_many_41 (.refl 44) 2 rfl rfl (by decide) rfl ?_
        refine AW.goto (tgt := 9) dX10_many_44 (by decide) ?_
        refine AW.sub (L' := [(0, .ref 46), (1, .int x1), (2, .int (x2 + (1 : Int32)))]) [2, 1, 0] rfl ?_
        exact ih x1 (x2 + (1 : Int32)) σ h
      · have h := ifn c7 h
        refine AW.iload_n dX10_many_24 (.refl 25) 2 rfl ?_
        obtain ⟨r3, e2, h⟩ := b1_s h
        refine AW.callS (r' := (some (.int r3))) (σ' := σ) (rest := []) lm_X10_244 (c_X10_ones e2) (by decide) (by decide) rfl rfl (Nat.le_of_ble_eq_true rfl) dX10_many_25 (.refl 28) (st' := [.int r3]) rfl ?_
        refine AW.iload_n dX10_many_28 (.refl 29) 1 rfl ?_
        refine AW.icmp_le (tgt := 39) dX10_many_29 (by decide) (fun c6 => ?_) (fun c6 => ?_)
        · have h := ifp c6 h
          refine AW.iload_n dX10_many_39 (.refl 40) 1 rfl ?_
          refine AW.istore_n (L' := [(1, .int x1), (0, .ref 46), (2, .int x2)]) dX10_many_40 (.refl 41) (by decide) rfl ?_
          refine AW.iinc (v := (x2 + (1 : Int32))) (L' := [(2, .int (x2 + (1 : Int32))), (1, .int x1), (0, .ref 46)]) dX10_many_41 (.refl 44) 2 rfl rfl (by decide) rfl ?_
          refine AW.goto (tgt := 9) dX10_many_44 (by decide) ?_
          refine AW.sub (L' := [(0, .ref 46), (1, .int x1), (2, .int (x2 + (1 : Int32)))]) [2, 1, 0] rfl ?_
          exact ih x1 (x2 + (1 : Int32)) σ h
        · have h := ifn c6 h
          refine AW.iload_n dX10_many_32 (.refl 33) 2 rfl ?_
          obtain ⟨r5, e4, h⟩ := b1_s h
          refine AW.callS (r' := (some (.int r5))) (σ' := σ) (rest := []) lm_X10_244 (c_X10_ones e4) (by decide) (by decide) rfl rfl (Nat.le_of_ble_eq_true rfl) dX10_many_33 (.refl 36) (st' := [.int r5]) rfl ?_
          refine AW.goto (tgt := 40) dX10_many_36 (by decide) ?_
          refine AW.istore_n (L' := [(1, .int r5), (0, .ref 46), (2, .int x2)]) dX10_many_40 (.refl 41) (by decide) rfl ?_
          refine AW.iinc (v := (x2 + (1 : Int32))) (L' := [(2, .int (x2 + (1 : Int32))), (1, .int r5), (0, .ref 46)]) dX10_many_41 (.refl 44) 2 rfl rfl (by decide) rfl ?_
          refine AW.goto (tgt := 9) dX10_many_44 (by decide) ?_
          refine AW.sub (L' := [(0, .ref 46), (1, .int r5), (2, .int (x2 + (1 : Int32)))]) [2, 1, 0] rfl ?_
          exact ih r5 (x2 + (1 : Int32)) σ h
set_option maxRecDepth 20000 in
theorem c_X10_many {l : Launch} {G : Gg}  {σ : Mm} {v : Int32} {τ : Mm} (h : f_X10_many  σ = some (v, τ)) : MR l G 4 M_X10_many [.ref 46] σ (some (.int v)) τ := by
  unfold f_X10_many at h
  refine MR.of (by decide +kernel) (Nat.le_of_ble_eq_true rfl) ?_
  show AW l G 4 M_X10_many (some (.int v)) τ 0 [(0, .ref 46)] [] σ
  refine AW.aload_n dX10_many_0 (.refl 1) 0 rfl ?_
  refine AW.iconst (v := (0 : Int32)) dX10_many_1 (.refl 2) (by decide) ?_
  obtain ⟨τ2, e1, h⟩ := b1_s h
  refine AW.callV (r' := none) (σ' := τ2) (rest := []) lm_X10_237 (c_X10_goThrough e1) (by decide) (by decide) rfl rfl (by decide) rfl rfl (Nat.le_of_ble_eq_true rfl) dX10_many_2 (.refl 5) (st' := []) rfl ?_
  refine AW.iconst (v := (0 : Int32)) dX10_many_5 (.refl 6) (by decide) ?_
  refine AW.istore_n (L' := [(1, .int (0 : Int32)), (0, .ref 46)]) dX10_many_6 (.refl 7) (by decide) rfl ?_
  refine AW.iconst (v := (0 : Int32)) dX10_many_7 (.refl 8) (by decide) ?_
  refine AW.istore_n (L' := [(2, .int (0 : Int32)), (1, .int (0 : Int32)), (0, .ref 46)]) dX10_many_8 (.refl 9) (by decide) rfl ?_
  refine AW.sub (L' := [(0, .ref 46), (1, .int (0 : Int32)), (2, .int (0 : Int32))]) [2, 1, 0] rfl ?_
  exact a_X10_many_p9 FU (0 : Int32) (0 : Int32) τ2 h
