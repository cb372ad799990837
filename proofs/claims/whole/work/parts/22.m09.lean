def f_X10_count (σ : Mm) (x1 : Int32) : Option (Int32) := (if x1 = (0 : Int32) then some (σ.1 46 9) else (if x1 = (1 : Int32) then some (σ.1 46 0) else (if x1 = (2 : Int32) then some (σ.1 46 1) else (if x1 = (3 : Int32) then b1 (f_X10_letNow σ) (fun (r5 : Int32) => some r5) else (if x1 = (4 : Int32) then b1 (f_X10_letNow σ) (fun (r8 : Int32) => b1 (f_X10_coinsOf σ r8) (fun (r10 : Int32) => some r10)) else (if x1 = (5 : Int32) then b1 (f_X10_ringing σ (-9 : Int32)) (fun (r13 : Int32) => some r13) else (if x1 = (6 : Int32) then some (σ.1 46 14) else (if x1 = (7 : Int32) then some (σ.1 46 38) else some (-2 : Int32)))))))))
set_option maxRecDepth 20000 in
theorem c_X10_count {l : Launch} {G : Gg} {x1 : Int32} {σ : Mm} {v : Int32} (h : f_X10_count σ x1 = some v) : MR l G 3 M_X10_count [.ref 46, .int x1] σ (some (.int v)) σ := by
  unfold f_X10_count at h
  refine MR.of (by decide +kernel) (Nat.le_of_ble_eq_true rfl) ?_
  show AW l G 3 M_X10_count (some (.int v)) σ 0 [(0, .ref 46), (1, .int x1)] [] σ
  refine AW.iload_n dX10_count_0 (.refl 1) 1 rfl ?_
  by_cases c1 : x1 = (0 : Int32)
  · have h := ifp c1 h
    refine AW.tabIn (v := (0 : Int32)) (off := 47) (tgt := 48) dX10_count_1 c1 (by decide) (by decide) (by decide) (by decide) ?_
    refine AW.aload_n dX10_count_48 (.refl 49) 0 rfl ?_
    refine AW.getI lk_X10_101 rfl rfl (by decide) dX10_count_49 (.refl 52) ?_
    cases h
    exact AW.ireturn rfl dX10_count_52
  have h := ifn c1 h
  by_cases c2 : x1 = (1 : Int32)
  · have h := ifp c2 h
    refine AW.tabIn (v := (1 : Int32)) (off := 52) (tgt := 53) dX10_count_1 c2 (by decide) (by decide) (by decide) (by decide) ?_
    refine AW.aload_n dX10_count_53 (.refl 54) 0 rfl ?_
    refine AW.getI lk_X10_132 rfl rfl (by decide) dX10_count_54 (.refl 57) ?_
    cases h
    exact AW.ireturn rfl dX10_count_57
  have h := ifn c2 h
  by_cases c3 : x1 = (2 : Int32)
  · have h := ifp c3 h
    refine AW.tabIn (v := (2 : Int32)) (off := 57) (tgt := 58) dX10_count_1 c3 (by decide) (by decide) (by decide) (by decide) ?_
    refine AW.aload_n dX10_count_58 (.refl 59) 0 rfl ?_
    refine AW.getI lk_X10_135 rfl rfl (by decide) dX10_count_59 (.refl 62) ?_
    cases h
    exact AW.ireturn rfl dX10_count_62
  have h := ifn c3 h
  by_cases c6 : x1 = (3 : Int32)
  · have h := ifp c6 h
    refine AW.tabIn (v := (3 : Int32)) (off := 62) (tgt := 63) dX10_count_1 c6 (by decide) (by decide) (by decide) (by decide) ?_
    refine AW.aload_n dX10_count_63 (.refl 64) 0 rfl ?_
    obtain ⟨r5, e4, h⟩ := b1_s h
    refine AW.callV (r' := (some (.int r5))) (σ' := σ) (rest := []) lm_X10_196 (c_X10_letNow e4) (by decide) (by decide) rfl rfl (by decide) rfl rfl (Nat.le_of_ble_eq_true rfl) dX10_count_64 (.refl 67) (st' := [.int r5]) rfl ?_
    cases h
    exact AW.ireturn rfl dX10_count_67
  have h := ifn c6 h
  by_cases c11 : x1 = (4 : Int32)
  · have h := ifp c11 h
    refine AW.tabIn (v := (4 : Int32)) (off := 67) (tgt := 68) dX10_count_1 c11 (by decide) (by decide) (by decide) (by decide) ?_
    refine AW.aload_n dX10_count_68 (.refl 69) 0 rfl ?_
    refine AW.aload_n dX10_count_69 (.refl 70) 0 rfl ?_
    obtain ⟨r8, e7, h⟩ := b1_s h
    refine AW.callV (r' := (some (.int r8))) (σ' := σ) (rest := [.ref 46]) lm_X10_196 (c_X10_letNow e7) (by decide) (by decide) rfl rfl (by decide) rfl rfl (Nat.le_of_ble_eq_true rfl) dX10_count_70 (.refl 73) (st' := [.int r8, .ref 46]) rfl ?_
    obtain ⟨r10, e9, h⟩ := b1_s h
    refine AW.callV (r' := (some (.int r10))) (σ' := σ) (rest := []) lm_X10_199 (c_X10_coinsOf e9) (by decide) (by decide) rfl rfl (by decide) rfl rfl (Nat.le_of_ble_eq_true rfl) dX10_count_73 (.refl 76) (st' := [.int r10]) rfl ?_
    cases h
    exact AW.ireturn rfl dX10_count_76
  have h := ifn c11 h
  by_cases c14 : x1 = (5 : Int32)
  · have h := ifp c14 h
    refine AW.tabIn (v := (5 : Int32)) (off := 76) (tgt := 77) dX10_count_1 c14 (by decide) (by decide) (by decide) (by decide) ?_
    refine AW.aload_n dX10_count_77 (.refl 78) 0 rfl ?_
    refine AW.bipush (v := (-9 : Int32)) dX10_count_78 (.refl 80) (by decide) ?_
    obtain ⟨r13, e12, h⟩ := b1_s h
    refine AW.callV (r' := (some (.int r13))) (σ' := σ) (rest := []) lm_X10_167 (c_X10_ringing e12) (by decide) (by decide) rfl rfl (by decide) rfl rfl (Nat.le_of_ble_eq_true rfl) dX10_count_80 (.refl 83) (st' := [.int r13]) rfl ?_
    cases h
    exact AW.ireturn rfl dX10_count_83
  have h := ifn c14 h
  by_cases c15 : x1 = (6 : Int32)
  · have h := ifp c15 h
    refine AW.tabIn (v := (6 : Int32)) (off := 83) (tgt := 84) dX10_count_1 c15 (by decide) (by decide) (by decide) (by decide) ?_
    refine AW.aload_n dX10_count_84 (.refl 85) 0 rfl ?_
    refine AW.getI lk_X10_138 rfl rfl (by decide) dX10_count_85 (.refl 88) ?_
    cases h
    exact AW.ireturn rfl dX10_count_88
  have h := ifn c15 h
  by_cases c16 : x1 = (7 : Int32)
  · have h := ifp c16 h
    refine AW.tabIn (v := (7 : Int32)) (off := 88) (tgt := 89) dX10_count_1 c16 (by decide) (by decide) (by decide) (by decide) ?_
    refine AW.aload_n dX10_count_89 (.refl 90) 0 rfl ?_
    refine AW.getI lk_X10_273 rfl rfl (by decide) dX10_count_90 (.refl 93) ?_
    cases h
    exact AW.ireturn rfl dX10_count_93
  have h := ifn c16 h
  refine AW.tabOut (tgt := 94) dX10_count_1 (tab_out _ 7 (fun i hi => by
      rcases (show i = 0 ∨ i = 1 ∨ i = 2 ∨ i = 3 ∨ i = 4 ∨ i = 5 ∨ i = 6 ∨ i = 7 by omega) with rfl | rfl | rfl | rfl | rfl | rfl | rfl | rfl
      · exact c1
      · exact c2
      · exact c3
      · exact c6
      · exact c11
      · exact c14
      · exact c15
      · exact c16) (by decide)) (by decide) ?_
  refine AW.bipush (v := (-2 : Int32)) dX10_count_94 (.refl 96) (by decide) ?_
  cases h
  exact AW.ireturn rfl dX10_count_96
