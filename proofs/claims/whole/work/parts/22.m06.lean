def f_X10_room_p95 (σ : Mm) (kh : Int32 → Int32 → Int32 → Int32 → Int32 → Option (Int32)) (ke122 : Int32 → Int32 → Int32 → Option (Int32)) (x1 : Int32) (x2 : Int32) (x3 : Int32) (x5 : Int32) (x6 : Int32) (s0 : Int32) : Option (Int32) := (if x3 = (-9 : Int32) then kh x1 x2 x6 s0 (x5 + (-1 : Int32)) else (if x3 < x6 then kh x1 x2 x3 s0 (x5 + (-1 : Int32)) else kh x1 x2 x6 s0 (x5 + (-1 : Int32))))
def f_X10_room_p88 (σ : Mm) (kh : Int32 → Int32 → Int32 → Int32 → Int32 → Option (Int32)) (ke122 : Int32 → Int32 → Int32 → Option (Int32)) (x1 : Int32) (x2 : Int32) (x3 : Int32) (x5 : Int32) (x6 : Int32) : Option (Int32) := (f_X10_room_p95 σ kh ke122) x1 x2 x3 x5 x6 x5
def f_X10_room_p48 (σ : Mm) (ke122 : Int32 → Int32 → Int32 → Option (Int32)) : Nat → Int32 → Int32 → Int32 → Int32 → Int32 → Option (Int32)
  | 0, _, _, _, _, _ => none
  | n + 1, x1, x2, x3, x4, x5 => (if x5 < 0 then ke122 x2 x3 x4 else b1 (f_X10_mayBegin σ x1 x5) (fun (r2 : Int32) => (if r2 = 0 then (f_X10_room_p48 σ ke122 n) x1 x2 x3 x4 (x5 + (-1 : Int32)) else b1 (f_X10_clashesOf σ x1 x5) (fun (r4 : Int32) => b1 (f_X10_coinsOf σ r4) (fun (r6 : Int32) => (if x3 = (-9 : Int32) then (f_X10_room_p88 σ (f_X10_room_p48 σ ke122 n) ke122) x1 x2 x3 x5 r6 else (if x3 < r6 then (f_X10_room_p95 σ (f_X10_room_p48 σ ke122 n) ke122) x1 x2 x3 x5 r6 x4 else (f_X10_room_p88 σ (f_X10_room_p48 σ ke122 n) ke122) x1 x2 x3 x5 r6)))))))
def f_X10_room_p122 (σ : Mm) (x2 : Int32) (x3 : Int32) (x4 : Int32) : Option (Int32) := (if x2 = 0 then some x3 else some x4)
def f_X10_room (σ : Mm) (x1 : Int32) (x2 : Int32) : Option (Int32) := b1 (f_X10_isBidder σ x1) (fun (r2 : Int32) => (if r2 = 0 then some (-1 : Int32) else b1 (f_X10_in σ x2.toInt64 (0 : Int64) (1 : Int64)) (fun (r4 : Int32) => (if r4 = 0 then some (-2 : Int32) else gd (inB x1 5) ((if (σ.1 52 (x1).toNatClampNeg) = (-9 : Int32) then f_X10_room_p48 σ (f_X10_room_p122 σ) FU x1 x2 (-9 : Int32) (-9 : Int32) (9 : Int32) else some (-3 : Int32)))))))
set_option maxRecDepth 20000 in
theorem a_X10_room_p95 {l : Launch} {G : Gg} {v : Int32} {σ : Mm} {kh : Int32 → Int32 → Int32 → Int32 → Int32 → Option (Int32)} (hkh : ∀ (x1 : Int32) (x2 : Int32) (x3 : Int32) (x4 : Int32) (x5 : Int32), kh x1 x2 x3 x4 x5 = some v → AW l G 4 M_X10_room (some (.int v)) σ 48 [(0, .ref 46), (1, .int x1), (2, .int x2), (3, .int x3), (4, .int x4), (5, .int x5)] [] σ) {ke122 : Int32 → Int32 → Int32 → Option (Int32)} (he122 : ∀ (x2 : Int32) (x3 : Int32) (x4 : Int32), ke122 x2 x3 x4 = some v → AW l G 4 M_X10_room (some (.int v)) σ 122 [(2, .int x2), (3, .int x3), (4, .int x4)] [] σ) (x1 : Int32) (x2 : Int32) (x3 : Int32) (x5 : Int32) (x6 : Int32) (s0 : Int32) (h : f_X10_room_p95 σ kh ke122 x1 x2 x3 x5 x6 s0 = some v) : AW l G 4 M_X10_room (some (.int v)) σ 95 [(0, .ref 46), (1, .int x1), (2, .int x2), (3, .int x3), (5, .int x5), (6, .int x6)] [.int s0] σ := by
  unfold f_X10_room_p95 at h
  refine AW.istore (L' := [(4, .int s0), (0, .ref 46), (1, .int x1), (2, .int x2), (3, .int x3), (5, .int x5), (6, .int x6)]) dX10_room_95 (.refl 97) (by decide) rfl ?_
  refine AW.iload_n dX10_room_97 (.refl 98) 4 rfl ?_
  refine AW.bipush (v := (-9 : Int32)) dX10_room_98 (.refl 100) (by decide) ?_
  refine AW.icmp_eq (tgt := 109) dX10_room_100 (by decide) (fun c2 => ?_) (fun c2 => ?_)
  · have h := ifp c2 h
    refine AW.iload dX10_room_109 (.refl 111) 6 rfl ?_
    refine AW.goto (tgt := 115) dX10_room_111 (by decide) ?_
    refine AW.istore_n (L' := [(3, .int x6), (4, .int s0), (0, .ref 46), (1, .int x1), (2, .int x2), (5, .int x5), (6, .int x6)]) dX10_room_115 (.refl 116) (by decide) rfl ?_
    refine AW.iinc (v := (x5 + (-1 : Int32))) (L' := [(5, .int (x5 + (-1 : Int32))), (3, .int x6), (4, .int s0), (0, .ref 46), (1, .int x1), (2, .int x2), (6, .int x6)]) dX10_room_116 (.refl 119) 5 rfl rfl (by decide) rfl ?_
    refine AW.goto (tgt := 48) dX10_room_119 (by decide) ?_
    refine AW.sub (L' := [(0, .ref 46), (1, .int x1), (2, .int x2), (3, .int x6), (4, .int s0), (5, .int (x5 + (-1 : Int32)))]) [3, 4, 5, 1, 2, 0] rfl ?_
    exact hkh x1 x2 x6 s0 (x5 + (-1 : Int32)) h
  · have h := ifn c2 h
    refine AW.iload dX10_room_103 (.refl 105) 6 rfl ?_
    refine AW.iload_n dX10_room_105 (.refl 106) 4 rfl ?_
    refine AW.icmp_gt (tgt := 114) dX10_room_106 (by decide) (fun c1 => ?_) (fun c1 => ?_)
    · have h := ifp c1 h
      refine AW.iload_n dX10_room_114 (.refl 115) 4 rfl ?_
      refine AW.istore_n (L' := [(3, .int x3), (4, .int s0), (0, .ref 46), (1, .int x1), (2, .int x2), (5, .int x5), (6, .int x6)]) dX10_room_115 (.refl 116) (by decide) rfl ?_
      refine AW.iinc (v := (x5 + (-1 : Int32))) (L' := [(5, .int (x5 + (-1 : Int32))), (3, .int x3), (4, .int s0), (0, .ref 46), (1, .int x1), (2, .int x2), (6, .int x6)]) dX10_room_116 (.refl 119) 5 rfl rfl (by decide) rfl ?_
      refine AW.goto (tgt := 48) dX10_room_119 (by decide) ?_
      refine AW.sub (L' := [(0, .ref 46), (1, .int x1), (2, .int x2), (3, .int x3), (4, .int s0), (5, .int (x5 + (-1 : Int32)))]) [3, 4, 5, 1, 2, 0] rfl ?_
      exact hkh x1 x2 x3 s0 (x5 + (-1 : Int32)) h
    · have h := ifn c1 h
      refine AW.iload dX10_room_109 (.refl 111) 6 rfl ?_
      refine AW.goto (tgt := 115) dX10_room_111 (by decide) ?_
      refine AW.istore_n (L' := [(3, .int x6), (4, .int s0), (0, .ref 46), (1, .int x1), (2, .int x2), (5, .int x5), (6, .int x6)]) dX10_room_115 (.refl 116) (by decide) rfl ?_
      refine AW.iinc (v := (x5 + (-1 : Int32))) (L' := [(5, .int (x5 + (-1 : Int32))), (3, .int x6), (4, .int s0), (0, .ref 46), (1, .int x1), (2, .int x2), (6, .int x6)]) dX10_room_116 (.refl 119) 5 rfl rfl (by decide) rfl ?_
      refine AW.goto (tgt := 48) dX10_room_119 (by decide) ?_
      refine AW.sub (L' := [(0, .ref 46), (1, .int x1), (2, .int x2), (3, .int x6), (4, .int s0), (5, .int (x5 + (-1 : Int32)))]) [3, 4, 5, 1, 2, 0] rfl ?_
      exact hkh x1 x2 x6 s0 (x5 + (-1 : Int32)) h
set_option maxRecDepth 20000 in
theorem a_X10_room_p88 {l : Launch} {G : Gg} {v : Int32} {σ : Mm} {kh : Int32 → Int32 → Int32 → Int32 → Int32 → Option (Int32)} (hkh : ∀ (x1 : Int32) (x2 : Int32) (x3 : Int32) (x4 : Int32) (x5 : Int32), kh x1 x2 x3 x4 x5 = some v → AW l G 4 M_X10_room (some (.int v)) σ 48 [(0, .ref 46), (1, .int x1), (2, .int x2), (3, .int x3), (4, .int x4), (5, .int x5)] [] σ) {ke122 : Int32 → Int32 → Int32 → Option (Int32)} (he122 : ∀ (x2 : Int32) (x3 : Int32) (x4 : Int32), ke122 x2 x3 x4 = some v → AW l G 4 M_X10_room (some (.int v)) σ 122 [(2, .int x2), (3, .int x3), (4, .int x4)] [] σ) (x1 : Int32) (x2 : Int32) (x3 : Int32) (x5 : Int32) (x6 : Int32) (h : f_X10_room_p88 σ kh ke122 x1 x2 x3 x5 x6 = some v) : AW l G 4 M_X10_room (some (.int v)) σ 88 [(0, .ref 46), (1, .int x1), (2, .int x2), (3, .int x3), (5, .int x5), (6, .int x6)] [] σ := by
  unfold f_X10_room_p88 at h
  refine AW.iload dX10_room_88 (.refl 90) 4 rfl ?_
  refine AW.goto (tgt := 95) dX10_room_90 (by decide) ?_
  exact (a_X10_room_p95 hkh he122) x1 x2 x3 x5 x6 x5 h
set_option maxRecDepth 20000 in
theorem a_X10_room_p48 {l : Launch} {G : Gg} {v : Int32} {σ : Mm} {ke122 : Int32 → Int32 → Int32 → Option (Int32)} (he122 : ∀ (x2 : Int32) (x3 : Int32) (x4 : Int32), ke122 x2 x3 x4 = some v → AW l G 4 M_X10_room (some (.int v)) σ 122 [(2, .int x2), (3, .int x3), (4, .int x4)] [] σ) : ∀ (n : Nat) (x1 : Int32) (x2 : Int32) (x3 : Int32) (x4 : Int32) (x5 : Int32), f_X10_room_p48 σ ke122 n x1 x2 x3 x4 x5 = some v → AW l G 4 M_X10_room (some (.int v)) σ 48 [(0, .ref 46), (1, .int x1), (2, .int x2), (3, .int x3), (4, .int x4), (5, .int x5)] [] σ := by
  intro n
  induction n with
  | zero => intro x1 x2 x3 x4 x5 h; exact no_some h
  | succ n ih =>
    intro x1 x2 x3 x4 x5 h
    rw [f_X10_room_p48] at h
    refine AW.iload dX10_room_48 (.refl 50) 5 rfl ?_
    refine AW.if_lt (tgt := 122) dX10_room_50 (by decide) (fun c10 => ?_) (fun c10 => ?_)
    · have h := ifp c10 h
      refine AW.sub (L' := [(2, .int x2), (3, .int x3), (4, .int x4)]) [2, 3, 4] rfl ?_
      exact he122 x2 x3 x4 h
    · have h := ifn c10 h
      refine AW.aload_n dX10_room_53 (.refl 54) 0 rfl ?_
      refine AW.iload_n dX10_room_54 (.refl 55) 1 rfl ?_
      refine AW.iload dX10_room_55 (.refl 57) 5 rfl ?_
      obtain ⟨r2, e1, h⟩ := b1_s h
      refine AW.callV (r' := (some (.int r2))) (σ' := σ) (rest := []) lm_X10_171 (c_X10_mayBegin e1) (by decide) (by decide) rfl rfl (by decide) rfl rfl (Nat.le_of_ble_eq_true rfl) dX10_room_57 (.refl 60) (st' := [.int r2]) rfl ?_
      refine AW.if_eq (tgt := 116) dX10_room_60 (by decide) (fun c9 => ?_) (fun c9 => ?_)
      · have h := ifp c9 h
        refine AW.iinc (v := (x5 + (-1 : Int32))) (L' := [(5, .int (x5 + (-1 : Int32))), (0, .ref 46), (1, .int x1), (2, .int x2), (3, .int x3), (4, .int x4)]) dX10_room_116 (.refl 119) 5 rfl rfl (by decide) rfl ?_
        refine AW.goto (tgt := 48) dX10_room_119 (by decide) ?_
        refine AW.sub (L' := [(0, .ref 46), (1, .int x1), (2, .int x2), (3, .int x3), (4, .int x4), (5, .int (x5 + (-1 : Int32)))]) [1, 2, 3, 4, 5, 0] rfl ?_
        exact ih x1 x2 x3 x4 (x5 + (-1 : Int32)) h
      · have h := ifn c9 h
        refine AW.aload_n dX10_room_63 (.refl 64) 0 rfl ?_
        refine AW.aload_n dX10_room_64 (.refl 65) 0 rfl ?_
        refine AW.iload_n dX10_room_65 (.refl 66) 1 rfl ?_
        refine AW.iload dX10_room_66 (.refl 68) 5 rfl ?_
        obtain ⟨r4, e3, h⟩ := b1_s h
        refine AW.callV (r' := (some (.int r4))) (σ' := σ) (rest := [.ref 46]) lm_X10_184 (c_X10_clashesOf e3) (by decide) (by decide) rfl rfl (by decide) rfl rfl (Nat.le_of_ble_eq_true rfl) dX10_room_68 (.refl 71) (st' := [.int r4, .ref 46]) rfl ?_
        obtain ⟨r6, e5, h⟩ := b1_s h
        refine AW.callV (r' := (some (.int r6))) (σ' := σ) (rest := []) lm_X10_199 (c_X10_coinsOf e5) (by decide) (by decide) rfl rfl (by decide) rfl rfl (Nat.le_of_ble_eq_true rfl) dX10_room_71 (.refl 74) (st' := [.int r6]) rfl ?_
        refine AW.istore (L' := [(6, .int r6), (0, .ref 46), (1, .int x1), (2, .int x2), (3, .int x3), (4, .int x4), (5, .int x5)]) dX10_room_74 (.refl 76) (by decide) rfl ?_
        refine AW.iload_n dX10_room_76 (.refl 77) 4 rfl ?_
        refine AW.bipush (v := (-9 : Int32)) dX10_room_77 (.refl 79) (by decide) ?_
        refine AW.icmp_eq (tgt := 88) dX10_room_79 (by decide) (fun c8 => ?_) (fun c8 => ?_)
        · have h := ifp c8 h
          refine AW.sub (L' := [(0, .ref 46), (1, .int x1), (2, .int x2), (3, .int x3), (5, .int x5), (6, .int r6)]) [1, 2, 3, 4, 6, 0] rfl ?_
          exact (a_X10_room_p88 ih he122) x1 x2 x3 x5 r6 h
        · have h := ifn c8 h
          refine AW.iload dX10_room_82 (.refl 84) 0 rfl ?_
          refine AW.iload_n dX10_room_84 (.refl 85) 4 rfl ?_
          refine AW.icmp_gt (tgt := 93) dX10_room_85 (by decide) (fun c7 => ?_) (fun c7 => ?_)
          · have h := ifp c7 h
            refine AW.iload dX10_room_93 (.refl 95) 5 rfl ?_
            refine AW.sub (L' := [(0, .ref 46), (1, .int x1), (2, .int x2), (3, .int x3), (5, .int x5), (6, .int r6)]) [1, 2, 3, 4, 6, 0] rfl ?_
            exact (a_X10_room_p95 ih he122) x1 x2 x3 x5 r6 x4 h
          · have h := ifn c7 h
            refine AW.sub (L' := [(0, .ref 46), (1, .int x1), (2, .int x2), (3, .int x3), (5, .int x5), (6, .int r6)]) [1, 2, 3, 4, 6, 0] rfl ?_
            exact (a_X10_room_p88 ih he122) x1 x2 x3 x5 r6 h
set_option maxRecDepth 20000 in
theorem a_X10_room_p122 {l : Launch} {G : Gg} {v : Int32} {σ : Mm} (x2 : Int32) (x3 : Int32) (x4 : Int32) (h : f_X10_room_p122 σ x2 x3 x4 = some v) : AW l G 4 M_X10_room (some (.int v)) σ 122 [(2, .int x2), (3, .int x3), (4, .int x4)] [] σ := by
  unfold f_X10_room_p122 at h
  refine AW.iload_n dX10_room_122 (.refl 123) 0 rfl ?_
  refine AW.if_ne (tgt := 130) dX10_room_123 (by decide) (fun c1 => ?_) (fun c1 => ?_)
  · have h := ifn c1 h
    refine AW.iload dX10_room_130 (.refl 132) 2 rfl ?_
    cases h
    exact AW.ireturn rfl dX10_room_132
  · have h := ifp c1 h
    refine AW.iload_n dX10_room_126 (.refl 127) 1 rfl ?_
    refine AW.goto (tgt := 132) dX10_room_127 (by decide) ?_
    cases h
    exact AW.ireturn rfl dX10_room_132
set_option maxRecDepth 20000 in
theorem c_X10_room {l : Launch} {G : Gg} {x1 : Int32} {x2 : Int32} {σ : Mm} {v : Int32} (h : f_X10_room σ x1 x2 = some v) : MR l G 4 M_X10_room [.ref 46, .int x1, .int x2] σ (some (.int v)) σ := by
  unfold f_X10_room at h
  refine MR.of (by decide +kernel) (Nat.le_of_ble_eq_true rfl) ?_
  show AW l G 4 M_X10_room (some (.int v)) σ 0 [(0, .ref 46), (1, .int x1), (2, .int x2)] [] σ
  refine AW.aload_n dX10_room_0 (.refl 1) 0 rfl ?_
  refine AW.iload_n dX10_room_1 (.refl 2) 1 rfl ?_
  obtain ⟨r2, e1, h⟩ := b1_s h
  refine AW.callV (r' := (some (.int r2))) (σ' := σ) (rest := []) lm_X10_174 (c_X10_isBidder e1) (by decide) (by decide) rfl rfl (by decide) rfl rfl (Nat.le_of_ble_eq_true rfl) dX10_room_2 (.refl 5) (st' := [.int r2]) rfl ?_
  refine AW.if_ne (tgt := 10) dX10_room_5 (by decide) (fun c8 => ?_) (fun c8 => ?_)
  · have h := ifn c8 h
    refine AW.iload_n dX10_room_10 (.refl 11) 2 rfl ?_
    refine AW.i2l dX10_room_11 (.refl 12) ?_
    refine AW.lconst (v := (0 : Int64)) dX10_room_12 (.refl 13) (by decide) ?_
    refine AW.lconst (v := (1 : Int64)) dX10_room_13 (.refl 14) (by decide) ?_
    obtain ⟨r4, e3, h⟩ := b1_s h
    refine AW.callS (r' := (some (.int r4))) (σ' := σ) (rest := []) lm_X10_97 (c_X10_in e3) (by decide) (by decide) rfl rfl (Nat.le_of_ble_eq_true rfl) dX10_room_14 (.refl 17) (st' := [.int r4]) rfl ?_
    refine AW.if_ne (tgt := 23) dX10_room_17 (by decide) (fun c7 => ?_) (fun c7 => ?_)
    · have h := ifn c7 h
      refine AW.aload_n dX10_room_23 (.refl 24) 0 rfl ?_
      refine AW.getR (z := 52) lk_X10_25 rfl rfl (by decide) rfl dX10_room_24 (.refl 27) ?_
      refine AW.iload_n dX10_room_27 (.refl 28) 1 rfl ?_
      obtain ⟨g5, h⟩ := gd_s h
      refine AW.iaload rfl g5 dX10_room_28 (.refl 29) ?_
      refine AW.bipush (v := (-9 : Int32)) dX10_room_29 (.refl 31) (by decide) ?_
      refine AW.icmp_eq (tgt := 37) dX10_room_31 (by decide) (fun c6 => ?_) (fun c6 => ?_)
      · have h := ifp c6 h
        refine AW.bipush (v := (-9 : Int32)) dX10_room_37 (.refl 39) (by decide) ?_
        refine AW.istore_n (L' := [(3, .int (-9 : Int32)), (0, .ref 46), (1, .int x1), (2, .int x2)]) dX10_room_39 (.refl 40) (by decide) rfl ?_
        refine AW.bipush (v := (-9 : Int32)) dX10_room_40 (.refl 42) (by decide) ?_
        refine AW.istore (L' := [(4, .int (-9 : Int32)), (3, .int (-9 : Int32)), (0, .ref 46), (1, .int x1), (2, .int x2)]) dX10_room_42 (.refl 44) (by decide) rfl ?_
        refine AW.bipush (v := (9 : Int32)) dX10_room_44 (.refl 46) (by decide) ?_
        refine AW.istore (L' := [(5, .int (9 : Int32)), (4, .int (-9 : Int32)), (3, .int (-9 : Int32)), (0, .ref 46), (1, .int x1), (2, .int x2)]) dX10_room_46 (.refl 48) (by decide) rfl ?_
        refine AW.sub (L' := [(0, .ref 46), (1, .int x1), (2, .int x2), (3, .int (-9 : Int32)), (4, .int (-9 : Int32)), (5, .int (9 : Int32))]) [3, 4, 5, 2, 1, 0] rfl ?_
        exact a_X10_room_p48 (a_X10_room_p122) FU x1 x2 (-9 : Int32) (-9 : Int32) (9 : Int32) h
      · have h := ifn c6 h
        refine AW.bipush (v := (-3 : Int32)) dX10_room_34 (.refl 36) (by decide) ?_
        cases h
        exact AW.ireturn rfl dX10_room_36
    · have h := ifp c7 h
      refine AW.bipush (v := (-2 : Int32)) dX10_room_20 (.refl 22) (by decide) ?_
      cases h
      exact AW.ireturn rfl dX10_room_22
  · have h := ifp c8 h
    refine AW.iconst (v := (-1 : Int32)) dX10_room_8 (.refl 9) (by decide) ?_
    cases h
    exact AW.ireturn rfl dX10_room_9
def f_X10_layStrokes_p17 (ke127 : Int32 → Mm → Option (Mm)) : Nat → Int32 → Int32 → Mm → Option (Mm)
  | 0, _, _, _ => none
  | n + 1, x1, x2, σ => gd (inB (((6 : Int32) * x1) + (1 : Int32)) 30) ((if (σ.1 49 ((((6 : Int32) * x1) + (1 : Int32))).toNatClampNeg) ≤ x2 then ke127 x1 σ else gd (inB x1 5) ((if (σ.1 52 (x1).toNatClampNeg) = (-9 : Int32) then ke127 x1 σ else gd (inB ((6 : Int32) * x1) 30) (gd (inB x1 5) (b1 (f_X10_strokeAt σ x1 (σ.1 52 (x1).toNatClampNeg) x2) (fun (r6 : Int32) => gd (inB (σ.1 46 29) 15) (gd (inB ((sI σ 63 ((σ.1 46 29)).toNatClampNeg r6).1 46 29) 15) (gd (inB (σ.1 49 (((6 : Int32) * x1)).toNatClampNeg) 3) (gd (inB ((sI σ 63 ((σ.1 46 29)).toNatClampNeg r6).1 46 29) 15) (bnd ((sI (sI σ 63 ((σ.1 46 29)).toNatClampNeg r6) 64 (((sI σ 63 ((σ.1 46 29)).toNatClampNeg r6).1 46 29)).toNatClampNeg ((((sI σ 63 ((σ.1 46 29)).toNatClampNeg r6).1 63 (((sI σ 63 ((σ.1 46 29)).toNatClampNeg r6).1 46 29)).toNatClampNeg) + ((sI σ 63 ((σ.1 46 29)).toNatClampNeg r6).1 47 ((σ.1 49 (((6 : Int32) * x1)).toNatClampNeg)).toNatClampNeg)) - (1 : Int32)))) (fun (σ11 : Mm) => gd (inB (σ11.1 46 29) 15) (bnd ((sI σ11 65 ((σ11.1 46 29)).toNatClampNeg (σ.1 49 (((6 : Int32) * x1)).toNatClampNeg))) (fun (σ14 : Mm) => (f_X10_layStrokes_p17 ke127 n) x1 (x2 + (1 : Int32)) (sI σ14 46 29 ((σ14.1 46 29) + (1 : Int32)))))))))))))))))
def f_X10_layStrokes_p127 (kh : Int32 → Mm → Option (Mm)) (x1 : Int32) (σ : Mm) : Option (Mm) := kh (x1 + (1 : Int32)) σ
def f_X10_layStrokes_p7 : Nat → Int32 → Mm → Option (Mm)
  | 0, _, _ => none
  | n + 1, x1, σ => (if (σ.1 46 1) ≤ x1 then some σ else f_X10_layStrokes_p17 (f_X10_layStrokes_p127 (f_X10_layStrokes_p7 n)) FU x1 (0 : Int32) σ)
def f_X10_layStrokes  (σ : Mm) : Option (Mm) := f_X10_layStrokes_p7 FU (0 : Int32) (sI σ 46 29 (0 : Int32))
set_option maxRecDepth 20000 in
theorem a_X10_layStrokes_p17 {l : Launch} {G : Gg} {τ : Mm} {ke127 : Int32 → Mm → Option (Mm)} (he127 : ∀ (x1 : Int32) (σ : Mm), ke127 x1 σ = some τ → AW l G 1 M_X10_layStrokes none τ 127 [(0, .ref 46), (1, .int x1)] [] σ) : ∀ (n : Nat) (x1 : Int32) (x2 : Int32) (σ : Mm), f_X10_layStrokes_p17 ke127 n x1 x2 σ = some τ → AW l G 1 M_X10_layStrokes none τ 17 [(0, .ref 46), (1, .int x1), (2, .int x2)] [] σ := by
  intro n
  induction n with
  | zero => intro x1 x2 σ h; exact no_some h
  | succ n ih =>
    intro x1 x2 σ h
    rw [f_X10_layStrokes_p17] at h
    refine AW.iload_n dX10_layStrokes_17 (.refl 18) 2 rfl ?_
    refine AW.aload_n dX10_layStrokes_18 (.refl 19) 0 rfl ?_
    refine AW.getR (z := 49) lk_X10_16 rfl rfl (by decide) rfl dX10_layStrokes_19 (.refl 22) ?_
    refine AW.bipush (v := (6 : Int32)) dX10_layStrokes_22 (.refl 24) (by decide) ?_
    refine AW.iload_n dX10_layStrokes_24 (.refl 25) 1 rfl ?_
    refine AW.imul dX10_layStrokes_25 (.refl 26) ?_
    refine AW.iconst (v := (1 : Int32)) dX10_layStrokes_26 (.refl 27) (by decide) ?_
    refine AW.iadd dX10_layStrokes_27 (.refl 28) ?_
    obtain ⟨g1, h⟩ := gd_s h
    refine AW.iaload rfl g1 dX10_layStrokes_28 (.refl 29) ?_
    refine AW.icmp_ge (tgt := 127) dX10_layStrokes_29 (by decide) (fun c17 => ?_) (fun c17 => ?_)
    · have h := ifp c17 h
      refine AW.sub (L' := [(0, .ref 46), (1, .int x1)]) [0, 1] rfl ?_
      exact he127 x1 σ h
    · have h := ifn c17 h
      refine AW.aload_n dX10_layStrokes_32 (.refl 33) 0 rfl ?_
      refine AW.getR (z := 52) lk_X10_25 rfl rfl (by decide) rfl dX10_layStrokes_33 (.refl 36) ?_
      refine AW.iload_n dX10_layStrokes_36 (.refl 37) 1 rfl ?_
      obtain ⟨g2, h⟩ := gd_s h
      refine AW.iaload rfl g2 dX10_layStrokes_37 (.refl 38) ?_
      refine AW.bipush (v := (-9 : Int32)) dX10_layStrokes_38 (.refl 40) (by decide) ?_
      refine AW.icmp_eq (tgt := 127) dX10_layStrokes_40 (by decide) (fun c16 => ?_) (fun c16 => ?_)
      · have h := ifp c16 h
        refine AW.sub (L' := [(0, .ref 46), (1, .int x1)]) [0, 1] rfl ?_
        exact he127 x1 σ h
      · have h := ifn c16 h
        refine AW.aload_n dX10_layStrokes_43 (.refl 44) 0 rfl ?_
        refine AW.getR (z := 49) lk_X10_16 rfl rfl (by decide) rfl dX10_layStrokes_44 (.refl 47) ?_
        refine AW.bipush (v := (6 : Int32)) dX10_layStrokes_47 (.refl 49) (by decide) ?_
        refine AW.iload_n dX10_layStrokes_49 (.refl 50) 1 rfl ?_
        refine AW.imul dX10_layStrokes_50 (.refl 51) ?_
        obtain ⟨g3, h⟩ := gd_s h
        refine AW.iaload rfl g3 dX10_layStrokes_51 (.refl 52) ?_
        refine AW.istore_n (L' := [(3, .int (σ.1 49 (((6 : Int32) * x1)).toNatClampNeg)), (0, .ref 46), (1, .int x1), (2, .int x2)]) dX10_layStrokes_52 (.refl 53) (by decide) rfl ?_
        refine AW.aload_n dX10_layStrokes_53 (.refl 54) 1 rfl ?_
        refine AW.getR (z := 63) lk_X10_59 rfl rfl (by decide) rfl dX10_layStrokes_54 (.refl 57) ?_
        refine AW.aload_n dX10_layStrokes_57 (.refl 58) 1 rfl ?_
        refine AW.getI lk_X10_247 rfl rfl (by decide) dX10_layStrokes_58 (.refl 61) ?_
        refine AW.aload_n dX10_layStrokes_61 (.refl 62) 1 rfl ?_
        refine AW.iload_n dX10_layStrokes_62 (.refl 63) 2 rfl ?_
        refine AW.aload_n dX10_layStrokes_63 (.refl 64) 1 rfl ?_
        refine AW.getR (z := 52) lk_X10_25 rfl rfl (by decide) rfl dX10_layStrokes_64 (.refl 67) ?_
        refine AW.iload_n dX10_layStrokes_67 (.refl 68) 2 rfl ?_
        obtain ⟨g4, h⟩ := gd_s h
        refine AW.iaload rfl g4 dX10_layStrokes_68 (.refl 69) ?_
        refine AW.iload_n dX10_layStrokes_69 (.refl 70) 3 rfl ?_
        obtain ⟨r6, e5, h⟩ := b1_s h
        refine AW.callV (r' := (some (.int r6))) (σ' := σ) (rest := [.int (σ.1 46 29), .ref 63]) lm_X10_145 (c_X10_strokeAt e5) (by decide) (by decide) rfl rfl (by decide) rfl rfl (Nat.le_of_ble_eq_true rfl) dX10_layStrokes_70 (.refl 73) (st' := [.int r6, .int (σ.1 46 29), .ref 63]) rfl ?_
        obtain ⟨g7, h⟩ := gd_s h
        refine AW.iastore rfl g7 dX10_layStrokes_73 (.refl 74) ?_
        refine AW.aload_n dX10_layStrokes_74 (.refl 75) 1 rfl ?_
        refine AW.getR (z := 64) lk_X10_62 rfl rfl (by decide) rfl dX10_layStrokes_75 (.refl 78) ?_
        refine AW.aload_n dX10_layStrokes_78 (.refl 79) 1 rfl ?_
        refine AW.getI lk_X10_247 rfl rfl (by decide) dX10_layStrokes_79 (.refl 82) ?_
        refine AW.aload_n dX10_layStrokes_82 (.refl 83) 1 rfl ?_
        refine AW.getR (z := 63) lk_X10_59 rfl rfl (by decide) rfl dX10_layStrokes_83 (.refl 86) ?_
        refine AW.aload_n dX10_layStrokes_86 (.refl 87) 1 rfl ?_
        refine AW.getI lk_X10_247 rfl rfl (by decide) dX10_layStrokes_87 (.refl 90) ?_
        obtain ⟨g8, h⟩ := gd_s h
        refine AW.iaload rfl g8 dX10_layStrokes_90 (.refl 91) ?_
        refine AW.aload_n dX10_layStrokes_91 (.refl 92) 1 rfl ?_
        refine AW.getR (z := 47) lk_X10_7 rfl rfl (by decide) rfl dX10_layStrokes_92 (.refl 95) ?_
        refine AW.iload_n dX10_layStrokes_95 (.refl 96) 0 rfl ?_
        obtain ⟨g9, h⟩ := gd_s h
        refine AW.iaload rfl g9 dX10_layStrokes_96 (.refl 97) ?_
        refine AW.iadd dX10_layStrokes_97 (.refl 98) ?_
        refine AW.iconst (v := (1 : Int32)) dX10_layStrokes_98 (.refl 99) (by decide) ?_
        refine AW.isub dX10_layStrokes_99 (.refl 100) ?_
        obtain ⟨g10, h⟩ := gd_s h
        refine AW.iastore rfl g10 dX10_layStrokes_100 (.refl 101) ?_
        obtain ⟨σ11, e12, h⟩ := bnd_s h
        refine AW.nmM e12 ?_
        refine AW.aload_n dX10_layStrokes_101 (.refl 102) 1 rfl ?_
        refine AW.getR (z := 65) lk_X10_65 rfl rfl (by decide) rfl dX10_layStrokes_102 (.refl 105) ?_
        refine AW.aload_n dX10_layStrokes_105 (.refl 106) 1 rfl ?_
        refine AW.getI lk_X10_247 rfl rfl (by decide) dX10_layStrokes_106 (.refl 109) ?_
        refine AW.iload_n dX10_layStrokes_109 (.refl 110) 0 rfl ?_
        obtain ⟨g13, h⟩ := gd_s h
        refine AW.iastore rfl g13 dX10_layStrokes_110 (.refl 111) ?_
        obtain ⟨σ14, e15, h⟩ := bnd_s h
        refine AW.nmM e15 ?_
        refine AW.aload_n dX10_layStrokes_111 (.refl 112) 1 rfl ?_
        refine AW.dup dX10_layStrokes_112 (.refl 113) rfl ?_
        refine AW.getI lk_X10_247 rfl rfl (by decide) dX10_layStrokes_113 (.refl 116) ?_
        refine AW.iconst (v := (1 : Int32)) dX10_layStrokes_116 (.refl 117) (by decide) ?_
        refine AW.iadd dX10_layStrokes_117 (.refl 118) ?_
        refine AW.putI lp_X10_247 rfl rfl (by decide) dX10_layStrokes_118 (.refl 121) ?_
        refine AW.iinc (v := (x2 + (1 : Int32))) (L' := [(2, .int (x2 + (1 : Int32))), (3, .int (σ.1 49 (((6 : Int32) * x1)).toNatClampNeg)), (0, .ref 46), (1, .int x1)]) dX10_layStrokes_121 (.refl 124) 3 rfl rfl (by decide) rfl ?_
        refine AW.goto (tgt := 17) dX10_layStrokes_124 (by decide) ?_
        refine AW.sub (L' := [(0, .ref 46), (1, .int x1), (2, .int (x2 + (1 : Int32)))]) [2, 3, 0] rfl ?_
        exact ih x1 (x2 + (1 : Int32)) (sI σ14 46 29 ((σ14.1 46 29) + (1 : Int32))) h
set_option maxRecDepth 20000 in
theorem a_X10_layStrokes_p127 {l : Launch} {G : Gg} {τ : Mm} {kh : Int32 → Mm → Option (Mm)} (hkh : ∀ (x1 : Int32) (σ : Mm), kh x1 σ = some τ → AW l G 1 M_X10_layStrokes none τ 7 [(0, .ref 46), (1, .int x1)] [] σ) (x1 : Int32) (σ : Mm) (h : f_X10_layStrokes_p127 kh x1 σ = some τ) : AW l G 1 M_X10_layStrokes none τ 127 [(0, .ref 46), (1, .int x1)] [] σ := by
  unfold f_X10_layStrokes_p127 at h
  refine AW.iinc (v := (x1 + (1 : Int32))) (L' := [(1, .int (x1 + (1 : Int32))), (0, .ref 46)]) dX10_layStrokes_127 (.refl 130) 1 rfl rfl (by decide) rfl ?_
  refine AW.goto (tgt := 7) dX10_layStrokes_130 (by decide) ?_
  refine AW.sub (L' := [(0, .ref 46), (1, .int (x1 + (1 : Int32)))]) [1, 0] rfl ?_
  exact hkh (x1 + (1 : Int32)) σ h
set_option maxRecDepth 20000 in
theorem a_X10_layStrokes_p7 {l : Launch} {G : Gg} {τ : Mm} : ∀ (n : Nat) (x1 : Int32) (σ : Mm), f_X10_layStrokes_p7 n x1 σ = some τ → AW l G 1 M_X10_layStrokes none τ 7 [(0, .ref 46), (1, .int x1)] [] σ := by
  intro n
  induction n with
  | zero => intro x1 σ h; exact no_some h
  | succ n ih =>
    intro x1 σ h
    rw [f_X10_layStrokes_p7] at h
    refine AW.iload_n dX10_layStrokes_7 (.refl 8) 1 rfl ?_
    refine AW.aload_n dX10_layStrokes_8 (.refl 9) 0 rfl ?_
    refine AW.getI lk_X10_135 rfl rfl (by decide) dX10_layStrokes_9 (.refl 12) ?_
    refine AW.icmp_ge (tgt := 133) dX10_layStrokes_12 (by decide) (fun c1 => ?_) (fun c1 => ?_)
    · have h := ifp c1 h
      cases h
      exact AW.vreturn rfl dX10_layStrokes_133
    · have h := ifn c1 h
      refine AW.iconst (v := (0 : Int32)) dX10_layStrokes_15 (.refl 16) (by decide) ?_
      refine AW.istore_n (L' := [(2, .int (0 : Int32)), (0, .ref 46), (1, .int x1)]) dX10_layStrokes_16 (.refl 17) (by decide) rfl ?_
      refine AW.sub (L' := [(0, .ref 46), (1, .int x1), (2, .int (0 : Int32))]) [1, 2, 0] rfl ?_
      exact a_X10_layStrokes_p17 (a_X10_layStrokes_p127 ih) FU x1 (0 : Int32) σ h
set_option maxRecDepth 20000 in
theorem c_X10_layStrokes {l : Launch} {G : Gg}  {σ : Mm} {τ : Mm} (h : f_X10_layStrokes  σ = some τ) : MR l G 1 M_X10_layStrokes [.ref 46] σ none τ := by
  unfold f_X10_layStrokes at h
  refine MR.of (by decide +kernel) (Nat.le_of_ble_eq_true rfl) ?_
  show AW l G 1 M_X10_layStrokes none τ 0 [(0, .ref 46)] [] σ
  refine AW.aload_n dX10_layStrokes_0 (.refl 1) 0 rfl ?_
  refine AW.iconst (v := (0 : Int32)) dX10_layStrokes_1 (.refl 2) (by decide) ?_
  refine AW.putI lp_X10_247 rfl rfl (by decide) dX10_layStrokes_2 (.refl 5) ?_
  refine AW.iconst (v := (0 : Int32)) dX10_layStrokes_5 (.refl 6) (by decide) ?_
  refine AW.istore_n (L' := [(1, .int (0 : Int32)), (0, .ref 46)]) dX10_layStrokes_6 (.refl 7) (by decide) rfl ?_
  refine AW.sub (L' := [(0, .ref 46), (1, .int (0 : Int32))]) [1, 0] rfl ?_
  exact a_X10_layStrokes_p7 FU (0 : Int32) (sI σ 46 29 (0 : Int32)) h
def f_X10_reaches_p44 (σ : Mm) (x1 : Int32) (x2 : Int32) (s0 : Int32) : Option (Int32) := gd (inB x1 15) (gd (inB x2 15) ((if (σ.1 63 (x2).toNatClampNeg) ≤ ((σ.1 64 (x1).toNatClampNeg) + s0) then some (0 : Int32) else some (1 : Int32))))
def f_X10_reaches (σ : Mm) (x1 : Int32) (x2 : Int32) : Option (Int32) := gd (inB x1 15) (gd (inB x2 15) ((if (σ.1 65 (x1).toNatClampNeg) ≤ (σ.1 65 (x2).toNatClampNeg) then gd (inB x2 15) (gd (inB x1 15) ((f_X10_reaches_p44 σ) x1 x2 ((σ.1 65 (x2).toNatClampNeg) - (σ.1 65 (x1).toNatClampNeg)))) else gd (inB x1 15) (gd (inB x2 15) ((f_X10_reaches_p44 σ) x1 x2 ((σ.1 65 (x1).toNatClampNeg) - (σ.1 65 (x2).toNatClampNeg)))))))
set_option maxRecDepth 20000 in
theorem a_X10_reaches_p44 {l : Launch} {G : Gg} {v : Int32} {σ : Mm} (x1 : Int32) (x2 : Int32) (s0 : Int32) (h : f_X10_reaches_p44 σ x1 x2 s0 = some v) : AW l G 0 M_X10_reaches (some (.int v)) σ 44 [(0, .ref 46), (1, .int x1), (2, .int x2)] [.int s0] σ := by
  unfold f_X10_reaches_p44 at h
  refine AW.istore_n (L' := [(3, .int s0), (0, .ref 46), (1, .int x1), (2, .int x2)]) dX10_reaches_44 (.refl 45) (by decide) rfl ?_
  refine AW.aload_n dX10_reaches_45 (.refl 46) 1 rfl ?_
  refine AW.getR (z := 64) lk_X10_62 rfl rfl (by decide) rfl dX10_reaches_46 (.refl 49) ?_
  refine AW.iload_n dX10_reaches_49 (.refl 50) 2 rfl ?_
  obtain ⟨g1, h⟩ := gd_s h
  refine AW.iaload rfl g1 dX10_reaches_50 (.refl 51) ?_
  refine AW.iload_n dX10_reaches_51 (.refl 52) 0 rfl ?_
  refine AW.iadd dX10_reaches_52 (.refl 53) ?_
  refine AW.aload_n dX10_reaches_53 (.refl 54) 1 rfl ?_
  refine AW.getR (z := 63) lk_X10_59 rfl rfl (by decide) rfl dX10_reaches_54 (.refl 57) ?_
  refine AW.iload_n dX10_reaches_57 (.refl 58) 3 rfl ?_
  obtain ⟨g2, h⟩ := gd_s h
  refine AW.iaload rfl g2 dX10_reaches_58 (.refl 59) ?_
  refine AW.icmp_ge (tgt := 66) dX10_reaches_59 (by decide) (fun c3 => ?_) (fun c3 => ?_)
  · have h := ifp c3 h
    refine AW.iconst (v := (0 : Int32)) dX10_reaches_66 (.refl 67) (by decide) ?_
    cases h
    exact AW.zreturn rfl (by decide) dX10_reaches_67
  · have h := ifn c3 h
    refine AW.iconst (v := (1 : Int32)) dX10_reaches_62 (.refl 63) (by decide) ?_
    refine AW.goto (tgt := 67) dX10_reaches_63 (by decide) ?_
    cases h
    exact AW.zreturn rfl (by decide) dX10_reaches_67
set_option maxRecDepth 20000 in
theorem c_X10_reaches {l : Launch} {G : Gg} {x1 : Int32} {x2 : Int32} {σ : Mm} {v : Int32} (h : f_X10_reaches σ x1 x2 = some v) : MR l G 0 M_X10_reaches [.ref 46, .int x1, .int x2] σ (some (.int v)) σ := by
  unfold f_X10_reaches at h
  refine MR.of (by decide +kernel) (Nat.le_of_ble_eq_true rfl) ?_
  show AW l G 0 M_X10_reaches (some (.int v)) σ 0 [(0, .ref 46), (1, .int x1), (2, .int x2)] [] σ
  refine AW.aload_n dX10_reaches_0 (.refl 1) 0 rfl ?_
  refine AW.getR (z := 65) lk_X10_65 rfl rfl (by decide) rfl dX10_reaches_1 (.refl 4) ?_
  refine AW.iload_n dX10_reaches_4 (.refl 5) 1 rfl ?_
  obtain ⟨g1, h⟩ := gd_s h
  refine AW.iaload rfl g1 dX10_reaches_5 (.refl 6) ?_
  refine AW.aload_n dX10_reaches_6 (.refl 7) 0 rfl ?_
  refine AW.getR (z := 65) lk_X10_65 rfl rfl (by decide) rfl dX10_reaches_7 (.refl 10) ?_
  refine AW.iload_n dX10_reaches_10 (.refl 11) 2 rfl ?_
  obtain ⟨g2, h⟩ := gd_s h
  refine AW.iaload rfl g2 dX10_reaches_11 (.refl 12) ?_
  refine AW.icmp_le (tgt := 31) dX10_reaches_12 (by decide) (fun c7 => ?_) (fun c7 => ?_)
  · have h := ifp c7 h
    refine AW.aload_n dX10_reaches_31 (.refl 32) 0 rfl ?_
    refine AW.getR (z := 65) lk_X10_65 rfl rfl (by decide) rfl dX10_reaches_32 (.refl 35) ?_
    refine AW.iload_n dX10_reaches_35 (.refl 36) 2 rfl ?_
    obtain ⟨g3, h⟩ := gd_s h
    refine AW.iaload rfl g3 dX10_reaches_36 (.refl 37) ?_
    refine AW.aload_n dX10_reaches_37 (.refl 38) 0 rfl ?_
    refine AW.getR (z := 65) lk_X10_65 rfl rfl (by decide) rfl dX10_reaches_38 (.refl 41) ?_
    refine AW.iload_n dX10_reaches_41 (.refl 42) 1 rfl ?_
    obtain ⟨g4, h⟩ := gd_s h
    refine AW.iaload rfl g4 dX10_reaches_42 (.refl 43) ?_
    refine AW.isub dX10_reaches_43 (.refl 44) ?_
    exact (a_X10_reaches_p44) x1 x2 ((σ.1 65 (x2).toNatClampNeg) - (σ.1 65 (x1).toNatClampNeg)) h
  · have h := ifn c7 h
    refine AW.aload_n dX10_reaches_15 (.refl 16) 0 rfl ?_
    refine AW.getR (z := 65) lk_X10_65 rfl rfl (by decide) rfl dX10_reaches_16 (.refl 19) ?_
    refine AW.iload_n dX10_reaches_19 (.refl 20) 1 rfl ?_
    obtain ⟨g5, h⟩ := gd_s h
    refine AW.iaload rfl g5 dX10_reaches_20 (.refl 21) ?_
    refine AW.aload_n dX10_reaches_21 (.refl 22) 0 rfl ?_
    refine AW.getR (z := 65) lk_X10_65 rfl rfl (by decide) rfl dX10_reaches_22 (.refl 25) ?_
    refine AW.iload_n dX10_reaches_25 (.refl 26) 2 rfl ?_
    obtain ⟨g6, h⟩ := gd_s h
    refine AW.iaload rfl g6 dX10_reaches_26 (.refl 27) ?_
    refine AW.isub dX10_reaches_27 (.refl 28) ?_
    refine AW.goto (tgt := 44) dX10_reaches_28 (by decide) ?_
    exact (a_X10_reaches_p44) x1 x2 ((σ.1 65 (x1).toNatClampNeg) - (σ.1 65 (x2).toNatClampNeg)) h
def f_X10_turn_p2 : Nat → Int32 → Mm → Option (Mm)
  | 0, _, _ => none
  | n + 1, x2, σ => (if x2 = (-9 : Int32) then some σ else gd (inB x2 15) (gd (inB (σ.1 68 (x2).toNatClampNeg) 15) (bnd ((σ.1 66 ((σ.1 68 (x2).toNatClampNeg)).toNatClampNeg)) (fun (y3 : Int32) => gd (inB (σ.1 68 (x2).toNatClampNeg) 15) (gd (inB x2 15) (bnd ((sI (sI σ 66 ((σ.1 68 (x2).toNatClampNeg)).toNatClampNeg x2) 67 (x2).toNatClampNeg (σ.1 68 (x2).toNatClampNeg))) (fun (σ7 : Mm) => (f_X10_turn_p2 n) y3 σ7)))))))
def f_X10_turn (x1 : Int32) (σ : Mm) : Option (Mm) := f_X10_turn_p2 FU x1 σ
set_option maxRecDepth 20000 in
theorem a_X10_turn_p2 {l : Launch} {G : Gg} {τ : Mm} : ∀ (n : Nat) (x2 : Int32) (σ : Mm), f_X10_turn_p2 n x2 σ = some τ → AW l G 0 M_X10_turn none τ 2 [(0, .ref 46), (2, .int x2)] [] σ := by
  intro n
  induction n with
  | zero => intro x2 σ h; exact no_some h
  | succ n ih =>
    intro x2 σ h
    rw [f_X10_turn_p2] at h
    refine AW.iload_n dX10_turn_2 (.refl 3) 1 rfl ?_
    refine AW.bipush (v := (-9 : Int32)) dX10_turn_3 (.refl 5) (by decide) ?_
    refine AW.icmp_eq (tgt := 43) dX10_turn_5 (by decide) (fun c9 => ?_) (fun c9 => ?_)
    · have h := ifp c9 h
      cases h
      exact AW.vreturn rfl dX10_turn_43
    · have h := ifn c9 h
      refine AW.aload_n dX10_turn_8 (.refl 9) 0 rfl ?_
      refine AW.getR (z := 68) lk_X10_74 rfl rfl (by decide) rfl dX10_turn_9 (.refl 12) ?_
      refine AW.iload_n dX10_turn_12 (.refl 13) 1 rfl ?_
      obtain ⟨g1, h⟩ := gd_s h
      refine AW.iaload rfl g1 dX10_turn_13 (.refl 14) ?_
      refine AW.istore_n (L' := [(3, .int (σ.1 68 (x2).toNatClampNeg)), (0, .ref 46), (2, .int x2)]) dX10_turn_14 (.refl 15) (by decide) rfl ?_
      refine AW.aload_n dX10_turn_15 (.refl 16) 1 rfl ?_
      refine AW.getR (z := 66) lk_X10_68 rfl rfl (by decide) rfl dX10_turn_16 (.refl 19) ?_
      refine AW.iload_n dX10_turn_19 (.refl 20) 0 rfl ?_
      obtain ⟨g2, h⟩ := gd_s h
      refine AW.iaload rfl g2 dX10_turn_20 (.refl 21) ?_
      obtain ⟨y3, e4, h⟩ := bnd_s h
      refine AW.nmI e4 ?_
      refine AW.istore (L' := [(4, .int y3), (3, .int (σ.1 68 (x2).toNatClampNeg)), (0, .ref 46), (2, .int x2)]) dX10_turn_21 (.refl 23) (by decide) rfl ?_
      refine AW.aload_n dX10_turn_23 (.refl 24) 2 rfl ?_
      refine AW.getR (z := 66) lk_X10_68 rfl rfl (by decide) rfl dX10_turn_24 (.refl 27) ?_
      refine AW.iload_n dX10_turn_27 (.refl 28) 1 rfl ?_
      refine AW.iload_n dX10_turn_28 (.refl 29) 3 rfl ?_
      obtain ⟨g5, h⟩ := gd_s h
      refine AW.iastore rfl g5 dX10_turn_29 (.refl 30) ?_
      refine AW.aload_n dX10_turn_30 (.refl 31) 2 rfl ?_
      refine AW.getR (z := 67) lk_X10_71 rfl rfl (by decide) rfl dX10_turn_31 (.refl 34) ?_
      refine AW.iload_n dX10_turn_34 (.refl 35) 3 rfl ?_
      refine AW.iload_n dX10_turn_35 (.refl 36) 1 rfl ?_
      obtain ⟨g6, h⟩ := gd_s h
      refine AW.iastore rfl g6 dX10_turn_36 (.refl 37) ?_
      obtain ⟨σ7, e8, h⟩ := bnd_s h
      refine AW.nmM e8 ?_
      refine AW.iload dX10_turn_37 (.refl 39) 0 rfl ?_
      refine AW.istore_n (L' := [(2, .int y3), (4, .int y3), (3, .int (σ.1 68 (x2).toNatClampNeg)), (0, .ref 46)]) dX10_turn_39 (.refl 40) (by decide) rfl ?_
      refine AW.goto (tgt := 2) dX10_turn_40 (by decide) ?_
      refine AW.sub (L' := [(0, .ref 46), (2, .int y3)]) [3, 0] rfl ?_
      exact ih y3 σ7 h
set_option maxRecDepth 20000 in
theorem c_X10_turn {l : Launch} {G : Gg} {x1 : Int32} {σ : Mm} {τ : Mm} (h : f_X10_turn x1 σ = some τ) : MR l G 0 M_X10_turn [.ref 46, .int x1] σ none τ := by
  unfold f_X10_turn at h
  refine MR.of (by decide +kernel) (Nat.le_of_ble_eq_true rfl) ?_
  show AW l G 0 M_X10_turn none τ 0 [(0, .ref 46), (1, .int x1)] [] σ
  refine AW.iload_n dX10_turn_0 (.refl 1) 1 rfl ?_
  refine AW.istore_n (L' := [(2, .int x1), (0, .ref 46), (1, .int x1)]) dX10_turn_1 (.refl 2) (by decide) rfl ?_
  refine AW.sub (L' := [(0, .ref 46), (2, .int x1)]) [1, 0] rfl ?_
  exact a_X10_turn_p2 FU x1 σ h
def f_X10_grow_p2 (ke24 : Int32 → Mm → Option (Int32 × Mm)) : Nat → Int32 → Int32 → Mm → Option (Int32 × Mm)
  | 0, _, _, _ => none
  | n + 1, x1, x2, σ => (if (σ.1 46 29) ≤ x2 then ke24 x1 σ else gd (inB x2 15) ((f_X10_grow_p2 ke24 n) x1 (x2 + (1 : Int32)) (sI σ 68 (x2).toNatClampNeg (-9 : Int32))))
def f_X10_grow_p43 (ke134 : Int32 → Int32 → Mm → Option (Int32 × Mm)) : Nat → Int32 → Int32 → Int32 → Mm → Option (Int32 × Mm)
  | 0, _, _, _, _ => none
  | n + 1, x2, x3, x4, σ => (if (σ.1 46 29) ≤ x4 then ke134 x2 x3 σ else gd (inB x4 15) ((if (σ.1 68 (x4).toNatClampNeg) = (-9 : Int32) then gd (inB x3 15) (b1 (f_X10_reaches σ (σ.1 69 (x3).toNatClampNeg) x4) (fun (r4 : Int32) => (if r4 = 0 then (f_X10_grow_p43 ke134 n) x2 x3 (x4 + (1 : Int32)) σ else gd (inB x3 15) (gd (inB x4 15) (gd (inB x4 15) ((if ((sI σ 68 (x4).toNatClampNeg (σ.1 69 (x3).toNatClampNeg)).1 67 (x4).toNatClampNeg) = (-9 : Int32) then b1 (f_X10_turn x4 (sI σ 68 (x4).toNatClampNeg (σ.1 69 (x3).toNatClampNeg))) (fun (τ13 : Mm) => some ((1 : Int32), τ13)) else gd (inB x4 15) (gd (inB x2 15) (bnd ((sI (sI σ 68 (x4).toNatClampNeg (σ.1 69 (x3).toNatClampNeg)) 69 (x2).toNatClampNeg ((sI σ 68 (x4).toNatClampNeg (σ.1 69 (x3).toNatClampNeg)).1 67 (x4).toNatClampNeg))) (fun (σ10 : Mm) => (f_X10_grow_p43 ke134 n) (x2 + (1 : Int32)) x3 (x4 + (1 : Int32)) σ10)))))))))) else (f_X10_grow_p43 ke134 n) x2 x3 (x4 + (1 : Int32)) σ)))
def f_X10_grow_p134 (kh : Int32 → Int32 → Mm → Option (Int32 × Mm)) (x2 : Int32) (x3 : Int32) (σ : Mm) : Option (Int32 × Mm) := kh x2 (x3 + (1 : Int32)) σ
def f_X10_grow_p35 : Nat → Int32 → Int32 → Mm → Option (Int32 × Mm)
  | 0, _, _, _ => none
  | n + 1, x2, x3, σ => (if x2 ≤ x3 then some ((0 : Int32), σ) else f_X10_grow_p43 (f_X10_grow_p134 (f_X10_grow_p35 n)) FU x2 x3 (0 : Int32) σ)
def f_X10_grow_p24 (x1 : Int32) (σ : Mm) : Option (Int32 × Mm) := gd (inB (0 : Int32) 15) (f_X10_grow_p35 FU (1 : Int32) (0 : Int32) (sI σ 69 ((0 : Int32)).toNatClampNeg x1))
def f_X10_grow (x1 : Int32) (σ : Mm) : Option (Int32 × Mm) := f_X10_grow_p2 (f_X10_grow_p24) FU x1 (0 : Int32) σ
set_option maxRecDepth 20000 in
theorem a_X10_grow_p2 {l : Launch} {G : Gg} {v : Int32} {τ : Mm} {ke24 : Int32 → Mm → Option (Int32 × Mm)} (he24 : ∀ (x1 : Int32) (σ : Mm), ke24 x1 σ = some (v, τ) → AW l G 1 M_X10_grow (some (.int v)) τ 24 [(0, .ref 46), (1, .int x1)] [] σ) : ∀ (n : Nat) (x1 : Int32) (x2 : Int32) (σ : Mm), f_X10_grow_p2 ke24 n x1 x2 σ = some (v, τ) → AW l G 1 M_X10_grow (some (.int v)) τ 2 [(0, .ref 46), (1, .int x1), (2, .int x2)] [] σ := by
  intro n
  induction n with
  | zero => intro x1 x2 σ h; exact no_some h
  | succ n ih =>
    intro x1 x2 σ h
    rw [f_X10_grow_p2] at h
    refine AW.iload_n dX10_grow_2 (.refl 3) 2 rfl ?_
    refine AW.aload_n dX10_grow_3 (.refl 4) 0 rfl ?_
    refine AW.getI lk_X10_247 rfl rfl (by decide) dX10_grow_4 (.refl 7) ?_
    refine AW.icmp_ge (tgt := 24) dX10_grow_7 (by decide) (fun c2 => ?_) (fun c2 => ?_)
    · have h := ifp c2 h
      refine AW.sub (L' := [(0, .ref 46), (1, .int x1)]) [0, 1] rfl ?_
      exact he24 x1 σ h
    · have h := ifn c2 h
      refine AW.aload_n dX10_grow_10 (.refl 11) 0 rfl ?_
      refine AW.getR (z := 68) lk_X10_74 rfl rfl (by decide) rfl dX10_grow_11 (.refl 14) ?_
      refine AW.iload_n dX10_grow_14 (.refl 15) 2 rfl ?_
      refine AW.bipush (v := (-9 : Int32)) dX10_grow_15 (.refl 17) (by decide) ?_
      obtain ⟨g1, h⟩ := gd_s h
      refine AW.iastore rfl g1 dX10_grow_17 (.refl 18) ?_
      refine AW.iinc (v := (x2 + (1 : Int32))) (L' := [(2, .int (x2 + (1 : Int32))), (0, .ref 46), (1, .int x1)]) dX10_grow_18 (.refl 21) 2 rfl rfl (by decide) rfl ?_
      refine AW.goto (tgt := 2) dX10_grow_21 (by decide) ?_
      refine AW.sub (L' := [(0, .ref 46), (1, .int x1), (2, .int (x2 + (1 : Int32)))]) [1, 2, 0] rfl ?_
      exact ih x1 (x2 + (1 : Int32)) (sI σ 68 (x2).toNatClampNeg (-9 : Int32)) h
set_option maxRecDepth 20000 in
theorem a_X10_grow_p43 {l : Launch} {G : Gg} {v : Int32} {τ : Mm} {ke134 : Int32 → Int32 → Mm → Option (Int32 × Mm)} (he134 : ∀ (x2 : Int32) (x3 : Int32) (σ : Mm), ke134 x2 x3 σ = some (v, τ) → AW l G 1 M_X10_grow (some (.int v)) τ 134 [(0, .ref 46), (2, .int x2), (3, .int x3)] [] σ) : ∀ (n : Nat) (x2 : Int32) (x3 : Int32) (x4 : Int32) (σ : Mm), f_X10_grow_p43 ke134 n x2 x3 x4 σ = some (v, τ) → AW l G 1 M_X10_grow (some (.int v)) τ 43 [(0, .ref 46), (2, .int x2), (3, .int x3), (4, .int x4)] [] σ := by
  intro n
  induction n with
  | zero => intro x2 x3 x4 σ h; exact no_some h
  | succ n ih =>
    intro x2 x3 x4 σ h
    rw [f_X10_grow_p43] at h
    refine AW.iload dX10_grow_43 (.refl 45) 3 rfl ?_
    refine AW.aload_n dX10_grow_45 (.refl 46) 0 rfl ?_
    refine AW.getI lk_X10_247 rfl rfl (by decide) dX10_grow_46 (.refl 49) ?_
    refine AW.icmp_ge (tgt := 134) dX10_grow_49 (by decide) (fun c17 => ?_) (fun c17 => ?_)
    · have h := ifp c17 h
      refine AW.sub (L' := [(0, .ref 46), (2, .int x2), (3, .int x3)]) [0, 1, 2] rfl ?_
      exact he134 x2 x3 σ h
    · have h := ifn c17 h
      refine AW.aload_n dX10_grow_52 (.refl 53) 0 rfl ?_
      refine AW.getR (z := 68) lk_X10_74 rfl rfl (by decide) rfl dX10_grow_53 (.refl 56) ?_
      refine AW.iload dX10_grow_56 (.refl 58) 3 rfl ?_
      obtain ⟨g1, h⟩ := gd_s h
      refine AW.iaload rfl g1 dX10_grow_58 (.refl 59) ?_
      refine AW.bipush (v := (-9 : Int32)) dX10_grow_59 (.refl 61) (by decide) ?_
      refine AW.icmp_ne (tgt := 128) dX10_grow_61 (by decide) (fun c16 => ?_) (fun c16 => ?_)
      · have h := ifn c16 h
        refine AW.iinc (v := (x4 + (1 : Int32))) (L' := [(4, .int (x4 + (1 : Int32))), (0, .ref 46), (2, .int x2), (3, .int x3)]) dX10_grow_128 (.refl 131) 3 rfl rfl (by decide) rfl ?_
        refine AW.goto (tgt := 43) dX10_grow_131 (by decide) ?_
        refine AW.sub (L' := [(0, .ref 46), (2, .int x2), (3, .int x3), (4, .int (x4 + (1 : Int32)))]) [1, 2, 3, 0] rfl ?_
        exact ih x2 x3 (x4 + (1 : Int32)) σ h
      · have h := ifp c16 h
        refine AW.aload_n dX10_grow_64 (.refl 65) 0 rfl ?_
        refine AW.aload_n dX10_grow_65 (.refl 66) 0 rfl ?_
        refine AW.getR (z := 69) lk_X10_77 rfl rfl (by decide) rfl dX10_grow_66 (.refl 69) ?_
        refine AW.iload_n dX10_grow_69 (.refl 70) 2 rfl ?_
        obtain ⟨g2, h⟩ := gd_s h
        refine AW.iaload rfl g2 dX10_grow_70 (.refl 71) ?_
        refine AW.iload dX10_grow_71 (.refl 73) 3 rfl ?_
        obtain ⟨r4, e3, h⟩ := b1_s h
        refine AW.callV (r' := (some (.int r4))) (σ' := σ) (rest := []) lm_X10_250 (c_X10_reaches e3) (by decide) (by decide) rfl rfl (by decide) rfl rfl (Nat.le_of_ble_eq_true rfl) dX10_grow_73 (.refl 76) (st' := [.int r4]) rfl ?_
        refine AW.if_eq (tgt := 128) dX10_grow_76 (by decide) (fun c15 => ?_) (fun c15 => ?_)
        · have h := ifp c15 h
          refine AW.iinc (v := (x4 + (1 : Int32))) (L' := [(4, .int (x4 + (1 : Int32))), (0, .ref 46), (2, .int x2), (3, .int x3)]) dX10_grow_128 (.refl 131) 3 rfl rfl (by decide) rfl ?_
          refine AW.goto (tgt := 43) dX10_grow_131 (by decide) ?_
          refine AW.sub (L' := [(0, .ref 46), (2, .int x2), (3, .int x3), (4, .int (x4 + (1 : Int32)))]) [1, 2, 3, 0] rfl ?_
          exact ih x2 x3 (x4 + (1 : Int32)) σ h
        · have h := ifn c15 h
          refine AW.aload_n dX10_grow_79 (.refl 80) 0 rfl ?_
          refine AW.getR (z := 68) lk_X10_74 rfl rfl (by decide) rfl dX10_grow_80 (.refl 83) ?_
          refine AW.iload dX10_grow_83 (.refl 85) 3 rfl ?_
          refine AW.aload_n dX10_grow_85 (.refl 86) 0 rfl ?_
          refine AW.getR (z := 69) lk_X10_77 rfl rfl (by decide) rfl dX10_grow_86 (.refl 89) ?_
          refine AW.iload_n dX10_grow_89 (.refl 90) 2 rfl ?_
          obtain ⟨g5, h⟩ := gd_s h
          refine AW.iaload rfl g5 dX10_grow_90 (.refl 91) ?_
          obtain ⟨g6, h⟩ := gd_s h
          refine AW.iastore rfl g6 dX10_grow_91 (.refl 92) ?_
          refine AW.aload_n dX10_grow_92 (.refl 93) 0 rfl ?_
          refine AW.getR (z := 67) lk_X10_71 rfl rfl (by decide) rfl dX10_grow_93 (.refl 96) ?_
          refine AW.iload dX10_grow_96 (.refl 98) 3 rfl ?_
          obtain ⟨g7, h⟩ := gd_s h
          refine AW.iaload rfl g7 dX10_grow_98 (.refl 99) ?_
          refine AW.bipush (v := (-9 : Int32)) dX10_grow_99 (.refl 101) (by decide) ?_
          refine AW.icmp_ne (tgt := 112) dX10_grow_101 (by decide) (fun c14 => ?_) (fun c14 => ?_)
          · have h := ifn c14 h
            refine AW.aload_n dX10_grow_112 (.refl 113) 0 rfl ?_
            refine AW.getR (z := 69) lk_X10_77 rfl rfl (by decide) rfl dX10_grow_113 (.refl 116) ?_
            refine AW.iload_n dX10_grow_116 (.refl 117) 1 rfl ?_
            refine AW.aload_n dX10_grow_117 (.refl 118) 0 rfl ?_
            refine AW.getR (z := 67) lk_X10_71 rfl rfl (by decide) rfl dX10_grow_118 (.refl 121) ?_
            refine AW.iload dX10_grow_121 (.refl 123) 3 rfl ?_
            obtain ⟨g8, h⟩ := gd_s h
            refine AW.iaload rfl g8 dX10_grow_123 (.refl 124) ?_
            obtain ⟨g9, h⟩ := gd_s h
            refine AW.iastore rfl g9 dX10_grow_124 (.refl 125) ?_
            obtain ⟨σ10, e11, h⟩ := bnd_s h
            refine AW.nmM e11 ?_
            refine AW.iinc (v := (x2 + (1 : Int32))) (L' := [(2, .int (x2 + (1 : Int32))), (0, .ref 46), (3, .int x3), (4, .int x4)]) dX10_grow_125 (.refl 128) 1 rfl rfl (by decide) rfl ?_
            refine AW.iinc (v := (x4 + (1 : Int32))) (L' := [(4, .int (x4 + (1 : Int32))), (2, .int (x2 + (1 : Int32))), (0, .ref 46), (3, .int x3)]) dX10_grow_128 (.refl 131) 3 rfl rfl (by decide) rfl ?_
            refine AW.goto (tgt := 43) dX10_grow_131 (by decide) ?_
            refine AW.sub (L' := [(0, .ref 46), (2, .int (x2 + (1 : Int32))), (3, .int x3), (4, .int (x4 + (1 : Int32)))]) [2, 1, 3, 0] rfl ?_
            exact ih (x2 + (1 : Int32)) x3 (x4 + (1 : Int32)) σ10 h
          · have h := ifp c14 h
            refine AW.aload_n dX10_grow_104 (.refl 105) 0 rfl ?_
            refine AW.iload dX10_grow_105 (.refl 107) 3 rfl ?_
            obtain ⟨τ13, e12, h⟩ := b1_s h
            refine AW.callV (r' := none) (σ' := τ13) (rest := []) lm_X10_253 (c_X10_turn e12) (by decide) (by decide) rfl rfl (by decide) rfl rfl (Nat.le_of_ble_eq_true rfl) dX10_grow_107 (.refl 110) (st' := []) rfl ?_
            refine AW.iconst (v := (1 : Int32)) dX10_grow_110 (.refl 111) (by decide) ?_
            cases h
            exact AW.zreturn rfl (by decide) dX10_grow_111
set_option maxRecDepth 20000 in
theorem a_X10_grow_p134 {l : Launch} {G : Gg} {v : Int32} {τ : Mm} {kh : Int32 → Int32 → Mm → Option (Int32 × Mm)} (hkh : ∀ (x2 : Int32) (x3 : Int32) (σ : Mm), kh x2 x3 σ = some (v, τ) → AW l G 1 M_X10_grow (some (.int v)) τ 35 [(0, .ref 46), (2, .int x2), (3, .int x3)] [] σ) (x2 : Int32) (x3 : Int32) (σ : Mm) (h : f_X10_grow_p134 kh x2 x3 σ = some (v, τ)) : AW l G 1 M_X10_grow (some (.int v)) τ 134 [(0, .ref 46), (2, .int x2), (3, .int x3)] [] σ := by
  unfold f_X10_grow_p134 at h
  refine AW.iinc (v := (x3 + (1 : Int32))) (L' := [(3, .int (x3 + (1 : Int32))), (0, .ref 46), (2, .int x2)]) dX10_grow_134 (.refl 137) 2 rfl rfl (by decide) rfl ?_
  refine AW.goto (tgt := 35) dX10_grow_137 (by decide) ?_
  refine AW.sub (L' := [(0, .ref 46), (2, .int x2), (3, .int (x3 + (1 : Int32)))]) [1, 2, 0] rfl ?_
  exact hkh x2 (x3 + (1 : Int32)) σ h
set_option maxRecDepth 20000 in
theorem a_X10_grow_p35 {l : Launch} {G : Gg} {v : Int32} {τ : Mm} : ∀ (n : Nat) (x2 : Int32) (x3 : Int32) (σ : Mm), f_X10_grow_p35 n x2 x3 σ = some (v, τ) → AW l G 1 M_X10_grow (some (.int v)) τ 35 [(0, .ref 46), (2, .int x2), (3, .int x3)] [] σ := by
  intro n
  induction n with
  | zero => intro x2 x3 σ h; exact no_some h
  | succ n ih =>
    intro x2 x3 σ h
    rw [f_X10_grow_p35] at h
    refine AW.iload_n dX10_grow_35 (.refl 36) 2 rfl ?_
    refine AW.iload_n dX10_grow_36 (.refl 37) 1 rfl ?_
    refine AW.icmp_ge (tgt := 140) dX10_grow_37 (by decide) (fun c1 => ?_) (fun c1 => ?_)
    · have h := ifp c1 h
      refine AW.iconst (v := (0 : Int32)) dX10_grow_140 (.refl 141) (by decide) ?_
      cases h
      exact AW.zreturn rfl (by decide) dX10_grow_141
    · have h := ifn c1 h
      refine AW.iconst (v := (0 : Int32)) dX10_grow_40 (.refl 41) (by decide) ?_
      refine AW.istore (L' := [(4, .int (0 : Int32)), (0, .ref 46), (2, .int x2), (3, .int x3)]) dX10_grow_41 (.refl 43) (by decide) rfl ?_
      refine AW.sub (L' := [(0, .ref 46), (2, .int x2), (3, .int x3), (4, .int (0 : Int32))]) [1, 2, 3, 0] rfl ?_
      exact a_X10_grow_p43 (a_X10_grow_p134 ih) FU x2 x3 (0 : Int32) σ h
set_option maxRecDepth 20000 in
theorem a_X10_grow_p24 {l : Launch} {G : Gg} {v : Int32} {τ : Mm} (x1 : Int32) (σ : Mm) (h : f_X10_grow_p24 x1 σ = some (v, τ)) : AW l G 1 M_X10_grow (some (.int v)) τ 24 [(0, .ref 46), (1, .int x1)] [] σ := by
  unfold f_X10_grow_p24 at h
  refine AW.iconst (v := (1 : Int32)) dX10_grow_24 (.refl 25) (by decide) ?_
  refine AW.istore_n (L' := [(2, .int (1 : Int32)), (0, .ref 46), (1, .int x1)]) dX10_grow_25 (.refl 26) (by decide) rfl ?_
  refine AW.aload_n dX10_grow_26 (.refl 27) 1 rfl ?_
  refine AW.getR (z := 69) lk_X10_77 rfl rfl (by decide) rfl dX10_grow_27 (.refl 30) ?_
  refine AW.iconst (v := (0 : Int32)) dX10_grow_30 (.refl 31) (by decide) ?_
  refine AW.iload_n dX10_grow_31 (.refl 32) 2 rfl ?_
  obtain ⟨g1, h⟩ := gd_s h
  refine AW.iastore rfl g1 dX10_grow_32 (.refl 33) ?_
  refine AW.iconst (v := (0 : Int32)) dX10_grow_33 (.refl 34) (by decide) ?_
  refine AW.istore_n (L' := [(3, .int (0 : Int32)), (2, .int (1 : Int32)), (0, .ref 46), (1, .int x1)]) dX10_grow_34 (.refl 35) (by decide) rfl ?_
  refine AW.sub (L' := [(0, .ref 46), (2, .int (1 : Int32)), (3, .int (0 : Int32))]) [2, 1, 0] rfl ?_
  exact a_X10_grow_p35 FU (1 : Int32) (0 : Int32) (sI σ 69 ((0 : Int32)).toNatClampNeg x1) h
set_option maxRecDepth 20000 in
theorem c_X10_grow {l : Launch} {G : Gg} {x1 : Int32} {σ : Mm} {v : Int32} {τ : Mm} (h : f_X10_grow x1 σ = some (v, τ)) : MR l G 1 M_X10_grow [.ref 46, .int x1] σ (some (.int v)) τ := by
  unfold f_X10_grow at h
  refine MR.of (by decide +kernel) (Nat.le_of_ble_eq_true rfl) ?_
  show AW l G 1 M_X10_grow (some (.int v)) τ 0 [(0, .ref 46), (1, .int x1)] [] σ
  refine AW.iconst (v := (0 : Int32)) dX10_grow_0 (.refl 1) (by decide) ?_
  refine AW.istore_n (L' := [(2, .int (0 : Int32)), (0, .ref 46), (1, .int x1)]) dX10_grow_1 (.refl 2) (by decide) rfl ?_
  refine AW.sub (L' := [(0, .ref 46), (1, .int x1), (2, .int (0 : Int32))]) [1, 2, 0] rfl ?_
  exact a_X10_grow_p2 (a_X10_grow_p24) FU x1 (0 : Int32) σ h
