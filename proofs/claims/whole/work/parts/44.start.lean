/-! THE LAW FROM ITS ENTRY, out of one fact on its function -/
def σ0 : Mm := (sI (sI (sI (sI (sI z0 52 0 (-9)) 52 1 (-9)) 52 2 (-9)) 52 3 (-9)) 52 4 (-9))
theorem PUTS_all : ∀ k, k < KK → ∀ j, j < 44 → ((fk (cTag k))[j]? = none ∨ (fk (cTag k))[j]? = some 0 ∨ (fk (cTag k))[j]? = some 1 ∨ ((fk (cTag k))[j]? = some 2 ∧ (k, j) ∈ PUTS.take 82)) := by decide +kernel
theorem fk_len : ∀ k, k < KK → (fk (cTag k)).length ≤ 44 := by decide +kernel
theorem CK_WK {G : Gg} {σ : Mm} {H : Heap} (h : CK G σ 75 82 H) : WK G σ H := by
  have e : Wc G σ KK 82 = Wd G σ := by
    unfold Wc Wd
    refine List.map_congr_left (fun k hk => ?_)
    have hk := List.mem_range.mp hk
    have ef : cFc G (σ.1 k) (σ.2 k) 82 k = cFs G (σ.1 k) (σ.2 k) k := by
      refine List.ext_getElem? (fun j => ?_)
      rw [cFc, cFs, List.getElem?_mapIdx, List.getElem?_mapIdx]
      by_cases hj : j < 44
      · rcases PUTS_all k hk j hj with q | q | q | ⟨q, q2⟩
        · rw [q]; rfl
        · rw [q]; rfl
        · rw [q]; rfl
        · rw [q, rh, if_pos q2]; rfl
      · have hl := fk_len k hk
        rw [List.getElem?_eq_none (by omega)]; rfl
    show (G.2.1 k, cEc G (σ.1 k) (σ.2 k) 82 k) = (G.2.1 k, cEl G (σ.1 k) (σ.2 k) k)
    rw [cEc, cEl, ef]
  have h2 := h.2.1
  rw [show (75 : Nat) = KK from rfl, e] at h2
  exact h2
set_option maxRecDepth 20000 in
theorem law_entry {l : Launch} {G : Gg} {b Ln : Nat} {xs : Nat → Int32} (hG : GOK G) (h9 : G.2.1 999 = b) (h : f_L_law_p18 xs Ln FU 0 σ0 = some ()) : AWh l G (Ac G) (ES G b Ln xs) room_1 (fun below args s => lw_Z below args s) M_L_law 0 0 0 [(0, .ref 999)] [] (CK G z0 0 0) := by
  refine CW.new (q := 3) (cl' := 1) (sl' := 13) (n' := 1) ln_L_n7 (by decide) rfl (by decide) rfl rfl (by decide +kernel) (by decide) (by decide) dL_law_0 rfl rfl rfl rfl ?_
  refine AW.dup dL_law_3 (.refl 4) rfl ?_
  refine CW.callI (q := 7) (cl' := 46) (sl' := 419) (rest := [.ref 0]) li_L_9 k15_X9_init (by decide) (by decide) (by decide) rfl rfl (Nat.le_of_ble_eq_true rfl) dL_law_4 rfl rfl rfl ?_
  refine AW.astore_n (L' := [(1, .ref 0), (0, .ref 999)]) dL_law_7 (.refl 8) (by decide) rfl ?_
  refine CW.new (q := 11) (cl' := 47) (sl' := 463) (n' := 47) ln_L_n10 (by decide) rfl (by decide) rfl rfl (by decide +kernel) (by decide) (by decide) dL_law_8 rfl rfl rfl rfl ?_
  refine AW.dup dL_law_11 (.refl 12) rfl ?_
  refine CW.callI (q := 15) (cl' := 75) (sl' := 1007) (rest := [.ref 46]) li_L_12 k16_X10_init (by decide) (by decide) (by decide) rfl rfl (Nat.le_of_ble_eq_true rfl) dL_law_12 rfl rfl rfl ?_
  refine AW.astore_n (L' := [(2, .ref 46), (1, .ref 0), (0, .ref 999)]) dL_law_15 (.refl 16) (by decide) rfl ?_
  refine AW.iconst (v := (0 : Int32)) dL_law_16 (.refl 17) (by decide) ?_
  refine AW.istore_n (L' := [(3, .int (0 : Int32)), (2, .ref 46), (1, .ref 0), (0, .ref 999)]) dL_law_17 (.refl 18) (by decide) rfl ?_
  refine AWh.widen (cl' := 600000) (sl' := 7302250) (by decide) (by decide) ?_
  refine AWh.conv (κ' := WK G σ0) (fun H _ hk => CK_WK hk) ?_
  refine AW.sub (L' := [(0, .ref 999), (1, .ref 0), (2, .ref 46), (3, .int (0 : Int32))]) [3, 2, 1, 0] rfl ?_
  exact a_L_law_p18 hG h9 FU 0 σ0 h
theorem arr_known {s : State} {args : Array Value} {ty : FieldType} (h : (Cond.arrayClass ty).before args s = true) : ∃ cA : ClassId, ArrOfT s cA ty ∧ s.vm.findClass ("[" ++ ty.toString) = some cA := by
  obtain ⟨cA, kA, comp, hfind, hk, hkind⟩ := Cond.arrayClass_spec h
  exact ⟨cA, fun n z => ⟨fun k h => (by cases h), kA, hk, comp, hkind⟩, hfind⟩
theorem tin_tbl {c : Nat} {C : String} {T : u_T} {N : Nat} (h : ∀ w ∈ u_ws C T N, w ∈ lwt) : ∀ w ∈ u_ws C T N, w ∈ lw_tbl := fun w hw => (List.mem_filter.mp (h w hw)).1
set_option maxHeartbeats 4000000 in
set_option maxRecDepth 100000 in
/-- THE LAW, from its entry, out of its function -/
theorem whole_of {p : Program} {e : Env} {s : State} {m : MethodId} {below : List Frame} {meth : Method} {c : Code} (l : Launch) {b L : Nat} {xs : Nat → Int32} (h : f_L_law_p18 xs L FU 0 σ0 = some ()) (C0 : lw_At p s m meth c b L xs) : W p l e room_1 s m #[Value.ref b] below meth c s.heap [] 0 0 (lw_Z below #[Value.ref b] s) (entryFrame m ([Value.ref b] : List Value).toArray 4) := by
  obtain ⟨hx, hb, hr, hml, hown, hts0, hX, hbl, hlocks, hgv⟩ := id C0
  have hts : ∀ w ∈ lwt, w.before #[Value.ref b] s = true := fun w hw => hts0 w (List.mem_filter.mp hw).1
  have hN : NW s := by
    intro w hw
    have h1 := hts0 w (List.mem_filter.mp hw).1
    have h2 := (List.mem_filter.mp hw).2
    cases w <;> first | (simp [isNest] at h2; done) | exact va_Nw.of rfl h1
  obtain ⟨c0, iS0, hKn0⟩ := u_known (C := RX0) (T := TX0) (N := 3) (n := 3) hts tin_0 (hts (.instantiable RX0 3) (lw_in 136 (by decide +kernel)))
  obtain ⟨c1, iS1, hKn1⟩ := u_known (C := RX1) (T := TX1) (N := 2) (n := 2) hts tin_1 (hts (.instantiable RX1 2) (lw_in 106 (by decide +kernel)))
  obtain ⟨c2, iS2, hKn2⟩ := u_known (C := RX2) (T := TX2) (N := 11) (n := 11) hts tin_2 (hts (.instantiable RX2 11) (lw_in 198 (by decide +kernel)))
  obtain ⟨c3, iS3, hKn3⟩ := u_known (C := RX3) (T := TX3) (N := 3) (n := 3) hts tin_3 (hts (.instantiable RX3 3) (lw_in 181 (by decide +kernel)))
  obtain ⟨c4, iS4, hKn4⟩ := u_known (C := RX4) (T := TX4) (N := 6) (n := 6) hts tin_4 (hts (.instantiable RX4 6) (lw_in 153 (by decide +kernel)))
  obtain ⟨c5, iS5, hKn5⟩ := u_known (C := RX5) (T := TX5) (N := 7) (n := 7) hts tin_5 (hts (.instantiable RX5 7) (lw_in 242 (by decide +kernel)))
  obtain ⟨c6, iS6, hKn6⟩ := u_known (C := RX6) (T := TX6) (N := 2) (n := 2) hts tin_6 (hts (.instantiable RX6 2) (lw_in 119 (by decide +kernel)))
  obtain ⟨c7, iS7, hKn7⟩ := u_known (C := RX7) (T := TX7) (N := 2) (n := 2) hts tin_7 (hts (.instantiable RX7 2) (lw_in 22 (by decide +kernel)))
  obtain ⟨c8, iS8, hKn8⟩ := u_known (C := RX8) (T := TX8) (N := 14) (n := 14) hts tin_8 (hts (.instantiable RX8 14) (lw_in 38 (by decide +kernel)))
  obtain ⟨c9, iS9, hKn9⟩ := u_known (C := RX9) (T := TX9) (N := 13) (n := 13) hts tin_9 (hts (.instantiable RX9 13) (lw_in 14 (by decide +kernel)))
  obtain ⟨c10, iS10, hKn10⟩ := u_known (C := RX10) (T := TX10) (N := 44) (n := 44) hts tin_10 (hts (.instantiable RX10 44) (lw_in 789 (by decide +kernel)))
  obtain ⟨dC, dI, hKc⟩ : ∃ (dC : Nat → ClassId) (dI : Nat → Nat → Nat), ∀ (k : Nat) (q : vw_C), vwCl[k]? = some q → u_Kn s q.1 q.2.1 q.2.2 (dC k) (dI k) := by
    refine ⟨fun k => if k = 0 then c0 else if k = 1 then c1 else if k = 2 then c2 else if k = 3 then c3 else if k = 4 then c4 else if k = 5 then c5 else if k = 6 then c6 else if k = 7 then c7 else if k = 8 then c8 else if k = 9 then c9 else c10, fun k => if k = 0 then iS0 else if k = 1 then iS1 else if k = 2 then iS2 else if k = 3 then iS3 else if k = 4 then iS4 else if k = 5 then iS5 else if k = 6 then iS6 else if k = 7 then iS7 else if k = 8 then iS8 else if k = 9 then iS9 else iS10, ?_⟩
    intro k q hq
    match k, hq with
    | 0, hq => cases hq; exact hKn0
    | 1, hq => cases hq; exact hKn1
    | 2, hq => cases hq; exact hKn2
    | 3, hq => cases hq; exact hKn3
    | 4, hq => cases hq; exact hKn4
    | 5, hq => cases hq; exact hKn5
    | 6, hq => cases hq; exact hKn6
    | 7, hq => cases hq; exact hKn7
    | 8, hq => cases hq; exact hKn8
    | 9, hq => cases hq; exact hKn9
    | 10, hq => cases hq; exact hKn10
    | k + 11, hq => simp [vwCl] at hq
  obtain ⟨cI, hI1, hI2⟩ := arr_known (hts _ la_I)
  obtain ⟨cJ, hJ1, hJ2⟩ := arr_known (hts _ la_J)
  obtain ⟨cZ, hZ1, hZ2⟩ := arr_known (hts _ la_Z)
  obtain ⟨G, hGe⟩ : ∃ G : Gg, G = ((dC, dI), (fun k => if k = 999 then b else s.heap.size + k), cI, cJ, cZ) := ⟨_, rfl⟩
  have h9 : G.2.1 999 = b := by rw [hGe]; rfl
  have hg0 : G.2.1 0 = s.heap.size := by rw [hGe]; rfl
  have hG : GOK G := by
    intro k hk
    rw [hGe]
    show (if k = 999 then b else s.heap.size + k) = (if 0 = 999 then b else s.heap.size + 0) + k
    rw [if_neg (by have : KK = 75 := rfl; omega), if_neg (by decide)]
    rfl
  have hK : va_K G.1 vwCl (cTys G) s := by
    rw [hGe]
    refine ⟨hKc, fun k q hq => ?_⟩
    match k, hq with
    | 0, hq => cases hq; exact ⟨hI1, hI2⟩
    | 1, hq => cases hq; exact ⟨hJ1, hJ2⟩
    | 2, hq => cases hq; exact ⟨hZ1, hZ2⟩
    | k + 3, hq => simp [cTys] at hq
  have hl := lv_entry ([.ref b]) (n := 4) (Nat.le_of_ble_eq_true rfl)
  rw [lg_entry_eq]
  generalize (lg_sl [Value.ref b] ++ List.replicate (4 - (lg_sl [Value.ref b]).length) Slot.unset).toArray = lsx at hl ⊢
  have hl : lv_has lsx 4 (LL G [(0, .ref 999)]) := by
    rw [show LL G [(0, .ref 999)] = [(0, Value.ref b)] from by rw [← h9]; rfl]
    exact hl
  exact law_entry (l := l) hG h9 h p e s m _ below meth c s.heap [] _ ⟨hx, hb, hml, hown, hts, hlocks, hr, hK, hG, hN, fun h => absurd h (by decide)⟩ ⟨rfl, hX, hbl, hg0.symm⟩ ⟨Nat.zero_le _, fun k q hq => by simp [Wc] at hq, by rw [hg0]; rfl⟩ va_S.rf hl
