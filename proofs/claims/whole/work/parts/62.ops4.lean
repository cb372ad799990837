/-! room, unwanted, sealed -/
theorem worM_le {T : Tw} (hw : WT T) (m : Nat) : worM T m ≤ 45 := by
  have h := suN_le (f := fun k => if m.testBit k then tW T k else 0) (c := 9) (n := tNd T) (fun i hi => by
    have := (hw.2.2.2 i hi).2.2.2.2.2.1
    show (if m.testBit i = true then tW T i else 0) ≤ 9
    split <;> omega)
  have := hw.2.1
  unfold worM
  omega
theorem claM_nd {T : Tw} (hw : WT T) {D : Dy} (hD : OD T D) (k s : Nat) : claM T D k s < 2 ^ tNd T := by
  have e : claM T D k s = orN (fun o => if o ≠ k ∧ D o ≠ 0 ∧ cla T k s o (D o - 1) = true then 2 ^ o else 0) (tNd T) := orN_ext hw.2.1 (fun i h1 _ => by
    rw [if_neg]
    intro q
    exact absurd (hD i q.2.1).1 (by omega))
  rw [e]
  exact orN_lt fun i hi => by
    split
    · exact pow_lt hi
    · exact Nat.two_pow_pos _
def CM (m : Nat → Bool) (W : Nat → Nat) (i : Nat) (a : Int32 × Int32) : Prop :=
  (a = (0, -9) ∧ ∀ s, s < i → m s = false) ∨ ∃ f, f < i ∧ m f = true ∧ a = (nI (W f), nI f) ∧ (∀ s, s < i → m s = true → W f ≤ W s) ∧ ∀ s, s < f → m s = true → W f < W s
def RM (m : Nat → Bool) (W : Nat → Nat) (i : Nat) (a : Int32 × Int32) : Prop :=
  (a = (-9, -9) ∧ ∀ s, 10 - i ≤ s → s < 10 → m s = false) ∨ ∃ f, 10 - i ≤ f ∧ f < 10 ∧ m f = true ∧ a = (nI (W f), nI f) ∧ (∀ s, 10 - i ≤ s → s < 10 → m s = true → W f ≤ W s) ∧ ∀ s, 10 - i ≤ s → s < f → m s = true → W f < W s
theorem CM_RM {m : Nat → Bool} {W : Nat → Nat} {a b : Int32 × Int32} (h1 : CM m W 10 a) (h2 : RM m W 10 b) : (a.2 = -9 ∧ b = (-9, -9)) ∨ ∃ f, f < 10 ∧ m f = true ∧ a.2 = nI f ∧ b = (nI (W f), nI f) := by
  rcases h1 with ⟨e1, n1⟩ | ⟨f, f1, f2, f3, f4, f5⟩
  · rcases h2 with ⟨e2, n2⟩ | ⟨g, g1, g2, g3, g4, g5, g6⟩
    · exact Or.inl ⟨by rw [e1], e2⟩
    · rw [n1 g g2] at g3; cases g3
  · rcases h2 with ⟨e2, n2⟩ | ⟨g, g1, g2, g3, g4, g5, g6⟩
    · rw [n2 f (by omega) f1] at f2; cases f2
    · have hfg : f = g := by
        rcases Nat.lt_trichotomy f g with q | q | q
        · have := g6 f (by omega) q f2
          have := f4 g g2 g3
          omega
        · exact q
        · have := f5 g q g3
          have := g5 f (by omega) f1 f2
          omega
      subst hfg
      exact Or.inr ⟨f, f1, f2, by rw [f3], g4⟩
theorem sub1 {i : Nat} (hi : i ≤ 9) : (9 : Int32) - nI i + -1 = 9 - nI (i + 1) := by
  rw [show (-1 : Int32) = - nI 1 from rfl, ← nI_add, Int32.sub_eq_add_neg, Int32.sub_eq_add_neg, Int32.neg_add, Int32.sub_eq_add_neg, Int32.add_assoc]
theorem room_x {σ : Mm} {S : Sp} (hw : WF S) (hX : XI σ S) (hM : MI σ S) {k : Nat} (hk : k < tNd S.2.1) : ∃ p : Int32 × Int32, f_X1_cheapestBegin σ 16 (nI k) = some p.2 ∧ CM (fun s => may S.2.1 k s) (fun s => worM S.2.1 (claM S.2.1 S.2.2.1 k s)) 10 p := by
  have wT := hw.2.1
  have h5 := wT.2.1
  have xT := hX.2.1
  have mT := hM.2.1
  obtain ⟨m, hm⟩ : ∃ m : Nat → Bool, m = fun s => may S.2.1 k s := ⟨_, rfl⟩
  obtain ⟨W, hWe⟩ : ∃ W : Nat → Nat, W = fun s => worM S.2.1 (claM S.2.1 S.2.2.1 k s) := ⟨_, rfl⟩
  have hW : ∀ s, W s ≤ 45 := fun s => by rw [hWe]; exact worM_le wT _
  rw [← hm, ← hWe]
  unfold f_X1_cheapestBegin
  have key := itL (fun n i p => f_X1_cheapestBegin_p8 σ 16 n (nI k) p.1 p.2 i) (fun p => some p.2) (fun i p => if m i = true then (if p.2 = -9 then (nI (W i), nI i) else if p.1 ≤ nI (W i) then p else (nI (W i), nI i)) else p) 10 (CM m W) (a := (0, -9)) (Or.inl ⟨rfl, fun s hs => absurd hs (Nat.not_lt_zero s)⟩) ?_ ?_ FU (by decide)
  · have k1 : f_X1_cheapestBegin_p8 σ 16 FU (nI k) 0 (-9) (nI 0) = _ := key.1
    exact ⟨_, k1, key.2⟩
  · intro n i p hi hp
    have hWi := hW i
    have eW : worM S.2.1 (claM S.2.1 S.2.2.1 k i) = W i := by rw [hWe]
    by_cases cm : m i = true
    · have cm' : may S.2.1 k i = true := by rw [hm] at cm; exact cm
      refine ⟨?_, ?_⟩
      · show f_X1_cheapestBegin_p8 σ 16 (n + 1) (nI k) p.1 p.2 (nI i) = _
        rw [f_X1_cheapestBegin_p8, lI 10, if_neg (nI_ge hi (by decide)), xMay_t xT wT hk hi, b1_some, if_pos cm', if_neg n10, xClashing xT wT (K := 16) hX.2.2.1 hw.2.2.1.od hk cm', b1_some, xWorthOf xT wT (claM_nd wT hw.2.2.1.od k i), b1_some, eW, lI 1, nI_add]
        simp only [if_pos cm]
        by_cases q1 : p.2 = -9
        · rw [if_pos q1, if_pos q1]
        · rw [if_neg q1, if_neg q1]
          by_cases q2 : p.1 ≤ nI (W i)
          · rw [if_pos q2, if_pos q2]
          · rw [if_neg q2, if_neg q2]
      · simp only [if_pos cm]
        rcases hp with ⟨e1, n1⟩ | ⟨f, f1, f2, f3, f4, f5⟩
        · rw [e1, if_pos rfl]
          refine Or.inr ⟨i, by omega, cm, rfl, fun s hs ms => ?_, fun s hs ms => ?_⟩
          · rcases Nat.lt_or_ge s i with q | q
            · rw [n1 s q] at ms; cases ms
            · rw [show s = i by omega]; exact Nat.le_refl _
          · rw [n1 s hs] at ms; cases ms
        · have hWf := hW f
          rw [f3]
          simp only [ne9 (show f < 2 ^ 31 by omega), if_false]
          by_cases q2 : W f ≤ W i
          · rw [if_pos (nI_le q2 (by omega))]
            refine Or.inr ⟨f, by omega, f2, rfl, fun s hs ms => ?_, f5⟩
            rcases Nat.lt_or_ge s i with q | q
            · exact f4 s q ms
            · rw [show s = i by omega]; exact q2
          · rw [if_neg (by rw [le_nI (by omega) (by omega)]; exact q2)]
            refine Or.inr ⟨i, by omega, cm, rfl, fun s hs ms => ?_, fun s hs ms => ?_⟩
            · rcases Nat.lt_or_ge s i with q | q
              · have := f4 s q ms; omega
              · rw [show s = i by omega]; exact Nat.le_refl _
            · have := f4 s hs ms; omega
    · have cm' : ¬ may S.2.1 k i = true := by rw [hm] at cm; exact cm
      refine ⟨?_, ?_⟩
      · simp (disch := omega) only [f_X1_cheapestBegin_p8, lI 10, lI 1, le_nI, Nat.not_le.mpr hi, if_false, nI_add, xMay_t xT wT hk hi, b1_some, if_neg cm', if_neg cm]
        rw [if_pos trivial]
      · simp only [if_neg cm]
        rcases hp with ⟨e1, n1⟩ | ⟨f, f1, f2, f3, f4, f5⟩
        · refine Or.inl ⟨e1, fun s hs => ?_⟩
          rcases Nat.lt_or_ge s i with q | q
          · exact n1 s q
          · rw [show s = i by omega]; simpa using cm
        · refine Or.inr ⟨f, by omega, f2, f3, fun s hs ms => ?_, f5⟩
          rcases Nat.lt_or_ge s i with q | q
          · exact f4 s q ms
          · rw [show s = i by omega] at ms; exact absurd ms cm
  · intro n p _
    simp (disch := omega) only [f_X1_cheapestBegin_p8, lI 10, le_nI, Nat.le_refl, if_true]
theorem room_m {σ : Mm} {S : Sp} (hw : WF S) (hX : XI σ S) (hM : MI σ S) {k : Nat} (hk : k < tNd S.2.1) (b : Int32) : ∃ p : Int32 × Int32, f_X10_room_p48 σ (f_X10_room_p122 σ) FU (nI k) b (-9) (-9) 9 = f_X10_room_p122 σ b p.1 p.2 ∧ RM (fun s => may S.2.1 k s) (fun s => worM S.2.1 (claM S.2.1 S.2.2.1 k s)) 10 p := by
  have wT := hw.2.1
  have h5 := wT.2.1
  have xT := hX.2.1
  have mT := hM.2.1
  obtain ⟨m, hm⟩ : ∃ m : Nat → Bool, m = fun s => may S.2.1 k s := ⟨_, rfl⟩
  obtain ⟨W, hWe⟩ : ∃ W : Nat → Nat, W = fun s => worM S.2.1 (claM S.2.1 S.2.2.1 k s) := ⟨_, rfl⟩
  have hW : ∀ s, W s ≤ 45 := fun s => by rw [hWe]; exact worM_le wT _
  rw [← hm, ← hWe]
  have key := itL (fun n i p => f_X10_room_p48 σ (f_X10_room_p122 σ) n (nI k) b p.1 p.2 (9 - i)) (fun p => f_X10_room_p122 σ b p.1 p.2) (fun i p => if m (9 - i) = true then (if p.1 = -9 then (nI (W (9 - i)), nI (9 - i)) else if p.1 < nI (W (9 - i)) then p else (nI (W (9 - i)), nI (9 - i))) else p) 10 (RM m W) (a := (-9, -9)) (Or.inl ⟨rfl, fun s h1 h2 => by omega⟩) ?_ ?_ FU (by decide)
  · have k1 : f_X10_room_p48 σ (f_X10_room_p122 σ) FU (nI k) b (-9) (-9) (9 - nI 0) = _ := key.1
    rw [show (9 : Int32) - nI 0 = 9 by decide] at k1
    exact ⟨_, k1, key.2⟩
  · intro n i p hi hp
    have hWi := hW (9 - i)
    have eW : worM S.2.1 (claM S.2.1 S.2.2.1 k (9 - i)) = W (9 - i) := by rw [hWe]
    have e9 : (9 : Int32) - nI i = nI (9 - i) := by rw [lI 9, pk_sub (by omega)]
    by_cases cm : m (9 - i) = true
    · have cm' : may S.2.1 k (9 - i) = true := by rw [hm] at cm; exact cm
      refine ⟨?_, ?_⟩
      · show f_X10_room_p48 σ (f_X10_room_p122 σ) (n + 1) (nI k) b p.1 p.2 (9 - nI i) = _
        rw [f_X10_room_p48, ← sub1 (by omega), e9, if_neg (nI_pos (by omega)), mMay mT wT hk (by omega), b1_some, if_pos cm', if_neg n10, mClashes mT wT hM.2.2.1 hw.2.2.1.od hk cm', b1_some, mCoins mT wT (Nat.lt_trans (claM_lt _ _ _ _) (by decide)), b1_some, eW]
        simp only [if_pos cm]
        unfold f_X10_room_p88 f_X10_room_p95
        by_cases q1 : p.1 = -9
        · simp only [if_pos q1]
        · simp only [if_neg q1]
          by_cases q2 : p.1 < nI (W (9 - i))
          · have q2' := q2
            simp only [if_pos q2]
          · have q2' := q2
            simp only [if_neg q2]
      · simp only [if_pos cm]
        rcases hp with ⟨e1, n1⟩ | ⟨f, f0, f1, f2, f3, f4, f5⟩
        · rw [e1, if_pos rfl]
          refine Or.inr ⟨9 - i, by omega, by omega, cm, rfl, fun s hs hs2 ms => ?_, fun s hs hs2 ms => ?_⟩
          · rcases Nat.lt_or_ge s (10 - i) with q | q
            · rw [show s = 9 - i by omega]; exact Nat.le_refl _
            · rw [n1 s q hs2] at ms; cases ms
          · omega
        · have hWf := hW f
          rw [f3]
          simp only [ne9 (show W f < 2 ^ 31 by omega), if_false]
          by_cases q2 : W f < W (9 - i)
          · rw [if_pos (nI_lt q2 (by omega))]
            refine Or.inr ⟨f, by omega, f1, f2, rfl, fun s hs hs2 ms => ?_, fun s hs hs2 ms => ?_⟩
            · rcases Nat.lt_or_ge s (10 - i) with q | q
              · rw [show s = 9 - i by omega]; omega
              · exact f4 s q hs2 ms
            · rcases Nat.lt_or_ge s (10 - i) with q | q
              · rw [show s = 9 - i by omega]; omega
              · exact f5 s q hs2 ms
          · rw [if_neg (by rw [lt_nI (by omega) (by omega)]; exact q2)]
            refine Or.inr ⟨9 - i, by omega, by omega, cm, rfl, fun s hs hs2 ms => ?_, fun s hs hs2 ms => ?_⟩
            · rcases Nat.lt_or_ge s (10 - i) with q | q
              · rw [show s = 9 - i by omega]; exact Nat.le_refl _
              · have := f4 s q hs2 ms; omega
            · omega
    · have cm' : ¬ may S.2.1 k (9 - i) = true := by rw [hm] at cm; exact cm
      refine ⟨?_, ?_⟩
      · show f_X10_room_p48 σ (f_X10_room_p122 σ) (n + 1) (nI k) b p.1 p.2 (9 - nI i) = _
        rw [f_X10_room_p48, ← sub1 (by omega), e9, if_neg (nI_pos (by omega)), mMay mT wT hk (by omega), b1_some, if_neg cm', if_pos rfl]
        simp only [if_neg cm]
      · simp only [if_neg cm]
        rcases hp with ⟨e1, n1⟩ | ⟨f, f0, f1, f2, f3, f4, f5⟩
        · refine Or.inl ⟨e1, fun s hs hs2 => ?_⟩
          rcases Nat.lt_or_ge s (10 - i) with q | q
          · rw [show s = 9 - i by omega]; simpa using cm
          · exact n1 s q hs2
        · refine Or.inr ⟨f, by omega, f1, f2, f3, fun s hs hs2 ms => ?_, fun s hs hs2 ms => ?_⟩
          · rcases Nat.lt_or_ge s (10 - i) with q | q
            · rw [show s = 9 - i by omega] at ms; exact absurd ms cm
            · exact f4 s q hs2 ms
          · rcases Nat.lt_or_ge s (10 - i) with q | q
            · rw [show s = 9 - i by omega] at ms; exact absurd ms cm
            · exact f5 s q hs2 ms
  · intro n p _
    show f_X10_room_p48 σ (f_X10_room_p122 σ) (n + 1) (nI k) b p.1 p.2 (9 - nI 10) = _
    rw [f_X10_room_p48, if_pos (by decide)]
theorem op_room {σ : Mm} (hI : INV σ) : ∀ a b : Int32, ∃ v, f_X9_room σ a b = some v ∧ f_X10_room σ a b = some v ∧ INV σ := by
  intro a b
  obtain ⟨S, hw, hX, hM⟩ := id hI
  have wT := hw.2.1
  have h5 := wT.2.1
  have xT := hX.2.1
  have mT := hM.2.1
  unfold f_X9_room f_X10_room
  rw [hasBidder_eq hX.2.1.2.1, b1_some, isBidder_eq hM.2.1.2.1 h5, b1_some, in_slot, b1_some]
  by_cases h1 : ¬ a < 0 ∧ a < nI (tNd S.2.1)
  · rw [if_pos h1, if_neg n10, if_neg n10]
    obtain ⟨k, hk, rfl⟩ := okx (by omega) h1
    have hle := hw.2.2.1.od.le k
    by_cases h2 : b = 0 ∨ b = 1
    · have hb1 : ¬ b < 0 := by rcases h2 with rfl | rfl <;> decide
      have hb2 : b ≤ 1 := by rcases h2 with rfl | rfl <;> decide
      rw [if_pos h2, if_neg hb1, if_pos hb2, if_neg n10, xLet (K := 16) hX.2.2.1 hw.2.2.1.od (show k < 5 by omega), b1_some, gd_t (inB_t (show k < 5 by omega) (by decide)), cl_nI (by omega), hM.2.2.1 k (by omega)]
      by_cases c1 : S.2.2.1 k = 0
      · rw [if_pos c1, if_pos rfl]
        rw [if_pos (show eD (S.2.2.1 k) = -9 by rw [eD_0 hle]; exact c1)]
        obtain ⟨p, ep, hp⟩ := room_x hw hX hM hk
        obtain ⟨r, er, hr⟩ := room_m hw hX hM hk b
        rw [ep, er, b1_some]
        unfold f_X10_room_p122
        rcases CM_RM hp hr with ⟨q1, q2⟩ | ⟨f, f1, f2, f3, f4⟩
        · rw [q1, q2, if_pos rfl]
          refine ⟨-9, rfl, ?_, hI⟩
          split <;> rfl
        · have f2' : may S.2.1 k f = true := f2
          rw [f3, f4, if_neg (by rw [ne9 (by omega)]; exact id)]
          rcases h2 with rfl | rfl
          · rw [if_neg (by decide), if_pos rfl, xClashing xT wT (K := 16) hX.2.2.1 hw.2.2.1.od hk f2', b1_some, xWorthOf xT wT (claM_nd wT hw.2.2.1.od k f), b1_some]
            exact ⟨_, rfl, rfl, hI⟩
          · rw [if_pos rfl, if_neg (by decide)]
            exact ⟨_, rfl, rfl, hI⟩
      · rw [if_neg c1, if_neg n10]
        rw [if_neg (show ¬ eD (S.2.2.1 k) = -9 by rw [eD_0 hle]; exact c1)]
        exact ⟨_, rfl, rfl, hI⟩
    · rw [if_neg h2, if_pos (show (0 : Int32) = 0 from rfl)]
      by_cases hb1 : b < 0
      · rw [if_pos hb1]; exact ⟨_, rfl, rfl, hI⟩
      · rw [if_neg hb1, if_neg]
        · exact ⟨_, rfl, rfl, hI⟩
        · intro hb2
          have : ok b 2 := ⟨hb1, by rw [Int32.le_iff_toInt_le] at hb2; rw [Int32.lt_iff_toInt_lt]; have e1 : (1 : Int32).toInt = 1 := by decide
                                    have e2 : (nI 2).toInt = 2 := by decide
                                    omega⟩
          obtain ⟨j, hj, rfl⟩ := okx (by decide) this
          exact h2 (slot_or hj)
  · rw [if_neg h1, if_pos rfl, if_pos rfl]
    exact ⟨_, rfl, rfl, hI⟩
theorem it_or' {f : Nat → Nat} {g : Nat → Int32 → Int32} (h : ∀ i a, g i a = a ||| nI (f i)) (a : Int32) : ∀ N : Nat, itN g N a = a ||| nI (orN f N)
  | 0 => by show a = a ||| nI 0; rw [nI0, Int32.or_zero]
  | N + 1 => by rw [itN, it_or' h a N, h, orN, ← or_nI, Int32.or_assoc]
def anyB (a : Nat) : Nat := (a ||| a / 2 ^ 10 ||| a / 2 ^ 20) % 2 ^ 10
theorem anyB_0 : anyB 0 = 0 := by decide
theorem any_want {w : Nat} (hw : w < 2 ^ 10) : anyB (w * 1049601) = w := by
  apply Nat.eq_of_testBit_eq
  intro s
  apply bool_iff
  unfold anyB
  rw [any_tb, Bool.and_eq_true, decide_eq_true_eq, Bool.or_eq_true, Bool.or_eq_true, eb_tb hw, eb_tb hw, eb_tb hw]
  constructor
  · rintro ⟨hs, h⟩
    rw [if_pos hs, if_neg (by omega), if_pos (by omega), if_neg (by omega), if_neg (by omega), show 10 + s - 10 = s by omega, show 20 + s - 20 = s by omega] at h
    rcases h with (h | h) | h <;> exact h
  · intro h
    have hs := lt_tb hw h
    refine ⟨hs, Or.inl (Or.inl ?_)⟩
    rw [if_pos hs]; exact h
theorem any_ring {r b : Nat} (hr : r < 2 ^ 10) (hb : b < 3) : anyB (r * 2 ^ (10 * b)) = r := by
  apply Nat.eq_of_testBit_eq
  intro s
  apply bool_iff
  unfold anyB
  rw [any_tb, Bool.and_eq_true, decide_eq_true_eq, Bool.or_eq_true, Bool.or_eq_true, mul_tb, mul_tb, mul_tb]
  simp only [Bool.and_eq_true, decide_eq_true_eq]
  constructor
  · rintro ⟨hs, (h | h) | h⟩
    · have := lt_tb hr h.2
      have e : b = 0 := by omega
      subst e
      simpa using h.2
    · have := lt_tb hr h.2
      rcases (show b = 0 ∨ b = 1 ∨ b = 2 by omega) with rfl | rfl | rfl
      · omega
      · rw [show 10 + s - 10 * 1 = s by omega] at h; exact h.2
      · omega
    · have := lt_tb hr h.2
      rcases (show b = 0 ∨ b = 1 ∨ b = 2 by omega) with rfl | rfl | rfl
      · omega
      · omega
      · rw [show 20 + s - 10 * 2 = s by omega] at h; exact h.2
  · intro h
    have hs := lt_tb hr h
    refine ⟨hs, ?_⟩
    rcases (show b = 0 ∨ b = 1 ∨ b = 2 by omega) with rfl | rfl | rfl
    · exact Or.inl (Or.inl ⟨by omega, by simpa using h⟩)
    · exact Or.inl (Or.inr ⟨by omega, by rw [show 10 + s - 10 * 1 = s by omega]; exact h⟩)
    · exact Or.inr ⟨by omega, by rw [show 20 + s - 10 * 2 = s by omega]; exact h⟩
theorem wan_k {T : Tw} (hw : WT T) (k : Nat) : (anyB (wantX T k) ||| orN (fun s => anyB (ringX T k s)) 10) = if k < tNd T then orN (fun s => if may T k s = true then secS T k s else 0) 10 else 0 := by
  by_cases hk : k < tNd T
  · rw [if_pos hk]
    by_cases q : tN T k = 0
    · have hF : tF T k < 10 := by have := hw.2.2.2 k hk; omega
      rw [wantX_q hk q, any_want (wantS_lt hw hk), orN_0 (f := fun s => anyB (ringX T k s)) (fun s _ => by show anyB (ringX T k s) = 0; rw [ringX_q q, anyB_0]), Nat.or_zero]
      apply Nat.eq_of_testBit_eq
      intro j
      apply bool_iff
      rw [orN_tb]
      constructor
      · intro h
        exact ⟨tF T k, hF, by rw [if_pos ((may_q q).mpr rfl), secS, if_pos q]; exact h⟩
      · rintro ⟨s, hs, h⟩
        split at h
        · rw [secS, if_pos q] at h; exact h
        · simp at h
    · rw [wantX_p q, anyB_0, Nat.zero_or]
      refine orN_cong (fun s hs => ?_)
      by_cases c : may T k s = true
      · rw [if_pos c, ringX_p hk q c, any_ring (ringS_lt hw hk q c) (tB_lt hw hk q), secS, if_neg q]
      · rw [if_neg c, ringX, if_neg (fun z => c z.2.2), anyB_0]
  · rw [if_neg hk, wantX, if_neg (fun z => hk z.1), anyB_0, orN_0 (f := fun s => anyB (ringX T k s)) (fun s _ => by show anyB (ringX T k s) = 0; rw [ringX, if_neg (fun z => hk z.1), anyB_0])]
    rfl
theorem op_unwanted {σ : Mm} (hI : INV σ) : ∃ v, f_X9_unwanted σ = some v ∧ f_X10_unwanted σ = some v ∧ INV σ := by
  obtain ⟨S, hw, hX, hM⟩ := id hI
  have wT := hw.2.1
  have h5 := wT.2.1
  have xT := hX.2.1
  have mT := hM.2.1
  let f : Nat → Nat := fun k => anyB (wantX S.2.1 k) ||| orN (fun s => anyB (ringX S.2.1 k s)) 10
  have c1 : f_X8_wantedSeconds σ = some (nI (orN f 5)) := by
    unfold f_X8_wantedSeconds
    rw [← it_or (f := f) (fun _ _ => rfl) 5]
    refine (itL (fun n i a => f_X8_wantedSeconds_p4 σ n a i) some _ 5 (fun _ _ => True) trivial ?_ ?_ FU (by decide)).1
    · intro n i a hi _
      refine ⟨?_, trivial⟩
      simp only [f_X8_wantedSeconds_p4]
      rw [lI 5, if_neg (nI_ge hi (by decide)), xWants xT hi, b1_some, xAny σ (wantX_lt wT i), b1_some]
      have q := (itL (fun m j c => f_X8_wantedSeconds_p22 σ (f_X8_wantedSeconds_p46 σ (f_X8_wantedSeconds_p4 σ n)) m c (nI i) j) (fun c => f_X8_wantedSeconds_p46 σ (f_X8_wantedSeconds_p4 σ n) c (nI i)) (fun j c => c ||| nI (anyB (ringX S.2.1 i j))) 10 (fun _ _ => True) (a := a ||| nI (anyB (wantX S.2.1 i))) trivial ?_ ?_ FU (by decide)).1
      · refine q.trans ?_
        rw [it_or' (f := fun j => anyB (ringX S.2.1 i j)) (fun _ _ => rfl)]
        unfold f_X8_wantedSeconds_p46
        rw [lI 1, nI_add, Int32.or_assoc, or_nI]
      · intro m j c hj _
        refine ⟨?_, trivial⟩
        simp only [f_X8_wantedSeconds_p22]
        rw [lI 10, if_neg (nI_ge hj (by decide)), xRing xT hi hj, b1_some, xAny σ (ringX_lt wT i j), b1_some, lI 1, nI_add]
        rfl
      · intro m c _
        simp (disch := omega) only [f_X8_wantedSeconds_p22, lI 10, le_nI, Nat.le_refl, if_true]
    · intro n a _
      simp (disch := omega) only [f_X8_wantedSeconds_p4, lI 5, le_nI, Nat.le_refl, if_true]
  let g : Nat → Nat := fun k => orN (fun s => if may S.2.1 k s = true then secS S.2.1 k s else 0) 10
  have c2 : f_X10_unwanted σ = some (1023 &&& (nI (orN g (tNd S.2.1)) ^^^ -1)) := by
    unfold f_X10_unwanted
    rw [← it_or (f := g) (fun _ _ => rfl) (tNd S.2.1)]
    refine (itL (fun n i a => f_X10_unwanted_p4 σ n a i) (fun a => some (1023 &&& (a ^^^ -1))) _ (tNd S.2.1) (fun _ _ => True) trivial ?_ ?_ FU (by have : FU = 1000000000 := rfl; omega)).1
    · intro n i a hi _
      refine ⟨?_, trivial⟩
      simp only [f_X10_unwanted_p4]
      rw [mT.2.1, if_neg (nI_ge hi (by omega))]
      have q := (itL (fun m j c => f_X10_unwanted_p14 σ (f_X10_unwanted_p49 σ (f_X10_unwanted_p4 σ n)) m c (nI i) j) (fun c => f_X10_unwanted_p49 σ (f_X10_unwanted_p4 σ n) c (nI i)) (fun j c => c ||| nI (if may S.2.1 i j = true then secS S.2.1 i j else 0)) 10 (fun _ _ => True) (a := a) trivial ?_ ?_ FU (by decide)).1
      · refine q.trans ?_
        rw [it_or' (f := fun j => if may S.2.1 i j = true then secS S.2.1 i j else 0) (fun _ _ => rfl)]
        unfold f_X10_unwanted_p49
        rw [lI 1, nI_add]
      · intro m j c hj _
        refine ⟨?_, trivial⟩
        simp only [f_X10_unwanted_p14]
        rw [lI 10, if_neg (nI_ge hj (by decide)), mMay mT wT hi hj, b1_some, lI 1, nI_add]
        by_cases q : may S.2.1 i j = true
        · rw [if_pos q, if_neg (by decide), mSecs mT wT hi hj, b1_some, if_pos rfl, if_pos q]
          rfl
        · rw [if_neg q, if_pos rfl, if_neg q]
          rfl
      · intro m c _
        simp (disch := omega) only [f_X10_unwanted_p14, lI 10, le_nI, Nat.le_refl, if_true]
    · intro n a _
      simp (disch := omega) only [f_X10_unwanted_p4, mT.2.1, le_nI, Nat.le_refl, if_true]
  have e : orN f 5 = orN g (tNd S.2.1) := by
    rw [orN_ext (f := f) h5 (fun i h1 _ => by show _ = 0; exact (wan_k wT i).trans (if_neg (by omega)))]
    exact orN_cong (fun i hi => (wan_k wT i).trans (if_pos hi))
  refine ⟨1023 &&& (nI (orN f 5) ^^^ -1), ?_, ?_, hI⟩
  · unfold f_X9_unwanted
    rw [c1, b1_some]
  · rw [c2, e]
