/-! the class tallies the days that fit -/
theorem xToldM {σ : Mm} {H : Hd} (h : XH σ H) (hH : HB H) {T : Tw} (hw : WT T) (r : Bool) : f_X3_told σ (if r = true then 1 else 0) (nI (tNb T)) = some (nI (muM T H r)) := by
  have h3 := hw.1
  have h6 := hH.1
  unfold f_X3_told
  let g : Nat → Nat → Nat := fun i b => if (H.2 i).2.testBit b = r then 2 ^ (10 * b + (H.2 i).1) else 0
  have inner : ∀ (i A : Nat) (ke : Int32 → Int32 → Int32 → Int32 → Option Int32), i < H.1 → f_X3_told_p24 σ ke FU (if r = true then 1 else 0) (nI (tNb T)) (nI A) (nI i) 0 = ke (if r = true then 1 else 0) (nI (tNb T)) (nI (A ||| orN (g i) (tNb T))) (nI i) := by
    intro i A ke hi
    obtain ⟨w1, w2⟩ := hH.2 i hi
    obtain ⟨e1, e2⟩ := h.2 i hi
    have g6 : inB (nI i) 6 = true := inB_t (by omega) (by decide)
    have key := itL (fun m b (a : Int32) => f_X3_told_p24 σ ke m (if r = true then 1 else 0) (nI (tNb T)) a (nI i) b) (fun a => ke (if r = true then 1 else 0) (nI (tNb T)) a (nI i)) (fun b a => a ||| nI (g i b)) (tNb T) (fun b a => a = nI (A ||| orN (g i) b)) (a := nI A) (by rw [orN, Nat.or_zero]) ?_ ?_ FU (by have : FU = 1000000000 := rfl; omega)
    · have k1 : f_X3_told_p24 σ ke FU (if r = true then 1 else 0) (nI (tNb T)) (nI A) (nI i) (nI 0) = _ := key.1
      rw [key.2] at k1
      exact k1
    · intro m b a hb hp
      refine ⟨?_, ?_⟩
      · show f_X3_told_p24 σ ke (m + 1) (if r = true then 1 else 0) (nI (tNb T)) a (nI i) (nI b) = _
        rw [f_X3_told_p24, lI 3, if_neg (nI_ge (by omega) (by decide)), if_neg (nI_ge hb (by omega)), gd_t g6, cl_nI (by omega), e2]
        have p57 : ∀ (z : Bool), (H.2 i).2.testBit b = z → ∀ kh, f_X3_told_p57 σ kh ke (if r = true then 1 else 0) (nI (tNb T)) a (nI i) (nI b) (if z = true then 1 else 0) = kh (if r = true then 1 else 0) (nI (tNb T)) (a ||| nI (g i b)) (nI i) (nI (b + 1)) := by
          intro z hz kh
          unfold f_X3_told_p57
          rw [gd_t g6, bnd_eq, cl_nI (show i < 2 ^ 31 by omega), e1, lI 10, mul_nI, nI_add, lI 1, shl_nI 1 (by omega), Nat.one_mul, nI_add, ← lI 1]
          by_cases c : z = r
          · have eg : g i b = 2 ^ (10 * b + (H.2 i).1) := if_pos (hz.trans c)
            rw [if_pos (by rw [c]), eg]
          · have eg : g i b = 0 := if_neg (fun y => c (hz.symm.trans y))
            rw [if_neg (show ¬ (if z = true then (1 : Int32) else 0) = (if r = true then 1 else 0) by revert c; cases z <;> cases r <;> decide), eg, nI0]
        by_cases c : (H.2 i).2.testBit b = true
        · rw [if_pos (by rw [has_u (by omega) (by omega)]; exact c)]
          exact p57 true c _
        · rw [if_neg (by rw [has_u (by omega) (by omega)]; exact c)]
          exact p57 false (Bool.eq_false_iff.mpr c) _
      · rw [hp, or_nI, orN, Nat.or_assoc]
    · intro m a _
      show f_X3_told_p24 σ ke (m + 1) (if r = true then 1 else 0) (nI (tNb T)) a (nI i) (nI (tNb T)) = _
      rw [f_X3_told_p24]
      by_cases c : 3 ≤ tNb T
      · rw [lI 3, if_pos (nI_le c (by omega))]
      · rw [lI 3, if_neg (nI_ge (by omega) (by decide)), if_pos (nI_le (Nat.le_refl _) (by omega))]
  have key := itL (fun n i (a : Int32) => f_X3_told_p5 σ n (if r = true then 1 else 0) (nI (tNb T)) a i) some (fun i a => a ||| nI (orN (g i) (tNb T))) H.1 (fun i a => a = nI (orN (fun i => orN (g i) (tNb T)) i)) (a := (0 : Int32)) rfl ?_ ?_ FU (by have : FU = 1000000000 := rfl; omega)
  · have k1 : f_X3_told_p5 σ FU (if r = true then 1 else 0) (nI (tNb T)) 0 (nI 0) = _ := key.1
    rw [key.2] at k1
    exact k1
  · intro n i a hi hp
    refine ⟨?_, ?_⟩
    · show f_X3_told_p5 σ (n + 1) (if r = true then 1 else 0) (nI (tNb T)) a (nI i) = _
      rw [f_X3_told_p5, lI 6, if_neg (nI_ge (by omega) (by decide)), h.1, if_neg (nI_ge hi (by omega)), hp, inner i _ _ hi]
      unfold f_X3_told_p93
      rw [lI 1, nI_add, or_nI]
    · rw [hp, or_nI, orN]
  · intro n a _
    show f_X3_told_p5 σ (n + 1) (if r = true then 1 else 0) (nI (tNb T)) a (nI H.1) = _
    rw [f_X3_told_p5, h.1]
    by_cases c : 6 ≤ H.1
    · rw [lI 6, if_pos (nI_le c (by omega))]
    · rw [lI 6, if_neg (nI_ge (by omega) (by decide)), if_pos (nI_le (Nat.le_refl _) (by omega))]
theorem xQuiets {σ : Mm} {T : Tw} (h : XTw σ T) (hw : WT T) {Q : Nat} (hQ : Q < 2 ^ 5) : f_X2_areQuiets σ (nI Q) = some (if aQ T Q = true then 1 else 0) := by
  unfold f_X2_areQuiets aQ
  let f : Nat → Bool := fun k => !Q.testBit k || (decide (k < tNd T) && decide (tN T k = 0))
  have key : ∀ r i fu, i + r = 5 → r < fu → allN f i = true → f_X2_areQuiets_p2 σ fu (nI Q) (nI i) = some (if allN f 5 = true then 1 else 0) := by
    intro r
    induction r with
    | zero =>
      intro i fu hi hf ha
      obtain ⟨fu, rfl⟩ : ∃ f, fu = f + 1 := ⟨fu - 1, by omega⟩
      have e : i = 5 := by omega
      subst e
      rw [f_X2_areQuiets_p2, lI 5, if_pos (nI_le (Nat.le_refl _) (by decide)), if_pos ha]
    | succ r ih =>
      intro i fu hi hf ha
      obtain ⟨fu, rfl⟩ : ∃ f, fu = f + 1 := ⟨fu - 1, by omega⟩
      rw [f_X2_areQuiets_p2, lI 5, if_neg (nI_ge (by omega) (by decide))]
      by_cases c : Q.testBit i = true
      · rw [if_pos (by rw [has_u (by omega) (by omega)]; exact c), xQuiet h hw (by omega), b1_some]
        by_cases d : i < tNd T ∧ tN T i = 0
        · rw [if_pos d, if_neg n10, lI 1, nI_add]
          refine ih (i + 1) fu (by omega) (by omega) ?_
          rw [allN, ha]
          show (true && (!Q.testBit i || (decide (i < tNd T) && decide (tN T i = 0)))) = true
          simp [d]
        · rw [if_neg d, if_pos rfl, if_neg]
          intro z
          rw [allN_iff] at z
          have : (!Q.testBit i || (decide (i < tNd T) && decide (tN T i = 0))) = true := z i (by omega)
          rw [c] at this
          simp at this
          exact d this
      · rw [if_neg (by rw [has_u (by omega) (by omega)]; exact c), lI 1, nI_add]
        refine ih (i + 1) fu (by omega) (by omega) ?_
        rw [allN, ha]
        show (true && (!Q.testBit i || (decide (i < tNd T) && decide (tN T i = 0)))) = true
        simp [c]
  exact key 5 0 FU (by omega) (by decide) rfl
def prN (f : Nat → Nat) : Nat → Nat
  | 0 => 1
  | n + 1 => prN f n * f n
def tt : Dy → Bool := fun _ => true
def suQ (T : Tw) (H : Hd) (Q : Nat) : Nat := Q ||| orN (fun β => (FB T H Q β).foldl (fun a D => a &&& letM D) 31) 3
def peQ (T : Tw) (H : Hd) (Q : Nat) : Nat := Q ||| orN (fun β => (FB T H Q β).foldl (fun a D => a ||| letM D) 0) 3
theorem nQ_pr (T : Tw) (H : Hd) (e : Dy → Bool) (Q : Nat) : prN (fun β => (FB T H Q β).countP e) 3 = nQ T H e Q := by
  show 1 * _ * _ * _ = _
  rw [Nat.one_mul]; rfl
theorem tt_len (L : List Dy) : L.countP tt = L.length := congrFun List.countP_true L
theorem nQ_le (T : Tw) (H : Hd) (e : Dy → Bool) (Q : Nat) : nQ T H e Q ≤ nQ T H tt Q := by
  unfold nQ
  have h : ∀ β, (FB T H Q β).countP e ≤ (FB T H Q β).countP tt := fun β => by rw [tt_len]; exact List.countP_le_length
  exact Nat.mul_le_mul (Nat.mul_le_mul (h 0) (h 1)) (h 2)
def FT (σ τ : Mm) : Prop := (∀ c, c ≠ 39 → τ.1 c = σ.1 c) ∧ τ.1 39 5 = σ.1 39 5 ∧ τ.1 39 6 = σ.1 39 6 ∧ τ.2 = σ.2
theorem FT.rf (σ : Mm) : FT σ σ := ⟨fun _ _ => rfl, rfl, rfl, rfl⟩
theorem FT.tr {σ τ ρ : Mm} (h : FT σ τ) (g : FT τ ρ) : FT σ ρ := ⟨fun c hc => (g.1 c hc).trans (h.1 c hc), g.2.1.trans h.2.1, g.2.2.1.trans h.2.2.1, g.2.2.2.trans h.2.2.2⟩
theorem XTw.ft {σ τ : Mm} {T : Tw} (h : XTw σ T) (g : FT σ τ) : XTw τ T := h.of (fun k _ _ => g.1 k (by omega)) (by rw [g.2.2.2])
theorem wqM_lt {T : Tw} (hw : WT T) {H : Hd} (hH : HB H) (Q : Nat) : wqM T H Q < 2 ^ 30 := or_lt (muM_lt hw hH false) (orN_lt fun k _ => by
  split
  · exact wantX_lt hw k
  · decide)
theorem xBeside {σ : Mm} {T : Tw} (hx : XTw σ T) (hw : WT T) {H : Hd} (hH : HB H) {Q ask : Nat} (hQ : Q < 2 ^ 5) (ha : aQ T Q = true) (hask : ask < 2 ^ 30) (h5 : σ.1 39 5 = nI (muM T H true)) (h6 : σ.1 39 6 = nI ask) (hb : oQ T H Q = true → nQ T H tt Q < 2 ^ 31) : ∃ τ, f_X2_tallyBeside (nI Q) (nI (muM T H false)) σ = some τ ∧ FT σ τ ∧ ((oQ T H Q = true ∧ nQ T H tt Q ≠ 0 ∧ τ.1 39 1 = σ.1 39 1 + nI (nQ T H tt Q) ∧ τ.1 39 2 = σ.1 39 2 + nI (nQ T H (silD T ask) Q) ∧ τ.1 39 3 = σ.1 39 3 &&& nI (suQ T H Q) ∧ τ.1 39 4 = σ.1 39 4 ||| nI (peQ T H Q)) ∨ (¬ (oQ T H Q = true ∧ nQ T H tt Q ≠ 0) ∧ ∀ j, 1 ≤ j → j ≤ 4 → τ.1 39 j = σ.1 39 j)) := by
  have hmu := muM_lt hw hH true
  have hwq := wqM_lt hw hH Q
  unfold f_X2_tallyBeside
  let f : Nat → Nat := fun k => if Q.testBit k = true then wantX T k else 0
  have k1 := itL (fun n i (a : Int32) => f_X2_tallyBeside_p5 f_X2_tallyBeside_p43 n (nI Q) a i σ) (fun a => f_X2_tallyBeside_p43 (nI Q) a σ) (fun i a => a ||| nI (f i)) 5 (fun i a => a = nI (muM T H false ||| orN f i)) (a := nI (muM T H false)) (by rw [orN, Nat.or_zero]) ?_ ?_ FU (by decide)
  · have k2 : f_X2_tallyBeside_p5 f_X2_tallyBeside_p43 FU (nI Q) (nI (muM T H false)) (nI 0) σ = _ := k1.1
    rw [k1.2] at k2
    have k3 : f_X2_tallyBeside_p5 f_X2_tallyBeside_p43 FU (nI Q) (nI (muM T H false)) 0 σ = f_X2_tallyBeside_p43 (nI Q) (nI (wqM T H Q)) σ := k2
    rw [k3]
    unfold f_X2_tallyBeside_p43
    rw [h5, and_nI]
    have hal := and_lt (b := muM T H true) hwq
    by_cases c : wqM T H Q &&& muM T H true = 0
    · have ho : oQ T H Q = true := by unfold oQ; rw [ha, decide_eq_true c]; rfl
      have hb' := hb ho
      rw [if_pos (show nI (wqM T H Q &&& muM T H true) = 0 by rw [c]; rfl)]
      have key := itE (fun n i (a : Int32 × Int32 × Int32 × Int32 × Mm) => f_X2_tallyBeside_p68 f_X2_tallyBeside_p123 n (nI (wqM T H Q)) a.1 a.2.1 a.2.2.1 a.2.2.2.1 i a.2.2.2.2) (fun a => f_X2_tallyBeside_p123 a.1 a.2.1 a.2.2.1 a.2.2.2.1 a.2.2.2.2) 3 (fun β a => a.1 = nI (prN (fun β => (FB T H Q β).countP tt) β) ∧ a.2.1 = nI (prN (fun β => (FB T H Q β).countP (silD T ask)) β) ∧ a.2.2.1 = nI (Q ||| orN (fun β => (FB T H Q β).foldl (fun a D => a &&& letM D) 31) β) ∧ a.2.2.2.1 = nI (Q ||| orN (fun β => (FB T H Q β).foldl (fun a D => a ||| letM D) 0) β) ∧ FW σ a.2.2.2.2) (a := (1, 1, nI Q, nI Q, σ)) ⟨rfl, rfl, by rw [orN, Nat.or_zero], by rw [orN, Nat.or_zero], FW.rf σ⟩ ?_ ?_ FU (by decide)
      · obtain ⟨⟨y1, y2, y3, y4, τ⟩, e, p1, p2, p3, p4, p5⟩ := key
        have e' : f_X2_tallyBeside_p68 f_X2_tallyBeside_p123 FU (nI (wqM T H Q)) 1 1 (nI Q) (nI Q) 0 σ = f_X2_tallyBeside_p123 y1 y2 y3 y4 τ := e
        rw [nQ_pr] at p1 p2
        have p1 : y1 = nI (nQ T H tt Q) := p1
        have p2 : y2 = nI (nQ T H (silD T ask) Q) := p2
        have p3 : y3 = nI (suQ T H Q) := p3
        have p4 : y4 = nI (peQ T H Q) := p4
        have p5 : FW σ τ := p5
        rw [e', p1, p2, p3, p4]
        unfold f_X2_tallyBeside_p123
        by_cases d : nQ T H tt Q = 0
        · rw [if_pos (by rw [le0_nI hb']; exact d)]
          exact ⟨τ, rfl, ⟨p5.1, p5.2.1 5 (by omega), p5.2.1 6 (by omega), p5.2.2⟩, Or.inr ⟨fun z => z.2 d, fun j h1 h2 => p5.2.1 j (by omega)⟩⟩
        · rw [if_neg (by rw [le0_nI hb']; exact d), bnd_eq, bnd_eq]
          refine ⟨_, rfl, ⟨fun c hc => ?_, ?_, ?_, ?_⟩, Or.inl ⟨ho, d, ?_, ?_, ?_, ?_⟩⟩
          · rw [(sI_ne hc).1, (sI_ne hc).1, (sI_ne hc).1, (sI_ne hc).1]; exact p5.1 c hc
          · simp (disch := omega) only [sI_n]
            exact p5.2.1 5 (by omega)
          · simp (disch := omega) only [sI_n]
            exact p5.2.1 6 (by omega)
          · exact p5.2.2
          · simp (disch := omega) only [sI_n, sI_s]
            rw [p5.2.1 1 (by omega)]
          · simp (disch := omega) only [sI_n, sI_s]
            rw [p5.2.1 2 (by omega)]
          · simp (disch := omega) only [sI_n, sI_s]
            rw [p5.2.1 3 (by omega)]
          · simp (disch := omega) only [sI_n, sI_s]
            rw [p5.2.1 4 (by omega)]
      · rintro n β ⟨y1, y2, y3, y4, τ⟩ hβ ⟨p1, p2, p3, p4, p5⟩
        have p5 : FW σ τ := p5
        obtain ⟨τ2, t1, t2, l1, l2, l3, l4⟩ := xBell (hx.fw p5) hw hβ hmu hask hwq (by rw [p5.2.1 5 (by omega)]; exact h5) (by rw [p5.2.1 6 (by omega)]; exact h6)
        refine ⟨(y1 * τ2.1 39 7, y2 * τ2.1 39 8, y3 ||| τ2.1 39 9, y4 ||| τ2.1 39 10, τ2), ?_, ?_, ?_, ?_, ?_, p5.tr t2⟩
        · show f_X2_tallyBeside_p68 f_X2_tallyBeside_p123 (n + 1) (nI (wqM T H Q)) y1 y2 y3 y4 (nI β) τ = _
          rw [f_X2_tallyBeside_p68, lI 3, if_neg (nI_ge hβ (by decide)), t1, b1_some, lI 1, nI_add]
        · show y1 * τ2.1 39 7 = _
          rw [l1, show y1 = _ from p1, mul_nI, prN]
          show _ = nI (_ * (FB T H Q β).countP tt)
          rw [tt_len]; rfl
        · show y2 * τ2.1 39 8 = _
          rw [l2, show y2 = _ from p2, mul_nI, prN]; rfl
        · show (y3 ||| τ2.1 39 9) = _
          rw [l3, show y3 = _ from p3, or_nI, orN, Nat.or_assoc]; rfl
        · show (y4 ||| τ2.1 39 10) = _
          rw [l4, show y4 = _ from p4, or_nI, orN, Nat.or_assoc]; rfl
      · rintro n ⟨y1, y2, y3, y4, τ⟩ _
        show f_X2_tallyBeside_p68 f_X2_tallyBeside_p123 (n + 1) (nI (wqM T H Q)) y1 y2 y3 y4 (nI 3) τ = _
        rw [f_X2_tallyBeside_p68, lI 3, if_pos (nI_le (Nat.le_refl _) (by decide))]
    · rw [if_neg (show ¬ nI (wqM T H Q &&& muM T H true) = 0 by rw [nI_0iff (by omega)]; exact c)]
      refine ⟨σ, rfl, FT.rf σ, Or.inr ⟨fun z => ?_, fun _ _ _ => rfl⟩⟩
      have := z.1
      unfold oQ at this
      rw [Bool.and_eq_true, decide_eq_true_eq] at this
      exact c this.2
  · intro n i a hi hp
    refine ⟨?_, by rw [hp, or_nI, orN, Nat.or_assoc]⟩
    show f_X2_tallyBeside_p5 f_X2_tallyBeside_p43 (n + 1) (nI Q) a (nI i) σ = _
    rw [f_X2_tallyBeside_p5, lI 5, if_neg (nI_ge hi (by decide))]
    by_cases c : Q.testBit i = true
    · have ef : f i = wantX T i := if_pos c
      rw [if_pos (by rw [has_u (by omega) (by omega)]; exact c), xWants hx hi, b1_some, lI 1, nI_add, ef]
    · have ef : f i = 0 := if_neg c
      rw [if_neg (by rw [has_u (by omega) (by omega)]; exact c), lI 1, nI_add, ef, nI0]
  · intro n a _
    show f_X2_tallyBeside_p5 f_X2_tallyBeside_p43 (n + 1) (nI Q) a (nI 5) σ = _
    rw [f_X2_tallyBeside_p5, lI 5, if_pos (nI_le (Nat.le_refl _) (by decide))]
/-- what the class has tallied beside the sets of quiets ahead of i -/
def TL (σ : Mm) (T : Tw) (H : Hd) (ask i : Nat) : Prop := σ.1 39 1 = nI (suN (fun Q => if oQ T H Q = true then nQ T H tt Q else 0) i) ∧ σ.1 39 2 = nI (suN (fun Q => if oQ T H Q = true then nQ T H (silD T ask) Q else 0) i) ∧ ∃ A O, σ.1 39 3 = nI A ∧ σ.1 39 4 = nI O ∧ A < 2 ^ 5 ∧ O < 2 ^ 5 ∧ (∀ k, A.testBit k = true ↔ k < 5 ∧ ∀ Q, Q < i → oQ T H Q = true → nQ T H tt Q ≠ 0 → (suQ T H Q).testBit k = true) ∧ ∀ k, O.testBit k = true ↔ ∃ Q, Q < i ∧ oQ T H Q = true ∧ nQ T H tt Q ≠ 0 ∧ (peQ T H Q).testBit k = true
theorem TL.no {σ τ : Mm} {T : Tw} {H : Hd} {ask i : Nat} (h : TL σ T H ask i) (hn : ¬ (oQ T H i = true ∧ nQ T H tt i ≠ 0)) (e : ∀ j, 1 ≤ j → j ≤ 4 → τ.1 39 j = σ.1 39 j) : TL τ T H ask (i + 1) := by
  obtain ⟨h1, h2, A, O, h3, h4, h5, h6, h7, h8⟩ := h
  have z1 : (if oQ T H i = true then nQ T H tt i else 0) = 0 := by
    by_cases c : oQ T H i = true
    · rw [if_pos c]; exact Decidable.byContradiction fun z => hn ⟨c, z⟩
    · rw [if_neg c]
  have z2 : (if oQ T H i = true then nQ T H (silD T ask) i else 0) = 0 := by
    by_cases c : oQ T H i = true
    · rw [if_pos c] at z1 ⊢
      have := nQ_le T H (silD T ask) i
      omega
    · rw [if_neg c]
  refine ⟨?_, ?_, A, O, ?_, ?_, h5, h6, fun k => ?_, fun k => ?_⟩
  · rw [e 1 (by decide) (by decide), h1, suN, z1, Nat.add_zero]
  · rw [e 2 (by decide) (by decide), h2, suN, z2, Nat.add_zero]
  · rw [e 3 (by decide) (by decide), h3]
  · rw [e 4 (by decide) (by decide), h4]
  · rw [h7 k]
    refine and_congr_right fun _ => ⟨fun z Q hQ c d => ?_, fun z Q hQ => z Q (by omega)⟩
    by_cases q : Q = i
    · rw [q] at c d; exact absurd ⟨c, d⟩ hn
    · exact z Q (by omega) c d
  · rw [h8 k]
    constructor
    · rintro ⟨Q, a, b⟩
      exact ⟨Q, by omega, b⟩
    · rintro ⟨Q, a, b, c, d⟩
      by_cases q : Q = i
      · rw [q] at b c; exact absurd ⟨b, c⟩ hn
      · exact ⟨Q, by omega, b, c, d⟩
theorem peQ_lt {T : Tw} {H : Hd} {Q : Nat} (hQ : Q < 2 ^ 5) : peQ T H Q < 2 ^ 5 := or_lt hQ (orN_lt fun _ _ => foldO_lt (by decide))
theorem TL.yes {σ τ : Mm} {T : Tw} {H : Hd} {ask i : Nat} (h : TL σ T H ask i) (hi : i < 2 ^ 5) (ho : oQ T H i = true) (hn : nQ T H tt i ≠ 0) (e1 : τ.1 39 1 = σ.1 39 1 + nI (nQ T H tt i)) (e2 : τ.1 39 2 = σ.1 39 2 + nI (nQ T H (silD T ask) i)) (e3 : τ.1 39 3 = σ.1 39 3 &&& nI (suQ T H i)) (e4 : τ.1 39 4 = σ.1 39 4 ||| nI (peQ T H i)) : TL τ T H ask (i + 1) := by
  obtain ⟨h1, h2, A, O, h3, h4, h5, h6, h7, h8⟩ := h
  refine ⟨?_, ?_, A &&& suQ T H i, O ||| peQ T H i, ?_, ?_, and_lt h5, or_lt h6 (peQ_lt hi), fun k => ?_, fun k => ?_⟩
  · rw [e1, h1, suN, if_pos ho, nI_add]
  · rw [e2, h2, suN, if_pos ho, nI_add]
  · rw [e3, h3, and_nI]
  · rw [e4, h4, or_nI]
  · rw [Nat.testBit_and, Bool.and_eq_true, h7 k]
    constructor
    · rintro ⟨⟨a, b⟩, c⟩
      refine ⟨a, fun Q hQ d1 d2 => ?_⟩
      by_cases q : Q = i
      · rw [q]; exact c
      · exact b Q (by omega) d1 d2
    · rintro ⟨a, b⟩
      exact ⟨⟨a, fun Q hQ => b Q (by omega)⟩, b i (by omega) ho hn⟩
  · rw [Nat.testBit_or, Bool.or_eq_true, h8 k]
    constructor
    · rintro (⟨Q, a, b⟩ | z)
      · exact ⟨Q, by omega, b⟩
      · exact ⟨i, by omega, ho, hn, z⟩
    · rintro ⟨Q, a, b, c, d⟩
      by_cases q : Q = i
      · rw [q] at d; exact Or.inr d
      · exact Or.inl ⟨Q, by omega, b, c, d⟩
theorem xTally {σ : Mm} {T : Tw} (hx : XTw σ T) (hw : WT T) {H : Hd} (hXH : XH σ H) (hH : HB H) {ask : Nat} (hask : ask < 2 ^ 30) (hb : ∀ Q, Q < 32 → oQ T H Q = true → nQ T H tt Q < 2 ^ 31) : ∃ τ, f_X2_tally (nI ask) σ = some τ ∧ (∀ c, c ≠ 39 → τ.1 c = σ.1 c) ∧ τ.2 = σ.2 ∧ TL τ T H ask 32 := by
  obtain ⟨σ1, e1⟩ : ∃ σ1, σ1 = sI (sI (sI (sI (sI σ 39 1 0) 39 2 0) 39 3 31) 39 4 0) 39 6 (nI ask) := ⟨_, rfl⟩
  have f1 : ∀ c, c ≠ 39 → σ1.1 c = σ.1 c := fun c hc => by rw [e1, (sI_ne hc).1, (sI_ne hc).1, (sI_ne hc).1, (sI_ne hc).1, (sI_ne hc).1]
  have f2 : σ1.2 = σ.2 := by rw [e1]; rfl
  obtain ⟨σ2, e2⟩ : ∃ σ2, σ2 = sI σ1 39 5 (nI (muM T H true)) := ⟨_, rfl⟩
  have g1 : ∀ c, c ≠ 39 → σ2.1 c = σ.1 c := fun c hc => by rw [e2, (sI_ne hc).1]; exact f1 c hc
  have g2 : σ2.2 = σ.2 := by rw [e2]; exact f2
  have xh1 : XH σ1 H := hXH.of (f1 36 (by decide)) (f1 37 (by decide)) (f1 38 (by decide))
  have xh2 : XH σ2 H := hXH.of (g1 36 (by decide)) (g1 37 (by decide)) (g1 38 (by decide))
  have n1 : σ1.1 3 0 = nI (tNb T) := by rw [f1 3 (by decide)]; exact hx.1
  have n2 : σ2.1 3 0 = nI (tNb T) := by rw [g1 3 (by decide)]; exact hx.1
  have x2 : XTw σ2 T := hx.of (fun k _ _ => g1 k (by omega)) (by rw [g2])
  have t1 : f_X3_told σ1 1 (nI (tNb T)) = some (nI (muM T H true)) := xToldM xh1 hH hw true
  have t2 : f_X3_told σ2 0 (nI (tNb T)) = some (nI (muM T H false)) := xToldM xh2 hH hw false
  have c5 : σ2.1 39 5 = nI (muM T H true) := by rw [e2, sI_s]
  have c6 : σ2.1 39 6 = nI ask := by rw [e2, sI_n (by omega), e1, sI_s]
  have tl0 : TL σ2 T H ask 0 := by
    refine ⟨?_, ?_, 31, 0, ?_, ?_, by decide, by decide, fun k => ?_, fun k => ?_⟩
    · rw [e2, sI_n (by omega), e1]
      simp (disch := omega) only [sI_n, sI_s]
      rfl
    · rw [e2, sI_n (by omega), e1]
      simp (disch := omega) only [sI_n, sI_s]
      rfl
    · rw [e2, sI_n (by omega), e1]
      simp (disch := omega) only [sI_n, sI_s]
      rfl
    · rw [e2, sI_n (by omega), e1]
      simp (disch := omega) only [sI_n, sI_s]
      rfl
    · rw [show (31 : Nat) = 2 ^ 5 - 1 from rfl, Nat.testBit_two_pow_sub_one, decide_eq_true_eq]
      exact ⟨fun z => ⟨z, fun Q hQ => by omega⟩, fun z => z.1⟩
    · rw [z_tb]
      exact ⟨fun z => absurd z (by decide), fun ⟨Q, hQ, _⟩ => absurd hQ (by omega)⟩
  unfold f_X2_tally
  rw [bnd_eq, ← e1, n1, t1, b1_some, ← e2, n2, t2, b1_some]
  have key := itE (fun n i τ => f_X2_tally_p58 n (nI (muM T H false)) i τ) some 32 (fun i τ => FT σ2 τ ∧ TL τ T H ask i) (a := σ2) ⟨FT.rf σ2, tl0⟩ ?_ ?_ FU (by decide)
  · obtain ⟨τ, k1, k2, k3⟩ := key
    exact ⟨τ, k1, fun c hc => (k2.1 c hc).trans (g1 c hc), k2.2.2.2.trans g2, k3⟩
  · rintro n Q τ hQ ⟨p1, p2⟩
    have xt := x2.ft p1
    by_cases a : aQ T Q = true
    · obtain ⟨τ2, q1, q2, q3⟩ := xBeside xt hw hH (show Q < 2 ^ 5 from hQ) a hask (by rw [p1.2.1]; exact c5) (by rw [p1.2.2.1]; exact c6) (hb Q hQ)
      refine ⟨τ2, ?_, p1.tr q2, ?_⟩
      · show f_X2_tally_p58 (n + 1) (nI (muM T H false)) (nI Q) τ = _
        rw [f_X2_tally_p58, lI 31, if_neg (nI_nlt (by omega) (by decide)), xQuiets xt hw (show Q < 2 ^ 5 from hQ), b1_some, if_pos a, if_neg n10, q1, b1_some, lI 1, nI_add]
      · rcases q3 with ⟨r1, r2, r3, r4, r5, r6⟩ | ⟨r1, r2⟩
        · exact p2.yes hQ r1 r2 r3 r4 r5 r6
        · exact p2.no r1 r2
    · refine ⟨τ, ?_, p1, p2.no (fun z => a (oQ_a z.1)) (fun _ _ _ => rfl)⟩
      show f_X2_tally_p58 (n + 1) (nI (muM T H false)) (nI Q) τ = _
      rw [f_X2_tally_p58, lI 31, if_neg (nI_nlt (by omega) (by decide)), xQuiets xt hw (show Q < 2 ^ 5 from hQ), b1_some, if_neg a, if_pos rfl, lI 1, nI_add]
  · rintro n τ _
    show f_X2_tally_p58 (n + 1) (nI (muM T H false)) (nI 32) τ = _
    rw [f_X2_tally_p58, lI 31, if_pos (nI_lt (by decide) (by decide))]
