/-! the class goes through the days of one bell -/
theorem foldA_tb {k : Nat} : ∀ {L : List Dy} {a : Nat}, (L.foldl (fun a D => a &&& letM D) a).testBit k = true ↔ a.testBit k = true ∧ ∀ D, D ∈ L → (letM D).testBit k = true
  | [], a => by simp
  | D :: L, a => by
    rw [List.foldl_cons, foldA_tb, Nat.testBit_and, Bool.and_eq_true]
    constructor
    · rintro ⟨⟨h1, h2⟩, h3⟩
      refine ⟨h1, fun E hE => ?_⟩
      rcases List.mem_cons.mp hE with rfl | h
      · exact h2
      · exact h3 E h
    · rintro ⟨h1, h2⟩
      exact ⟨⟨h1, h2 D (List.mem_cons_self ..)⟩, fun E hE => h2 E (List.mem_cons_of_mem _ hE)⟩
theorem foldO_tb {k : Nat} : ∀ {L : List Dy} {a : Nat}, (L.foldl (fun a D => a ||| letM D) a).testBit k = true ↔ a.testBit k = true ∨ ∃ D, D ∈ L ∧ (letM D).testBit k = true
  | [], a => by simp
  | D :: L, a => by
    rw [List.foldl_cons, foldO_tb, Nat.testBit_or, Bool.or_eq_true]
    constructor
    · rintro ((h | h) | ⟨E, hE, h⟩)
      · exact Or.inl h
      · exact Or.inr ⟨D, List.mem_cons_self .., h⟩
      · exact Or.inr ⟨E, List.mem_cons_of_mem _ hE, h⟩
    · rintro (h | ⟨E, hE, h⟩)
      · exact Or.inl (Or.inl h)
      · rcases List.mem_cons.mp hE with rfl | g
        · exact Or.inl (Or.inr h)
        · exact Or.inr ⟨E, g, h⟩
theorem foldA_lt {n : Nat} : ∀ {L : List Dy} {a : Nat}, a < 2 ^ n → L.foldl (fun a D => a &&& letM D) a < 2 ^ n
  | [], _, h => h
  | _ :: L, _, h => foldA_lt (L := L) (and_lt h)
theorem foldO_lt : ∀ {L : List Dy} {a : Nat}, a < 2 ^ 5 → L.foldl (fun a D => a ||| letM D) a < 2 ^ 5
  | [], _, h => h
  | D :: L, _, h => foldO_lt (L := L) (or_lt h (letM_lt D))
def silD (T : Tw) (ask : Nat) (D : Dy) : Bool := decide (rgE T D 5 &&& ask = 0)
def LB (σ : Mm) (T : Tw) (ask : Nat) (F : List Dy) : Prop := σ.1 39 7 = nI F.length ∧ σ.1 39 8 = nI (F.countP (silD T ask)) ∧ σ.1 39 9 = nI (F.foldl (fun a D => a &&& letM D) 31) ∧ σ.1 39 10 = nI (F.foldl (fun a D => a ||| letM D) 0)
def FW (σ τ : Mm) : Prop := (∀ c, c ≠ 39 → τ.1 c = σ.1 c) ∧ (∀ j, ¬ (7 ≤ j ∧ j ≤ 10) → τ.1 39 j = σ.1 39 j) ∧ τ.2 = σ.2
theorem FW.rf (σ : Mm) : FW σ σ := ⟨fun _ _ => rfl, fun _ _ => rfl, rfl⟩
theorem FW.tr {σ τ ρ : Mm} (h : FW σ τ) (g : FW τ ρ) : FW σ ρ := ⟨fun c hc => (g.1 c hc).trans (h.1 c hc), fun j hj => (g.2.1 j hj).trans (h.2.1 j hj), g.2.2.trans h.2.2⟩
theorem FW.w {σ τ : Mm} {j : Nat} {v : Int32} (h : FW σ τ) (hj : 7 ≤ j ∧ j ≤ 10) : FW σ (sI τ 39 j v) := ⟨fun c hc => ((sI_ne hc).1).trans (h.1 c hc), fun i hi => (sI_n (by omega)).trans (h.2.1 i hi), h.2.2⟩
theorem XTw.fw {σ τ : Mm} {T : Tw} (h : XTw σ T) (g : FW σ τ) : XTw τ T := h.of (fun k _ _ => g.1 k (by omega)) (by rw [g.2.2])
theorem xTallyD {σ : Mm} {T : Tw} (hw : WT T) {H : Hd} {β ask : Nat} (hβ : β < 3) (hmu : muM T H true < 2 ^ 30) (hask : ask < 2 ^ 30) (h5 : σ.1 39 5 = nI (muM T H true)) (h6 : σ.1 39 6 = nI ask) {F : List Dy} (hL : LB σ T ask F) (D : Dy) : ∃ τ, f_X2_tallyDay (nI β) (nI (rgE T D 5)) (nI (letM D)) σ = some τ ∧ FW σ τ ∧ LB τ T ask (F ++ [D].filter (okB T H β)) := by
  obtain ⟨l1, l2, l3, l4⟩ := hL
  have hr := rgE_lt hw D 5
  have hm : mB (muM T H true) β < 2 ^ 30 := and_lt hmu
  have ha := and_lt (b := ask) hr
  have hb := and_lt (b := mB (muM T H true) β) hr
  unfold f_X2_tallyDay
  rw [h5, lI 1023, lI 10, mul_nI, shl_nI 1023 (by omega), and_nI, bnd_eq, show (muM T H true &&& 1023 * 2 ^ (10 * β)) = mB (muM T H true) β from rfl, and_nI, sI_n (show ¬ (39 = 39 ∧ 6 = 7) by omega), h6, and_nI]
  by_cases c : rgE T D 5 &&& mB (muM T H true) β = mB (muM T H true) β
  · have ef : [D].filter (okB T H β) = [D] := List.filter_cons_of_pos (show okB T H β D = true from decide_eq_true c)
    rw [if_pos (by rw [c]), ef]
    by_cases s : rgE T D 5 &&& ask = 0
    · have es : silD T ask D = true := decide_eq_true s
      rw [if_pos (show nI (rgE T D 5 &&& ask) = 0 by rw [s]; rfl), bnd_eq, bnd_eq]
      refine ⟨_, rfl, ((((FW.rf σ).w (by omega)).w (by omega)).w (by omega)).w (by omega), ?_, ?_, ?_, ?_⟩
      · simp (disch := omega) only [sI_n, sI_s, l1, lI 1, nI_add]
        rw [List.length_append]; rfl
      · simp (disch := omega) only [sI_n, sI_s, l2, lI 1, nI_add]
        rw [List.countP_append]
        simp [es]
      · simp (disch := omega) only [sI_n, sI_s, l3, and_nI]
        rw [List.foldl_append]; rfl
      · simp (disch := omega) only [sI_n, sI_s, l4, or_nI]
        rw [List.foldl_append]; rfl
    · have es : silD T ask D = false := decide_eq_false s
      rw [if_neg (show ¬ nI (rgE T D 5 &&& ask) = 0 by rw [nI_0iff (by omega)]; exact s), bnd_eq, bnd_eq]
      refine ⟨_, rfl, ((((FW.rf σ).w (by omega)).w (by omega)).w (by omega)).w (by omega), ?_, ?_, ?_, ?_⟩
      · simp (disch := omega) only [sI_n, sI_s, l1, lI 1, nI_add]
        rw [List.length_append]; rfl
      · simp (disch := omega) only [sI_n, sI_s, l2, Int32.add_zero]
        rw [List.countP_append]
        simp [es]
      · simp (disch := omega) only [sI_n, sI_s, l3, and_nI]
        rw [List.foldl_append]; rfl
      · simp (disch := omega) only [sI_n, sI_s, l4, or_nI]
        rw [List.foldl_append]; rfl
  · have ef : [D].filter (okB T H β) = [] := List.filter_cons_of_neg (show ¬ okB T H β D = true from fun z => c (of_decide_eq_true z))
    rw [if_neg (show ¬ nI (rgE T D 5 &&& mB (muM T H true) β) = nI (mB (muM T H true) β) by rw [eq_nI (by omega) (by omega)]; exact c), ef, List.append_nil]
    exact ⟨σ, rfl, FW.rf σ, l1, l2, l3, l4⟩
theorem xPealOf {σ : Mm} {T : Tw} (h : XTw σ T) (hw : WT T) {b β : Nat} (hb : b < 5) (hβ : β < 3) : f_X8_isPealOf σ (nI b) (nI β) = some (if b < tNd T ∧ tN T b ≠ 0 ∧ tB T b = β then 1 else 0) := by
  unfold f_X8_isPealOf
  rw [hasB_lt h.2.1 hw.2.1 (by omega), b1_some]
  by_cases c : b < tNd T
  · rw [if_pos c, if_neg n10, at_eq σ 6 b 5 rfl hb (by decide), b1_some, (h.2.2.2.1 b c).1, eB]
    by_cases q : tN T b = 0
    · rw [if_pos q, if_neg (show ¬ (-9 : Int32) = nI β from fun z => by have := ne9 (n := β) (by omega); rw [z] at this; exact absurd rfl (fun y => by rw [this] at y; exact y)), if_neg (fun z => z.2.1 q)]
    · have := tB_lt hw c q
      rw [if_neg q]
      by_cases e : tB T b = β
      · rw [if_pos (by rw [e]), if_pos ⟨c, q, e⟩]
      · rw [if_neg (by rw [eq_nI (by omega) (by omega)]; exact e), if_neg (fun z => e z.2.2)]
  · rw [if_neg c, if_pos rfl, if_neg (fun z => c z.1)]
theorem xQuiet {σ : Mm} {T : Tw} (h : XTw σ T) (hw : WT T) {b : Nat} (hb : b < 5) : f_X8_isQuiet σ (nI b) = some (if b < tNd T ∧ tN T b = 0 then 1 else 0) := by
  unfold f_X8_isQuiet
  rw [hasB_lt h.2.1 hw.2.1 (by omega), b1_some]
  by_cases c : b < tNd T
  · rw [if_pos c, if_neg n10, at_eq σ 6 b 5 rfl hb (by decide), b1_some, (h.2.2.2.1 b c).1, eB]
    by_cases q : tN T b = 0
    · rw [if_pos q, if_pos rfl, if_pos ⟨c, q⟩]
    · have := tB_lt hw c q
      rw [if_neg q, if_neg (by rw [ne9 (by omega)]; exact fun z => z), if_neg (fun z => q z.2)]
  · rw [if_neg c, if_pos rfl, if_neg (fun z => c z.1)]
def lM (E : Dy) (b : Nat) : Nat := orN (fun o => if E o = 0 then 0 else 2 ^ o) b
theorem xWalkF {T : Tw} (hw : WT T) {H : Hd} {β w ask : Nat} (hβ : β < 3) (hmu : muM T H true < 2 ^ 30) (hask : ask < 2 ^ 30) (hwl : w < 2 ^ 30) : ∀ (m b : Nat) (E : Dy) (σ : Mm) (F : List Dy) (fuel : Nat), b + m = 5 → m < fuel → XTw σ T → σ.1 39 5 = nI (muM T H true) → σ.1 39 6 = nI ask → (∀ j, b ≤ j → E j = 0) → LB σ T ask F → ∃ τ, f_X2_walk fuel (nI b) (nI β) (lN (tkE T E b)) (nI (rgE T E b)) (nI w) (nI (lM E b)) σ = some τ ∧ FW σ τ ∧ LB τ T ask (F ++ (en (pF T β w) m b E).filter (okB T H β)) := by
  intro m
  induction m with
  | zero =>
    intro b E σ F fuel hb hf hx h5 h6 hz hL
    obtain ⟨fuel, rfl⟩ : ∃ f, fuel = f + 1 := ⟨fuel - 1, by omega⟩
    have eb : b = 5 := by omega
    subst eb
    obtain ⟨τ, t1, t2, t3⟩ := xTallyD hw hβ hmu hask h5 h6 hL E
    have t1' : f_X2_tallyDay (nI β) (nI (rgE T E 5)) (nI (lM E 5)) σ = some τ := t1
    refine ⟨τ, ?_, t2, t3⟩
    rw [f_X2_walk]
    unfold f_X2_walk_e
    rw [if_neg (nI_pos (by omega)), lI 5, if_neg (nI_nlt (Nat.le_refl _) (by decide)), t1', b1_some]
  | succ m ih =>
    intro b E σ F fuel hb hf hx h5 h6 hz hL
    obtain ⟨fuel, rfl⟩ : ∃ f, fuel = f + 1 := ⟨fuel - 1, by omega⟩
    have hb5 : b < 5 := by omega
    have hE0 : E b = 0 := hz b (Nat.le_refl _)
    have k1 : tkE T E (b + 1) = tkE T E b := orN_same (g := fun o v => takeX T o (v - 1)) hE0
    have k2 : rgE T E (b + 1) = rgE T E b := orN_same (g := fun o v => ringX T o (v - 1)) hE0
    have k3 : lM E (b + 1) = lM E b := orN_same (g := fun o _ => 2 ^ o) hE0
    obtain ⟨τ1, t1, t2, t3⟩ := ih (b + 1) E σ F fuel (by omega) (by omega) hx h5 h6 (fun j hj => hz j (by omega)) hL
    rw [k1, k2, k3] at t1
    have hx1 := hx.fw t2
    rw [f_X2_walk]
    unfold f_X2_walk_e
    rw [if_neg (nI_pos (by omega)), lI 5, if_pos (nI_lt hb5 (by decide)), lI 1, nI_add, t1, b1_some, xPealOf hx1 hw hb5 hβ, b1_some]
    let f : Nat → List Dy := fun v => if pF T β w E b v = true then en (pF T β w) m (b + 1) (upD E b v) else []
    have f0 : f 0 = en (pF T β w) m (b + 1) E := by
      show (if pF T β w E b 0 = true then _ else _) = _
      rw [if_pos (show pF T β w E b 0 = true from rfl), upD_0 hE0]
    have ef : en (pF T β w) (m + 1) b E = f 0 ++ catS f 10 1 := by
      rw [en, ← catS_0]; rfl
    by_cases c : b < tNd T ∧ tN T b ≠ 0 ∧ tB T b = β
    · rw [if_pos c, if_neg n10]
      have tl := tkE_lt hw E b
      have rl := rgE_lt hw E b
      have loop : ∀ (j s' n : Nat) (ζ : Mm) (G : List Dy), s' + j = 10 → j < n → XTw ζ T → ζ.1 39 5 = nI (muM T H true) → ζ.1 39 6 = nI ask → LB ζ T ask G → ∃ τ, f_X2_walk_p50 (f_X2_walk fuel) n (nI b) (nI β) (lN (tkE T E b)) (nI (rgE T E b)) (nI w) (nI (lM E b)) (nI s') ζ = some τ ∧ FW ζ τ ∧ LB τ T ask (G ++ (catS f j (s' + 1)).filter (okB T H β)) := by
        intro j
        induction j with
        | zero =>
          intro s' n ζ G hs' hn hxz z5 z6 hG
          obtain ⟨n, rfl⟩ : ∃ n', n = n' + 1 := ⟨n - 1, by omega⟩
          refine ⟨ζ, ?_, FW.rf ζ, ?_⟩
          · rw [f_X2_walk_p50, lI 10, if_pos (nI_le (by omega) (by omega))]
          · show LB ζ T ask (G ++ [])
            rw [List.append_nil]; exact hG
        | succ j ihj =>
          intro s' n ζ G hs' hn hxz z5 z6 hG
          obtain ⟨n, rfl⟩ : ∃ n', n = n' + 1 := ⟨n - 1, by omega⟩
          have h10 : s' < 10 := by omega
          have pxe : (pF T β w E b (s' + 1) = true) ↔ ((begX T b).testBit s' = true ∧ takeX T b s' &&& tkE T E b = 0 ∧ ringX T b s' &&& w = 0) := by
            rw [pF_iff (by omega)]
            exact ⟨fun z => z.2, fun z => ⟨c, z⟩⟩
          have a1 := and_lt (b := tkE T E b) (takeX_lt hw b s')
          have a2 := and_lt (b := w) (ringX_lt hw b s')
          have head : f_X2_walk_p50 (f_X2_walk fuel) (n + 1) (nI b) (nI β) (lN (tkE T E b)) (nI (rgE T E b)) (nI w) (nI (lM E b)) (nI s') ζ = if pF T β w E b (s' + 1) = true then b1 (f_X2_walk fuel (nI (b + 1)) (nI β) (lN (tkE T E b ||| takeX T b s')) (nI (rgE T E b ||| ringX T b s')) (nI w) (nI (lM E b ||| 2 ^ b)) ζ) (fun τ12 => f_X2_walk_p50 (f_X2_walk fuel) n (nI b) (nI β) (lN (tkE T E b)) (nI (rgE T E b)) (nI w) (nI (lM E b)) (nI (s' + 1)) τ12) else f_X2_walk_p50 (f_X2_walk fuel) n (nI b) (nI β) (lN (tkE T E b)) (nI (rgE T E b)) (nI w) (nI (lM E b)) (nI (s' + 1)) ζ := by
            rw [f_X2_walk_p50, lI 10, if_neg (nI_ge h10 (by decide)), xMay hxz hb5 h10, b1_some, xTakes hxz hb5 h10, b1_some, xRing hxz hb5 h10, b1_some, lI 1, nI_add]
            by_cases b1' : (begX T b).testBit s' = true
            · rw [if_pos b1', if_neg (show ¬ nI 1 = 0 by decide), and_lN, and_nI]
              by_cases b2' : takeX T b s' &&& tkE T E b = 0
              · rw [if_pos (show lg_cmp (lN (takeX T b s' &&& tkE T E b)) 0 = 0 by rw [lcm_eq, lN_0iff (by omega)]; exact b2')]
                by_cases b3' : ringX T b s' &&& w = 0
                · rw [if_pos (show nI (ringX T b s' &&& w) = 0 by rw [nI_0iff (by omega)]; exact b3'), if_pos (pxe.mpr ⟨b1', b2', b3'⟩), b1_some, b1_some, nI_add, or_lN, or_nI, shl_nI 1 (by omega), Nat.one_mul, or_nI]
                · rw [if_neg (show ¬ nI (ringX T b s' &&& w) = 0 by rw [nI_0iff (by omega)]; exact b3'), if_neg (fun z => b3' (pxe.mp z).2.2)]
              · rw [if_neg (show ¬ lg_cmp (lN (takeX T b s' &&& tkE T E b)) 0 = 0 by rw [lcm_eq, lN_0iff (by omega)]; exact b2'), if_neg (fun z => b2' (pxe.mp z).2.1)]
            · rw [if_neg b1', if_pos rfl, if_neg (fun z => b1' (pxe.mp z).1)]
          have ec : (catS f (j + 1) (s' + 1)).filter (okB T H β) = (f (s' + 1)).filter (okB T H β) ++ (catS f j (s' + 1 + 1)).filter (okB T H β) := by
            rw [catS, List.filter_append]
          rw [head, ec, ← List.append_assoc]
          by_cases cp : pF T β w E b (s' + 1) = true
          · have fv : f (s' + 1) = en (pF T β w) m (b + 1) (upD E b (s' + 1)) := if_pos cp
            have u1 : tkE T (upD E b (s' + 1)) (b + 1) = (tkE T E b ||| takeX T b s') := orN_up (g := fun o v => takeX T o (v - 1)) (by omega)
            have u2 : rgE T (upD E b (s' + 1)) (b + 1) = (rgE T E b ||| ringX T b s') := orN_up (g := fun o v => ringX T o (v - 1)) (by omega)
            have u3 : lM (upD E b (s' + 1)) (b + 1) = (lM E b ||| 2 ^ b) := orN_up (g := fun o _ => 2 ^ o) (by omega)
            obtain ⟨τ2, r1, r2, r3⟩ := ih (b + 1) (upD E b (s' + 1)) ζ G fuel (by omega) (by omega) hxz z5 z6 (fun i hi => by rw [upD_n (by omega)]; exact hz i (by omega)) hG
            rw [u1, u2, u3] at r1
            rw [if_pos cp, r1, b1_some]
            obtain ⟨τ3, q1, q2, q3⟩ := ihj (s' + 1) n τ2 (G ++ (en (pF T β w) m (b + 1) (upD E b (s' + 1))).filter (okB T H β)) (by omega) (by omega) (hxz.fw r2) (by rw [r2.2.1 5 (by omega)]; exact z5) (by rw [r2.2.1 6 (by omega)]; exact z6) r3
            rw [fv]
            exact ⟨τ3, q1, r2.tr q2, q3⟩
          · have fv : f (s' + 1) = [] := if_neg cp
            rw [if_neg cp, fv, List.filter_nil, List.append_nil]
            exact ihj (s' + 1) n ζ G (by omega) (by omega) hxz z5 z6 hG
      obtain ⟨τ, q1, q2, q3⟩ := loop 10 0 FU τ1 (F ++ (en (pF T β w) m (b + 1) E).filter (okB T H β)) (by omega) (by decide) hx1 (by rw [t2.2.1 5 (by omega)]; exact h5) (by rw [t2.2.1 6 (by omega)]; exact h6) t3
      refine ⟨τ, q1, t2.tr q2, ?_⟩
      rw [ef, List.filter_append, f0, ← List.append_assoc]
      exact q3
    · rw [if_neg c, if_pos rfl]
      refine ⟨τ1, rfl, t2, ?_⟩
      have em : ∀ j v, v ≠ 0 → catS f j v = [] := by
        intro j
        induction j with
        | zero => intro v _; rfl
        | succ j ih2 =>
          intro v hv
          rw [catS, ih2 (v + 1) (by omega), List.append_nil]
          show (if pF T β w E b v = true then _ else _) = _
          rw [if_neg (fun z => c ((pF_iff hv).mp z).1)]
      rw [ef, em 10 1 (by decide), List.append_nil, f0]
      exact t3
theorem xBell {σ : Mm} {T : Tw} (hx : XTw σ T) (hw : WT T) {H : Hd} {β w ask : Nat} (hβ : β < 3) (hmu : muM T H true < 2 ^ 30) (hask : ask < 2 ^ 30) (hwl : w < 2 ^ 30) (h5 : σ.1 39 5 = nI (muM T H true)) (h6 : σ.1 39 6 = nI ask) : ∃ τ, f_X2_tallyBell (nI β) (nI w) σ = some τ ∧ FW σ τ ∧ LB τ T ask ((en (pF T β w) 5 0 (fun _ => 0)).filter (okB T H β)) := by
  obtain ⟨σ1, e1⟩ : ∃ σ1, σ1 = sI (sI (sI (sI σ 39 7 0) 39 8 0) 39 9 31) 39 10 0 := ⟨_, rfl⟩
  have fw : FW σ σ1 := by rw [e1]; exact ((((FW.rf σ).w (by omega)).w (by omega)).w (by omega)).w (by omega)
  have lb : LB σ1 T ask [] := by
    rw [e1]
    refine ⟨?_, ?_, ?_, ?_⟩
    · rw [sI_n (by omega), sI_n (by omega), sI_n (by omega), sI_s]; rfl
    · rw [sI_n (by omega), sI_n (by omega), sI_s]; rfl
    · rw [sI_n (by omega), sI_s]; rfl
    · rw [sI_s]; rfl
  obtain ⟨τ, t1, t2, t3⟩ := xWalkF hw hβ hmu hask hwl 5 0 (fun _ => 0) σ1 [] 40 (by omega) (by omega) (hx.fw fw) (by rw [fw.2.1 5 (by omega)]; exact h5) (by rw [fw.2.1 6 (by omega)]; exact h6) (fun _ _ => rfl) lb
  have z1 : tkE T (fun _ => 0) 0 = 0 := rfl
  have z2 : rgE T (fun _ => 0) 0 = 0 := rfl
  have z3 : lM (fun _ => 0) 0 = 0 := rfl
  rw [z1, z2, z3, nI0, ← lL 0] at t1
  rw [List.nil_append] at t3
  refine ⟨τ, ?_, fw.tr t2, t3⟩
  unfold f_X2_tallyBell
  rw [bnd_eq, ← e1, t1, b1_some]
