/-! the class looks for the day of most weight -/
def rs (wt : Nat → Nat) : Nat → Nat
  | 0 => 0
  | m + 1 => rs wt m + wt (4 - m)
def wS (wt : Nat → Nat) (D : Dy) (n : Nat) : Nat := suN (fun k => if D k = 0 then 0 else wt k) n
def tkE (T : Tw) (E : Dy) (b : Nat) : Nat := orN (fun o => if E o = 0 then 0 else takeX T o (E o - 1)) b
def rgE (T : Tw) (E : Dy) (b : Nat) : Nat := orN (fun o => if E o = 0 then 0 else ringX T o (E o - 1)) b
def wnE (T : Tw) (E : Dy) (b : Nat) : Nat := orN (fun o => if E o = 0 then 0 else wantX T o) b
def pX (T : Tw) (wt : Nat → Nat) (t0 r0 w0 : Nat) (E : Dy) (b v : Nat) : Bool := decide (v = 0) || (decide (wt b ≠ 0) && ((begX T b).testBit (v - 1) && (decide (takeX T b (v - 1) &&& (t0 ||| tkE T E b) = 0) && (decide (ringX T b (v - 1) &&& (w0 ||| wnE T E b) = 0) && decide (wantX T b &&& (r0 ||| rgE T E b) = 0)))))
theorem pX_loc (T : Tw) (wt : Nat → Nat) (t0 r0 w0 : Nat) : Loc (pX T wt t0 r0 w0) := fun E F b v h => by
  unfold pX
  have e1 : tkE T E b = tkE T F b := orN_cong (fun o ho => by rw [h o ho])
  have e2 : rgE T E b = rgE T F b := orN_cong (fun o ho => by rw [h o ho])
  have e3 : wnE T E b = wnE T F b := orN_cong (fun o ho => by rw [h o ho])
  rw [e1, e2, e3]
def XW (σ : Mm) (T : Tw) (wt : Nat → Nat) : Prop := XTw σ T ∧ (∀ b, b < 5 → σ.1 30 b = nI (wt b)) ∧ ∀ b, b ≤ 5 → σ.1 31 b = nI (rs wt (5 - b))
def WFr (σ τ : Mm) : Prop := (∀ c, c ≠ 29 → c ≠ 33 → c ≠ 35 → τ.1 c = σ.1 c) ∧ (∀ j, j ≠ 5 → τ.1 29 j = σ.1 29 j) ∧ τ.2 = σ.2
theorem WFr.rf (σ : Mm) : WFr σ σ := ⟨fun _ _ _ _ => rfl, fun _ _ => rfl, rfl⟩
theorem WFr.tr {σ τ ρ : Mm} (h : WFr σ τ) (g : WFr τ ρ) : WFr σ ρ := ⟨fun c h1 h2 h3 => (g.1 c h1 h2 h3).trans (h.1 c h1 h2 h3), fun j hj => (g.2.1 j hj).trans (h.2.1 j hj), g.2.2.trans h.2.2⟩
theorem XW.of {σ τ : Mm} {T : Tw} {wt : Nat → Nat} (h : XW σ T wt) (g : WFr σ τ) : XW τ T wt := ⟨h.1.of (fun k h1 h2 => g.1 k (by omega) (by omega) (by omega)) (by rw [g.2.2]), by rw [g.1 30 (by decide) (by decide) (by decide)]; exact h.2.1, by rw [g.1 31 (by decide) (by decide) (by decide)]; exact h.2.2⟩
theorem WFr.t33 {σ : Mm} {j : Nat} {v : Int32} : WFr σ (sI σ 33 j v) := ⟨fun c _ h _ => (sI_ne h).1, fun j _ => by rw [(sI_ne (by decide)).1], rfl⟩
def RW (σ : Mm) (s : Bs) : Prop := match s with
  | none => σ.1 29 5 = -9
  | some (M, F) => M < 2 ^ 20 ∧ σ.1 29 5 = nI M ∧ ∀ b, b < 5 → σ.1 35 b = nI (F b)
theorem RW.of {σ τ : Mm} {s : Bs} (h : RW σ s) (h1 : τ.1 29 5 = σ.1 29 5) (h2 : τ.1 35 = σ.1 35) : RW τ s := by
  cases s with
  | none => exact h1.trans h
  | some p => exact ⟨h.1, h1.trans h.2.1, fun b hb => by rw [h2]; exact h.2.2 b hb⟩
theorem wS_le {wt : Nat → Nat} {D : Dy} : ∀ (m b : Nat), b + m = 5 → wS wt D 5 ≤ wS wt D b + rs wt m
  | 0, b, h => by rw [show b = 5 by omega]; exact Nat.le_add_right _ _
  | m + 1, b, h => by
    have h1 := wS_le (wt := wt) (D := D) m (b + 1) (by omega)
    have h2 : wS wt D (b + 1) = wS wt D b + if D b = 0 then 0 else wt b := rfl
    have h3 : rs wt (m + 1) = rs wt m + wt (4 - m) := rfl
    rw [h3, show 4 - m = b by omega]
    rw [h2] at h1
    split at h1 <;> omega
theorem wS_cong {wt : Nat → Nat} {D E : Dy} {b : Nat} (h : ∀ j, j < b → D j = E j) : wS wt D b = wS wt E b := suN_cong (fun i hi => by rw [h i hi])
theorem wS_b {wt : Nat → Nat} (hwt : ∀ b, wt b ≤ 9) (D : Dy) (n : Nat) : wS wt D n ≤ n * 9 := suN_le (fun i _ => by
  show (if D i = 0 then 0 else wt i) ≤ 9
  have := hwt i
  split <;> omega)
theorem rs_b {wt : Nat → Nat} (hwt : ∀ b, wt b ≤ 9) : ∀ n, rs wt n ≤ n * 9
  | 0 => Nat.le_refl _
  | n + 1 => by
    have := rs_b hwt n
    have h2 := hwt (4 - n)
    show rs wt n + wt (4 - n) ≤ (n + 1) * 9
    omega
theorem tkE_lt {T : Tw} (hw : WT T) (E : Dy) (b : Nat) : tkE T E b < 2 ^ 36 := orN_lt fun i _ => by
  split
  · decide
  · exact takeX_lt hw _ _
theorem rgE_lt {T : Tw} (hw : WT T) (E : Dy) (b : Nat) : rgE T E b < 2 ^ 30 := orN_lt fun i _ => by
  split
  · decide
  · exact ringX_lt hw _ _
theorem wnE_lt {T : Tw} (hw : WT T) (E : Dy) (b : Nat) : wnE T E b < 2 ^ 30 := orN_lt fun i _ => by
  split
  · decide
  · exact wantX_lt hw _
theorem orN_up {g : Nat → Nat → Nat} {E : Dy} {b v : Nat} (hv : v ≠ 0) : orN (fun o => if upD E b v o = 0 then 0 else g o (upD E b v o)) (b + 1) = (orN (fun o => if E o = 0 then 0 else g o (E o)) b ||| g b v) := by
  rw [orN]
  have e1 : orN (fun o => if upD E b v o = 0 then 0 else g o (upD E b v o)) b = orN (fun o => if E o = 0 then 0 else g o (E o)) b := orN_cong (fun o ho => by rw [show upD E b v o = E o from if_neg (by omega)])
  rw [e1, show upD E b v b = v from if_pos rfl, if_neg hv]
theorem orN_same {g : Nat → Nat → Nat} {E : Dy} {b : Nat} (h0 : E b = 0) : orN (fun o => if E o = 0 then 0 else g o (E o)) (b + 1) = orN (fun o => if E o = 0 then 0 else g o (E o)) b := by
  rw [orN, if_pos h0, Nat.or_zero]
theorem xWalk {T : Tw} (hw : WT T) {wt : Nat → Nat} (hwt : ∀ b, wt b ≤ 9) {t0 r0 w0 : Nat} (ht0 : t0 < 2 ^ 36) (hr0 : r0 < 2 ^ 30) (hw0 : w0 < 2 ^ 30) : ∀ (m b : Nat) (E : Dy) (σ : Mm) (s : Bs) (fuel : Nat), b + m = 5 → m < fuel → XW σ T wt → (∀ o, o < b → σ.1 33 o = nI (E o)) → (∀ j, b ≤ j → E j = 0) → RW σ s → ∃ τ, f_X4_walk fuel (nI b) (nI (wS wt E b)) (lN (t0 ||| tkE T E b)) (nI (r0 ||| rgE T E b)) (nI (w0 ||| wnE T E b)) σ = some τ ∧ WFr σ τ ∧ (∀ o, o < b → τ.1 33 o = σ.1 33 o) ∧ RW τ (bsL (fun D => wS wt D 5) s (en (pX T wt t0 r0 w0) m b E)) := by
  intro m
  induction m with
  | zero =>
    intro b E σ s fuel hb hf hx hd hz hs
    obtain ⟨fuel, rfl⟩ : ∃ f, fuel = f + 1 := ⟨fuel - 1, by omega⟩
    have eb : b = 5 := by omega
    subst eb
    have hg := wS_b hwt E 5
    have e31 : σ.1 31 5 = nI 0 := hx.2.2 5 (Nat.le_refl _)
    rw [f_X4_walk]
    unfold f_X4_walk_e
    rw [if_neg (nI_pos (by omega)), lI 5, if_neg (nI_nlt (Nat.le_refl _) (by decide)), gd_t (inB_t (by decide) (by decide)), cl_nI (by omega), e31, nI_add, Nat.add_zero, if_pos rfl]
    have take : ∃ τ, b1 (f_X1_copy 34 32 (sI σ 29 5 (nI (wS wt E 5)))) (fun τ7 => some τ7) = some τ ∧ WFr σ τ ∧ (∀ o, o < 5 → τ.1 33 o = σ.1 33 o) ∧ RW τ (some (wS wt E 5, E)) := by
      rw [copy_eq (by decide), b1_some, c34, c32]
      refine ⟨_, rfl, ⟨fun c h1 h2 h3 => ?_, fun j hj => ?_, rfl⟩, fun o ho => ?_, ?_, ?_, fun b hb => ?_⟩
      · rw [putR_ne h3, (sI_ne h1).1]
      · rw [putR_ne (show 29 ≠ 35 by decide), sI_n (by omega)]
      · rw [putR_ne (show 33 ≠ 35 by decide), sI_n (by omega)]
      · omega
      · rw [putR_ne (show 29 ≠ 35 by decide), sI_s]
      · have := putR_at (σ := sI σ 29 5 (nI (wS wt E 5))) (c := 35) (base := 0) (f := (sI σ 29 5 (nI (wS wt E 5))).1 33) hb
        rw [Nat.zero_add] at this
        refine this.trans ?_
        rw [sI_n (by omega)]
        exact hd b hb
    cases s with
    | none =>
      have e9 : σ.1 29 5 = -9 := hs
      rw [e9, if_pos]
      · exact take
      · rw [Int32.lt_iff_toInt_lt, nI_toInt (show wS wt E 5 < 2 ^ 31 by omega)]
        have : (-9 : Int32).toInt = -9 := by decide
        omega
    | some p =>
      obtain ⟨M, F⟩ := p
      obtain ⟨h1, h2, h3⟩ := hs
      rw [h2]
      by_cases c : M < wS wt E 5
      · rw [if_pos (nI_lt c (by omega))]
        have e : bsL (fun D => wS wt D 5) (some (M, F)) (en (pX T wt t0 r0 w0) 0 5 E) = some (wS wt E 5, E) := if_pos c
        rw [e]
        exact take
      · rw [if_neg (by rw [lt_nI (by omega) (by omega)]; exact c)]
        have e : bsL (fun D => wS wt D 5) (some (M, F)) (en (pX T wt t0 r0 w0) 0 5 E) = some (M, F) := if_neg c
        rw [e]
        exact ⟨σ, rfl, WFr.rf σ, fun _ _ => rfl, h1, h2, h3⟩
  | succ m ih =>
    intro b E σ s fuel hb hf hx hd hz hs
    obtain ⟨fuel, rfl⟩ : ∃ f, fuel = f + 1 := ⟨fuel - 1, by omega⟩
    have hg := wS_b hwt E b
    have hr := rs_b hwt (m + 1)
    have e31 : σ.1 31 b = nI (rs wt (m + 1)) := by rw [hx.2.2 b (by omega), show 5 - b = m + 1 by omega]
    have g5 : inB (nI b) 5 = true := inB_t (by omega) (by decide)
    rw [f_X4_walk]
    unfold f_X4_walk_e
    rw [if_neg (nI_pos (by omega)), lI 5, if_neg (nI_nlt (by omega) (by decide)), gd_t (inB_t (by omega) (by decide)), cl_nI (by omega), e31, nI_add, if_neg (show ¬ nI b = nI 5 by rw [eq_nI (by omega) (by omega)]; omega)]
    by_cases prune : ∃ M F, s = some (M, F) ∧ wS wt E b + rs wt (m + 1) ≤ M
    · obtain ⟨M, F, rfl, hM⟩ := prune
      obtain ⟨h1, h2, h3⟩ := id hs
      rw [h2, if_neg (nI_nlt hM (by omega))]
      refine ⟨σ, rfl, WFr.rf σ, fun _ _ => rfl, ?_⟩
      rw [bsL_le]
      · exact hs
      · intro D hD
        have h4 := ((mem_en (pX_loc T wt t0 r0 w0)).mp hD).1
        have h5 := wS_le (wt := wt) (D := D) (m + 1) b (by omega)
        rw [wS_cong (E := E) (fun j hj => h4 j (Or.inl hj))] at h5
        show wS wt D 5 ≤ M
        omega
    · have hlt : σ.1 29 5 < nI (wS wt E b + rs wt (m + 1)) := by
        cases s with
        | none =>
          have e9 : σ.1 29 5 = -9 := hs
          rw [e9, Int32.lt_iff_toInt_lt, nI_toInt (by omega)]
          have : (-9 : Int32).toInt = -9 := by decide
          omega
        | some p =>
          obtain ⟨M, F⟩ := p
          obtain ⟨h1, h2, h3⟩ := hs
          rw [h2]
          exact nI_lt (Nat.lt_of_not_le (fun z => prune ⟨M, F, rfl, z⟩)) (by omega)
      rw [if_pos hlt, tell_eq σ 32 b _ (by omega), b1_some]
      show ∃ τ, b1 (f_X4_walk fuel (nI b + 1) _ _ _ _ (sI σ 33 b 0)) _ = some τ ∧ _
      have hE0 : E b = 0 := hz b (Nat.le_refl _)
      obtain ⟨τ1, t1, t2, t3, t4⟩ := ih (b + 1) E (sI σ 33 b 0) s fuel (by omega) (by omega) (hx.of WFr.t33) (fun o ho => by
        by_cases q : o = b
        · rw [q, sI_s, hE0]; rfl
        · rw [sI_n (by omega)]; exact hd o (by omega)) (fun j hj => hz j (by omega)) (hs.of (sI_n (by omega)) (sI_ne (by decide)).1)
      have w1 : wS wt E (b + 1) = wS wt E b := by
        show wS wt E b + (if E b = 0 then 0 else wt b) = _
        rw [if_pos hE0, Nat.add_zero]
      have k1 : tkE T E (b + 1) = tkE T E b := orN_same (g := fun o v => takeX T o (v - 1)) hE0
      have k2 : rgE T E (b + 1) = rgE T E b := orN_same (g := fun o v => ringX T o (v - 1)) hE0
      have k3 : wnE T E (b + 1) = wnE T E b := orN_same (g := fun o _ => wantX T o) hE0
      rw [w1, k1, k2, k3] at t1
      rw [lI 1, nI_add, t1, b1_some]
      let f : Nat → List Dy := fun v => if pX T wt t0 r0 w0 E b v = true then en (pX T wt t0 r0 w0) m (b + 1) (upD E b v) else []
      have f0 : f 0 = en (pX T wt t0 r0 w0) m (b + 1) E := by
        show (if pX T wt t0 r0 w0 E b 0 = true then _ else _) = _
        rw [if_pos (show pX T wt t0 r0 w0 E b 0 = true from rfl), upD_0 hE0]
      have tl := Nat.or_lt_two_pow ht0 (tkE_lt hw E b)
      have rl := Nat.or_lt_two_pow hr0 (rgE_lt hw E b)
      have wl := Nat.or_lt_two_pow hw0 (wnE_lt hw E b)
      have loop : ∀ (j s' n : Nat) (ζ : Mm) (q : Bs), s' + j = 10 → j < n → XW ζ T wt → (∀ o, o < b → ζ.1 33 o = nI (E o)) → RW ζ q → ∃ τ, f_X4_walk_p72 (f_X4_walk fuel) n (nI b) (nI (wS wt E b)) (lN (t0 ||| tkE T E b)) (nI (r0 ||| rgE T E b)) (nI (w0 ||| wnE T E b)) (nI s') ζ = some τ ∧ WFr ζ τ ∧ (∀ o, o < b → τ.1 33 o = ζ.1 33 o) ∧ RW τ (bsL (fun D => wS wt D 5) q (catS f j (s' + 1))) := by
        intro j
        induction j with
        | zero =>
          intro s' n ζ q hs' hn hxz hdz hq
          obtain ⟨n, rfl⟩ : ∃ n', n = n' + 1 := ⟨n - 1, by omega⟩
          refine ⟨ζ, ?_, WFr.rf ζ, fun _ _ => rfl, hq⟩
          rw [f_X4_walk_p72, lI 10, if_pos (nI_le (by omega) (by omega))]
        | succ j ihj =>
          intro s' n ζ q hs' hn hxz hdz hq
          obtain ⟨n, rfl⟩ : ∃ n', n = n' + 1 := ⟨n - 1, by omega⟩
          have h10 : s' < 10 := by omega
          have hb5 : b < 5 := by omega
          have hwb := hwt b
          by_cases c0 : wt b = 0
          · refine ⟨ζ, ?_, WFr.rf ζ, fun _ _ => rfl, ?_⟩
            · rw [f_X4_walk_p72, lI 10, if_neg (nI_ge h10 (by decide)), gd_t g5, cl_nI (by omega), hxz.2.1 b hb5, c0, if_pos (by decide)]
            · have em : ∀ j v, v ≠ 0 → catS f j v = [] := by
                intro j
                induction j with
                | zero => intro v _; rfl
                | succ j ih2 =>
                  intro v hv
                  rw [catS, ih2 (v + 1) (by omega), List.append_nil]
                  show (if pX T wt t0 r0 w0 E b v = true then _ else _) = _
                  rw [if_neg]
                  unfold pX
                  simp [hv, c0]
              rw [em (j + 1) (s' + 1) (by omega)]
              exact hq
          · have pxe : (pX T wt t0 r0 w0 E b (s' + 1) = true) = ((begX T b).testBit s' = true ∧ takeX T b s' &&& (t0 ||| tkE T E b) = 0 ∧ ringX T b s' &&& (w0 ||| wnE T E b) = 0 ∧ wantX T b &&& (r0 ||| rgE T E b) = 0) := by
              unfold pX
              simp [c0]
            have a1 := and_lt (b := t0 ||| tkE T E b) (takeX_lt hw b s')
            have a2 := and_lt (b := w0 ||| wnE T E b) (ringX_lt hw b s')
            have a3 := and_lt (b := r0 ||| rgE T E b) (wantX_lt hw b)
            have head : f_X4_walk_p72 (f_X4_walk fuel) (n + 1) (nI b) (nI (wS wt E b)) (lN (t0 ||| tkE T E b)) (nI (r0 ||| rgE T E b)) (nI (w0 ||| wnE T E b)) (nI s') ζ = if pX T wt t0 r0 w0 E b (s' + 1) = true then b1 (f_X4_walk fuel (nI (b + 1)) (nI (wS wt E b + wt b)) (lN (t0 ||| tkE T E b ||| takeX T b s')) (nI (r0 ||| rgE T E b ||| ringX T b s')) (nI (w0 ||| wnE T E b ||| wantX T b)) (sI ζ 33 b (nI (s' + 1)))) (fun τ20 => f_X4_walk_p72 (f_X4_walk fuel) n (nI b) (nI (wS wt E b)) (lN (t0 ||| tkE T E b)) (nI (r0 ||| rgE T E b)) (nI (w0 ||| wnE T E b)) (nI (s' + 1)) τ20) else f_X4_walk_p72 (f_X4_walk fuel) n (nI b) (nI (wS wt E b)) (lN (t0 ||| tkE T E b)) (nI (r0 ||| rgE T E b)) (nI (w0 ||| wnE T E b)) (nI (s' + 1)) ζ := by
              rw [f_X4_walk_p72, lI 10, if_neg (nI_ge h10 (by decide)), gd_t g5, cl_nI (by omega), hxz.2.1 b hb5, if_neg (show ¬ nI (wt b) ≤ 0 by rw [le0_nI (by omega)]; exact c0), xMay hxz.1 hb5 h10, b1_some, xTakes hxz.1 hb5 h10, b1_some, xRing hxz.1 hb5 h10, b1_some, xWants hxz.1 hb5, b1_some, lI 1, nI_add]
              have hxt : XW (sI ζ 33 b (nI (s' + 1))) T wt := hxz.of WFr.t33
              by_cases b1' : (begX T b).testBit s' = true
              · rw [if_pos b1', if_neg (by decide), and_lN, and_nI, and_nI]
                by_cases b2' : takeX T b s' &&& (t0 ||| tkE T E b) = 0
                · rw [if_pos (show lg_cmp (lN (takeX T b s' &&& (t0 ||| tkE T E b))) 0 = 0 by rw [lcm_eq, lN_0iff (by omega)]; exact b2')]
                  by_cases b3' : ringX T b s' &&& (w0 ||| wnE T E b) = 0
                  · rw [if_pos (show nI (ringX T b s' &&& (w0 ||| wnE T E b)) = 0 by rw [nI_0iff (by omega)]; exact b3')]
                    by_cases b4' : wantX T b &&& (r0 ||| rgE T E b) = 0
                    · rw [if_pos (show nI (wantX T b &&& (r0 ||| rgE T E b)) = 0 by rw [nI_0iff (by omega)]; exact b4'), if_pos (by rw [pxe]; exact ⟨b1', b2', b3', b4'⟩), tell_eq ζ 32 b _ hb5, b1_some, c32, gd_t g5, xTakes hxt.1 hb5 h10, b1_some, xRing hxt.1 hb5 h10, b1_some, xWants hxt.1 hb5, b1_some, hxt.2.1 b hb5, nI_add, nI_add, or_lN, or_nI, or_nI]
                    · rw [if_neg (show ¬ nI (wantX T b &&& (r0 ||| rgE T E b)) = 0 by rw [nI_0iff (by omega)]; exact b4'), if_neg (by rw [pxe]; exact fun z => b4' z.2.2.2)]
                  · rw [if_neg (show ¬ nI (ringX T b s' &&& (w0 ||| wnE T E b)) = 0 by rw [nI_0iff (by omega)]; exact b3'), if_neg (by rw [pxe]; exact fun z => b3' z.2.2.1)]
                · rw [if_neg (show ¬ lg_cmp (lN (takeX T b s' &&& (t0 ||| tkE T E b))) 0 = 0 by rw [lcm_eq, lN_0iff (by omega)]; exact b2'), if_neg (by rw [pxe]; exact fun z => b2' z.2.1)]
              · rw [if_neg b1', if_pos rfl, if_neg (by rw [pxe]; exact fun z => b1' z.1)]
            rw [head]
            by_cases c : pX T wt t0 r0 w0 E b (s' + 1) = true
            · have fv : f (s' + 1) = en (pX T wt t0 r0 w0) m (b + 1) (upD E b (s' + 1)) := if_pos c
              rw [if_pos c]
              have wu : wS wt (upD E b (s' + 1)) (b + 1) = wS wt E b + wt b := by
                show wS wt (upD E b (s' + 1)) b + (if upD E b (s' + 1) b = 0 then 0 else wt b) = _
                rw [wS_cong (D := upD E b (s' + 1)) (E := E) (fun j hj => if_neg (by omega)), show upD E b (s' + 1) b = s' + 1 from if_pos rfl, if_neg (by omega)]
              have u1 : tkE T (upD E b (s' + 1)) (b + 1) = (tkE T E b ||| takeX T b s') := orN_up (g := fun o v => takeX T o (v - 1)) (by omega)
              have u2 : rgE T (upD E b (s' + 1)) (b + 1) = (rgE T E b ||| ringX T b s') := orN_up (g := fun o v => ringX T o (v - 1)) (by omega)
              have u3 : wnE T (upD E b (s' + 1)) (b + 1) = (wnE T E b ||| wantX T b) := orN_up (g := fun o _ => wantX T o) (by omega)
              obtain ⟨τ2, y1, y2, y3, y4⟩ := ih (b + 1) (upD E b (s' + 1)) (sI ζ 33 b (nI (s' + 1))) q fuel (by omega) (by omega) (hxz.of WFr.t33) (fun o ho => by
                show _ = nI (if o = b then s' + 1 else E o)
                by_cases z : o = b
                · rw [if_pos z, z, sI_s]
                · rw [if_neg z, sI_n (by omega)]; exact hdz o (by omega)) (fun j hj => by
                show (if j = b then s' + 1 else E j) = 0
                rw [if_neg (by omega)]; exact hz j (by omega)) (hq.of (sI_n (by omega)) (sI_ne (by decide)).1)
              rw [wu, u1, u2, u3, ← Nat.or_assoc, ← Nat.or_assoc, ← Nat.or_assoc] at y1
              rw [y1, b1_some]
              have d2 : ∀ o, o < b → τ2.1 33 o = ζ.1 33 o := fun o ho => by rw [y3 o (by omega), sI_n (by omega)]
              obtain ⟨τ3, v1, v2, v3, v4⟩ := ihj (s' + 1) n τ2 _ (by omega) (by omega) (hxz.of (WFr.t33.tr y2)) (fun o ho => by rw [d2 o ho]; exact hdz o ho) y4
              refine ⟨τ3, v1, (WFr.t33.tr y2).tr v2, fun o ho => (v3 o ho).trans (d2 o ho), ?_⟩
              rw [catS, bsL_app, fv]
              exact v4
            · have fv : f (s' + 1) = [] := if_neg c
              rw [if_neg c]
              obtain ⟨τ3, v1, v2, v3, v4⟩ := ihj (s' + 1) n ζ q (by omega) (by omega) hxz hdz hq
              refine ⟨τ3, v1, v2, v3, ?_⟩
              rw [catS, fv, List.nil_append]
              exact v4
      have d1 : ∀ o, o < b → τ1.1 33 o = σ.1 33 o := fun o ho => by rw [t3 o (by omega), sI_n (by omega)]
      obtain ⟨τ, v1, v2, v3, v4⟩ := loop 10 0 FU τ1 _ (by omega) (by decide) (hx.of (WFr.t33.tr t2)) (fun o ho => by rw [d1 o ho]; exact hd o ho) t4
      refine ⟨τ, v1, (WFr.t33.tr t2).tr v2, fun o ho => (v3 o ho).trans (d1 o ho), ?_⟩
      have ec : en (pX T wt t0 r0 w0) (m + 1) b E = f 0 ++ catS f 10 1 := by
        rw [en, ← catS_0]
        rfl
      rw [ec, bsL_app, f0]
      exact v4
