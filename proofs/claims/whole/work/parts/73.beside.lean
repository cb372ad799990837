/-! beside -/
theorem mask_iff2 {T : Tw} (hw : WT T) {E : Dy} (hE : OD T E) {b s n : Nat} (hb : b < tNd T) (hm : may T b s = true) : (takeX T b s &&& tkE T E n = 0 ∧ ringX T b s &&& wnE T E n = 0 ∧ wantX T b &&& rgE T E n = 0) ↔ ∀ o, o < n → E o ≠ 0 → cla T b s o (E o - 1) = false := by
  unfold tkE wnE rgE
  rw [and_orN0, and_orN0, and_orN0]
  constructor
  · rintro ⟨h1, h2, h3⟩ o ho h0
    have a1 := h1 o ho
    have a2 := h2 o ho
    have a3 := h3 o ho
    rw [if_neg h0] at a1 a2 a3
    rw [Nat.and_comm] at a3
    refine Bool.eq_false_iff.mpr (fun z => ?_)
    rcases (claX hw hb (hE o h0).1 hm (hE o h0).2.2).mpr z with y | y | y
    · exact y a1
    · exact y a2
    · exact y a3
  · intro h
    have key : ∀ o, o < n → E o ≠ 0 → takeX T b s &&& takeX T o (E o - 1) = 0 ∧ ringX T b s &&& wantX T o = 0 ∧ ringX T o (E o - 1) &&& wantX T b = 0 := fun o ho h0 => by
      have hc := h o ho h0
      have hx := claX hw hb (hE o h0).1 hm (hE o h0).2.2
      refine ⟨Decidable.byContradiction fun z => ?_, Decidable.byContradiction fun z => ?_, Decidable.byContradiction fun z => ?_⟩
      · rw [hx.mp (Or.inl z)] at hc; cases hc
      · rw [hx.mp (Or.inr (Or.inl z))] at hc; cases hc
      · rw [hx.mp (Or.inr (Or.inr z))] at hc; cases hc
    refine ⟨fun o ho => ?_, fun o ho => ?_, fun o ho => ?_⟩
    · by_cases c : E o = 0
      · rw [if_pos c, Nat.and_zero]
      · rw [if_neg c]; exact (key o ho c).1
    · by_cases c : E o = 0
      · rw [if_pos c, Nat.and_zero]
      · rw [if_neg c]; exact (key o ho c).2.1
    · by_cases c : E o = 0
      · rw [if_pos c, Nat.and_zero]
      · rw [if_neg c, Nat.and_comm]; exact (key o ho c).2.2
theorem not_bits : ∀ s, s < 32 → ∀ b, b < 5 → decide ((jushr (nI s ^^^ -1) (nI b) &&& 1) = 1) = !s.testBit b := by decide +kernel
theorem suN_add {f g h : Nat → Nat} : ∀ {n : Nat}, (∀ i, i < n → h i = f i + g i) → suN h n = suN f n + suN g n
  | 0, _ => rfl
  | n + 1, e => by
    rw [suN, suN, suN, suN_add (fun i hi => e i (by omega)), e n (by omega)]
    omega
/-- worth of what is let and of what is added -/
theorem wD_split {T : Tw} (hw : WT T) {N D E : Dy} {wt : Nat → Nat} (hD : OD T D) (h1 : ∀ k, N k ≠ 0 → D k ≠ 0 ∧ E k = 0) (h2 : ∀ k, N k = 0 → (D k = 0 ↔ E k = 0)) (h3 : ∀ k, E k ≠ 0 → wt k = tW T k) : wD T D = wD T N + wS wt E 5 := by
  have h5 := hw.2.1
  have hz : ∀ k, tNd T ≤ k → D k = 0 := fun k hk => Decidable.byContradiction fun z => by have := (hD k z).1; omega
  have hEz : ∀ k, tNd T ≤ k → E k = 0 := fun k hk => by
    by_cases c : N k = 0
    · exact (h2 k c).mp (hz k hk)
    · exact (h1 k c).2
  unfold wD worM wS
  rw [suN_ext (f := fun k => if E k = 0 then 0 else wt k) h5 (fun i a _ => by rw [if_pos (hEz i a)])]
  refine suN_add (fun i hi => ?_)
  have e1 : ((letM D).testBit i = true) = (D i ≠ 0) := propext ⟨fun z => (letM_tb.mp z).2, fun z => letM_tb.mpr ⟨by omega, z⟩⟩
  have e2 : ((letM N).testBit i = true) = (N i ≠ 0) := propext ⟨fun z => (letM_tb.mp z).2, fun z => letM_tb.mpr ⟨by omega, z⟩⟩
  simp only [e1, e2]
  by_cases c : N i = 0
  · rw [if_neg (fun z : N i ≠ 0 => z c), Nat.zero_add]
    by_cases c2 : E i = 0
    · rw [if_pos c2, if_neg (fun z : D i ≠ 0 => z ((h2 i c).mpr c2))]
    · rw [if_neg c2, if_pos (fun z => c2 ((h2 i c).mp z)), h3 i c2]
  · obtain ⟨a1, a2⟩ := h1 i c
    rw [if_pos c, if_pos a1, if_pos a2]; rfl
theorem op_beside {σ : Mm} (hI : INV σ) : ∃ v τ ρ, f_X9_beside σ = some (v, τ) ∧ f_X10_beside τ = some (v, ρ) ∧ INV ρ := by
  obtain ⟨S, hw, hX, hM⟩ := id hI
  have wT := hw.2.1
  have h5 := wT.2.1
  obtain ⟨N, hNe⟩ : ∃ N : Dy, N = S.2.2.1 := ⟨_, rfl⟩
  have hV : VD S.2.1 N := by rw [hNe]; exact hw.2.2.1
  have hO := hV.od
  let q : Nat → Bool := fun b => !(letM N).testBit b
  obtain ⟨τ2, τ, M, F, e1, e2, e21, e22, e3, e4, e5, e6, e7⟩ := xMost (x1 := nI (letM N) ^^^ -1) (x2 := 1) (q := q) hw hX (fun b hb => by
    have := not_bits (letM N) (letM_lt N) b hb
    show _ = ((!(letM N).testBit b) = true)
    rw [← this]
    exact (decide_eq_true_eq).symm) (t0 := tkE S.2.1 N 5) (r0 := rgE S.2.1 N 5) (w0 := wnE S.2.1 N 5) (tkE_lt wT N 5) (rgE_lt wT N 5) (wnE_lt wT N 5)
  obtain ⟨f1, f2, f3⟩ := bsL_mem e7
  have wq : ∀ k, wtF S.2.1 q 1 k ≠ 0 ↔ k < tNd S.2.1 ∧ N k = 0 := fun k => by
    rw [wtF_1 wT]
    refine and_congr_right fun hk => ?_
    show (!(letM N).testBit k) = true ↔ _
    rw [Bool.not_eq_true', Bool.eq_false_iff]
    exact ⟨fun z => Decidable.byContradiction fun y => z (letM_tb.mpr ⟨by omega, y⟩), fun z y => (letM_tb.mp y).2 z⟩
  have wv : ∀ k, wtF S.2.1 q 1 k ≠ 0 → wtF S.2.1 q 1 k = tW S.2.1 k := fun k hk => wtF_v ((wtF_1 wT).mp hk)
  have memX : ∀ D, D ∈ en (pX S.2.1 (wtF S.2.1 q 1) (tkE S.2.1 N 5) (rgE S.2.1 N 5) (wnE S.2.1 N 5)) 5 0 (fun _ => 0) ↔ VD S.2.1 D ∧ ∀ k, D k ≠ 0 → N k = 0 ∧ ∀ o, N o ≠ 0 → cla S.2.1 k (D k - 1) o (N o - 1) = false := fun D => by
    rw [mem_pX wT]
    refine and_congr_right fun hD => forall_congr' fun k => forall_congr' fun hk => ?_
    obtain ⟨d1, d2, d3⟩ := hD.od k hk
    rw [wq k, mask_iff2 wT hO d1 d3]
    exact ⟨fun z => ⟨z.1.2, fun o ho => z.2 o (by have := (hO o ho).1; omega) ho⟩, fun z => ⟨⟨d1, z.1⟩, fun o _ ho => z.2 o ho⟩⟩
  have hMτ := hM.hi e4
  obtain ⟨ρ, r1, r2, r3, r4⟩ := mGo hw hMτ true
  have hne : en (pR S.2.1 S.2.2.1 true) (tNd S.2.1) 0 (fun _ => 0) ≠ [] := List.ne_nil_of_mem ((mem_pR wT hw.2.2.1.od).mpr ⟨hw.2.2.1, fun _ k _ => rfl⟩)
  obtain ⟨K, G, g1, g2, g3, g4⟩ := bsL_ne (w := wD S.2.1) hne
  have r42 := r4.2.1
  rw [g1] at r42
  obtain ⟨fV, fC⟩ := (memX F).mp f1
  obtain ⟨gV, gC⟩ := (mem_pR wT hw.2.2.1.od).mp g2
  have gC' : ∀ k, N k ≠ 0 → G k = N k := fun k hk => by rw [hNe] at hk ⊢; exact gC rfl k hk
  have hK : K = wD S.2.1 N + M := by
    have up : wD S.2.1 N + M ≤ K := by
      let D : Dy := fun k => if N k = 0 then F k else N k
      have Dn : ∀ k, N k ≠ 0 → D k = N k := fun k hk => if_neg hk
      have D0 : ∀ k, N k = 0 → D k = F k := fun k hk => if_pos hk
      have DV : VD S.2.1 D := by
        refine ⟨fun k hk => ?_, fun k o hk ho hko => ?_⟩
        · by_cases c : N k = 0
          · rw [D0 k c] at hk ⊢; exact fV.1 k hk
          · rw [Dn k c] at hk ⊢; exact hV.1 k hk
        · by_cases c : N k = 0 <;> by_cases d : N o = 0
          · rw [D0 k c] at hk ⊢; rw [D0 o d] at ho ⊢; exact fV.2 k o hk ho hko
          · rw [D0 k c] at hk ⊢; rw [Dn o d]; exact (fC k hk).2 o d
          · rw [Dn k c]; rw [D0 o d] at ho ⊢; rw [cla_sym]; exact (fC o ho).2 k c
          · rw [Dn k c]; rw [Dn o d]; exact hV.2 k o c d hko
      have hw1 := wD_split wT (N := N) (D := D) (E := F) (wt := wtF S.2.1 q 1) DV.od (fun k hk => ⟨by rw [Dn k hk]; exact hk, Decidable.byContradiction fun z => hk (fC k z).1⟩) (fun k hk => by rw [D0 k hk]) (fun k hk => wv k ((wq k).mpr ⟨(fV.1 k hk).1, (fC k hk).1⟩))
      have := g4 D ((mem_pR wT hw.2.2.1.od).mpr ⟨DV, fun _ k hk => by rw [← hNe] at hk ⊢; exact Dn k hk⟩)
      rw [hw1, f2] at this
      exact this
    have dn : K ≤ wD S.2.1 N + M := by
      let E : Dy := fun k => if N k = 0 then G k else 0
      have En : ∀ k, N k ≠ 0 → E k = 0 := fun k hk => if_neg hk
      have E0 : ∀ k, N k = 0 → E k = G k := fun k hk => if_pos hk
      have EN : ∀ k, E k ≠ 0 → N k = 0 := fun k hk => Decidable.byContradiction fun z => hk (En k z)
      have EV : VD S.2.1 E := by
        refine ⟨fun k hk => ?_, fun k o hk ho hko => ?_⟩
        · have z := EN k hk
          rw [E0 k z] at hk ⊢; exact gV.1 k hk
        · have z := EN k hk
          have y := EN o ho
          rw [E0 k z] at hk ⊢; rw [E0 o y] at ho ⊢; exact gV.2 k o hk ho hko
      have hw1 := wD_split wT (N := N) (D := G) (E := E) (wt := wtF S.2.1 q 1) gV.od (fun k hk => ⟨by rw [gC' k hk]; exact hk, En k hk⟩) (fun k hk => by rw [E0 k hk]) (fun k hk => wv k ((wq k).mpr ⟨(EV.1 k hk).1, EN k hk⟩))
      have := f3 E ((memX E).mpr ⟨EV, fun k hk => ⟨EN k hk, fun o ho => by
        have hk' : G k ≠ 0 := by rw [E0 k (EN k hk)] at hk; exact hk
        have ho' : G o ≠ 0 := by rw [gC' o ho]; exact ho
        have := gV.2 k o hk' ho' (fun z => ho (z ▸ EN k hk))
        rw [gC' o ho] at this
        rw [E0 k (EN k hk)]; exact this⟩⟩)
      rw [← g3, hw1]
      exact Nat.add_le_add_left this _
    omega
  have hwN : wD S.2.1 N ≤ 45 := worM_le wT _
  refine ⟨nI M, τ, ρ, ?_, ?_, S, hw, e3.of r3.X, hMτ.of r2⟩
  · unfold f_X9_beside f_X4_mostBeside
    have xd : XD σ 17 N := by rw [hNe]; exact hX.2.2.1
    rw [xLets (K := 16) xd hO, b1_some, e1, b1_some]
    have xT2 : XTw τ2 S.2.1 := hX.2.1.of (fun k h1 h2 => e21 k (by omega) (by omega)) (by rw [e22])
    have xd2 : XD τ2 17 N := xd.of (e21 17 (by decide) (by decide))
    have key := itL (fun n i (p : Int64 × Int32) => f_X4_mostBeside_p19 16 n p.1 p.2 i τ2) (fun p => b1 (f_X1_ringing τ2 16) (fun r2 => b2 (f_X4_search p.1 r2 p.2 τ2) (fun r4 τ5 => some (r4, τ5)))) (fun i p => if N i = 0 then p else (p.1 ||| lN (takeX S.2.1 i (N i - 1)), p.2 ||| nI (wantX S.2.1 i))) 5 (fun i p => p = (lN (tkE S.2.1 N i), nI (wnE S.2.1 N i))) (a := ((0 : Int64), (0 : Int32))) rfl ?_ ?_ FU (by decide)
    · have k1 : f_X4_mostBeside_p19 16 FU 0 0 (nI 0) τ2 = _ := key.1
      rw [key.2] at k1
      have k2 : f_X4_mostBeside_p19 16 FU 0 0 0 τ2 = _ := k1
      have rr : f_X1_ringing τ2 16 = some (nI (rgE S.2.1 N 5)) := xRinging xT2 (K := 16) xd2 hO
      simp only [rr, b1_some, e2, b2_some] at k2
      rw [k2, b2_some]
    · intro n i p hi hp
      have hle := hO.le i
      refine ⟨?_, ?_⟩
      · show f_X4_mostBeside_p19 16 (n + 1) p.1 p.2 (nI i) τ2 = _
        rw [f_X4_mostBeside_p19, lI 5, if_neg (nI_ge hi (by decide)), xLet (K := 16) xd2 hO hi, b1_some]
        by_cases c : N i = 0
        · simp only [if_pos c]
          rw [if_pos trivial, lI 1, nI_add]
        · simp only [if_neg c]
          rw [if_neg n10, xSecond (K := 16) xd2 hO hi, b1_some, eD, if_neg c, xTakes xT2 hi (by omega), b1_some, xWants xT2 hi, b1_some, lI 1, nI_add]
      · by_cases c : N i = 0
        · simp only [if_pos c]
          rw [hp]
          unfold tkE wnE
          rw [orN, orN, if_pos c, if_pos c, Nat.or_zero, Nat.or_zero]
        · simp only [if_neg c]
          rw [hp]
          unfold tkE wnE
          rw [orN, orN, if_neg c, if_neg c, ← or_lN, ← or_nI]
    · intro n p _
      show f_X4_mostBeside_p19 16 (n + 1) p.1 p.2 (nI 5) τ2 = _
      rw [f_X4_mostBeside_p19, lI 5, if_pos (nI_le (Nat.le_refl _) (by decide))]
  · unfold f_X10_beside
    have r1' : f_X10_goThrough 1 τ = some ρ := r1
    have hMρ := hMτ.of r2
    have mdN : MD ρ N := by rw [hNe]; exact hMρ.2.2.1
    rw [r1', b1_some, mLets hMρ.2.1 wT mdN hO, b1_some, mCoins hMρ.2.1 wT (letM_31 _), b1_some, r42.2.1, hK]
    show some (nI (wD S.2.1 N + M) - nI (wD S.2.1 N), ρ) = _
    rw [pk_sub (by omega), show wD S.2.1 N + M - wD S.2.1 N = M by omega]
