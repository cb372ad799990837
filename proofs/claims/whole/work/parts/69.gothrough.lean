/-! the reference goes through all days -/
def LR2 (σ : Mm) (T : Tw) (H : Hd) (Q P : List Dy) : Prop := (∀ s, s < 32 → σ.1 57 s = if s ∈ Q.map letM then 1 else 0) ∧ BR σ T (bsL (wD T) none Q) ∧ σ.1 46 21 = nI (hl T H P).length ∧ σ.1 46 22 = nI ((hl T H P).foldl (fun a D => a &&& letM D) (2 ^ tNd T - 1)) ∧ σ.1 46 23 = nI ((hl T H P).foldl (fun a D => a ||| letM D) 0) ∧ ∀ s, s < 10 → σ.1 58 s = nI ((hl T H P).countP (fun D => (raM T D).testBit s))
theorem BR.of {σ τ : Mm} {T : Tw} {s : Bs} (h : BR σ T s) (h1 : τ.1 46 20 = σ.1 46 20) (h2 : τ.1 56 = σ.1 56) : BR τ T s := by
  cases s with
  | none => exact h1.trans h
  | some p => exact ⟨h.1, h1.trans h.2.1, fun b hb => by rw [h2]; exact h.2.2 b hb⟩
theorem hl_app (T : Tw) (H : Hd) (P : List Dy) (E : Dy) : hl T H (P ++ [E]) = if hdB T H E = true then hl T H P ++ [E] else hl T H P := by
  unfold hl
  rw [List.filter_append]
  by_cases c : hdB T H E = true
  · rw [if_pos c, List.filter_cons_of_pos c, List.filter_nil]
  · rw [if_neg c, List.filter_cons_of_neg c, List.filter_nil, List.append_nil]
theorem raM_lt {T : Tw} (hw : WT T) {E : Dy} (hE : OD T E) : raM T E < 2 ^ 10 := rpM_lt hw hE _
theorem mLook2 {σ : Mm} {T : Tw} {N : Dy} {H : Hd} (hg : GS σ T N H) (hw : WT T) (hHw : H.1 ≤ 6 ∧ ∀ i, i < H.1 → (H.2 i).1 < 10 ∧ (H.2 i).2 < 8) {E : Dy} (hd : DR σ E (tNd T)) (hE : PV T E (tNd T)) (hz : ∀ j, tNd T ≤ j → E j = 0) {Q P : List Dy} (hL : LR2 σ T H Q P) : ∃ τ, f_X10_lookAt_p58 (nI (letM E)) σ = some τ ∧ GF σ τ ∧ τ.1 55 = σ.1 55 ∧ LR2 τ T H Q (P ++ [E]) := by
  have hO := hE.od hz
  obtain ⟨τ2, e1, e2, e3, e4⟩ := mBells hg.1 hw hg.2.2.2 hd hE
  have gf2 : GF σ τ2 := ⟨fun c h1 h2 h3 h4 h5 h6 => e2 c h6, fun j hj => by rw [e2 46 (by decide)], e3⟩
  have hg2 := hg.of gf2
  obtain ⟨l1, l2, l3, l4, l5, l6⟩ := hL
  unfold f_X10_lookAt_p58
  rw [e1, b1_some, mHeard hg2.1 hw hg2.2.2.1 hHw hO e4, b1_some]
  by_cases c : hdB T H E = true
  · rw [if_pos c, if_neg n10, bnd_eq]
    have hh : hl T H (P ++ [E]) = hl T H P ++ [E] := by rw [hl_app, if_pos c]
    generalize hσ5 : sI (sI τ2 46 21 (τ2.1 46 21 + 1)) 46 22 ((sI τ2 46 21 (τ2.1 46 21 + 1)).1 46 22 &&& nI (letM E)) = σ5
    generalize hσ6 : sI σ5 46 23 (σ5.1 46 23 ||| nI (letM E)) = σ6
    have s6 : ∀ c, c ≠ 46 → σ6.1 c = τ2.1 c := fun c hc => by rw [← hσ6, ← hσ5, (sI_ne hc).1, (sI_ne hc).1, (sI_ne hc).1]
    have s6f : ∀ j, ¬ (21 ≤ j ∧ j ≤ 23) → σ6.1 46 j = τ2.1 46 j := fun j hj => by rw [← hσ6, ← hσ5, sI_n (by omega), sI_n (by omega), sI_n (by omega)]
    have s62 : σ6.2 = τ2.2 := by rw [← hσ6, ← hσ5]; rfl
    have q21 : σ6.1 46 21 = nI ((hl T H P).length + 1) := by rw [← hσ6, sI_n (by omega), ← hσ5, sI_n (by omega), sI_s, e2 46 (by decide), l3, lI 1, nI_add]
    have q22 : σ6.1 46 22 = nI (((hl T H P).foldl (fun a D => a &&& letM D) (2 ^ tNd T - 1)) &&& letM E) := by rw [← hσ6, sI_n (by omega), ← hσ5, sI_s, sI_n (by omega), e2 46 (by decide), l4, and_nI]
    have q23 : σ6.1 46 23 = nI (((hl T H P).foldl (fun a D => a ||| letM D) 0) ||| letM E) := by rw [← hσ6, sI_s, ← hσ5, sI_n (by omega), sI_n (by omega), e2 46 (by decide), l5, or_nI]
    have y : (σ6.1 62 (0 : Int32).toNatClampNeg ||| σ6.1 62 (1 : Int32).toNatClampNeg) ||| σ6.1 62 (2 : Int32).toNatClampNeg = nI (raM T E) := by
      show (σ6.1 62 0 ||| σ6.1 62 1) ||| σ6.1 62 2 = nI (raM T E)
      rw [s6 62 (by decide), e4 0 (by decide), e4 1 (by decide), e4 2 (by decide), or_nI, or_nI, be_any hw hO]
    rw [gd_t (by decide), gd_t (by decide), gd_t (by decide), bnd_eq, y]
    have hR := raM_lt hw hO
    have key := itL (fun n i ζ => f_X10_lookAt_p122 n (nI (raM T E)) i ζ) some (fun i ζ => sI ζ 58 i (ζ.1 58 i + nI (if (raM T E).testBit i = true then 1 else 0))) 10 (fun i ζ => (∀ c, c ≠ 58 → ζ.1 c = σ6.1 c) ∧ ζ.2 = σ6.2 ∧ ∀ s, ζ.1 58 s = if s < i then σ6.1 58 s + nI (if (raM T E).testBit s = true then 1 else 0) else σ6.1 58 s) (a := σ6) ⟨fun _ _ => rfl, rfl, fun s => by rw [if_neg (by omega)]⟩ ?_ ?_ FU (by decide)
    · obtain ⟨k1, k2, k3, k4⟩ := key
      refine ⟨_, k1, ⟨fun c h1 h2 h3 h4 h5 h6 => by rw [k2 c h5, s6 c h1, e2 c h6], fun j hj => by rw [k2 46 (by decide), s6f j (by omega), e2 46 (by decide)], by rw [k3, s62, e3]⟩, by rw [k2 55 (by decide), s6 55 (by decide), e2 55 (by decide)], fun s hs => ?_, l2.of ?_ ?_, ?_, ?_, ?_, fun s hs => ?_⟩
      · rw [k2 57 (by decide), s6 57 (by decide), e2 57 (by decide)]; exact l1 s hs
      · rw [k2 46 (by decide), s6f 20 (by omega), e2 46 (by decide)]
      · rw [k2 56 (by decide), s6 56 (by decide), e2 56 (by decide)]
      · rw [k2 46 (by decide), q21, hh, List.length_append]; rfl
      · rw [k2 46 (by decide), q22, hh, List.foldl_append]; rfl
      · rw [k2 46 (by decide), q23, hh, List.foldl_append]; rfl
      · rw [k4 s, if_pos hs, s6 58 (by decide), e2 58 (by decide), l6 s hs, nI_add, hh, List.countP_append, List.countP_cons, List.countP_nil, Nat.zero_add]
    · intro n i ζ hi hp
      obtain ⟨p1, p2, p3⟩ := hp
      refine ⟨?_, fun c hc => (sI_ne hc).1.trans (p1 c hc), p2, fun s => ?_⟩
      · show f_X10_lookAt_p122 (n + 1) (nI (raM T E)) (nI i) ζ = _
        rw [f_X10_lookAt_p122, lI 10, if_neg (nI_ge hi (by decide)), gd_t (inB_t hi (by decide)), gd_t (inB_t hi (by decide)), bnd_eq, cl_nI (by omega), bit_s (by omega) (by omega), lI 1, nI_add]
      · by_cases q : s = i
        · rw [q, sI_s, p3 i, if_neg (show ¬ i < i by omega), if_pos (show i < i + 1 by omega)]
        · rw [sI_n (by omega), p3 s]
          by_cases q2 : s < i
          · rw [if_pos q2, if_pos (show s < i + 1 by omega)]
          · rw [if_neg q2, if_neg (show ¬ s < i + 1 by omega)]
    · intro n ζ _
      show f_X10_lookAt_p122 (n + 1) (nI (raM T E)) (nI 10) ζ = _
      rw [f_X10_lookAt_p122, lI 10, if_pos (nI_le (Nat.le_refl _) (by decide))]
  · have hh : hl T H (P ++ [E]) = hl T H P := by rw [hl_app, if_neg c]
    rw [if_neg c, if_pos rfl]
    refine ⟨τ2, rfl, gf2, e2 55 (by decide), fun s hs => ?_, l2.of (by rw [e2 46 (by decide)]) (e2 56 (by decide)), ?_, ?_, ?_, fun s hs => ?_⟩
    · rw [e2 57 (by decide)]; exact l1 s hs
    · rw [hh, e2 46 (by decide)]; exact l3
    · rw [hh, e2 46 (by decide)]; exact l4
    · rw [hh, e2 46 (by decide)]; exact l5
    · rw [hh, e2 58 (by decide)]; exact l6 s hs
theorem mLook {σ : Mm} {T : Tw} {N : Dy} {H : Hd} (hg : GS σ T N H) (hw : WT T) (hHw : H.1 ≤ 6 ∧ ∀ i, i < H.1 → (H.2 i).1 < 10 ∧ (H.2 i).2 < 8) {E : Dy} (hd : DR σ E (tNd T)) (hE : PV T E (tNd T)) (hz : ∀ j, tNd T ≤ j → E j = 0) {P : List Dy} (hL : LR σ T H P) : ∃ τ, f_X10_lookAt σ = some τ ∧ GF σ τ ∧ τ.1 55 = σ.1 55 ∧ LR τ T H (P ++ [E]) := by
  have h5 := hw.2.1
  have hO := hE.od hz
  obtain ⟨l1, l2, l3, l4, l5, l6⟩ := hL
  have hm := letM_lt E
  let σ1 : Mm := sI σ 57 (letM E) 1
  have gf1 : GF σ σ1 := GF.w (by omega)
  have hg1 := hg.of gf1
  have r57 : ∀ s, s < 32 → σ1.1 57 s = if s ∈ (P ++ [E]).map letM then 1 else 0 := fun s hs => by
    have em : (s ∈ (P ++ [E]).map letM) = (s ∈ P.map letM ∨ s = letM E) := by
      rw [List.map_append, List.mem_append]
      refine propext (or_congr_right ?_)
      show s ∈ [letM E] ↔ _
      rw [List.mem_singleton]
    by_cases q : s = letM E
    · rw [if_pos (by rw [em]; exact Or.inr q), q]
      exact sI_s
    · have : σ1.1 57 s = σ.1 57 s := sI_n (by omega)
      rw [this, l1 s hs]
      refine ifc ?_
      rw [em]
      exact propext ⟨Or.inl, fun z => z.elim id (fun y => absurd y q)⟩
  have hW := worM_le hw (letM E)
  have eb : bsL (wD T) none (P ++ [E]) = upB (wD T) (bsL (wD T) none P) E := by rw [bsL_app]; rfl
  have c1 : f_X10_lookAt σ = (if nI (wD T E) ≤ σ1.1 46 20 then f_X10_lookAt_p58 (nI (letM E)) σ1 else f_X10_lookAt_p35 f_X10_lookAt_p58 FU (nI (letM E)) 0 (sI σ1 46 20 (nI (wD T E)))) := by
    unfold f_X10_lookAt
    rw [mDayLet hg.1 hw hd hE hz, b1_some, gd_t (inB_t (by omega) (by decide)), cl_nI (by omega)]
    show b1 (f_X10_coinsOf σ1 (nI (letM E))) (fun r5 => if r5 ≤ σ1.1 46 20 then f_X10_lookAt_p58 (nI (letM E)) σ1 else b1 (f_X10_coinsOf σ1 (nI (letM E))) (fun r7 => f_X10_lookAt_p35 f_X10_lookAt_p58 FU (nI (letM E)) 0 (sI σ1 46 20 r7))) = _
    rw [mCoins hg1.1 hw (letM_31 _), b1_some, b1_some]
    rfl
  have e1620 : σ1.1 46 20 = σ.1 46 20 := by
    show (sI σ 57 (letM E) 1).1 46 20 = _
    rw [sI_n (by omega)]
  have copy : f_X10_lookAt_p35 f_X10_lookAt_p58 FU (nI (letM E)) 0 (sI σ1 46 20 (nI (wD T E))) = f_X10_lookAt_p58 (nI (letM E)) (putR (sI σ1 46 20 (nI (wD T E))) 56 0 5 (σ.1 55)) := by
    generalize hs2 : sI σ1 46 20 (nI (wD T E)) = σ2
    have h55 : ∀ j, σ2.1 55 j = σ.1 55 j := fun j => by
      rw [← hs2, sI_n (by omega)]
      show (sI σ 57 (letM E) 1).1 55 j = _
      rw [sI_n (by omega)]
    have key := itL (fun n i ζ => f_X10_lookAt_p35 f_X10_lookAt_p58 n (nI (letM E)) i ζ) (fun ζ => f_X10_lookAt_p58 (nI (letM E)) ζ) (fun i ζ => sI ζ 56 i (σ.1 55 i)) 5 (fun i ζ => ζ = putR σ2 56 0 i (σ.1 55)) (a := σ2) (putR_0 _ _ _ _).symm ?_ ?_ FU (by decide)
    · rw [key.2] at key
      exact key.1
    · intro n i ζ hi hp
      refine ⟨?_, ?_⟩
      · show f_X10_lookAt_p35 f_X10_lookAt_p58 (n + 1) (nI (letM E)) (nI i) ζ = _
        rw [f_X10_lookAt_p35, lI 5, if_neg (nI_ge hi (by decide)), gd_t (inB_t hi (by decide)), gd_t (inB_t hi (by decide)), cl_nI (by omega), lI 1, nI_add, hp, putR_ne (show 55 ≠ 56 by decide), h55]
      · rw [hp]
        have := putR_s (σ := σ2) (c := 56) (base := 0) (i := i) (f := σ.1 55) rfl
        rw [Nat.zero_add] at this
        exact this
    · intro n ζ _
      show f_X10_lookAt_p35 f_X10_lookAt_p58 (n + 1) (nI (letM E)) (nI 5) ζ = _
      rw [f_X10_lookAt_p35, lI 5, if_pos (nI_le (Nat.le_refl _) (by decide))]
  have rest1 : ∀ ρ : Mm, GF σ ρ → ρ.1 46 21 = σ.1 46 21 → ρ.1 46 22 = σ.1 46 22 → ρ.1 46 23 = σ.1 46 23 → ρ.1 58 = σ.1 58 → ρ.1 57 = σ1.1 57 → ρ.1 55 = σ.1 55 → BR ρ T (bsL (wD T) none (P ++ [E])) → ∃ τ, f_X10_lookAt_p58 (nI (letM E)) ρ = some τ ∧ GF σ τ ∧ τ.1 55 = σ.1 55 ∧ LR τ T H (P ++ [E]) := by
    intro ρ gf r1 r2 r3 r4 r5 r6 r7
    obtain ⟨τ, t1, t2, t3, t4⟩ := mLook2 (hg.of gf) hw hHw (E := E) (fun o ho => by rw [r6]; exact hd o ho) hE hz (Q := P ++ [E]) (P := P) ⟨fun s hs => by rw [r5]; exact r57 s hs, r7, by rw [r1]; exact l3, by rw [r2]; exact l4, by rw [r3]; exact l5, fun s hs => by rw [r4]; exact l6 s hs⟩
    exact ⟨τ, t1, gf.tr t2, t3.trans r6, t4⟩
  have f1 : ∀ j, σ1.1 46 j = σ.1 46 j := fun j => by
    show (sI σ 57 (letM E) 1).1 46 j = _
    rw [sI_n (by omega)]
  have stay : BR σ1 T (bsL (wD T) none (P ++ [E])) → ∃ τ, f_X10_lookAt_p58 (nI (letM E)) σ1 = some τ ∧ GF σ τ ∧ τ.1 55 = σ.1 55 ∧ LR τ T H (P ++ [E]) := fun hb =>
    rest1 σ1 gf1 (f1 21) (f1 22) (f1 23) (sI_ne (by decide)).1 rfl (sI_ne (by decide)).1 hb
  have take : bsL (wD T) none (P ++ [E]) = some (wD T E, E) → ∃ τ, f_X10_lookAt_p58 (nI (letM E)) (putR (sI σ1 46 20 (nI (wD T E))) 56 0 5 (σ.1 55)) = some τ ∧ GF σ τ ∧ τ.1 55 = σ.1 55 ∧ LR τ T H (P ++ [E]) := fun hb => by
    have q : ∀ c, c ≠ 46 → c ≠ 56 → c ≠ 57 → (putR (sI σ1 46 20 (nI (wD T E))) 56 0 5 (σ.1 55)).1 c = σ.1 c := fun c h1 h2 h3 => by
      rw [putR_ne h2, (sI_ne h1).1]
      exact (sI_ne h3).1
    have q46 : ∀ j, j ≠ 20 → (putR (sI σ1 46 20 (nI (wD T E))) 56 0 5 (σ.1 55)).1 46 j = σ.1 46 j := fun j hj => by
      rw [putR_ne (by decide), sI_n (by omega)]
      exact f1 j
    refine rest1 _ ⟨fun c h1 h2 h3 h4 h5 h6 => q c h1 h3 h4, fun j hj => q46 j (by omega), rfl⟩ (q46 21 (by decide)) (q46 22 (by decide)) (q46 23 (by decide)) (q 58 (by decide) (by decide) (by decide)) (by rw [putR_ne (by decide), (sI_ne (by decide)).1]) (q 55 (by decide) (by decide) (by decide)) ?_
    rw [hb]
    refine ⟨?_, by rw [putR_ne (by decide), sI_s], fun b hb => ?_⟩
    · show worM T (letM E) < 2 ^ 20
      omega
    · have := putR_at (σ := sI σ1 46 20 (nI (wD T E))) (c := 56) (base := 0) (f := σ.1 55) (show b < 5 by omega)
      rw [Nat.zero_add] at this
      rw [this]
      exact hd b hb
  rw [c1, e1620, copy]
  cases hs : bsL (wD T) none P with
  | none =>
    rw [hs] at l2 eb
    have e20 : σ.1 46 20 = -9 := l2
    rw [e20, if_neg]
    · exact take eb
    · rw [Int32.le_iff_toInt_le, nI_toInt (show wD T E < 2 ^ 31 by show worM T (letM E) < 2 ^ 31; omega)]
      have : (-9 : Int32).toInt = -9 := by decide
      omega
  | some p =>
    obtain ⟨M, F⟩ := p
    rw [hs] at l2 eb
    obtain ⟨b1, b2, b3⟩ := l2
    rw [b2]
    by_cases c : wD T E ≤ M
    · rw [if_pos (nI_le c (by omega))]
      refine stay ?_
      have e : upB (wD T) (some (M, F)) E = some (M, F) := if_neg (by omega)
      rw [eb, e]
      refine ⟨b1, by rw [f1]; exact b2, fun b hb => ?_⟩
      have : σ1.1 56 b = σ.1 56 b := sI_n (by omega)
      rw [this]; exact b3 b hb
    · rw [if_neg (by rw [le_nI (by show worM T (letM E) < 2 ^ 31; omega) (by omega)]; exact c)]
      refine take ?_
      have e : upB (wD T) (some (M, F)) E = some (wD T E, E) := if_pos (by omega)
      rw [eb, e]
def catS {α : Type} (f : Nat → List α) : Nat → Nat → List α
  | 0, _ => []
  | j + 1, v => f v ++ catS f j (v + 1)
theorem catS_eq {α : Type} (f : Nat → List α) : ∀ (j v : Nat), catN f v ++ catS f j v = catN f (v + j)
  | 0, v => by rw [catS, List.append_nil]; rfl
  | j + 1, v => by
    have := catS_eq f j (v + 1)
    rw [catN, List.append_assoc] at this
    rw [catS, this, show v + 1 + j = v + (j + 1) by omega]
theorem catS_0 {α : Type} (f : Nat → List α) (n : Nat) : catS f n 0 = catN f n := by
  have := catS_eq f n 0
  rw [Nat.zero_add] at this
  exact this
def cF : Nat → Nat
  | 0 => 1
  | m + 1 => 1 + 11 * (cF m + 1)
theorem m1_nI (b : Nat) : nI (b + 1) + -1 = nI b := by
  rw [show (-1 : Int32) = - nI 1 from rfl, ← nI_add, Int32.add_assoc, Int32.add_right_neg, Int32.add_zero]
theorem mDfs {T : Tw} {N : Dy} {H : Hd} (hw : WT T) (hN : OD T N) (hHw : H.1 ≤ 6 ∧ ∀ i, i < H.1 → (H.2 i).1 < 10 ∧ (H.2 i).2 < 8) (st : Bool) : ∀ (m b : Nat) (E : Dy) (σ : Mm) (P : List Dy), b + m = tNd T → GS σ T N H → DR σ E b → PV T E b → (∀ j, b ≤ j → E j = 0) → LR σ T H P → (m ≠ 0 → σ.1 55 b = -1) → ∃ τ k, k ≤ cF m ∧ (∀ fu, f_X10_goThrough_p83 (fu + k) (if st = true then 1 else 0) (nI b) σ = f_X10_goThrough_p83 fu (if st = true then 1 else 0) (nI b + -1) τ) ∧ GF σ τ ∧ (∀ o, o < b → τ.1 55 o = σ.1 55 o) ∧ LR τ T H (P ++ en (pR T N st) m b E) := by
  have h5 := hw.2.1
  intro m
  induction m with
  | zero =>
    intro b E σ P hb hg hd hE hz hL _
    have eb : b = tNd T := by omega
    subst eb
    obtain ⟨τ, t1, t2, t3, t4⟩ := mLook hg hw hHw hd hE hz hL
    refine ⟨τ, 1, Nat.le_refl _, fun fu => ?_, t2, fun o _ => by rw [t3], t4⟩
    rw [f_X10_goThrough_p83, if_neg (nI_pos (by omega)), hg.1.2.1, if_pos rfl, t1, b1_some]
  | succ m ih =>
    intro b E σ P hb hg hd hE hz hL h1
    have hbn : b < tNd T := by omega
    have g5 : inB (nI b) 5 = true := inB_t (by omega) (by decide)
    let f : Nat → List Dy := fun v => if pR T N st E b v = true then en (pR T N st) m (b + 1) (upD E b v) else []
    have S : ∀ (j v n : Nat) (ζ : Mm) (P : List Dy), v + j = 11 → j < n → GS ζ T N H → DR ζ E b → ζ.1 55 b = nI v → LR ζ T H P → ∃ τ k, k ≤ j * (cF m + 1) ∧ (∀ fu, f_X10_goThrough_p115 (f_X10_goThrough_p148 (f_X10_goThrough_p83 (fu + k))) n (if st = true then 1 else 0) (nI b) ζ = f_X10_goThrough_p83 fu (if st = true then 1 else 0) (nI b + -1) τ) ∧ GF ζ τ ∧ (∀ o, o < b → τ.1 55 o = ζ.1 55 o) ∧ LR τ T H (P ++ catS f j v) := by
      intro j
      induction j with
      | zero =>
        intro v n ζ P hv hn hgz hdz h55 hLz
        obtain ⟨n, rfl⟩ : ∃ n', n = n' + 1 := ⟨n - 1, by omega⟩
        refine ⟨ζ, 0, Nat.zero_le _, fun fu => ?_, GF.rf ζ, fun _ _ => rfl, by rw [catS, List.append_nil]; exact hLz⟩
        rw [f_X10_goThrough_p115, gd_t g5, cl_nI (by omega), h55, lI 11, if_pos (nI_le (by omega) (by omega))]
        unfold f_X10_goThrough_p148
        rw [gd_t g5, cl_nI (by omega), h55, lI 10, if_neg (nI_ge (by omega) (by omega)), Nat.add_zero]
      | succ j ihj =>
        intro v n ζ P hv hn hgz hdz h55 hLz
        obtain ⟨n, rfl⟩ : ∃ n', n = n' + 1 := ⟨n - 1, by omega⟩
        have hv10 : v ≤ 10 := by omega
        have mh := mHave hgz hw hN hbn hdz hE hv10 h55 st
        have step : ∀ ke, f_X10_goThrough_p115 ke (n + 1) (if st = true then 1 else 0) (nI b) ζ = if pR T N st E b v = true then ke (if st = true then 1 else 0) (nI b) ζ else f_X10_goThrough_p115 ke n (if st = true then 1 else 0) (nI b) (sI ζ 55 b (nI (v + 1))) := fun ke => by
          rw [f_X10_goThrough_p115, gd_t g5, cl_nI (by omega), h55, lI 11, if_neg (nI_ge (by omega) (by omega)), mh, b1_some]
          by_cases c : pR T N st E b v = true
          · rw [if_pos c, if_neg n10, if_pos c]
          · rw [if_neg c, if_pos rfl, gd_t g5, gd_t g5, bnd_eq, lI 1, nI_add, if_neg c]
        by_cases c : pR T N st E b v = true
        · have fv : f v = en (pR T N st) m (b + 1) (upD E b v) := if_pos c
          have hmay : v ≠ 0 → may T b (v - 1) = true := fun hv0 => by
            unfold pR at c
            rw [Bool.and_eq_true] at c
            have c2 := c.2
            rw [Bool.or_eq_true, decide_eq_true_eq, Bool.and_eq_true] at c2
            rcases c2 with z | z
            · exact absurd z hv0
            · exact z.1
          let ζ1 : Mm := if m = 0 then ζ else sI ζ 55 (b + 1) (-1)
          have gf1 : GF ζ ζ1 := by
            show GF ζ (if m = 0 then ζ else sI ζ 55 (b + 1) (-1))
            by_cases cm : m = 0
            · rw [if_pos cm]; exact GF.rf ζ
            · rw [if_neg cm]; exact GF.w (by omega)
          have z1 : ∀ o, o ≤ b → ζ1.1 55 o = ζ.1 55 o := fun o ho => by
            show (if m = 0 then ζ else sI ζ 55 (b + 1) (-1)).1 55 o = _
            by_cases cm : m = 0
            · rw [if_pos cm]
            · rw [if_neg cm, sI_n (by omega)]
          have e148 : ∀ kh, f_X10_goThrough_p148 kh (if st = true then 1 else 0) (nI b) ζ = kh (if st = true then 1 else 0) (nI (b + 1)) ζ1 := fun kh => by
            unfold f_X10_goThrough_p148
            rw [gd_t g5, cl_nI (by omega), h55, lI 10, if_pos (nI_le hv10 (by omega)), lI 1, nI_add, hgz.1.2.1]
            show _ = kh _ _ (if m = 0 then ζ else sI ζ 55 (b + 1) (-1))
            by_cases cm : m = 0
            · rw [if_pos cm, if_pos (nI_le (by omega) (by omega))]
            · rw [if_neg cm, if_neg (nI_ge (by omega) (by omega)), gd_t (inB_t (by omega) (by decide)), cl_nI (by omega)]
              rfl
          have hdu : DR ζ1 (upD E b v) (b + 1) := fun o ho => by
            rw [z1 o (by omega)]
            show _ = nI (if o = b then v else E o)
            by_cases q : o = b
            · rw [if_pos q, q]; exact h55
            · rw [if_neg q]; exact hdz o (by omega)
          have hEu : PV T (upD E b v) (b + 1) := fun o ho => by
            show (if o = b then v else E o) ≤ 10 ∧ ((if o = b then v else E o) ≠ 0 → may T o ((if o = b then v else E o) - 1) = true)
            by_cases q : o = b
            · rw [if_pos q, q]; exact ⟨hv10, hmay⟩
            · rw [if_neg q]; exact hE o (by omega)
          have hzu : ∀ j, b + 1 ≤ j → upD E b v j = 0 := fun j hj => by
            show (if j = b then v else E j) = 0
            rw [if_neg (by omega)]; exact hz j (by omega)
          have hL1 : LR ζ1 T H P := by
            show LR (if m = 0 then ζ else sI ζ 55 (b + 1) (-1)) T H P
            by_cases cm : m = 0
            · rw [if_pos cm]; exact hLz
            · rw [if_neg cm]
              obtain ⟨l1, l2, l3, l4, l5, l6⟩ := hLz
              exact ⟨l1, l2.of rfl rfl, l3, l4, l5, l6⟩
          obtain ⟨τ1, k1, q1, q2, q3, q4, q5⟩ := ih (b + 1) (upD E b v) ζ1 P (by omega) (hgz.of gf1) hdu hEu hzu hL1 (fun cm => by
            show (if m = 0 then ζ else sI ζ 55 (b + 1) (-1)).1 55 (b + 1) = -1
            rw [if_neg cm, sI_s])
          have t55 : ∀ o, o ≤ b → τ1.1 55 o = ζ.1 55 o := fun o ho => (q4 o (by omega)).trans (z1 o ho)
          have hg1 := hgz.of (gf1.tr q3)
          let τ2 : Mm := sI τ1 55 b (nI (v + 1))
          have gf2 : GF τ1 τ2 := GF.w (by omega)
          obtain ⟨τ3, k2, r1, r2, r3, r4, r5⟩ := ihj (v + 1) FU τ2 (P ++ f v) (by omega) (by have : FU = 1000000000 := rfl; omega) (hg1.of gf2) (fun o ho => by
            show (sI τ1 55 b (nI (v + 1))).1 55 o = _
            rw [sI_n (by omega), t55 o (by omega)]
            exact hdz o ho) sI_s (by
            rw [fv]
            obtain ⟨l1, l2, l3, l4, l5, l6⟩ := q5
            exact ⟨l1, l2.of rfl rfl, l3, l4, l5, l6⟩)
          refine ⟨τ3, k1 + 1 + k2, ?_, fun fu => ?_, ((gf1.tr q3).tr gf2).tr r3, fun o ho => ?_, ?_⟩
          · have : (j + 1) * (cF m + 1) = j * (cF m + 1) + (cF m + 1) := Nat.succ_mul _ _
            omega
          · rw [step, if_pos c, e148, show fu + (k1 + 1 + k2) = (fu + k2 + 1) + k1 by omega, q2, m1_nI, f_X10_goThrough_p83, if_neg (nI_pos (by omega)), hg1.1.2.1, if_neg (by rw [eq_nI (by omega) (by omega)]; omega), gd_t g5, gd_t g5, bnd_eq, cl_nI (by omega), t55 b (Nat.le_refl _), h55, lI 1, nI_add]
            exact r2 fu
          · rw [r4 o ho]
            show (sI τ1 55 b (nI (v + 1))).1 55 o = _
            rw [sI_n (by omega), t55 o (by omega)]
          · rw [catS, ← List.append_assoc]
            exact r5
        · have fv : f v = [] := if_neg c
          let τ2 : Mm := sI ζ 55 b (nI (v + 1))
          have gf2 : GF ζ τ2 := GF.w (by omega)
          obtain ⟨τ3, k2, r1, r2, r3, r4, r5⟩ := ihj (v + 1) n τ2 P (by omega) (by omega) (hgz.of gf2) (fun o ho => by
            show (sI ζ 55 b (nI (v + 1))).1 55 o = _
            rw [sI_n (by omega)]
            exact hdz o ho) sI_s (by
            obtain ⟨l1, l2, l3, l4, l5, l6⟩ := hLz
            exact ⟨l1, l2.of rfl rfl, l3, l4, l5, l6⟩)
          refine ⟨τ3, k2, ?_, fun fu => ?_, gf2.tr r3, fun o ho => ?_, ?_⟩
          · have : (j + 1) * (cF m + 1) = j * (cF m + 1) + (cF m + 1) := Nat.succ_mul _ _
            omega
          · rw [step, if_neg c]
            exact r2 fu
          · rw [r4 o ho]
            show (sI ζ 55 b (nI (v + 1))).1 55 o = _
            rw [sI_n (by omega)]
          · rw [catS, fv, List.nil_append]
            exact r5
    let τ0 : Mm := sI σ 55 b (nI 0)
    have gf0 : GF σ τ0 := GF.w (by omega)
    obtain ⟨τ, k, r1, r2, r3, r4, r5⟩ := S 11 0 FU τ0 P (by omega) (by decide) (hg.of gf0) (fun o ho => by
      show (sI σ 55 b (nI 0)).1 55 o = _
      rw [sI_n (by omega)]
      exact hd o ho) sI_s (by
      obtain ⟨l1, l2, l3, l4, l5, l6⟩ := hL
      exact ⟨l1, l2.of rfl rfl, l3, l4, l5, l6⟩)
    refine ⟨τ, k + 1, ?_, fun fu => ?_, gf0.tr r3, fun o ho => ?_, ?_⟩
    · rw [cF]; omega
    · rw [show fu + (k + 1) = fu + k + 1 by omega, f_X10_goThrough_p83, if_neg (nI_pos (by omega)), hg.1.2.1, if_neg (by rw [eq_nI (by omega) (by omega)]; omega), gd_t g5, gd_t g5, bnd_eq, cl_nI (by omega), h1 (by omega), show (-1 : Int32) + 1 = nI 0 by decide]
      exact r2 fu
    · rw [r4 o ho]
      show (sI σ 55 b (nI 0)).1 55 o = _
      rw [sI_n (by omega)]
    · rw [en, ← catS_0]
      exact r5
theorem pow_all {n : Nat} (hn : n ≤ 5) : jshl 1 (nI n) - 1 = nI (2 ^ n - 1) := all_nI hn
theorem cF_le : ∀ m, m ≤ 5 → cF m ≤ 354311 := by decide
/-- all that the reference has behind it -/
theorem mGo {σ : Mm} {S : Sp} (hw : WF S) (hM : MI σ S) (st : Bool) : ∃ τ, f_X10_goThrough (if st = true then 1 else 0) σ = some τ ∧ MSame σ τ ∧ Lo σ τ ∧ LR τ S.2.1 S.2.2.2.2.1 (en (pR S.2.1 S.2.2.1 st) (tNd S.2.1) 0 (fun _ => 0)) := by
  have wT := hw.2.1
  have h5 := wT.2.1
  obtain ⟨τ1, e1, e2, e3⟩ := mTables hM.2.1 wT
  unfold f_X10_goThrough
  rw [e1, b1_some]
  have k1 := itL (fun n i ζ => f_X10_goThrough_p6 f_X10_goThrough_p25 n (if st = true then 1 else 0) i ζ) (fun ζ => f_X10_goThrough_p25 (if st = true then 1 else 0) ζ) (fun i ζ => sI ζ 57 i 0) 32 (fun i ζ => (∀ c, c ≠ 57 → ζ.1 c = τ1.1 c) ∧ ζ.2 = τ1.2 ∧ ∀ s, s < i → ζ.1 57 s = 0) (a := τ1) ⟨fun _ _ => rfl, rfl, fun s hs => by omega⟩ ?_ ?_ FU (by decide)
  · obtain ⟨f1, f2, f3, f4⟩ := k1
    generalize itN (fun i ζ => sI ζ 57 i 0) 32 τ1 = τ2 at f1 f2 f3 f4
    have k2 := itL (fun n i ζ => f_X10_goThrough_p27 f_X10_goThrough_p46 n (if st = true then 1 else 0) i ζ) (fun ζ => f_X10_goThrough_p46 (if st = true then 1 else 0) ζ) (fun i ζ => sI ζ 58 i 0) 10 (fun i ζ => (∀ c, c ≠ 58 → ζ.1 c = τ2.1 c) ∧ ζ.2 = τ2.2 ∧ ∀ s, s < i → ζ.1 58 s = 0) (a := τ2) ⟨fun _ _ => rfl, rfl, fun s hs => by omega⟩ ?_ ?_ FU (by decide)
    · obtain ⟨g1, g2, g3, g4⟩ := k2
      generalize itN (fun i ζ => sI ζ 58 i 0) 10 τ2 = τ3 at g1 g2 g3 g4
      have q3 : ∀ c, c ≠ 57 → c ≠ 58 → c ≠ 59 → c ≠ 60 → c ≠ 61 → τ3.1 c = σ.1 c := fun c h1 h2 h3 h4 h5 => by rw [g2 c h2, f2 c h1, e2.1 c h3 h4 h5]
      have q32 : τ3.2 = σ.2 := by rw [g3, f3, e2.2]
      let τ4 : Mm := sI (sI (sI (sI (sI τ3 46 20 (-9)) 46 21 0) 46 22 (nI (2 ^ tNd S.2.1 - 1))) 46 23 0) 55 0 (-1)
      have q4 : ∀ c, c ≠ 46 → c ≠ 55 → τ4.1 c = τ3.1 c := fun c h1 h2 => by
        show (sI (sI (sI (sI (sI τ3 46 20 (-9)) 46 21 0) 46 22 (nI (2 ^ tNd S.2.1 - 1))) 46 23 0) 55 0 (-1)).1 c = _
        rw [(sI_ne h2).1, (sI_ne h1).1, (sI_ne h1).1, (sI_ne h1).1, (sI_ne h1).1]
      have q46 : ∀ j, ¬ (20 ≤ j ∧ j ≤ 23) → τ4.1 46 j = σ.1 46 j := fun j hj => by
        show (sI (sI (sI (sI (sI τ3 46 20 (-9)) 46 21 0) 46 22 (nI (2 ^ tNd S.2.1 - 1))) 46 23 0) 55 0 (-1)).1 46 j = _
        rw [sI_n (by omega), sI_n (by omega), sI_n (by omega), sI_n (by omega), sI_n (by omega), q3 46 (by decide) (by decide) (by decide) (by decide) (by decide)]
      have e46 : f_X10_goThrough_p46 (if st = true then 1 else 0) τ3 = f_X10_goThrough_p83 FU (if st = true then 1 else 0) 0 τ4 := by
        unfold f_X10_goThrough_p46
        have : (sI (sI τ3 46 20 (-9)) 46 21 0).1 46 1 = nI (tNd S.2.1) := by rw [sI_n (by omega), sI_n (by omega), q3 46 (by decide) (by decide) (by decide) (by decide) (by decide)]; exact hM.2.1.2.1
        rw [bnd_eq, this, pow_all h5, gd_t (by decide), bnd_eq]
        rfl
      have hg : GS τ4 S.2.1 S.2.2.1 S.2.2.2.2.1 := by
        have qq : ∀ c, 47 ≤ c → c ≠ 55 → c ≠ 57 → c ≠ 58 → c ≠ 59 → c ≠ 60 → c ≠ 61 → τ4.1 c = σ.1 c := fun c h1 h2 h3 h4 h5 h6 h7 => by rw [q4 c (by omega) h2, q3 c h3 h4 h5 h6 h7]
        refine ⟨hM.2.1.of (q46 0 (by omega)) (q46 1 (by omega)) (qq 47 (by decide) (by decide) (by decide) (by decide) (by decide) (by decide) (by decide)) (qq 48 (by decide) (by decide) (by decide) (by decide) (by decide) (by decide) (by decide)) (qq 49 (by decide) (by decide) (by decide) (by decide) (by decide) (by decide) (by decide)), hM.2.2.1.of (qq 52 (by decide) (by decide) (by decide) (by decide) (by decide) (by decide) (by decide)), hM.2.2.2.2.1.of (q46 38 (by omega)) (qq 71 (by decide) (by decide) (by decide) (by decide) (by decide) (by decide) (by decide)) (qq 72 (by decide) (by decide) (by decide) (by decide) (by decide) (by decide) (by decide)), fun i hi => ?_⟩
        rw [q4 59 (by decide) (by decide), q4 60 (by decide) (by decide), q4 61 (by decide) (by decide), g2 59 (by decide), g2 60 (by decide), g2 61 (by decide), f2 59 (by decide), f2 60 (by decide), f2 61 (by decide)]
        exact e3 i hi
      have hL : LR τ4 S.2.1 S.2.2.2.2.1 [] := by
        refine ⟨fun s hs => ?_, ?_, ?_, ?_, ?_, fun s hs => ?_⟩
        · rw [if_neg (by simp), q4 57 (by decide) (by decide), g2 57 (by decide)]; exact f4 s hs
        · show (sI (sI (sI (sI (sI τ3 46 20 (-9)) 46 21 0) 46 22 (nI (2 ^ tNd S.2.1 - 1))) 46 23 0) 55 0 (-1)).1 46 20 = -9
          rw [sI_n (by omega), sI_n (by omega), sI_n (by omega), sI_n (by omega), sI_s]
        · show (sI (sI (sI (sI (sI τ3 46 20 (-9)) 46 21 0) 46 22 (nI (2 ^ tNd S.2.1 - 1))) 46 23 0) 55 0 (-1)).1 46 21 = 0
          rw [sI_n (by omega), sI_n (by omega), sI_n (by omega), sI_s]
        · show (sI (sI (sI (sI (sI τ3 46 20 (-9)) 46 21 0) 46 22 (nI (2 ^ tNd S.2.1 - 1))) 46 23 0) 55 0 (-1)).1 46 22 = nI (2 ^ tNd S.2.1 - 1)
          rw [sI_n (by omega), sI_n (by omega), sI_s]
        · show (sI (sI (sI (sI (sI τ3 46 20 (-9)) 46 21 0) 46 22 (nI (2 ^ tNd S.2.1 - 1))) 46 23 0) 55 0 (-1)).1 46 23 = 0
          rw [sI_n (by omega), sI_s]
        · rw [q4 58 (by decide) (by decide), g4 s hs]; rfl
      obtain ⟨τ, k, r1, r2, r3, r4, r5⟩ := mDfs wT hw.2.2.1.od hw.2.2.2.2.1 st (tNd S.2.1) 0 (fun _ => 0) τ4 [] (by omega) hg (fun o ho => by omega) (fun o ho => by omega) (fun _ _ => rfl) hL (fun _ => sI_s)
      have hk := cF_le (tNd S.2.1) h5
      refine ⟨τ, ?_, ⟨⟨?_, ?_, ?_, ?_, ?_, ?_⟩, fun c hc => ?_, ?_⟩, fun c hc => ⟨?_, ?_⟩, r5⟩
      · refine f1.trans ?_
        unfold f_X10_goThrough_p25
        refine g1.trans ?_
        rw [e46]
        have hFU : FU = (999000000 + (1000000 - k)) + k := by have : FU = 1000000000 := rfl; omega
        have r2' := r2 (999000000 + (1000000 - k))
        rw [← hFU] at r2'
        refine r2'.trans ?_
        rw [show 999000000 + (1000000 - k) = (999000000 + (1000000 - k) - 1) + 1 by omega, f_X10_goThrough_p83, if_pos (by decide)]
      · rw [r3.2.1 0 (by omega), q46 0 (by omega)]
      · rw [r3.2.1 1 (by omega), q46 1 (by omega)]
      · rw [r3.2.1 9 (by omega), q46 9 (by omega)]
      · rw [r3.2.1 14 (by omega), q46 14 (by omega)]
      · rw [r3.2.1 15 (by omega), q46 15 (by omega)]
      · rw [r3.2.1 38 (by omega), q46 38 (by omega)]
      · rw [r3.1 c (by omega) (by omega) (by omega) (by omega) (by omega) (by omega), q4 c (by omega) (by omega), q3 c (by omega) (by omega) (by omega) (by omega) (by omega)]
      · rw [r3.2.2]
        show τ3.2 46 41 = _
        rw [q32]
      · rw [r3.1 c (by omega) (by omega) (by omega) (by omega) (by omega) (by omega), q4 c (by omega) (by omega), q3 c (by omega) (by omega) (by omega) (by omega) (by omega)]
      · rw [r3.2.2]
        show τ3.2 c = _
        rw [q32]
    · intro n i ζ hi hp
      obtain ⟨p1, p2, p3⟩ := hp
      refine ⟨?_, fun c hc => (sI_ne hc).1.trans (p1 c hc), p2, fun k hk => ?_⟩
      · show f_X10_goThrough_p27 _ (n + 1) _ (nI i) ζ = _
        rw [f_X10_goThrough_p27, lI 10, if_neg (nI_ge hi (by decide)), gd_t (inB_t hi (by decide)), cl_nI (by omega), lI 1, nI_add]
      · by_cases q : k = i
        · rw [q, sI_s]
        · rw [sI_n (by omega)]; exact p3 k (by omega)
    · intro n ζ _
      show f_X10_goThrough_p27 _ (n + 1) _ (nI 10) ζ = _
      rw [f_X10_goThrough_p27, lI 10, if_pos (nI_le (Nat.le_refl _) (by decide))]
  · intro n i ζ hi hp
    obtain ⟨p1, p2, p3⟩ := hp
    refine ⟨?_, fun c hc => (sI_ne hc).1.trans (p1 c hc), p2, fun k hk => ?_⟩
    · show f_X10_goThrough_p6 _ (n + 1) _ (nI i) ζ = _
      rw [f_X10_goThrough_p6, lI 32, if_neg (nI_ge hi (by decide)), gd_t (inB_t hi (by decide)), cl_nI (by omega), lI 1, nI_add]
      rfl
    · by_cases q : k = i
      · rw [q, sI_s]
      · rw [sI_n (by omega)]; exact p3 k (by omega)
  · intro n ζ _
    show f_X10_goThrough_p6 _ (n + 1) _ (nI 32) ζ = _
    rw [f_X10_goThrough_p6, lI 32, if_pos (nI_le (Nat.le_refl _) (by decide))]
