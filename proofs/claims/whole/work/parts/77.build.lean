/-! the class builds its tables -/
def BF (σ τ : Mm) : Prop := (∀ c, c < 3 ∨ 16 ≤ c → τ.1 c = σ.1 c) ∧ ∀ c, c ≠ 14 → τ.2 c = σ.2 c
theorem BF.rf (σ : Mm) : BF σ σ := ⟨fun _ _ => rfl, fun _ _ => rfl⟩
theorem BF.tr {σ τ ρ : Mm} (h : BF σ τ) (g : BF τ ρ) : BF σ ρ := ⟨fun c hc => (g.1 c hc).trans (h.1 c hc), fun c hc => (g.2 c hc).trans (h.2 c hc)⟩
theorem BF.w {σ : Mm} {c j : Nat} {v : Int32} (h1 : 3 ≤ c) (h2 : c < 16) : BF σ (sI σ c j v) := ⟨fun k hk => (sI_ne (by omega)).1, fun _ _ => rfl⟩
theorem BF.x {σ τ : Mm} {t : Tx} (g : BF σ τ) (h : XTx σ t) : XTx τ t := h.of (g.1 1 (by decide)) (g.1 2 (by decide))
theorem xStretch (σ : Mm) {a m : Nat} (ha : a < 32) (hm : m < 32) : f_X9_stretch σ (nI a) (nI m) = some (nI (spN a m)) := mSpan σ ha hm
theorem sJ_n {σ : Mm} {k j a b : Nat} {v : Int64} (h : ¬ (a = k ∧ b = j)) : (sJ σ k j v).2 a b = σ.2 a b := by rw [sJ_2, if_neg h]
def lay (σ : Mm) (i : Nat) (x : Int64) (y : Int32) : Mm := sI (sJ σ 14 i x) 15 i y
theorem lay_1 {σ : Mm} {i : Nat} {x : Int64} {y : Int32} {c : Nat} (h : c ≠ 15) : (lay σ i x y).1 c = σ.1 c := by unfold lay; rw [(sI_ne h).1]; rfl
theorem lay_2 {σ : Mm} {i : Nat} {x : Int64} {y : Int32} {c : Nat} (h : c ≠ 14) : (lay σ i x y).2 c = σ.2 c := (sJ_ne h).2
theorem lay_s {σ : Mm} {i : Nat} {x : Int64} {y : Int32} : (lay σ i x y).1 15 i = y ∧ (lay σ i x y).2 14 i = x := ⟨sI_s, sJ_s⟩
theorem lay_n {σ : Mm} {i j : Nat} {x : Int64} {y : Int32} (h : j ≠ i) : (lay σ i x y).1 15 j = σ.1 15 j ∧ (lay σ i x y).2 14 j = σ.2 14 j := ⟨sI_n (by omega), sJ_n (by omega)⟩
theorem xLay {σ : Mm} {k s : Nat} (hk : k < 5) (hs : s < 10) (x : Int64) (y : Int32) : f_X8_layPlace (nI k) (nI s) x y σ = some (lay σ (10 * k + s) x y) := by
  unfold f_X8_layPlace
  rw [if_neg (nI_pos (by omega)), lI 5, if_neg (nI_ge hk (by decide)), if_neg (nI_pos (by omega)), lI 10, if_neg (nI_ge hs (by decide)), mul_nI, nI_add, gd_t (inB_t (show 10 * k + s < 50 by omega) (by decide)), gd_t (inB_t (show 10 * k + s < 50 by omega) (by decide)), cl_nI (by omega), bnd_eq]
  rfl
/-- cleared so far -/
def CL (σ τ : Mm) (n m : Nat) : Prop := BF σ τ ∧ τ.1 3 0 = 0 ∧ τ.1 3 1 = 0 ∧ (∀ i, i < n → τ.1 15 i = 0 ∧ τ.2 14 i = 0) ∧ ∀ k, k < m → τ.1 12 k = 0 ∧ τ.1 13 k = 0
theorem CL.lay {σ τ : Mm} {n m : Nat} (h : CL σ τ n m) : CL σ (lay τ n 0 0) (n + 1) m := by
  obtain ⟨h1, h2, h3, h4, h5⟩ := h
  refine ⟨⟨fun c hc => by rw [lay_1 (by omega)]; exact h1.1 c hc, fun c hc => by rw [lay_2 hc]; exact h1.2 c hc⟩, by rw [lay_1 (by decide)]; exact h2, by rw [lay_1 (by decide)]; exact h3, fun i hi => ?_, fun k hk => by rw [lay_1 (by decide), lay_1 (by decide)]; exact h5 k hk⟩
  by_cases c : i = n
  · subst c; exact lay_s
  · rw [(lay_n c).1, (lay_n c).2]; exact h4 i (by omega)
theorem xClear1 {σ : Mm} (ke : Int32 → Mm → Option Mm) {i : Nat} (hi : i < 5) {m : Nat} : ∀ (j s n : Nat) (τ : Mm), s + j = 10 → j < n → CL σ τ (10 * i + s) m → ∃ ρ, f_X8_clear_p33 ke n (nI i) (nI s) τ = ke (nI i) ρ ∧ CL σ ρ (10 * i + 10) m := by
  intro j
  induction j with
  | zero =>
    intro s n τ hs hn h
    obtain ⟨n, rfl⟩ : ∃ k, n = k + 1 := ⟨n - 1, by omega⟩
    rw [f_X8_clear_p33, lI 10, if_pos (nI_le (by omega) (by omega))]
    exact ⟨τ, rfl, by rw [show s = 10 by omega] at h; exact h⟩
  | succ j ih =>
    intro s n τ hs hn h
    obtain ⟨n, rfl⟩ : ∃ k, n = k + 1 := ⟨n - 1, by omega⟩
    rw [f_X8_clear_p33, lI 10, if_neg (nI_ge (by omega) (by omega)), xLay hi (by omega), b1_some, lI 1, nI_add]
    exact ih (s + 1) n _ (by omega) (by omega) h.lay
theorem xClear2 {σ : Mm} : ∀ (j i n : Nat) (τ : Mm), i + j = 5 → j < n → CL σ τ (10 * i) i → ∃ ρ, f_X8_clear_p12 n (nI i) τ = some ρ ∧ CL σ ρ 50 5 := by
  intro j
  induction j with
  | zero =>
    intro i n τ hs hn h
    obtain ⟨n, rfl⟩ : ∃ k, n = k + 1 := ⟨n - 1, by omega⟩
    rw [f_X8_clear_p12, lI 5, if_pos (nI_le (by omega) (by omega))]
    exact ⟨τ, rfl, by rw [show i = 5 by omega] at h; exact h⟩
  | succ j ih =>
    intro i n τ hs hn h
    obtain ⟨n, rfl⟩ : ∃ k, n = k + 1 := ⟨n - 1, by omega⟩
    have hi : i < 5 := by omega
    rw [f_X8_clear_p12, lI 5, if_neg (nI_ge (by omega) (by omega)), gd_t (inB_t hi (by decide)), gd_t (inB_t hi (by decide)), cl_nI (by omega), bnd_eq]
    have h' : CL σ (sI (sI τ 12 i 0) 13 i 0) (10 * i + 0) (i + 1) := by
      obtain ⟨h1, h2, h3, h4, h5⟩ := h
      refine ⟨(h1.tr (BF.w (by decide) (by decide))).tr (BF.w (by decide) (by decide)), by rw [sI_n (by omega), sI_n (by omega)]; exact h2, by rw [sI_n (by omega), sI_n (by omega)]; exact h3, fun q hq => by rw [sI_n (by omega), sI_n (by omega)]; exact h4 q hq, fun q hq => ?_⟩
      by_cases c : q = i
      · subst c
        exact ⟨by rw [sI_n (by omega)]; exact sI_s, sI_s⟩
      · rw [sI_n (by omega), sI_n (by omega), sI_n (by omega), sI_n (by omega)]
        exact h5 q (by omega)
    obtain ⟨ρ, e1, e2⟩ := xClear1 (f_X8_clear_p53 (f_X8_clear_p12 n)) hi 10 0 FU _ (by omega) (by decide) h'
    show ∃ ρ, f_X8_clear_p33 (f_X8_clear_p53 (f_X8_clear_p12 n)) FU (nI i) (nI 0) (sI (sI τ 12 i 0) 13 i 0) = some ρ ∧ _
    rw [e1]
    unfold f_X8_clear_p53
    rw [lI 1, nI_add]
    exact ih (i + 1) n ρ (by omega) (by omega) (by rw [show 10 * (i + 1) = 10 * i + 10 by omega]; exact e2)
theorem tab_no {T : Tw} {k : Nat} (h : ¬ k < tNd T) : begX T k = 0 ∧ wantX T k = 0 ∧ ∀ s, ringX T k s = 0 ∧ takeX T k s = 0 := by
  refine ⟨begX_no h, ?_, fun s => ⟨?_, ?_⟩⟩
  · unfold wantX; rw [if_neg (fun z => h z.1)]
  · unfold ringX; rw [if_neg (fun z => h z.1)]
  · unfold takeX; rw [if_neg (fun z => h z.1)]
theorem xClear (σ : Mm) : ∃ τ, f_X8_clear σ = some τ ∧ BF σ τ ∧ XTw τ T0 := by
  unfold f_X8_clear
  obtain ⟨ρ, e1, h1, h2, h3, h4, h5⟩ := xClear2 (σ := σ) 5 0 FU (sI (sI σ 3 0 (0 : Int32)) 3 1 (0 : Int32)) (by omega) (by decide) ⟨(BF.w (by decide) (by decide)).tr (BF.w (by decide) (by decide)), by rw [sI_n (by omega)]; exact sI_s, sI_s, fun i hi => absurd hi (by omega), fun i hi => absurd hi (Nat.not_lt_zero i)⟩
  refine ⟨ρ, e1, h1, h2, h3, fun b hb => absurd hb (Nat.not_lt_zero b), fun b hb => absurd hb (Nat.not_lt_zero b), fun k hk => ?_⟩
  obtain ⟨t1, t2, t3⟩ := tab_no (T := T0) (k := k) (Nat.not_lt_zero k)
  rw [t1, t2]
  refine ⟨(h5 k hk).1, (h5 k hk).2, fun s hs => ?_⟩
  rw [(t3 s).1, (t3 s).2]
  exact h4 _ (by omega)
/-- towers alike in a bidder -/
def Sm (T T' : Tw) (k : Nat) : Prop := tN T' k = tN T k ∧ tG T' k = tG T k ∧ tF T' k = tF T k ∧ tU T' k = tU T k ∧ (tN T k ≠ 0 → tB T' k = tB T k ∧ kR T' k = kR T k ∧ kM T' k = kM T k)
theorem Sm.tab {T T' : Tw} {k : Nat} (h : Sm T T' k) (h1 : k < tNd T) (h2 : k < tNd T') : begX T' k = begX T k ∧ wantX T' k = wantX T k ∧ ∀ s, ringX T' k s = ringX T k s ∧ takeX T' k s = takeX T k s := by
  obtain ⟨a1, a2, a3, a4, a5⟩ := h
  have eW : wantS T' k = wantS T k := by unfold wantS; rw [a3, a4]
  by_cases q : tN T k = 0
  · have em : ∀ s, may T' k s = may T k s := fun s => by unfold may; rw [a1, if_pos q, if_pos q, a3]
    refine ⟨?_, ?_, fun s => ⟨?_, ?_⟩⟩
    · unfold begX
      rw [if_pos h1, if_pos h2]
      exact orN_cong (fun s _ => by rw [em s])
    · rw [wantX_q h1 q, wantX_q h2 (a1.trans q), eW]
    · rw [ringX_q q, ringX_q (a1.trans q)]
    · rw [takeX_q q, takeX_q (a1.trans q)]
  · obtain ⟨b1, b2, b3⟩ := a5 q
    have q' : tN T' k ≠ 0 := by rw [a1]; exact q
    have eS : ∀ s i, stA T' k s i = stA T k s i := fun s i => by unfold stA; rw [b2, a2]
    have em : ∀ s, may T' k s = may T k s := fun s => by unfold may; rw [a1, if_neg q, if_neg q, a2, a3, a4, b2, b3, eS]
    have eR1 : ∀ s, ringS T' k s = ringS T k s := fun s => by unfold ringS; rw [a1]; exact orN_cong (fun i _ => by rw [eS, b2])
    have eT1 : ∀ s, takeS T' k s = takeS T k s := fun s => by unfold takeS; rw [a1]; exact orN_cong (fun i _ => by rw [eS, b2, b3])
    refine ⟨?_, ?_, fun s => ⟨?_, ?_⟩⟩
    · unfold begX
      rw [if_pos h1, if_pos h2]
      exact orN_cong (fun s _ => by rw [em s])
    · rw [wantX_p q, wantX_p q']
    · unfold ringX
      rw [em, eR1, b1]
      by_cases c : may T k s = true
      · rw [if_pos ⟨h2, q', c⟩, if_pos ⟨h1, q, c⟩]
      · rw [if_neg (fun z => c z.2.2), if_neg (fun z => c z.2.2)]
    · unfold takeX
      rw [em, eT1, b1]
      by_cases c : may T k s = true
      · rw [if_pos ⟨h2, q', c⟩, if_pos ⟨h1, q, c⟩]
      · rw [if_neg (fun z => c z.2.2), if_neg (fun z => c z.2.2)]
theorem xAddBell {σ : Mm} {T : Tw} (h : XTw σ T) (hw : WT T) (hn : tNb T < 3) (r d : Nat) : ∃ τ, f_X8_addBell (nI r) (nI d) σ = some τ ∧ BF σ τ ∧ XTw τ (addB T r d) := by
  obtain ⟨h1, h2, h3, h4, h5⟩ := h
  have g : ∀ c, c ≠ 3 → c ≠ 4 → c ≠ 5 → (sI (sI (sI σ 4 (tNb T) (nI r)) 5 (tNb T) (nI d)) 3 0 (nI (tNb T + 1))).1 c = σ.1 c := fun c a1 a2 a3 => by rw [(sI_ne a1).1, (sI_ne a3).1, (sI_ne a2).1]
  refine ⟨sI (sI (sI σ 4 (tNb T) (nI r)) 5 (tNb T) (nI d)) 3 0 (nI (tNb T + 1)), ?_, ((BF.w (by decide) (by decide)).tr (BF.w (by decide) (by decide))).tr (BF.w (by decide) (by decide)), sI_s, ?_, fun b hb => ?_, fun k hk => ?_, fun k hk => ?_⟩
  · unfold f_X8_addBell
    rw [h1, if_neg (nI_pos (by omega)), lI 3, if_pos (nI_lt hn (by decide)), gd_t (inB_t hn (by decide)), cl_nI (by omega), sI_n (by omega), h1, gd_t (inB_t hn (by decide)), cl_nI (by omega), bnd_eq, sI_n (by omega), sI_n (by omega), h1, lI 1, nI_add]
  · rw [sI_n (by omega), sI_n (by omega), sI_n (by omega)]; exact h2
  · have hb' : b < tNb T + 1 := hb
    show _ = nI (upN (tR T) (tNb T) r b) ∧ _ = nI (upN (tM T) (tNb T) d b)
    by_cases c : b = tNb T
    · subst c
      rw [upN_s, upN_s]
      exact ⟨by rw [sI_n (by omega), sI_n (by omega)]; exact sI_s, by rw [sI_n (by omega)]; exact sI_s⟩
    · rw [upN_ne c, upN_ne c, sI_n (by omega), sI_n (by omega), sI_n (by omega), sI_n (by omega), sI_n (by omega), sI_n (by omega)]
      exact h3 b (by omega)
  · have hk' : k < tNd T := hk
    rw [g 6 (by decide) (by decide) (by decide), g 7 (by decide) (by decide) (by decide), g 8 (by decide) (by decide) (by decide), g 9 (by decide) (by decide) (by decide), g 10 (by decide) (by decide) (by decide), g 11 (by decide) (by decide) (by decide)]
    exact h4 k hk'
  · rw [g 12 (by decide) (by decide) (by decide), g 13 (by decide) (by decide) (by decide), g 15 (by decide) (by decide) (by decide)]
    by_cases c : k < tNd T
    · have sm : Sm T (addB T r d) k := ⟨rfl, rfl, rfl, rfl, fun z => ⟨rfl, upN_ne (Nat.ne_of_lt ((hw.2.2.2 k c).2.2.2.2.2.2.1 z)), upN_ne (Nat.ne_of_lt ((hw.2.2.2 k c).2.2.2.2.2.2.1 z))⟩⟩
      obtain ⟨t1, t2, t3⟩ := sm.tab c c
      rw [t1, t2]
      refine ⟨(h5 k hk).1, (h5 k hk).2.1, fun s hs => ?_⟩
      rw [(t3 s).1, (t3 s).2]
      exact (h5 k hk).2.2 s hs
    · obtain ⟨t1, t2, t3⟩ := tab_no c
      obtain ⟨t1', t2', t3'⟩ := tab_no (T := addB T r d) c
      have z := h5 k hk
      rw [t1, t2] at z
      rw [t1', t2']
      refine ⟨z.1, z.2.1, fun s hs => ?_⟩
      have z2 := z.2.2 s hs
      rw [(t3 s).1, (t3 s).2] at z2
      rw [(t3' s).1, (t3' s).2]
      exact z2
theorem XTw_addD {σ τ : Mm} {T : Tw} (h : XTw σ T) {b n g f u w : Nat} (h30 : τ.1 3 0 = σ.1 3 0) (h31 : τ.1 3 1 = nI (tNd T + 1)) (h4 : τ.1 4 = σ.1 4) (h5 : τ.1 5 = σ.1 5) (ho : ∀ c, 6 ≤ c → c ≤ 11 → ∀ j, j < tNd T → τ.1 c j = σ.1 c j) (a6 : τ.1 6 (tNd T) = if n = 0 then -9 else nI b) (a7 : τ.1 7 (tNd T) = nI n) (a8 : τ.1 8 (tNd T) = nI g) (a9 : τ.1 9 (tNd T) = nI f) (a10 : τ.1 10 (tNd T) = nI u) (a11 : τ.1 11 (tNd T) = nI w) (hs : ∀ k, k < 5 → k ≠ tNd T → τ.1 12 k = σ.1 12 k ∧ τ.1 13 k = σ.1 13 k ∧ ∀ s, s < 10 → τ.1 15 (10 * k + s) = σ.1 15 (10 * k + s) ∧ τ.2 14 (10 * k + s) = σ.2 14 (10 * k + s)) (hn : τ.1 12 (tNd T) = nI (begX (addD T b n g f u w) (tNd T)) ∧ τ.1 13 (tNd T) = nI (wantX (addD T b n g f u w) (tNd T)) ∧ ∀ s, s < 10 → τ.1 15 (10 * tNd T + s) = nI (ringX (addD T b n g f u w) (tNd T) s) ∧ τ.2 14 (10 * tNd T + s) = lN (takeX (addD T b n g f u w) (tNd T) s)) : XTw τ (addD T b n g f u w) := by
  obtain ⟨x1, x2, x3, x4, x5⟩ := h
  refine ⟨h30.trans x1, h31, fun b hb => by rw [h4, h5]; exact x3 b hb, fun k hk => ?_, fun k hk => ?_⟩
  · have hk' : k < tNd T + 1 := hk
    by_cases c : k = tNd T
    · subst c
      obtain ⟨e1, e2, e3, e4, e5, e6⟩ := addD_eq T b n g f u w
      unfold eB
      rw [e1, e2, e3, e4, e5, e6]
      exact ⟨a6, a7, a8, a9, a10, a11⟩
    · have hk2 : k < tNd T := by omega
      obtain ⟨e0, e1, e2, e3, e4, e5, _⟩ := addD_lt (T := T) (b := b) (n := n) (g := g) (f := f) (u := u) (w := w) hk2
      rw [e0, e1, e2, e3, e4, e5, ho 6 (by decide) (by decide) k hk2, ho 7 (by decide) (by decide) k hk2, ho 8 (by decide) (by decide) k hk2, ho 9 (by decide) (by decide) k hk2, ho 10 (by decide) (by decide) k hk2, ho 11 (by decide) (by decide) k hk2]
      exact x4 k hk2
  · by_cases c : k = tNd T
    · subst c; exact hn
    · obtain ⟨y1, y2, y3⟩ := hs k hk c
      rw [y1, y2]
      by_cases c2 : k < tNd T
      · obtain ⟨e0, e1, e2, e3, e4, e5, e6⟩ := addD_lt (T := T) (b := b) (n := n) (g := g) (f := f) (u := u) (w := w) c2
        have sm : Sm T (addD T b n g f u w) k := ⟨e1, e2, e3, e4, fun _ => ⟨e6, by unfold kR; rw [e6]; rfl, by unfold kM; rw [e6]; rfl⟩⟩
        obtain ⟨t1, t2, t3⟩ := sm.tab c2 (Nat.lt_succ_of_lt c2)
        rw [t1, t2]
        refine ⟨(x5 k hk).1, (x5 k hk).2.1, fun s hs => ?_⟩
        rw [(t3 s).1, (t3 s).2, (y3 s hs).1, (y3 s hs).2]
        exact (x5 k hk).2.2 s hs
      · obtain ⟨t1, t2, t3⟩ := tab_no c2
        obtain ⟨t1', t2', t3'⟩ := tab_no (T := addD T b n g f u w) (k := k) (fun z => by have z' : k < tNd T + 1 := z; omega)
        have z := x5 k hk
        rw [t1, t2] at z
        rw [t1', t2']
        refine ⟨z.1, z.2.1, fun s hs => ?_⟩
        have z2 := z.2.2 s hs
        rw [(t3 s).1, (t3 s).2] at z2
        rw [(t3' s).1, (t3' s).2, (y3 s hs).1, (y3 s hs).2]
        exact z2
