/-! the strokes of a day, laid on both sides -/
/-- a loop that counts up to N, its steps only known to be there -/
theorem itE {α ρ : Type} (F : Nat → Int32 → α → Option ρ) (K : α → Option ρ) (N : Nat) (P : Nat → α → Prop) {a : α} (h0 : P 0 a)
    (hs : ∀ n i a, i < N → P i a → ∃ a', F (n + 1) (nI i) a = F n (nI (i + 1)) a' ∧ P (i + 1) a') (hk : ∀ n a, P N a → F (n + 1) (nI N) a = K a) (n : Nat) (hn : N < n) :
    ∃ a', F n (nI 0) a = K a' ∧ P N a' := by
  have key : ∀ j, j ≤ N → ∃ a', F n (nI 0) a = F (n - j) (nI j) a' ∧ P j a' := by
    intro j
    induction j with
    | zero => intro _; exact ⟨a, rfl, h0⟩
    | succ j ih =>
      intro hj
      obtain ⟨b, e, hp⟩ := ih (by omega)
      obtain ⟨c, e2, hp2⟩ := hs (n - (j + 1)) j b (by omega) hp
      refine ⟨c, ?_, hp2⟩
      rw [e, show n - j = n - (j + 1) + 1 by omega, e2]
  obtain ⟨b, e, hp⟩ := key N (Nat.le_refl _)
  refine ⟨b, ?_, hp⟩
  rw [e, show n - N = n - N - 1 + 1 by omega]
  exact hk _ _ hp
abbrev Sk : Type := Nat × Nat × Nat
def sA (L : List Sk) (i : Nat) : Sk := L[i]?.getD (0, 0, 0)
theorem sA_l {L : List Sk} {x : Sk} {i : Nat} (h : i < L.length) : sA (L ++ [x]) i = sA L i := by
  unfold sA; rw [List.getElem?_append_left h]
theorem sA_e {L : List Sk} {x : Sk} : sA (L ++ [x]) L.length = x := by
  unfold sA; rw [List.getElem?_concat_length]; rfl
theorem sA_mem {L : List Sk} {i : Nat} (h : i < L.length) : sA L i ∈ L := by
  unfold sA; rw [List.getElem?_eq_getElem h]; exact List.getElem_mem h
def skF (T : Tw) (D : Dy) (k i : Nat) : Sk := (stA T k (D k - 1) i, kR T k, tB T k)
def sl (T : Tw) (D : Dy) (k : Nat) : List Sk := if D k = 0 then [] else (List.range (tN T k)).map (skF T D k)
def sL (T : Tw) (D : Dy) (b : Nat) : List Sk := catN (sl T D) b
def BS (L : List Sk) : Prop := ∀ i, i < L.length → (sA L i).1 + (sA L i).2.1 ≤ 10 ∧ 1 ≤ (sA L i).2.1 ∧ (sA L i).2.2 < 3
theorem sl_len {T : Tw} (hw : WT T) {D : Dy} (hD : OD T D) (k : Nat) : (sl T D k).length ≤ 3 := by
  unfold sl
  by_cases c : D k = 0
  · rw [if_pos c]; exact Nat.zero_le _
  · rw [if_neg c, List.length_map, List.length_range]
    exact (hw.2.2.2 k (hD k c).1).1
theorem sL_len {T : Tw} (hw : WT T) {D : Dy} (hD : OD T D) : ∀ b, (sL T D b).length ≤ 3 * b
  | 0 => Nat.le_refl _
  | b + 1 => by
    have h1 := sL_len hw hD b
    have h2 := sl_len hw hD b
    show (sL T D b ++ sl T D b).length ≤ 3 * (b + 1)
    rw [List.length_append]
    omega
theorem sL_bs {T : Tw} (hw : WT T) {D : Dy} (hD : OD T D) (b : Nat) : BS (sL T D b) := fun i hi => by
  have hm0 : sA (sL T D b) i ∈ catN (sl T D) b := sA_mem hi
  generalize sA (sL T D b) i = x at hm0
  obtain ⟨k, hk, hm⟩ := mem_catN.mp hm0
  unfold sl at hm
  by_cases c : D k = 0
  · rw [if_pos c] at hm; cases hm
  · rw [if_neg c] at hm
    obtain ⟨j, hj, e⟩ := List.mem_map.mp hm
    have hj2 := List.mem_range.mp hj
    obtain ⟨d1, d2, d3⟩ := hD k c
    have q : tN T k ≠ 0 := by omega
    rw [← e]
    exact ⟨may_in hw d1 q d3 hj2, (kM_le hw d1 q).2.1, tB_lt hw d1 q⟩
theorem sL_nd {T : Tw} (hw : WT T) {D : Dy} (hD : OD T D) : sL T D 5 = sL T D (tNd T) := by
  have h5 := hw.2.1
  have key : ∀ r, tNd T + r ≤ 5 → sL T D (tNd T + r) = sL T D (tNd T) := by
    intro r
    induction r with
    | zero => intro _; rfl
    | succ r ih =>
      intro h
      show sL T D (tNd T + r) ++ sl T D (tNd T + r) = _
      have : sl T D (tNd T + r) = [] := by
        unfold sl
        rw [if_pos]
        exact Decidable.byContradiction fun z => by have := (hD _ z).1; omega
      rw [this, List.append_nil, ih (by omega)]
  have := key (5 - tNd T) (by omega)
  rw [show tNd T + (5 - tNd T) = 5 by omega] at this
  exact this
/-- the class's strokes -/
def XS (σ : Mm) (L : List Sk) : Prop := σ.1 40 5 = nI L.length ∧ ∀ i, i < L.length → σ.1 41 i = nI (sA L i).1 ∧ σ.1 42 i = nI ((sA L i).1 + (sA L i).2.1) ∧ σ.1 43 i = nI (sA L i).2.2
def XS0 (σ : Mm) (L : List Sk) : Prop := XS σ L ∧ ∀ i, i < L.length → σ.1 44 i = -9
def FS (σ τ : Mm) : Prop := (∀ c, ¬ (40 ≤ c ∧ c ≤ 44) → τ.1 c = σ.1 c) ∧ τ.2 = σ.2
theorem FS.rf (σ : Mm) : FS σ σ := ⟨fun _ _ => rfl, rfl⟩
theorem FS.tr {σ τ ρ : Mm} (h : FS σ τ) (g : FS τ ρ) : FS σ ρ := ⟨fun c hc => (g.1 c hc).trans (h.1 c hc), g.2.trans h.2⟩
theorem FS.w {σ τ : Mm} {c j : Nat} {v : Int32} (h : FS σ τ) (hc : 40 ≤ c ∧ c ≤ 44) : FS σ (sI τ c j v) := ⟨fun k hk => ((sI_ne (by omega)).1).trans (h.1 k hk), h.2⟩
def stX (m : Nat) (x : Sk) (τ : Mm) : Mm := sI (sI (sI (sI (sI τ 41 m (nI x.1)) 42 m (nI (x.1 + x.2.1))) 43 m (nI x.2.2)) 44 m (-9)) 40 5 (nI (m + 1))
theorem XS0.add {σ : Mm} {L : List Sk} (h : XS0 σ L) (x : Sk) : XS0 (stX L.length x σ) (L ++ [x]) := by
  unfold stX
  refine ⟨⟨?_, fun i hi => ?_⟩, fun i hi => ?_⟩
  · rw [sI_s, List.length_append]; rfl
  · rw [List.length_append] at hi
    have hi2 : i < L.length + 1 := hi
    by_cases q : i = L.length
    · rw [q, sA_e]
      refine ⟨by rw [sI_n (by omega), sI_n (by omega), sI_n (by omega), sI_n (by omega), sI_s], by rw [sI_n (by omega), sI_n (by omega), sI_n (by omega), sI_s], by rw [sI_n (by omega), sI_n (by omega), sI_s]⟩
    · rw [sA_l (by omega), sI_n (by omega), sI_n (by omega), sI_n (by omega), sI_n (by omega), sI_n (by omega), sI_n (by omega), sI_n (by omega), sI_n (by omega), sI_n (by omega), sI_n (by omega), sI_n (by omega), sI_n (by omega), sI_n (by omega), sI_n (by omega), sI_n (by omega)]
      exact h.1.2 i (by omega)
  · rw [List.length_append] at hi
    have hi2 : i < L.length + 1 := hi
    by_cases q : i = L.length
    · rw [q, sI_n (by omega), sI_s]
    · rw [sI_n (by omega), sI_n (by omega), sI_n (by omega), sI_n (by omega), sI_n (by omega)]
      exact h.2 i (by omega)
theorem XTw.fs {σ τ : Mm} {T : Tw} (h : XTw σ T) (g : FS σ τ) : XTw τ T := h.of (fun k _ _ => g.1 k (by omega)) (by rw [g.2])
theorem rg_s {α : Type} (f : Nat → α) (L : List α) (i : Nat) : L ++ (List.range (i + 1)).map f = (L ++ (List.range i).map f) ++ [f i] := by
  rw [List.range_succ, List.map_append, List.append_assoc]; rfl
theorem rg_l {α : Type} (f : Nat → α) (L : List α) (i : Nat) : (L ++ (List.range i).map f).length = L.length + i := by
  rw [List.length_append, List.length_map, List.length_range]
theorem xAdd {σ : Mm} {T : Tw} (h : XTw σ T) (hw : WT T) {D : Dy} (hD : OD T D) {k : Nat} (hk : D k ≠ 0) {L : List Sk} (hL : XS0 σ L) (hl : L.length ≤ 12) : ∃ τ, f_X5_addStrokes (nI k) (nI (D k - 1)) σ = some τ ∧ FS σ τ ∧ XS0 τ (L ++ sl T D k) := by
  have h5 := hw.2.1
  obtain ⟨d1, d2, d3⟩ := hD k hk
  have w1 := hw.2.2.2 k d1
  obtain ⟨x6, x7, x8, x9, x10, x11⟩ := h.2.2.2.1 k d1
  have hFU : FU = 999999999 + 1 := rfl
  unfold f_X5_addStrokes
  rw [at_eq σ 6 k 5 rfl (by omega) (by decide), b1_some, x6]
  by_cases q : tN T k = 0
  · have e1 : f_X9_at σ 4 (eB T k) = some (-9) := by
      rw [eB, if_pos q]
      unfold f_X9_at
      rw [if_pos (by decide)]
    rw [e1, b1_some, at_eq σ 7 k 5 rfl (by omega) (by decide), b1_some, x7, q, hFU, f_X5_addStrokes_p41, if_pos (by decide)]
    refine ⟨σ, rfl, FS.rf σ, ?_⟩
    unfold sl
    rw [if_neg hk, q]
    show XS0 σ (L ++ [])
    rw [List.append_nil]
    exact hL
  · have hb := tB_lt hw d1 q
    have hbn := w1.2.2.2.2.2.2.1 q
    rw [eB, if_neg q, at_eq σ 4 (tB T k) 3 rfl hb (by decide), b1_some, at_eq σ 7 k 5 rfl (by omega) (by decide), b1_some, (h.2.2.1 (tB T k) hbn).1, x7]
    have key := itE (fun n i τ => f_X5_addStrokes_p41 n (nI k) (nI (D k - 1)) (nI (tB T k)) (nI (tR T (tB T k))) (nI (tN T k)) i τ) some (tN T k) (fun i τ => FS σ τ ∧ XS0 τ (L ++ (List.range i).map (skF T D k))) (a := σ) ⟨FS.rf σ, by
      show XS0 σ (L ++ [])
      rw [List.append_nil]
      exact hL⟩ ?_ ?_ FU (by omega)
    · obtain ⟨τ, e, f1, f2⟩ := key
      refine ⟨τ, e, f1, ?_⟩
      unfold sl
      rw [if_neg hk]
      exact f2
    · intro n i τ hi hp
      obtain ⟨p1, p2⟩ := hp
      have xT := h.fs p1
      have m15 : L.length + i < 15 := by omega
      have e40 : τ.1 40 5 = nI (L.length + i) := by rw [p2.1.1, rg_l]
      have g15 : inB (nI (L.length + i)) 15 = true := inB_t m15 (by decide)
      refine ⟨stX (L.length + i) (skF T D k i) τ, ?_, ?_, ?_⟩
      · show f_X5_addStrokes_p41 (n + 1) (nI k) (nI (D k - 1)) (nI (tB T k)) (nI (tR T (tB T k))) (nI (tN T k)) (nI i) τ = _
        rw [f_X5_addStrokes_p41, if_neg (nI_ge hi (by omega)), e40, if_neg (nI_pos (by omega)), lI 15, if_neg (nI_ge m15 (by decide)), at_eq τ 8 k 5 rfl (by omega) (by decide), b1_some, (xT.2.2.2.1 k d1).2.2.1]
        simp (disch := omega) only [e40, sI_n, sI_s, cl_nI, gd_t g15, bnd_eq, nI_add, mul_nI, lI 1]
        rfl
      · unfold stX
        exact ((((p1.w (by omega)).w (by omega)).w (by omega)).w (by omega)).w (by omega)
      · rw [rg_s]
        have := p2.add (skF T D k i)
        rw [rg_l] at this
        exact this
    · intro n τ _
      show f_X5_addStrokes_p41 (n + 1) (nI k) (nI (D k - 1)) (nI (tB T k)) (nI (tR T (tB T k))) (nI (tN T k)) (nI (tN T k)) τ = _
      rw [f_X5_addStrokes_p41, if_pos (nI_le (Nat.le_refl _) (by omega))]
theorem xLayS {σ : Mm} {T : Tw} (h : XTw σ T) (hw : WT T) {D : Dy} (hd : XD σ 17 D) (hD : OD T D) (ke : Mm → Option (Int32 × Mm)) : ∃ τ, f_X5_fewest_p7 16 ke FU 0 (sI σ 40 5 0) = ke τ ∧ FS σ τ ∧ XS0 τ (sL T D (tNd T)) := by
  rw [← sL_nd hw hD]
  have key := itE (fun n i τ => f_X5_fewest_p7 16 ke n i τ) ke 5 (fun i τ => FS σ τ ∧ XS0 τ (sL T D i)) (a := sI σ 40 5 0) ⟨(FS.rf σ).w (by omega), ⟨sI_s, fun i hi => absurd hi (Nat.not_lt_zero _)⟩, fun i hi => absurd hi (Nat.not_lt_zero _)⟩ ?_ ?_ FU (by decide)
  · exact key
  · intro n i τ hi hp
    obtain ⟨p1, p2⟩ := hp
    have hle := hD.le i
    have xd : XD τ 17 D := hd.of (p1.1 17 (by omega))
    by_cases c : D i = 0
    · refine ⟨τ, ?_, p1, ?_⟩
      · show f_X5_fewest_p7 16 ke (n + 1) (nI i) τ = _
        rw [f_X5_fewest_p7, lI 5, if_neg (nI_ge hi (by decide)), xLet (K := 16) xd hD hi, b1_some, if_pos c, if_pos rfl, lI 1, nI_add]
      · have : sl T D i = [] := by unfold sl; rw [if_pos c]
        show XS0 τ (sL T D i ++ sl T D i)
        rw [this, List.append_nil]
        exact p2
    · have hl := sL_len hw hD i
      obtain ⟨ρ, r1, r2, r3⟩ := xAdd (h.fs p1) hw hD c p2 (by omega)
      refine ⟨ρ, ?_, p1.tr r2, r3⟩
      show f_X5_fewest_p7 16 ke (n + 1) (nI i) τ = _
      rw [f_X5_fewest_p7, lI 5, if_neg (nI_ge hi (by decide)), xLet (K := 16) xd hD hi, b1_some, if_neg c, if_neg n10, xSecond (K := 16) xd hD hi, b1_some, eD, if_neg c, r1, b1_some, lI 1, nI_add]
  · intro n τ _
    show f_X5_fewest_p7 16 ke (n + 1) (nI 5) τ = _
    rw [f_X5_fewest_p7, lI 5, if_pos (nI_le (Nat.le_refl _) (by decide))]
/-- the reference's strokes -/
def RS (σ : Mm) (L : List Sk) : Prop := σ.1 46 29 = nI L.length ∧ ∀ i, i < L.length → σ.1 63 i = nI (sA L i).1 ∧ σ.1 64 i = nI ((sA L i).1 + (sA L i).2.1 - 1) ∧ σ.1 65 i = nI (sA L i).2.2
def RFs (σ τ : Mm) : Prop := (∀ c, c ≠ 46 → ¬ (63 ≤ c ∧ c ≤ 69) → τ.1 c = σ.1 c) ∧ (∀ j, j ≠ 29 → τ.1 46 j = σ.1 46 j) ∧ τ.2 = σ.2
theorem RFs.rf (σ : Mm) : RFs σ σ := ⟨fun _ _ _ => rfl, fun _ _ => rfl, rfl⟩
theorem RFs.tr {σ τ ρ : Mm} (h : RFs σ τ) (g : RFs τ ρ) : RFs σ ρ := ⟨fun c hc h2 => (g.1 c hc h2).trans (h.1 c hc h2), fun j hj => (g.2.1 j hj).trans (h.2.1 j hj), g.2.2.trans h.2.2⟩
theorem RFs.w {σ τ : Mm} {c j : Nat} {v : Int32} (h : RFs σ τ) (hc : 63 ≤ c ∧ c ≤ 69) : RFs σ (sI τ c j v) := ⟨fun k hk h2 => ((sI_ne (by omega)).1).trans (h.1 k hk h2), fun i hi => (sI_n (by omega)).trans (h.2.1 i hi), h.2.2⟩
theorem RFs.n {σ τ : Mm} {v : Int32} (h : RFs σ τ) : RFs σ (sI τ 46 29 v) := ⟨fun k hk h2 => ((sI_ne hk).1).trans (h.1 k hk h2), fun i hi => (sI_n (by omega)).trans (h.2.1 i hi), h.2.2⟩
theorem MTw.rf {σ τ : Mm} {T : Tw} (h : MTw σ T) (g : RFs σ τ) : MTw τ T := h.of (g.2.1 0 (by decide)) (g.2.1 1 (by decide)) (g.1 47 (by decide) (by decide)) (g.1 48 (by decide) (by decide)) (g.1 49 (by decide) (by decide))
def stM (m : Nat) (x : Sk) (τ : Mm) : Mm := sI (sI (sI (sI τ 63 m (nI x.1)) 64 m (nI (x.1 + x.2.1 - 1))) 65 m (nI x.2.2)) 46 29 (nI (m + 1))
theorem RS.add {σ : Mm} {L : List Sk} (h : RS σ L) (x : Sk) : RS (stM L.length x σ) (L ++ [x]) := by
  unfold stM
  refine ⟨?_, fun i hi => ?_⟩
  · rw [sI_s, List.length_append]; rfl
  · rw [List.length_append] at hi
    have hi2 : i < L.length + 1 := hi
    by_cases q : i = L.length
    · rw [q, sA_e]
      refine ⟨by rw [sI_n (by omega), sI_n (by omega), sI_n (by omega), sI_s], by rw [sI_n (by omega), sI_n (by omega), sI_s], by rw [sI_n (by omega), sI_s]⟩
    · rw [sA_l (by omega), sI_n (by omega), sI_n (by omega), sI_n (by omega), sI_n (by omega), sI_n (by omega), sI_n (by omega), sI_n (by omega), sI_n (by omega), sI_n (by omega), sI_n (by omega), sI_n (by omega), sI_n (by omega)]
      exact h.2 i (by omega)
theorem mAdd {σ : Mm} {T : Tw} (h : MTw σ T) (hw : WT T) {D : Dy} (hd : MD σ D) (hD : OD T D) {k : Nat} (hk : k < tNd T) {L : List Sk} (hL : RS σ L) (hl : L.length ≤ 12) (ke : Int32 → Mm → Option Mm) : ∃ τ, f_X10_layStrokes_p17 ke FU (nI k) 0 σ = ke (nI k) τ ∧ RFs σ τ ∧ RS τ (L ++ sl T D k) := by
  have h5 := hw.2.1
  have w1 := hw.2.2.2 k hk
  have g1 : inB (nI (6 * k + 1)) 30 = true := inB_t (by omega) (by decide)
  have g0 : inB (nI (6 * k)) 30 = true := inB_t (by omega) (by decide)
  have g5 : inB (nI k) 5 = true := inB_t (by omega) (by decide)
  have hFU : FU = 999999999 + 1 := rfl
  have hle := hD.le k
  by_cases c : D k = 0
  · refine ⟨σ, ?_, RFs.rf σ, ?_⟩
    · rw [hFU, f_X10_layStrokes_p17, lI 6, lI 1, mul_nI, nI_add, gd_t g1, cl_nI (by omega), (h.2.2.2 k hk).2.1]
      by_cases q : tN T k = 0
      · rw [q, if_pos (by decide)]
      · rw [← nI0, if_neg (nI_ge (by omega) (by omega)), gd_t g5, cl_nI (by omega), hd k (by omega), if_pos (by rw [eD_0 hle]; exact c)]
    · have : sl T D k = [] := by unfold sl; rw [if_pos c]
      rw [this, List.append_nil]
      exact hL
  · have key := itE (fun n i τ => f_X10_layStrokes_p17 ke n (nI k) i τ) (fun τ => ke (nI k) τ) (tN T k) (fun i τ => RFs σ τ ∧ RS τ (L ++ (List.range i).map (skF T D k))) (a := σ) ⟨RFs.rf σ, by
      show RS σ (L ++ [])
      rw [List.append_nil]
      exact hL⟩ ?_ ?_ FU (by omega)
    · obtain ⟨τ, e, f1, f2⟩ := key
      refine ⟨τ, e, f1, ?_⟩
      unfold sl
      rw [if_neg c]
      exact f2
    · intro n i τ hi hp
      obtain ⟨p1, p2⟩ := hp
      have q : tN T k ≠ 0 := by omega
      have hT := h.rf p1
      have hb := tB_lt hw hk q
      have hbn := w1.2.2.2.2.2.2.1 q
      have kr := kM_le hw hk q
      have m15 : L.length + i < 15 := by omega
      have e46 : τ.1 46 29 = nI (L.length + i) := by rw [p2.1, rg_l]
      have g15 : inB (nI (L.length + i)) 15 = true := inB_t m15 (by decide)
      have g3 : inB (nI (tB T k)) 3 = true := inB_t hb (by decide)
      have e52 : τ.1 52 k = nI (D k - 1) := by rw [p1.1 52 (by decide) (by decide), hd k (by omega), eD, if_neg c]
      have e49 : τ.1 49 (6 * k) = nI (tB T k) := by rw [(hT.2.2.2 k hk).1, eB, if_neg q]
      have e47 : τ.1 47 (tB T k) = nI (kR T k) := (hT.2.2.1 (tB T k) hbn).1
      refine ⟨stM (L.length + i) (skF T D k i) τ, ?_, ?_, ?_⟩
      · show f_X10_layStrokes_p17 ke (n + 1) (nI k) (nI i) τ = _
        rw [f_X10_layStrokes_p17, lI 6, lI 1, mul_nI, nI_add, gd_t g1, cl_nI (show 6 * k + 1 < 2 ^ 31 by omega), (hT.2.2.2 k hk).2.1, if_neg (nI_ge hi (by omega)), gd_t g5, cl_nI (show k < 2 ^ 31 by omega), e52, if_neg (by rw [ne9 (by omega)]; exact fun z => z), gd_t g0, gd_t g5, mStroke hT hw hk q, b1_some, cl_nI (show 6 * k < 2 ^ 31 by omega), e49]
        simp (disch := omega) only [e46, sI_n, sI_s, cl_nI, gd_t g15, gd_t g3, bnd_eq, e47, nI_add]
        rw [pk_sub (by omega)]
        rfl
      · unfold stM
        exact (((p1.w (by omega)).w (by omega)).w (by omega)).n
      · rw [rg_s]
        have := p2.add (skF T D k i)
        rw [rg_l] at this
        exact this
    · intro n τ hp
      have hT := h.rf hp.1
      show f_X10_layStrokes_p17 ke (n + 1) (nI k) (nI (tN T k)) τ = _
      rw [f_X10_layStrokes_p17, lI 6, lI 1, mul_nI, nI_add, gd_t g1, cl_nI (by omega), (hT.2.2.2 k hk).2.1, if_pos (nI_le (Nat.le_refl _) (by omega))]
theorem mLay {σ : Mm} {T : Tw} (h : MTw σ T) (hw : WT T) {D : Dy} (hd : MD σ D) (hD : OD T D) : ∃ τ, f_X10_layStrokes σ = some τ ∧ RFs σ τ ∧ RS τ (sL T D (tNd T)) := by
  have h5 := hw.2.1
  unfold f_X10_layStrokes
  refine itE (fun n i τ => f_X10_layStrokes_p7 n i τ) some (tNd T) (fun i τ => RFs σ τ ∧ RS τ (sL T D i)) (a := sI σ 46 29 0) ⟨(RFs.rf σ).n, sI_s, fun i hi => absurd hi (Nat.not_lt_zero _)⟩ ?_ ?_ FU (by have : FU = 1000000000 := rfl; omega)
  · intro n i τ hi hp
    obtain ⟨p1, p2⟩ := hp
    have hl := sL_len hw hD i
    obtain ⟨ρ, r1, r2, r3⟩ := mAdd (h.rf p1) hw (hd.of (p1.1 52 (by decide) (by decide))) hD hi p2 (by omega) (f_X10_layStrokes_p127 (f_X10_layStrokes_p7 n))
    refine ⟨ρ, ?_, p1.tr r2, r3⟩
    show f_X10_layStrokes_p7 (n + 1) (nI i) τ = _
    rw [f_X10_layStrokes_p7, (h.rf p1).2.1, if_neg (nI_ge hi (by omega)), r1]
    unfold f_X10_layStrokes_p127
    rw [lI 1, nI_add]
  · intro n τ hp
    show f_X10_layStrokes_p7 (n + 1) (nI (tNd T)) τ = _
    rw [f_X10_layStrokes_p7, (h.rf hp.1).2.1, if_pos (nI_le (Nat.le_refl _) (by omega))]
