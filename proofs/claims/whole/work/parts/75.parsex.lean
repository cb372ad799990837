/-! the class reads the text: where it is at fault -/
theorem okK_iff {t : Tx} {c : Int32} {nb p k : Nat} : okK t c nb p k = true ↔ p + k < t.1 ∧ ¬ (t.2 (p + k) - 48) < nI (loK c k (fv t (p + k - 1))) ∧ ¬ nI (hiK c k nb) < t.2 (p + k) - 48 := by
  unfold okK inR
  rw [Bool.and_eq_true, decide_eq_true_eq, decide_eq_true_eq]
theorem xLetter {σ : Mm} {t : Tx} (h : XTx σ t) (ht : t.1 ≤ 48) {i : Nat} (hi : i < t.1) : f_X7_letterAt σ (nI i) = some (t.2 i) := by
  rw [letterAt_eq h ht, if_neg (by rw [lt_nI (by omega) (by omega)]; exact fun z => z hi), if_neg (nI_pos (by omega)), cl_nI (by omega), h.2 i hi]
theorem xFigure {σ : Mm} {t : Tx} (h : XTx σ t) (ht : t.1 ≤ 48) {i : Nat} (hi : i < t.1) : f_X7_figureAt σ (nI i) = some (t.2 i - 48) := by
  unfold f_X7_figureAt
  rw [xLetter h ht hi, b1_some]
theorem xLeast (σ : Mm) {c x : Int32} {k bf : Nat} (hk7 : k < 7) (hb : (c = 80 ∧ k = 5) ∨ (c ≠ 80 ∧ c ≠ 66 ∧ k = 2) → x = nI bf) : f_X7_least σ c (nI k) x = some (nI (loK c k bf)) := by
  unfold f_X7_least loK
  simp (disch := omega) only [lI 1, lI 2, lI 3, lI 5, lI 6, eq_nI]
  by_cases c1 : c = 66
  · rw [if_pos c1, if_pos c1]
    by_cases k1 : k = 1
    · rw [if_pos k1, if_pos k1]
    · (rw [if_neg k1, if_neg k1] <;> rfl)
  rw [if_neg c1, if_neg c1]
  by_cases c2 : c = 80
  · rw [if_pos c2, if_pos c2]
    by_cases k5 : k = 5
    · rw [if_pos k5, if_pos k5, hb (Or.inl ⟨c2, k5⟩)]
    rw [if_neg k5, if_neg k5]
    by_cases k2 : k = 2
    · rw [if_pos k2, if_pos k2]
    rw [if_neg k2, if_neg k2]
    by_cases k6 : k = 6
    · rw [if_pos k6, if_pos k6]
    (rw [if_neg k6, if_neg k6] <;> rfl)
  rw [if_neg c2, if_neg c2]
  by_cases k2 : k = 2
  · rw [if_pos k2, if_pos k2, hb (Or.inr ⟨c2, c1, k2⟩)]
  rw [if_neg k2, if_neg k2]
  by_cases k3 : k = 3
  · rw [if_pos k3, if_pos k3]
  (rw [if_neg k3, if_neg k3] <;> rfl)
theorem xMostK (σ : Mm) {c : Int32} {k nb : Nat} (hk7 : k < 7) (hn : c = 80 → 1 ≤ nb) : f_X7_most σ c (nI k) (nI nb) = some (nI (hiK c k nb)) := by
  unfold f_X7_most hiK
  simp (disch := omega) only [lI 1, lI 2, lI 3, lI 9, eq_nI]
  by_cases c1 : c = 66
  · rw [if_pos c1, if_pos c1]
    by_cases k1 : k = 1
    · rw [if_pos k1, if_pos k1]
    · rw [if_neg k1, if_neg k1]
  rw [if_neg c1, if_neg c1]
  by_cases c2 : c = 80
  · have h1 := hn c2
    rw [if_pos c2, if_pos c2]
    by_cases k1 : k = 1
    · rw [if_pos k1, if_pos k1, pk_sub h1]
    rw [if_neg k1, if_neg k1]
    by_cases k2 : k = 2
    · rw [if_pos k2, if_pos k2]
    rw [if_neg k2, if_neg k2]
    by_cases k3 : k = 3
    · rw [if_pos k3, if_pos k3]
    rw [if_neg k3, if_neg k3]
  rw [if_neg c2, if_neg c2]
theorem xSize (σ : Mm) (c : Int32) : f_X7_sizeOf σ c = some (nI (szK c)) := by
  unfold f_X7_sizeOf szK
  by_cases c1 : c = 66
  · (rw [if_pos c1, if_pos c1] <;> rfl)
  rw [if_neg c1, if_neg c1]
  by_cases c2 : c = 80
  · (rw [if_pos c2, if_pos c2] <;> rfl)
  rw [if_neg c2, if_neg c2]
  by_cases c3 : c = 81
  · (rw [if_pos c3, if_pos c3] <;> rfl)
  (rw [if_neg c3, if_neg c3] <;> rfl)
theorem xMayT (σ : Mm) {c : Int32} {nb nd : Nat} (h1 : nb ≤ 3) (h2 : nd ≤ 5) : f_X7_mayBeTold σ c (nI nb) (nI nd) = some (if mayT c nb nd = true then 1 else 0) := by
  unfold f_X7_mayBeTold
  simp (disch := omega) only [lI 3, lI 5, le_nI, le0_nI]
  by_cases c1 : c = 66
  · subst c1
    by_cases a : 3 ≤ nb
    · rw [if_pos rfl, if_pos a, if_neg]
      rw [mayT_iff]
      rintro (⟨_, z⟩ | ⟨z, _⟩ | ⟨z, _⟩)
      · omega
      · exact absurd z (by decide)
      · exact absurd z (by decide)
    · rw [if_pos rfl, if_neg a, if_pos (mayT_iff.mpr (Or.inl ⟨rfl, by omega⟩))]
  rw [if_neg c1]
  by_cases c2 : c = 80
  · subst c2
    rw [if_pos rfl]
    by_cases a : nb = 0
    · rw [if_pos a, if_neg]
      rw [mayT_iff]
      rintro (⟨z, _⟩ | ⟨_, z, _⟩ | ⟨z, _⟩)
      · exact absurd z (by decide)
      · omega
      · exact absurd z (by decide)
    rw [if_neg a]
    by_cases b : 5 ≤ nd
    · rw [if_pos b, if_neg]
      rw [mayT_iff]
      rintro (⟨z, _⟩ | ⟨_, _, z⟩ | ⟨z, _⟩)
      · exact absurd z (by decide)
      · omega
      · exact absurd z (by decide)
    rw [if_neg b, if_pos (mayT_iff.mpr (Or.inr (Or.inl ⟨rfl, by omega, by omega⟩)))]
  rw [if_neg c2]
  by_cases c3 : c = 81
  · subst c3
    rw [if_pos rfl]
    by_cases b : 5 ≤ nd
    · rw [if_pos b, if_neg]
      rw [mayT_iff]
      rintro (⟨z, _⟩ | ⟨z, _⟩ | ⟨_, z⟩)
      · exact absurd z (by decide)
      · exact absurd z (by decide)
      · omega
    rw [if_neg b, if_pos (mayT_iff.mpr (Or.inr (Or.inr ⟨rfl, by omega⟩)))]
  rw [if_neg c3, if_neg]
  rw [mayT_iff]
  rintro (⟨z, _⟩ | ⟨z, _⟩ | ⟨z, _⟩)
  · exact c1 z
  · exact c2 z
  · exact c3 z
theorem xPartL {σ : Mm} {t : Tx} (h : XTx σ t) (ht : t.1 ≤ 48) {c : Int32} {nb p : Nat} (hnb : nb ≤ 3) (hc : c = 80 → 1 ≤ nb) : ∀ (j k n : Nat), 1 ≤ k → k + j = szK c → p + k ≤ t.1 → (2 ≤ k → okK t c nb p (k - 1) = true) → j < n → f_X7_faultInPart_p9 σ n c (nI p) (nI nb) (nI (szK c)) (nI k) = some (nI (p + ff (okK t c nb p) j k)) := by
  intro j
  induction j with
  | zero =>
    intro k n h1 h2 h3 h4 h5
    obtain ⟨n, rfl⟩ : ∃ m, n = m + 1 := ⟨n - 1, by omega⟩
    have hs := szK_pos c
    rw [f_X7_faultInPart_p9, if_pos (nI_le (by omega) (by omega)), nI_add, show szK c = k by omega]
    rfl
  | succ j ih =>
    intro k n h1 h2 h3 h4 h5
    obtain ⟨n, rfl⟩ : ∃ m, n = m + 1 := ⟨n - 1, by omega⟩
    have hs := szK_pos c
    rw [f_X7_faultInPart_p9, if_neg (nI_ge (by omega) (by omega)), nI_add, h.1]
    by_cases e : p + k < t.1
    · rw [if_pos (nI_lt e (by omega)), xFigure h ht e, b1_some, lI 1, pk_sub (by omega), xFigure h ht (show p + k - 1 < t.1 by omega), b1_some, xLeast σ (bf := fv t (p + k - 1)) (by omega) (by
        intro z
        have k2 : 2 ≤ k := by rcases z with z | z <;> omega
        have := (ok_v hnb (h4 k2)).2.1
        rw [show p + (k - 1) = p + k - 1 by omega] at this
        exact this), b1_some]
      by_cases q1 : t.2 (p + k) - 48 < nI (loK c k (fv t (p + k - 1)))
      · rw [if_pos q1, ff, if_neg (fun z => (okK_iff.mp z).2.1 q1)]
      · rw [if_neg q1, xMostK σ (by omega) hc, b1_some]
        by_cases q2 : nI (hiK c k nb) < t.2 (p + k) - 48
        · rw [if_neg (by rw [gt_iff]; exact fun z => z q2), ff, if_neg (fun z => (okK_iff.mp z).2.2 q2)]
        · have hok : okK t c nb p k = true := okK_iff.mpr ⟨e, q1, q2⟩
          rw [if_pos (by rw [gt_iff]; exact q2), nI_add, ff, if_pos hok]
          exact ih (k + 1) n (by omega) (by omega) (by omega) (fun _ => by rw [Nat.add_sub_cancel]; exact hok) (by omega)
    · rw [if_neg (nI_nlt (by omega) (by omega)), ff, if_neg (fun z => e (okK_iff.mp z).1), show t.1 = p + k by omega]
theorem xPart {σ : Mm} {t : Tx} (h : XTx σ t) (ht : t.1 ≤ 48) {c : Int32} {nb p : Nat} (hnb : nb ≤ 3) (hc : c = 80 → 1 ≤ nb) (hp : p < t.1) : f_X7_faultInPart σ c (nI p) (nI nb) = some (nI (p + fkK t c nb p)) := by
  unfold f_X7_faultInPart
  have hs := szK_pos c
  rw [xSize, b1_some, lI 1]
  exact xPartL h ht hnb hc (szK c - 1) 1 FU (Nat.le_refl _) (by omega) (by omega) (fun z => by omega) (Nat.lt_of_lt_of_le (show szK c - 1 < 7 by omega) (by decide))
theorem fk_le (t : Tx) (c : Int32) (nb p : Nat) : fkK t c nb p ≤ szK c := by
  have := ff_le (q := okK t c nb p) (szK c - 1) 1
  have hs := szK_pos c
  unfold fkK
  omega
theorem fk_ok {t : Tx} {c : Int32} {nb p k : Nat} (h : fkK t c nb p = szK c) (h1 : 1 ≤ k) (h2 : k < szK c) : okK t c nb p k = true := by
  have hs := szK_pos c
  unfold fkK at h
  exact ff_all (szK c - 1) 1 (by omega) k h1 (by omega)
theorem ok_b {t : Tx} {c : Int32} {nb p k lo hi : Nat} (h : okK t c nb p k = true) (h1 : loK c k (fv t (p + k - 1)) = lo) (h2 : hiK c k nb = hi) (hl : lo < 2 ^ 30) (hh : hi < 2 ^ 30) : p + k < t.1 ∧ t.2 (p + k) - 48 = nI (fv t (p + k)) ∧ lo ≤ fv t (p + k) ∧ fv t (p + k) ≤ hi := by
  unfold okK at h
  rw [h1, h2] at h
  exact inR_ok hl hh h
theorem may3 {c : Int32} {nb nd : Nat} (h : mayT c nb nd = true) : (c = 66 ∧ nb < 3) ∨ (c = 80 ∧ 0 < nb ∧ nd < 5) ∨ (c = 81 ∧ nd < 5) := mayT_iff.mp h
/-- what the figures of a part are -/
theorem figB {t : Tx} {nb p : Nat} (h : fkK t 66 nb p = szK 66) : p + 3 ≤ t.1 ∧ (t.2 (p + 1) - 48 = nI (fv t (p + 1)) ∧ 1 ≤ fv t (p + 1) ∧ fv t (p + 1) ≤ 3) ∧ (t.2 (p + 2) - 48 = nI (fv t (p + 2)) ∧ fv t (p + 2) ≤ 2) := by
  have a := ok_b (fk_ok h (k := 1) (by decide) (by decide)) (lo := 1) (hi := 3) rfl rfl (by decide) (by decide)
  have b := ok_b (fk_ok h (k := 2) (by decide) (by decide)) (lo := 0) (hi := 2) rfl rfl (by decide) (by decide)
  exact ⟨by omega, ⟨a.2.1, a.2.2⟩, b.2.1, b.2.2.2⟩
theorem figP {t : Tx} {nb p : Nat} (h : fkK t 80 nb p = szK 80) (hnb : nb ≤ 3) : p + 7 ≤ t.1 ∧ (t.2 (p + 1) - 48 = nI (fv t (p + 1)) ∧ fv t (p + 1) ≤ nb - 1) ∧ (t.2 (p + 2) - 48 = nI (fv t (p + 2)) ∧ 1 ≤ fv t (p + 2) ∧ fv t (p + 2) ≤ 3) ∧ (t.2 (p + 3) - 48 = nI (fv t (p + 3)) ∧ fv t (p + 3) ≤ 3) ∧ (t.2 (p + 4) - 48 = nI (fv t (p + 4)) ∧ fv t (p + 4) ≤ fv t (p + 5)) ∧ (t.2 (p + 5) - 48 = nI (fv t (p + 5)) ∧ fv t (p + 5) ≤ 9) ∧ (t.2 (p + 6) - 48 = nI (fv t (p + 6)) ∧ 1 ≤ fv t (p + 6) ∧ fv t (p + 6) ≤ 9) := by
  have a := ok_b (fk_ok h (k := 1) (by decide) (by decide)) (lo := 0) (hi := nb - 1) rfl rfl (by decide) (by omega)
  have b := ok_b (fk_ok h (k := 2) (by decide) (by decide)) (lo := 1) (hi := 3) rfl rfl (by decide) (by decide)
  have c := ok_b (fk_ok h (k := 3) (by decide) (by decide)) (lo := 0) (hi := 3) rfl rfl (by decide) (by decide)
  have d := ok_b (fk_ok h (k := 4) (by decide) (by decide)) (lo := 0) (hi := 9) rfl rfl (by decide) (by decide)
  have e := ok_b (fk_ok h (k := 5) (by decide) (by decide)) (lo := fv t (p + 4)) (hi := 9) rfl rfl (by omega) (by decide)
  have f := ok_b (fk_ok h (k := 6) (by decide) (by decide)) (lo := 1) (hi := 9) rfl rfl (by decide) (by decide)
  exact ⟨by omega, ⟨a.2.1, a.2.2.2⟩, ⟨b.2.1, b.2.2⟩, ⟨c.2.1, c.2.2.2⟩, ⟨d.2.1, e.2.2.1⟩, ⟨e.2.1, e.2.2.2⟩, f.2.1, f.2.2⟩
theorem figQ {t : Tx} {nb p : Nat} (h : fkK t 81 nb p = szK 81) : p + 4 ≤ t.1 ∧ (t.2 (p + 1) - 48 = nI (fv t (p + 1)) ∧ fv t (p + 1) ≤ fv t (p + 2)) ∧ (t.2 (p + 2) - 48 = nI (fv t (p + 2)) ∧ fv t (p + 2) ≤ 9) ∧ (t.2 (p + 3) - 48 = nI (fv t (p + 3)) ∧ 1 ≤ fv t (p + 3) ∧ fv t (p + 3) ≤ 9) := by
  have d := ok_b (fk_ok h (k := 1) (by decide) (by decide)) (lo := 0) (hi := 9) rfl rfl (by decide) (by decide)
  have e := ok_b (fk_ok h (k := 2) (by decide) (by decide)) (lo := fv t (p + 1)) (hi := 9) rfl rfl (by omega) (by decide)
  have f := ok_b (fk_ok h (k := 3) (by decide) (by decide)) (lo := 1) (hi := 9) rfl rfl (by decide) (by decide)
  exact ⟨by omega, ⟨d.2.1, e.2.2.1⟩, ⟨e.2.1, e.2.2.2⟩, f.2.1, f.2.2⟩
theorem WT_addP {t : Tx} {p : Nat} {T : Tw} (hw : WT T) {c : Int32} (hm : mayT c (tNb T) (tNd T) = true) (hf : fkK t c (tNb T) p = szK c) : WT (addP t p c T) ∧ p + szK c ≤ t.1 ∧ tNb (addP t p c T) = tNb T + (if c = 66 then 1 else 0) ∧ tNd (addP t p c T) = tNd T + (if c = 66 then 0 else 1) := by
  rcases may3 hm with ⟨rfl, h1⟩ | ⟨rfl, h1, h2⟩ | ⟨rfl, h1⟩
  · obtain ⟨g1, g2, g3⟩ := figB hf
    exact ⟨WT_addB hw h1 g2.2 g3.2, g1, rfl, rfl⟩
  · obtain ⟨g1, g2, g3, g4, g5, g6, g7⟩ := figP hf hw.1
    exact ⟨WT_addD hw h2 g3.2.2 g4.2 g5.2 g6.2 g7.2.1 g7.2.2 (fun _ => by omega) (fun z => by omega), g1, rfl, rfl⟩
  · obtain ⟨g1, g2, g3, g4⟩ := figQ hf
    exact ⟨WT_addD hw h1 (by decide) (by decide) g2.2 g3.2 g4.2.1 g4.2.2 (fun z => absurd rfl z) (fun _ => rfl), g1, rfl, rfl⟩
theorem xFaultL {σ : Mm} {t : Tx} (h : XTx σ t) (ht : t.1 ≤ 48) : ∀ (m p n : Nat) (T : Tw), WT T → m ≤ 48 → m < n → p ≤ t.1 → f_X7_firstFault_p21 σ n (nI (tNb T)) (nI (tNd T)) (nI p) (nI (48 - m)) = some (eR (pa t m p T)) := by
  intro m
  induction m with
  | zero =>
    intro p n T hw hm hn hp
    obtain ⟨n, rfl⟩ : ∃ m, n = m + 1 := ⟨n - 1, by omega⟩
    rw [f_X7_firstFault_p21, lI 48, if_pos (nI_le (by omega) (by omega))]
    rfl
  | succ m ih =>
    intro p n T hw hm hn hp
    obtain ⟨n, rfl⟩ : ∃ m, n = m + 1 := ⟨n - 1, by omega⟩
    rw [f_X7_firstFault_p21, lI 48, if_neg (nI_ge (by omega) (by omega)), h.1, pa]
    by_cases e : t.1 ≤ p
    · rw [if_pos (nI_le e (by omega)), if_pos e]
      rfl
    · have e' : p < t.1 := by omega
      have w1 := hw.1
      have w2 := hw.2.1
      rw [if_neg (nI_ge e' (by omega)), if_neg e, xLetter h ht e', b1_some, xMayT σ hw.1 hw.2.1, b1_some]
      by_cases hmt : mayT (t.2 p) (tNb T) (tNd T) = true
      · have hs := szK_pos (t.2 p)
        have hf := fk_le t (t.2 p) (tNb T) p
        rw [if_pos hmt, if_neg (by decide), if_pos hmt, xSize, b1_some, xPart h ht hw.1 (fun z => by
          rcases may3 hmt with ⟨y, _⟩ | ⟨_, y, _⟩ | ⟨y, _⟩
          · rw [z] at y; exact absurd y (by decide)
          · exact y
          · rw [z] at y; exact absurd y (by decide)) e', b1_some, nI_add]
        by_cases ef : fkK t (t.2 p) (tNb T) p = szK (t.2 p)
        · obtain ⟨k1, k2, k3, k4⟩ := WT_addP hw hmt ef
          have go := ih (p + szK (t.2 p)) n (addP t p (t.2 p) T) k1 (by omega) (by omega) k2
          rw [if_pos (nI_le (by omega) (by omega)), if_pos ef]
          unfold f_X7_firstFault_p97
          by_cases c6 : t.2 p = 66
          · rw [if_pos c6] at k3 k4
            rw [if_pos c6, if_pos c6, lI 1, lI 0, nI_add, nI_add, nI_add, show 48 - (m + 1) + 1 = 48 - m by omega, ← k3, ← k4]
            exact go
          · rw [if_neg c6] at k3 k4
            rw [if_neg c6, if_neg c6, lI 1, lI 0, nI_add, nI_add, nI_add, show 48 - (m + 1) + 1 = 48 - m by omega, ← k3, ← k4]
            exact go
        · rw [if_neg (nI_ge (by omega) (by omega)), if_neg ef]
          rfl
      · rw [if_neg hmt, if_pos rfl, if_neg hmt]
        rfl
def T0 : Tw := (0, fun _ => 0, fun _ => 0, 0, fun _ => 0, fun _ => 0, fun _ => 0, fun _ => 0, fun _ => 0, fun _ => 0)
theorem WT_0 : WT T0 := ⟨by decide, by decide, fun b hb => absurd hb (Nat.not_lt_zero b), fun b hb => absurd hb (Nat.not_lt_zero b)⟩
/-- the fault, or the tower -/
def paT (t : Tx) : Sum Nat Tw := if t.1 = 0 then Sum.inl 0 else if t.2 0 = 84 then pa t 48 1 T0 else Sum.inl 0
theorem xFault {σ : Mm} {t : Tx} (h : XTx σ t) (ht : t.1 ≤ 48) : f_X7_firstFault σ = some (eR (paT t)) := by
  unfold f_X7_firstFault paT
  by_cases h0 : t.1 = 0
  · have e : f_X7_letterAt σ (0 : Int32) = some (-9) := by
      rw [letterAt_eq h ht, h0, if_pos (by decide)]
    rw [e, b1_some, if_neg (by decide), if_pos h0]
    rfl
  · rw [if_neg h0, show (0 : Int32) = nI 0 from rfl, xLetter h ht (show 0 < t.1 by omega), b1_some]
    by_cases c : t.2 0 = 84
    · rw [if_pos c, if_pos c, lI 1]
      exact xFaultL h ht 48 1 FU T0 WT_0 (Nat.le_refl _) (by decide) (by omega)
    · rw [if_neg c, if_neg c]
      rfl
