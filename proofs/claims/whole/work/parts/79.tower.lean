/-! the class adds a bidder; a tower on both sides -/
def r5 (σ : Mm) (k : Nat) (v8 : Int32) (v9 v10 v11 : Nat) : Mm := sI (sI (sI (sI (sI σ 8 k v8) 9 k (nI v9)) 10 k (nI v10)) 11 k (nI v11)) 3 1 (nI (k + 1))
theorem xP116 {σ : Mm} {t : Tx} (hx : XTx σ t) (ht : t.1 ≤ 48) {k i v9 v10 v11 : Nat} (hk : k < 5) (h31 : σ.1 3 1 = nI k) (hi : i + 2 < t.1) (e9 : t.2 i - 48 = nI v9) (e10 : t.2 (i + 1) - 48 = nI v10) (e11 : t.2 (i + 2) - 48 = nI v11) (h9 : v9 ≤ v10) (h10 : v10 ≤ 9) (x5 v8 : Int32) : f_X8_addBidder_p116 (nI k) x5 (nI i) v8 (nI k) σ = if x5 = 0 then some (sI (sI (r5 σ k v8 v9 v10 v11) 13 k (nI (spN v9 (v10 + 1 - v9) * 1049601))) 12 k (nI (2 ^ v9))) else b1 (f_X8_layPeal (nI k) (r5 σ k v8 v9 v10 v11)) (fun τ => some τ) := by
  have g5 : inB (nI k) 5 = true := inB_t hk (by decide)
  have x8 : XTx (sI σ 8 k v8) t := BF.x (BF.w (by decide) (by decide)) hx
  have x9 : XTx (sI (sI σ 8 k v8) 9 k (nI v9)) t := BF.x (BF.w (by decide) (by decide)) x8
  have x10 : XTx (sI (sI (sI σ 8 k v8) 9 k (nI v9)) 10 k (nI v10)) t := BF.x (BF.w (by decide) (by decide)) x9
  unfold f_X8_addBidder_p116
  rw [gd_t g5, cl_nI (show k < 2 ^ 31 by omega), xFigure x8 ht (show i < t.1 by omega), b1_some, e9, gd_t g5, lI 1, nI_add, xFigure x9 ht (show i + 1 < t.1 by omega), b1_some, e10, gd_t g5, bnd_eq, lI 2, nI_add, xFigure x10 ht hi, b1_some, e11, gd_t g5, bnd_eq, show (sI (sI (sI (sI σ 8 k v8) 9 k (nI v9)) 10 k (nI v10)) 11 k (nI v11)).1 3 1 = nI k by rw [sI_n (by omega), sI_n (by omega), sI_n (by omega), sI_n (by omega)]; exact h31, nI_add, show sI (sI (sI (sI (sI σ 8 k v8) 9 k (nI v9)) 10 k (nI v10)) 11 k (nI v11)) 3 1 (nI (k + 1)) = r5 σ k v8 v9 v10 v11 from rfl]
  have g9 : (r5 σ k v8 v9 v10 v11).1 9 k = nI v9 := by unfold r5; rw [sI_n (by omega), sI_n (by omega), sI_n (by omega), sI_s]
  have g10 : (r5 σ k v8 v9 v10 v11).1 10 k = nI v10 := by unfold r5; rw [sI_n (by omega), sI_n (by omega), sI_s]
  by_cases c : x5 = 0
  · rw [if_pos c, if_pos c, gd_t g5, gd_t g5, gd_t g5, g9, g10, pk_sub h9, nI_add, xStretch _ (by omega) (by omega), b1_some, gd_t g5, gd_t g5, gd_t g5, bnd_eq, sI_n (by omega), g9, shl_nI 1 (by omega), Nat.one_mul, lI 1049601, mul_nI, show v10 - v9 + 1 = v10 + 1 - v9 by omega]
  · rw [if_neg c, if_neg c]
def r7 (σ : Mm) (k : Nat) (v6 v7 v8 : Int32) (v9 v10 v11 : Nat) : Mm := r5 (sI (sI σ 6 k v6) 7 k v7) k v8 v9 v10 v11
theorem r7_BF {σ : Mm} {k : Nat} {v6 v7 v8 : Int32} {v9 v10 v11 : Nat} : BF σ (r7 σ k v6 v7 v8 v9 v10 v11) := ((((((BF.w (by decide) (by decide)).tr (BF.w (by decide) (by decide))).tr (BF.w (by decide) (by decide))).tr (BF.w (by decide) (by decide))).tr (BF.w (by decide) (by decide))).tr (BF.w (by decide) (by decide))).tr (BF.w (by decide) (by decide))
theorem r7_2 {σ : Mm} {k : Nat} {v6 v7 v8 : Int32} {v9 v10 v11 : Nat} : (r7 σ k v6 v7 v8 v9 v10 v11).2 = σ.2 := rfl
theorem r7_n {σ : Mm} {k c j : Nat} {v6 v7 v8 : Int32} {v9 v10 v11 : Nat} (h1 : c ≠ 3 ∨ j ≠ 1) (h2 : j ≠ k ∨ ¬ (6 ≤ c ∧ c ≤ 11)) : (r7 σ k v6 v7 v8 v9 v10 v11).1 c j = σ.1 c j := by
  unfold r7 r5
  rw [sI_n (by omega), sI_n (by omega), sI_n (by omega), sI_n (by omega), sI_n (by omega), sI_n (by omega), sI_n (by omega)]
theorem r7_v {σ : Mm} {k : Nat} {v6 v7 v8 : Int32} {v9 v10 v11 : Nat} : (r7 σ k v6 v7 v8 v9 v10 v11).1 3 1 = nI (k + 1) ∧ (r7 σ k v6 v7 v8 v9 v10 v11).1 6 k = v6 ∧ (r7 σ k v6 v7 v8 v9 v10 v11).1 7 k = v7 ∧ (r7 σ k v6 v7 v8 v9 v10 v11).1 8 k = v8 ∧ (r7 σ k v6 v7 v8 v9 v10 v11).1 9 k = nI v9 ∧ (r7 σ k v6 v7 v8 v9 v10 v11).1 10 k = nI v10 ∧ (r7 σ k v6 v7 v8 v9 v10 v11).1 11 k = nI v11 := by
  unfold r7 r5
  refine ⟨sI_s, ?_, ?_, ?_, ?_, ?_, ?_⟩
  · rw [sI_n (by omega), sI_n (by omega), sI_n (by omega), sI_n (by omega), sI_n (by omega), sI_n (by omega), sI_s]
  · rw [sI_n (by omega), sI_n (by omega), sI_n (by omega), sI_n (by omega), sI_n (by omega), sI_s]
  · rw [sI_n (by omega), sI_n (by omega), sI_n (by omega), sI_n (by omega), sI_s]
  · rw [sI_n (by omega), sI_n (by omega), sI_n (by omega), sI_s]
  · rw [sI_n (by omega), sI_n (by omega), sI_s]
  · rw [sI_n (by omega), sI_s]
theorem xAddQ {σ : Mm} {t : Tx} {T : Tw} {p : Nat} (hx : XTx σ t) (ht : t.1 ≤ 48) (h : XTw σ T) (hnd : tNd T < 5) (hf : fkK t 81 (tNb T) p = szK 81) : ∃ τ, f_X8_addBidder 81 (nI p) σ = some τ ∧ BF σ τ ∧ XTw τ (addP t p 81 T) := by
  obtain ⟨g1, g2, g3, g4⟩ := figQ hf
  have hk := hnd
  have z5 := h.2.2.2.2 (tNd T) hnd
  obtain ⟨n1, n2, n3⟩ := tab_no (T := T) (k := tNd T) (Nat.lt_irrefl _)
  rw [n1, n2] at z5
  have x7 : XTx (sI (sI σ 6 (tNd T) (-9)) 7 (tNd T) 0) t := BF.x ((BF.w (by decide) (by decide)).tr (BF.w (by decide) (by decide))) hx
  have e := xP116 x7 ht (k := tNd T) (i := p + 1) hnd (by rw [sI_n (by omega), sI_n (by omega)]; exact h.2.1) (by omega) g2.1 g3.1 g4.1 g2.2 g3.2 0 0
  rw [if_pos rfl] at e
  obtain ⟨q0, q1, q2, q3, q4, q5, q6⟩ := r7_v (σ := σ) (k := tNd T) (v6 := -9) (v7 := 0) (v8 := 0) (v9 := fv t (p + 1)) (v10 := fv t (p + 2)) (v11 := fv t (p + 3))
  obtain ⟨d1, d2, d3, d4, d5, d6⟩ := addD_eq T 0 0 0 (fv t (p + 1)) (fv t (p + 2)) (fv t (p + 3))
  have hk' : tNd T < tNd (addD T 0 0 0 (fv t (p + 1)) (fv t (p + 2)) (fv t (p + 3))) := Nat.lt_succ_self _
  refine ⟨sI (sI (r7 σ (tNd T) (-9) 0 0 (fv t (p + 1)) (fv t (p + 2)) (fv t (p + 3))) 13 (tNd T) (nI (spN (fv t (p + 1)) (fv t (p + 2) + 1 - fv t (p + 1)) * 1049601))) 12 (tNd T) (nI (2 ^ fv t (p + 1))), ?_, (r7_BF.tr (BF.w (by decide) (by decide))).tr (BF.w (by decide) (by decide)), ?_⟩
  · unfold f_X8_addBidder
    rw [h.2.1, if_neg (nI_pos (by omega)), lI 5, if_pos (nI_lt hnd (by decide)), if_neg (by decide)]
    unfold f_X8_addBidder_p29
    rw [if_pos rfl, lI 1, nI_add]
    unfold f_X8_addBidder_p45
    rw [if_pos rfl]
    unfold f_X8_addBidder_p70
    rw [gd_t (inB_t hnd (by decide)), if_pos rfl, cl_nI (by omega)]
    unfold f_X8_addBidder_p93
    rw [gd_t (inB_t hnd (by decide)), if_pos rfl, cl_nI (by omega)]
    exact e
  · show XTw _ (addD T 0 0 0 (fv t (p + 1)) (fv t (p + 2)) (fv t (p + 3)))
    refine XTw_addD h ?_ ?_ ?_ ?_ ?_ ?_ ?_ ?_ ?_ ?_ ?_ ?_ ?_
    · rw [sI_n (by omega), sI_n (by omega), r7_n (by omega) (by omega)]
    · rw [sI_n (by omega), sI_n (by omega)]; exact q0
    · funext j; rw [sI_n (by omega), sI_n (by omega), r7_n (by omega) (by omega)]
    · funext j; rw [sI_n (by omega), sI_n (by omega), r7_n (by omega) (by omega)]
    · intro c h1 h2 j hj; rw [sI_n (by omega), sI_n (by omega), r7_n (by omega) (by omega)]
    · rw [sI_n (by omega), sI_n (by omega), if_pos rfl]; exact q1
    · rw [sI_n (by omega), sI_n (by omega)]; exact q2
    · rw [sI_n (by omega), sI_n (by omega)]; exact q3
    · rw [sI_n (by omega), sI_n (by omega)]; exact q4
    · rw [sI_n (by omega), sI_n (by omega)]; exact q5
    · rw [sI_n (by omega), sI_n (by omega)]; exact q6
    · intro k hk5 hkn
      refine ⟨?_, ?_, fun s hs => ⟨?_, rfl⟩⟩
      · rw [sI_n (by omega), sI_n (by omega), r7_n (by omega) (by omega)]
      · rw [sI_n (by omega), sI_n (by omega), r7_n (by omega) (by omega)]
      · rw [sI_n (by omega), sI_n (by omega), r7_n (by omega) (by omega)]
    · refine ⟨?_, ?_, fun s hs => ?_⟩
      · rw [sI_s, begX_ext hk' (pow_lt (show fv t (p + 1) < 10 by omega)) (fun s hs => ?_)]
        rw [pow_tb]
        unfold may
        rw [if_pos d1, d3]
        exact decide_eq_decide.mpr ⟨Eq.symm, Eq.symm⟩
      · rw [sI_n (by omega), sI_s, wantX_q hk' d1]
        unfold wantS
        rw [d3, d4]
      · rw [ringX_q d1, takeX_q d1]
        have z6 := z5.2.2 s hs
        rw [(n3 s).1, (n3 s).2] at z6
        refine ⟨?_, z6.2⟩
        rw [sI_n (by omega), sI_n (by omega), r7_n (by omega) (by omega)]
        exact z6.1
theorem xAddPl {σ : Mm} {t : Tx} {T : Tw} {p : Nat} (hx : XTx σ t) (ht : t.1 ≤ 48) (h : XTw σ T) (hw : WT T) (hm : mayT 80 (tNb T) (tNd T) = true) (hf : fkK t 80 (tNb T) p = szK 80) : ∃ τ, f_X8_addBidder 80 (nI p) σ = some τ ∧ BF σ τ ∧ XTw τ (addP t p 80 T) := by
  obtain ⟨g1, g2, g3, g4, g5, g6, g7⟩ := figP hf hw.1
  obtain ⟨w', _, _, _⟩ := WT_addP hw hm hf
  have hnd : tNd T < 5 := w'.2.1
  have hnb : 0 < tNb T := by
    rcases may3 hm with ⟨y, _⟩ | ⟨_, y, _⟩ | ⟨y, _⟩
    · exact absurd y (by decide)
    · exact y
    · exact absurd y (by decide)
  have hn3 := hw.1
  have z5 := h.2.2.2.2 (tNd T) hnd
  obtain ⟨n1, n2, n3⟩ := tab_no (T := T) (k := tNd T) (Nat.lt_irrefl _)
  rw [n1, n2] at z5
  have x6 : XTx (sI σ 6 (tNd T) (nI (fv t (p + 1)))) t := BF.x (BF.w (by decide) (by decide)) hx
  have x7 : XTx (sI (sI σ 6 (tNd T) (nI (fv t (p + 1)))) 7 (tNd T) (nI (fv t (p + 2)))) t := BF.x (BF.w (by decide) (by decide)) x6
  have e := xP116 x7 ht (k := tNd T) (i := p + 4) hnd (by rw [sI_n (by omega), sI_n (by omega)]; exact h.2.1) (by omega) g5.1 g6.1 g7.1 g5.2 g6.2 1 (nI (fv t (p + 3)))
  rw [if_neg n10] at e
  obtain ⟨q0, q1, q2, q3, q4, q5, q6⟩ := r7_v (σ := σ) (k := tNd T) (v6 := nI (fv t (p + 1))) (v7 := nI (fv t (p + 2))) (v8 := nI (fv t (p + 3))) (v9 := fv t (p + 4)) (v10 := fv t (p + 5)) (v11 := fv t (p + 6))
  obtain ⟨d1, d2, d3, d4, d5, d6⟩ := addD_eq T (fv t (p + 1)) (fv t (p + 2)) (fv t (p + 3)) (fv t (p + 4)) (fv t (p + 5)) (fv t (p + 6))
  have hk' : tNd T < tNd (addD T (fv t (p + 1)) (fv t (p + 2)) (fv t (p + 3)) (fv t (p + 4)) (fv t (p + 5)) (fv t (p + 6))) := Nat.lt_succ_self _
  have wD' : WT (addD T (fv t (p + 1)) (fv t (p + 2)) (fv t (p + 3)) (fv t (p + 4)) (fv t (p + 5)) (fv t (p + 6))) := w'
  have hq : tN (addD T (fv t (p + 1)) (fv t (p + 2)) (fv t (p + 3)) (fv t (p + 4)) (fv t (p + 5)) (fv t (p + 6))) (tNd T) ≠ 0 := by rw [d1]; omega
  have bl : fv t (p + 1) < tNb T := by omega
  obtain ⟨ρ, l1, l2, l3⟩ := xPeal wD' hk' hq (σ := r7 σ (tNd T) (nI (fv t (p + 1))) (nI (fv t (p + 2))) (nI (fv t (p + 3))) (fv t (p + 4)) (fv t (p + 5)) (fv t (p + 6))) (by rw [d6]; exact q1) (by rw [d1]; exact q2) (by rw [d2]; exact q3) (by rw [d3]; exact q4) (by rw [d4]; exact q5) (by
      unfold kR
      rw [d6, r7_n (by omega) (by omega)]
      exact (h.2.2.1 _ bl).1) (by
      unfold kM
      rw [d6, r7_n (by omega) (by omega)]
      exact (h.2.2.1 _ bl).2) (fun s hs => by
      have z6 := z5.2.2 s hs
      rw [(n3 s).1, (n3 s).2] at z6
      refine ⟨?_, z6.2⟩
      rw [r7_n (by omega) (by omega)]
      exact z6.1)
  have lb : BF (r7 σ (tNd T) (nI (fv t (p + 1))) (nI (fv t (p + 2))) (nI (fv t (p + 3))) (fv t (p + 4)) (fv t (p + 5)) (fv t (p + 6))) ρ := ⟨fun c hc => l2.1 c (by omega), l2.2.1⟩
  have lc : ∀ c j, c ≠ 12 → c ≠ 15 → (sI ρ 12 (tNd T) (nI (begX (addD T (fv t (p + 1)) (fv t (p + 2)) (fv t (p + 3)) (fv t (p + 4)) (fv t (p + 5)) (fv t (p + 6))) (tNd T)))).1 c j = (r7 σ (tNd T) (nI (fv t (p + 1))) (nI (fv t (p + 2))) (nI (fv t (p + 3))) (fv t (p + 4)) (fv t (p + 5)) (fv t (p + 6))).1 c j := fun c j y1 y2 => by rw [sI_n (by omega), l2.1 c y2]
  refine ⟨_, ?_, (r7_BF.tr lb).tr (BF.w (c := 12) (j := tNd T) (v := nI (begX (addD T (fv t (p + 1)) (fv t (p + 2)) (fv t (p + 3)) (fv t (p + 4)) (fv t (p + 5)) (fv t (p + 6))) (tNd T))) (by decide) (by decide)), ?_⟩
  · unfold f_X8_addBidder
    rw [h.2.1, if_neg (nI_pos (by omega)), lI 5, if_pos (nI_lt hnd (by decide)), if_pos rfl]
    unfold f_X8_addBidder_p29
    rw [if_neg n10, lI 4, nI_add]
    unfold f_X8_addBidder_p45
    rw [if_neg n10, lI 1, nI_add, xFigure hx ht (show p + 1 < t.1 by omega), b1_some, g2.1]
    unfold f_X8_addBidder_p70
    rw [gd_t (inB_t hnd (by decide)), if_neg (show ¬ nI 1 = 0 from n10), cl_nI (by omega), lI 2, nI_add, xFigure x6 ht (show p + 2 < t.1 by omega), b1_some, g3.1]
    unfold f_X8_addBidder_p93
    rw [gd_t (inB_t hnd (by decide)), if_neg (show ¬ nI 1 = 0 from n10), cl_nI (by omega), lI 3, nI_add, xFigure x7 ht (show p + 3 < t.1 by omega), b1_some, g4.1]
    refine e.trans ?_
    show b1 (f_X8_layPeal (nI (tNd T)) (r7 σ (tNd T) (nI (fv t (p + 1))) (nI (fv t (p + 2))) (nI (fv t (p + 3))) (fv t (p + 4)) (fv t (p + 5)) (fv t (p + 6)))) _ = _
    rw [l1, b1_some]
  · show XTw _ (addD T (fv t (p + 1)) (fv t (p + 2)) (fv t (p + 3)) (fv t (p + 4)) (fv t (p + 5)) (fv t (p + 6)))
    refine XTw_addD h ?_ ?_ ?_ ?_ ?_ ?_ ?_ ?_ ?_ ?_ ?_ ?_ ?_
    · rw [lc _ _ (by decide) (by decide), r7_n (by omega) (by omega)]
    · rw [lc _ _ (by decide) (by decide)]; exact q0
    · funext j; rw [lc _ _ (by decide) (by decide), r7_n (by omega) (by omega)]
    · funext j; rw [lc _ _ (by decide) (by decide), r7_n (by omega) (by omega)]
    · intro c h1 h2 j hj; rw [lc _ _ (by omega) (by omega), r7_n (by omega) (by omega)]
    · rw [lc _ _ (by decide) (by decide), if_neg (by omega)]; exact q1
    · rw [lc _ _ (by decide) (by decide)]; exact q2
    · rw [lc _ _ (by decide) (by decide)]; exact q3
    · rw [lc _ _ (by decide) (by decide)]; exact q4
    · rw [lc _ _ (by decide) (by decide)]; exact q5
    · rw [lc _ _ (by decide) (by decide)]; exact q6
    · intro k hk5 hkn
      refine ⟨?_, ?_, fun s hs => ?_⟩
      · rw [sI_n (by omega), l2.1 12 (by decide), r7_n (by omega) (by omega)]
      · rw [lc _ _ (by decide) (by decide), r7_n (by omega) (by omega)]
      · obtain ⟨y1, y2⟩ := l2.2.2 (10 * k + s) (by omega)
        refine ⟨?_, ?_⟩
        · rw [sI_n (by omega), y1, r7_n (by omega) (by omega)]
        · exact y2
    · refine ⟨sI_s, ?_, fun s hs => ?_⟩
      · rw [lc _ _ (by decide) (by decide), wantX_p hq, r7_n (by omega) (by omega)]
        exact z5.2.1
      · rw [sI_n (by omega)]
        exact (l3 s hs).1 hs
theorem xBuildL {t : Tx} (ht : t.1 ≤ 48) : ∀ (m p n : Nat) (σ : Mm) (T T' : Tw), WT T → XTx σ t → XTw σ T → m ≤ 48 → m < n → p ≤ t.1 → pa t m p T = Sum.inr T' → ∃ τ, f_X8_build_p8 n (nI p) (nI (48 - m)) σ = some τ ∧ BF σ τ ∧ XTw τ T' := by
  intro m
  induction m with
  | zero =>
    intro p n σ T T' hw hx hT hm hn hp h
    obtain ⟨n, rfl⟩ : ∃ k, n = k + 1 := ⟨n - 1, by omega⟩
    rw [pa] at h
    cases h
    rw [f_X8_build_p8, lI 48, if_pos (nI_le (by omega) (by omega))]
    exact ⟨σ, rfl, BF.rf σ, hT⟩
  | succ m ih =>
    intro p n σ T T' hw hx hT hm hn hp h
    obtain ⟨n, rfl⟩ : ∃ k, n = k + 1 := ⟨n - 1, by omega⟩
    rw [pa] at h
    rw [f_X8_build_p8, lI 48, if_neg (nI_ge (by omega) (by omega)), hx.1]
    by_cases e : t.1 ≤ p
    · rw [if_pos e] at h
      cases h
      rw [if_pos (nI_le e (by omega))]
      exact ⟨σ, rfl, BF.rf σ, hT⟩
    · have e' : p < t.1 := by omega
      rw [if_neg e] at h
      rw [if_neg (nI_ge e' (by omega)), xLetter hx ht e', b1_some]
      by_cases hmt : mayT (t.2 p) (tNb T) (tNd T) = true
      · rw [if_pos hmt] at h
        by_cases ef : fkK t (t.2 p) (tNb T) p = szK (t.2 p)
        · rw [if_pos ef] at h
          obtain ⟨k1, k2, _, _⟩ := WT_addP hw hmt ef
          have go : ∀ τ, BF σ τ → XTw τ (addP t p (t.2 p) T) → ∃ ρ, b1 (f_X7_sizeOf τ (t.2 p)) (fun r => f_X8_build_p8 n (nI p + r) (nI (48 - (m + 1)) + 1) τ) = some ρ ∧ BF σ ρ ∧ XTw ρ T' := by
            intro τ hb ht'
            rw [xSize, b1_some, nI_add, lI 1, nI_add, show 48 - (m + 1) + 1 = 48 - m by omega]
            obtain ⟨ρ, y1, y2, y3⟩ := ih (p + szK (t.2 p)) n τ (addP t p (t.2 p) T) T' k1 (hb.x hx) ht' (by omega) (by omega) k2 h
            exact ⟨ρ, y1, hb.tr y2, y3⟩
          by_cases c6 : t.2 p = 66
          · rw [if_pos c6]
            have ef6 : fkK t 66 (tNb T) p = szK 66 := by rw [← c6]; exact ef
            obtain ⟨g1, g2, g3⟩ := figB ef6
            have hn3 : tNb T < 3 := by
              rcases may3 hmt with ⟨_, y⟩ | ⟨y, _⟩ | ⟨y, _⟩
              · exact y
              · rw [c6] at y; exact absurd y (by decide)
              · rw [c6] at y; exact absurd y (by decide)
            obtain ⟨τ, y1, y2, y3⟩ := xAddBell hT hw hn3 (fv t (p + 1)) (fv t (p + 2))
            have go' := go τ y2 (by rw [c6]; exact y3)
            rw [show nI p + 1 = nI (p + 1) from nI_add p 1, xFigure hx ht (show p + 1 < t.1 by omega), b1_some, g2.1, show nI p + 2 = nI (p + 2) from nI_add p 2, xFigure hx ht (show p + 2 < t.1 by omega), b1_some, g3.1, y1, b1_some]
            exact go'
          · rw [if_neg c6]
            have key : ∃ τ, f_X8_addBidder (t.2 p) (nI p) σ = some τ ∧ BF σ τ ∧ XTw τ (addP t p (t.2 p) T) := by
              rcases may3 hmt with ⟨y, _⟩ | ⟨y, _⟩ | ⟨y, y2⟩
              · exact absurd y c6
              · rw [y] at hmt ef ⊢
                exact xAddPl hx ht hT hw hmt ef
              · rw [y] at ef ⊢
                exact xAddQ hx ht hT y2 ef
            obtain ⟨τ, y1, y2, y3⟩ := key
            rw [y1, b1_some]
            exact go τ y2 y3
        · rw [if_neg ef] at h; cases h
      · rw [if_neg hmt] at h; cases h
theorem pa_b {t : Tx} {j : Nat} : ∀ (m p : Nat) (T : Tw), pa t m p T = Sum.inl j → j < t.1 + 8 := by
  intro m
  induction m with
  | zero => intro p T h; cases h
  | succ m ih =>
    intro p T h
    rw [pa] at h
    by_cases e : t.1 ≤ p
    · rw [if_pos e] at h; cases h
    · rw [if_neg e] at h
      by_cases hmt : mayT (t.2 p) (tNb T) (tNd T) = true
      · rw [if_pos hmt] at h
        by_cases ef : fkK t (t.2 p) (tNb T) p = szK (t.2 p)
        · rw [if_pos ef] at h; exact ih _ _ h
        · rw [if_neg ef] at h
          cases h
          have := fk_le t (t.2 p) (tNb T) p
          have := szK_pos (t.2 p)
          omega
      · rw [if_neg hmt] at h
        cases h
        omega
theorem paT_b {t : Tx} {j : Nat} (h : paT t = Sum.inl j) : j < t.1 + 8 := by
  unfold paT at h
  by_cases c : t.1 = 0
  · rw [if_pos c] at h; cases h; omega
  · rw [if_neg c] at h
    by_cases d : t.2 0 = 84
    · rw [if_pos d] at h; exact pa_b _ _ _ h
    · rw [if_neg d] at h; cases h; omega
theorem xBuild {σ : Mm} {t : Tx} (hx : XTx σ t) (ht : t.1 ≤ 48) {T' : Tw} (h : paT t = Sum.inr T') : ∃ τ, f_X8_build σ = some τ ∧ BF σ τ ∧ XTw τ T' := by
  unfold paT at h
  by_cases c : t.1 = 0
  · rw [if_pos c] at h; cases h
  · rw [if_neg c] at h
    by_cases d : t.2 0 = 84
    · rw [if_pos d] at h
      obtain ⟨τ, e1, e2, e3⟩ := xClear σ
      obtain ⟨ρ, y1, y2, y3⟩ := xBuildL ht 48 1 FU τ T0 T' WT_0 (e2.x hx) e3 (Nat.le_refl _) (by decide) (by omega) h
      refine ⟨ρ, ?_, e2.tr y2, y3⟩
      unfold f_X8_build
      rw [e1, b1_some]
      exact y1
    · rw [if_neg d] at h; cases h
/-! the reference takes what it read -/
theorem mTw30 (ke : Mm → Option (Int32 × Mm)) : ∀ (j b n : Nat) (σ : Mm), b + j = 3 → j < n → ∃ τ, f_X10_tower_p30 ke n (nI b) σ = ke τ ∧ (∀ c, c ≠ 47 → c ≠ 48 → τ.1 c = σ.1 c) ∧ τ.2 = σ.2 ∧ (∀ i, i < b → τ.1 47 i = σ.1 47 i ∧ τ.1 48 i = σ.1 48 i) ∧ ∀ i, b ≤ i → i < 3 → τ.1 47 i = σ.1 50 (2 * i) ∧ τ.1 48 i = σ.1 50 (2 * i + 1) := by
  intro j
  induction j with
  | zero =>
    intro b n σ hb hn
    obtain ⟨n, rfl⟩ : ∃ k, n = k + 1 := ⟨n - 1, by omega⟩
    rw [f_X10_tower_p30, lI 3, if_pos (nI_le (by omega) (by omega))]
    exact ⟨σ, rfl, fun _ _ _ => rfl, rfl, fun _ _ => ⟨rfl, rfl⟩, fun i h1 h2 => by omega⟩
  | succ j ih =>
    intro b n σ hb hn
    obtain ⟨n, rfl⟩ : ∃ k, n = k + 1 := ⟨n - 1, by omega⟩
    rw [f_X10_tower_p30, lI 3, if_neg (nI_ge (by omega) (by omega)), lI 2, mul_nI, gd_t (inB_t (show 2 * b < 6 by omega) (by decide)), gd_t (inB_t (show b < 3 by omega) (by decide)), cl_nI (show b < 2 ^ 31 by omega), cl_nI (show 2 * b < 2 ^ 31 by omega), bnd_eq, lI 1, nI_add, gd_t (inB_t (show 2 * b + 1 < 6 by omega) (by decide)), gd_t (inB_t (show b < 3 by omega) (by decide)), cl_nI (show 2 * b + 1 < 2 ^ 31 by omega), bnd_eq, nI_add, sI_n (by omega)]
    obtain ⟨τ, e1, e2, e3, e4, e5⟩ := ih (b + 1) n (sI (sI σ 47 b (σ.1 50 (2 * b))) 48 b (σ.1 50 (2 * b + 1))) (by omega) (by omega)
    refine ⟨τ, e1, fun c h1 h2 => by rw [e2 c h1 h2, (sI_ne h2).1, (sI_ne h1).1], e3, fun i hi => ?_, fun i h1 h2 => ?_⟩
    · obtain ⟨y1, y2⟩ := e4 i (by omega)
      rw [y1, y2, sI_n (by omega), sI_n (by omega), sI_n (by omega), sI_n (by omega)]
      exact ⟨rfl, rfl⟩
    · by_cases c : i = b
      · subst c
        obtain ⟨y1, y2⟩ := e4 i (by omega)
        rw [y1, y2]
        exact ⟨by rw [sI_n (by omega), sI_s], sI_s⟩
      · obtain ⟨y1, y2⟩ := e5 i (by omega) h2
        rw [y1, y2, sI_n (by omega), sI_n (by omega), sI_n (by omega), sI_n (by omega)]
        exact ⟨rfl, rfl⟩
theorem mTw73 (ke : Mm → Option (Int32 × Mm)) (σ : Mm) : ∀ (j i n : Nat), i + j = 30 → j < n → f_X10_tower_p73 ke n (nI i) (putR σ 49 0 i (σ.1 51)) = ke (putR σ 49 0 30 (σ.1 51)) := by
  intro j
  induction j with
  | zero =>
    intro i n hi hn
    obtain ⟨n, rfl⟩ : ∃ k, n = k + 1 := ⟨n - 1, by omega⟩
    rw [f_X10_tower_p73, lI 30, if_pos (nI_le (by omega) (by omega)), show i = 30 by omega]
  | succ j ih =>
    intro i n hi hn
    obtain ⟨n, rfl⟩ : ∃ k, n = k + 1 := ⟨n - 1, by omega⟩
    have e := putR_s (σ := σ) (c := 49) (base := 0) (i := i) (f := σ.1 51) (v := (putR σ 49 0 i (σ.1 51)).1 51 i) (by rw [putR_ne (by decide)])
    rw [Nat.zero_add] at e
    rw [f_X10_tower_p73, lI 30, if_neg (nI_ge (by omega) (by omega)), gd_t (inB_t (show i < 30 by omega) (by decide)), gd_t (inB_t (show i < 30 by omega) (by decide)), cl_nI (by omega), lI 1, nI_add, e]
    exact ih (i + 1) n (by omega) (by omega)
theorem mTw99 (ke : Mm → Option (Int32 × Mm)) (σ : Mm) : ∀ (j i n : Nat), i + j = 5 → j < n → f_X10_tower_p99 ke n (nI i) (putR σ 52 0 i (fun _ => -9)) = ke (putR σ 52 0 5 (fun _ => -9)) := by
  intro j
  induction j with
  | zero =>
    intro i n hi hn
    obtain ⟨n, rfl⟩ : ∃ k, n = k + 1 := ⟨n - 1, by omega⟩
    rw [f_X10_tower_p99, lI 5, if_pos (nI_le (by omega) (by omega)), show i = 5 by omega]
  | succ j ih =>
    intro i n hi hn
    obtain ⟨n, rfl⟩ : ∃ k, n = k + 1 := ⟨n - 1, by omega⟩
    have e := putR_s (σ := σ) (c := 52) (base := 0) (i := i) (f := fun _ => -9) (v := -9) rfl
    rw [Nat.zero_add] at e
    rw [f_X10_tower_p99, lI 5, if_neg (nI_ge (by omega) (by omega)), gd_t (inB_t (show i < 5 by omega) (by decide)), cl_nI (by omega), lI 1, nI_add, e]
    exact ih (i + 1) n (by omega) (by omega)
/-- promise 5 -/
theorem op_tower {σ : Mm} (hI : INV σ) : ∃ v τ ρ, f_X9_tower σ = some (v, τ) ∧ f_X10_tower τ = some (v, ρ) ∧ INV ρ := by
  obtain ⟨S, hw, hX, hM⟩ := hI
  have xf := xFault hX.1 hw.1
  unfold f_X9_tower
  rw [xf, b1_some]
  cases hp : paT S.1 with
  | inl j =>
    have hj := paT_b hp
    have hl := hw.1
    obtain ⟨ρ, e1, e2, _⟩ := mFault hM.1 hw.1
    rw [hp] at e1
    have ne : ¬ eR (Sum.inl j) = -9 := by show ¬ nI j = -9; rw [ne9 (by omega)]; exact id
    rw [if_neg ne]
    refine ⟨-3, σ, ρ, rfl, ?_, S, hw, hX.of e2.L.X, hM.of e2.M⟩
    unfold f_X10_tower
    rw [e1, b2_some, if_neg ne]
  | inr T' =>
    obtain ⟨τ4, b1', b2', b3'⟩ := xBuild hX.1 hw.1 hp
    rw [if_pos (show eR (Sum.inr T') = -9 from rfl), b1', b1_some, clear_eq, b1_some, c16]
    unfold f_X0_clear f_X6_forget
    rw [b1_some, b1_some, b1_some]
    have tc : ∀ c, c ≠ 17 → c ≠ 26 → c ≠ 20 → c ≠ 23 → (sI (sI (sI (putR τ4 17 0 5 (fun _ => 0)) 26 2 (0 : Int32)) 20 1 (0 : Int32)) 23 1 (0 : Int32)).1 c = τ4.1 c := fun c h1 h2 h3 h4 => by rw [(sI_ne h4).1, (sI_ne h3).1, (sI_ne h2).1, putR_ne h1]
    have t2 : (sI (sI (sI (putR τ4 17 0 5 (fun _ => 0)) 26 2 (0 : Int32)) 20 1 (0 : Int32)) 23 1 (0 : Int32)).2 = τ4.2 := rfl
    have tH : Hi σ (sI (sI (sI (putR τ4 17 0 5 (fun _ => 0)) 26 2 (0 : Int32)) 20 1 (0 : Int32)) 23 1 (0 : Int32)) := fun k hk => ⟨by rw [tc k (by omega) (by omega) (by omega) (by omega)]; exact b2'.1 k (by omega), by rw [t2]; exact b2'.2 k (by omega)⟩
    have t17 : XD (sI (sI (sI (putR τ4 17 0 5 (fun _ => 0)) 26 2 (0 : Int32)) 20 1 (0 : Int32)) 23 1 (0 : Int32)) 17 (fun _ => 0) := fun k hk => by
      rw [sI_n (by omega), sI_n (by omega), sI_n (by omega)]
      have := putR_at (σ := τ4) (c := 17) (base := 0) (f := fun _ => (0 : Int32)) hk
      rw [Nat.zero_add] at this
      exact this
    have t26 : (sI (sI (sI (putR τ4 17 0 5 (fun _ => 0)) 26 2 (0 : Int32)) 20 1 (0 : Int32)) 23 1 (0 : Int32)).1 26 2 = nI 0 := by rw [sI_n (by omega), sI_n (by omega), sI_s]; rfl
    have t20 : (sI (sI (sI (putR τ4 17 0 5 (fun _ => 0)) 26 2 (0 : Int32)) 20 1 (0 : Int32)) 23 1 (0 : Int32)).1 20 1 = 0 := by rw [sI_n (by omega), sI_s]
    have t23 : (sI (sI (sI (putR τ4 17 0 5 (fun _ => 0)) 26 2 (0 : Int32)) 20 1 (0 : Int32)) 23 1 (0 : Int32)).1 23 1 = 0 := sI_s
    generalize hτ : sI (sI (sI (putR τ4 17 0 5 (fun _ => 0)) 26 2 (0 : Int32)) 20 1 (0 : Int32)) 23 1 (0 : Int32) = τ at tc t2 tH t17 t26 t20 t23
    have xT : XTw τ T' := b3'.of (fun k h1 h2 => tc k (by omega) (by omega) (by omega) (by omega)) (by rw [t2])
    have gc : ∀ c, c < 3 ∨ 16 ≤ c → c ≠ 17 → c ≠ 26 → c ≠ 20 → c ≠ 23 → τ.1 c = σ.1 c := fun c h0 h1 h2 h3 h4 => (tc c h1 h2 h3 h4).trans (b2'.1 c h0)
    have hXn : XI τ (S.1, T', (fun _ => 0), (0, fun _ => (0, 0)), S.2.2.2.2.1, S.2.2.2.2.2.1, fun _ => none) := by
      refine ⟨hX.1.of (gc 1 (by decide) (by decide) (by decide) (by decide) (by decide)) (gc 2 (by decide) (by decide) (by decide) (by decide) (by decide)), xT, t17, ⟨t26, fun i hi => absurd hi (Nat.not_lt_zero i)⟩, hX.2.2.2.2.1.of (gc 36 (by decide) (by decide) (by decide) (by decide) (by decide)) (gc 37 (by decide) (by decide) (by decide) (by decide) (by decide)) (gc 38 (by decide) (by decide) (by decide) (by decide) (by decide)), ?_, t20, t23⟩
      rw [t2, b2'.2 0 (by decide)]
      exact hX.2.2.2.2.2.1
    have hMτ := hM.hi tH
    obtain ⟨τ3, e1, e2, e3⟩ := mFault hMτ.1 hw.1
    obtain ⟨wT', rb⟩ := e3 T' hp
    have wn := wT'.1
    have wd := wT'.2.1
    rw [hp] at e1
    have hM3 := hMτ.of e2.M
    refine ⟨nI (10 * tNb T' + tNd T'), τ, ?_⟩
    have hv : (10 : Int32) * τ.1 3 0 + τ.1 3 1 = nI (10 * tNb T' + tNd T') := by rw [xT.1, xT.2.1, lI 10, mul_nI, nI_add]
    rw [hv]
    unfold f_X10_tower
    rw [e1, b2_some, if_pos (show eR (Sum.inr T') = -9 from rfl), bnd_eq, rb.1, sI_n (by omega), rb.2.1]
    obtain ⟨τ5, y1, y2, y3, _, y5⟩ := mTw30 f_X10_tower_p71 3 0 FU (sI (sI τ3 46 0 (nI (tNb T'))) 46 1 (nI (tNd T'))) (by decide) (by decide)
    have y1' : f_X10_tower_p30 f_X10_tower_p71 FU (0 : Int32) (sI (sI τ3 46 0 (nI (tNb T'))) 46 1 (nI (tNd T'))) = f_X10_tower_p71 τ5 := y1
    rw [y1']
    unfold f_X10_tower_p71
    have z1 := mTw73 f_X10_tower_p97 τ5 30 0 FU (by decide) (by decide)
    rw [putR_0] at z1
    have z1' : f_X10_tower_p73 f_X10_tower_p97 FU (0 : Int32) τ5 = f_X10_tower_p97 (putR τ5 49 0 30 (τ5.1 51)) := z1
    rw [z1']
    unfold f_X10_tower_p97
    have z2 := mTw99 f_X10_tower_p118 (putR τ5 49 0 30 (τ5.1 51)) 5 0 FU (by decide) (by decide)
    rw [putR_0] at z2
    have z2' : f_X10_tower_p99 f_X10_tower_p118 FU (0 : Int32) (putR τ5 49 0 30 (τ5.1 51)) = f_X10_tower_p118 (putR (putR τ5 49 0 30 (τ5.1 51)) 52 0 5 (fun _ => -9)) := z2
    rw [z2']
    have q46 : ∀ j, j ≠ 0 → j ≠ 1 → τ5.1 46 j = τ3.1 46 j := fun j h1 h2 => by rw [y2 46 (by decide) (by decide), sI_n (by omega), sI_n (by omega)]
    have q460 : τ5.1 46 0 = nI (tNb T') := by rw [y2 46 (by decide) (by decide), sI_n (by omega), sI_s]
    have q461 : τ5.1 46 1 = nI (tNd T') := by rw [y2 46 (by decide) (by decide), sI_s]
    have qc : ∀ c, c ≠ 46 → c ≠ 47 → c ≠ 48 → τ5.1 c = τ3.1 c := fun c h1 h2 h3 => by rw [y2 c h2 h3, (sI_ne h1).1, (sI_ne h1).1]
    have q2 : τ5.2 = τ3.2 := y3
    let τ6 := putR (putR τ5 49 0 30 (τ5.1 51)) 52 0 5 (fun _ => -9)
    let ρ := sI (sI (sI τ6 46 14 (0 : Int32)) 73 0 (0 : Int32)) 73 1 (0 : Int32)
    have r6 : ∀ c, c ≠ 49 → c ≠ 52 → τ6.1 c = τ5.1 c := fun c h1 h2 => by
      show (putR (putR τ5 49 0 30 (τ5.1 51)) 52 0 5 (fun _ => -9)).1 c = _
      rw [putR_ne h2, putR_ne h1]
    have rc : ∀ c, c ≠ 46 → c ≠ 73 → ρ.1 c = τ6.1 c := fun c h1 h2 => by
      show (sI (sI (sI τ6 46 14 (0 : Int32)) 73 0 (0 : Int32)) 73 1 (0 : Int32)).1 c = _
      rw [(sI_ne h2).1, (sI_ne h2).1, (sI_ne h1).1]
    have r46 : ∀ j, j ≠ 14 → ρ.1 46 j = τ5.1 46 j := fun j hj => by
      show (sI (sI (sI τ6 46 14 (0 : Int32)) 73 0 (0 : Int32)) 73 1 (0 : Int32)).1 46 j = _
      rw [sI_n (by omega), sI_n (by omega), sI_n (by omega), r6 46 (by decide) (by decide)]
    have r14 : ρ.1 46 14 = nI 0 := by
      show (sI (sI (sI τ6 46 14 (0 : Int32)) 73 0 (0 : Int32)) 73 1 (0 : Int32)).1 46 14 = _
      rw [sI_n (by omega), sI_n (by omega), sI_s]
      rfl
    have r73a : ρ.1 73 0 = 0 := by
      show (sI (sI (sI τ6 46 14 (0 : Int32)) 73 0 (0 : Int32)) 73 1 (0 : Int32)).1 73 0 = _
      rw [sI_n (by omega), sI_s]
    have r73b : ρ.1 73 1 = 0 := sI_s
    have r2 : ρ.2 = τ3.2 := q2
    have hLo : Lo τ ρ := fun c hc => ⟨by rw [rc c (by omega) (by omega), r6 c (by omega) (by omega), qc c (by omega) (by omega) (by omega), (e2.L c hc).1], by rw [r2, (e2.L c hc).2]⟩
    refine ⟨ρ, rfl, ?_, (S.1, T', (fun _ => 0), (0, fun _ => (0, 0)), S.2.2.2.2.1, S.2.2.2.2.2.1, fun _ => none), ?_, hXn.of hLo.X, ?_⟩
    · unfold f_X10_tower_p118
      rw [gd_t (by decide), bnd_eq, gd_t (by decide)]
      show some ((10 : Int32) * ρ.1 46 0 + ρ.1 46 1, ρ) = _
      rw [r46 0 (by decide), r46 1 (by decide), q460, q461, lI 10, mul_nI, nI_add]
    · exact ⟨hw.1, wT', VD_0 T', ⟨Nat.zero_le 16, fun i hi => absurd hi (Nat.not_lt_zero i), fun i hi => by rw [show i = 0 from Nat.le_zero.mp hi]; exact VD_0 T'⟩, hw.2.2.2.2.1, fun s E hE => by cases hE⟩
    · obtain ⟨m1, m2, m3, m4, m5, m6, m7⟩ := hM3
      have c49 : ∀ i, i < 30 → ρ.1 49 i = τ3.1 51 i := fun i hi => by
        rw [rc 49 (by decide) (by decide)]
        show (putR (putR τ5 49 0 30 (τ5.1 51)) 52 0 5 (fun _ => -9)).1 49 i = _
        rw [putR_ne (by decide)]
        have := putR_at (σ := τ5) (c := 49) (base := 0) (f := τ5.1 51) hi
        rw [Nat.zero_add] at this
        rw [this, qc 51 (by decide) (by decide) (by decide)]
      have c47 : ∀ b, b < 3 → ρ.1 47 b = τ3.1 50 (2 * b) ∧ ρ.1 48 b = τ3.1 50 (2 * b + 1) := fun b hb => by
        rw [rc 47 (by decide) (by decide), rc 48 (by decide) (by decide), r6 47 (by decide) (by decide), r6 48 (by decide) (by decide)]
        obtain ⟨a1, a2⟩ := y5 b (Nat.zero_le _) hb
        rw [a1, a2, (sI_ne (by decide)).1, (sI_ne (by decide)).1]
        exact ⟨rfl, rfl⟩
      have cc : ∀ c, c ≠ 46 → c ≠ 47 → c ≠ 48 → c ≠ 49 → c ≠ 52 → c ≠ 73 → ρ.1 c = τ3.1 c := fun c h1 h2 h3 h4 h5 h6 => by rw [rc c h1 h6, r6 c h4 h5, qc c h1 h2 h3]
      refine ⟨m1.of (by rw [r46 9 (by decide), q46 9 (by decide) (by decide)]) (cc 53 (by decide) (by decide) (by decide) (by decide) (by decide) (by decide)), ⟨by rw [r46 0 (by decide)]; exact q460, by rw [r46 1 (by decide)]; exact q461, fun b hb => ?_, fun k hk => ?_⟩, fun k hk => ?_, ⟨r14, ?_⟩, m5.of (by rw [r46 38 (by decide), q46 38 (by decide) (by decide)]) (cc 71 (by decide) (by decide) (by decide) (by decide) (by decide) (by decide)) (cc 72 (by decide) (by decide) (by decide) (by decide) (by decide) (by decide)), by rw [r2]; exact m6, r73a, r73b⟩
      · have hb' : b < tNb T' := hb
        rw [(c47 b (by omega)).1, (c47 b (by omega)).2]
        exact rb.2.2.1 b hb
      · have hk' : k < tNd T' := hk
        rw [c49 _ (by omega), c49 _ (by omega), c49 _ (by omega), c49 _ (by omega), c49 _ (by omega), c49 _ (by omega)]
        exact rb.2.2.2 k hk
      · rw [rc 52 (by decide) (by decide)]
        have := putR_at (σ := putR τ5 49 0 30 (τ5.1 51)) (c := 52) (base := 0) (f := fun _ => (-9 : Int32)) hk
        rw [Nat.zero_add] at this
        exact this
      · obtain ⟨_, x, hx1, hx2, _⟩ := m4
        exact ⟨x, hx1, by rw [r46 15 (by decide), q46 15 (by decide) (by decide)]; exact hx2, fun i hi => absurd hi (Nat.not_lt_zero i)⟩
