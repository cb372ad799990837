/-! the reference reads the text -/
def RF (σ τ : Mm) : Prop := (∀ c, c ≠ 46 → c ≠ 50 → c ≠ 51 → τ.1 c = σ.1 c) ∧ (∀ j, ¬ (10 ≤ j ∧ j ≤ 13) → τ.1 46 j = σ.1 46 j) ∧ τ.2 = σ.2
theorem RF.rf (σ : Mm) : RF σ σ := ⟨fun _ _ _ _ => rfl, fun _ _ => rfl, rfl⟩
theorem RF.tr {σ τ ρ : Mm} (h : RF σ τ) (g : RF τ ρ) : RF σ ρ := ⟨fun c h1 h2 h3 => (g.1 c h1 h2 h3).trans (h.1 c h1 h2 h3), fun j hj => (g.2.1 j hj).trans (h.2.1 j hj), g.2.2.trans h.2.2⟩
theorem RF.w {σ : Mm} {c j : Nat} {v : Int32} (hc : c = 50 ∨ c = 51) : RF σ (sI σ c j v) := ⟨fun k h1 h2 h3 => (sI_ne (by omega)).1, fun j hj => sI_n (by omega), rfl⟩
theorem RF.f {σ : Mm} {j : Nat} {v : Int32} (hj : 10 ≤ j ∧ j ≤ 13) : RF σ (sI σ 46 j v) := ⟨fun k h1 h2 h3 => (sI_ne h1).1, fun i hi => sI_n (by omega), rfl⟩
theorem RF.mt {σ τ : Mm} {t : Tx} (g : RF σ τ) (h : MTx σ t) : MTx τ t := h.of (g.2.1 9 (by omega)) (g.1 53 (by decide) (by decide) (by decide))
/-- a figure: only place and fault change -/
def F2 (σ τ : Mm) : Prop := (∀ c, c ≠ 46 → τ.1 c = σ.1 c) ∧ (∀ j, j ≠ 10 → j ≠ 11 → τ.1 46 j = σ.1 46 j) ∧ τ.2 = σ.2
theorem F2.rf {σ τ : Mm} (h : F2 σ τ) : RF σ τ := ⟨fun c h1 _ _ => h.1 c h1, fun j hj => h.2.1 j (by omega) (by omega), h.2.2⟩
theorem F2.f {σ : Mm} {j : Nat} {v : Int32} (hj : j = 10 ∨ j = 11) : F2 σ (sI σ 46 j v) := ⟨fun k h1 => (sI_ne h1).1, fun i h1 h2 => sI_n (by omega), rfl⟩
def SQ (σ : Mm) (p k a : Nat) : Prop := (a = k ∧ σ.1 46 11 = -9 ∧ σ.1 46 10 = nI (p + k)) ∨ (a < k ∧ σ.1 46 11 = nI (p + a))
theorem SQ.of {σ τ : Mm} {p k a : Nat} (h : SQ σ p k a) (h1 : τ.1 46 = σ.1 46) : SQ τ p k a := by unfold SQ; rw [h1]; exact h
theorem SQ.of2 {σ τ : Mm} {p k a : Nat} (h : SQ σ p k a) (h1 : τ.1 46 10 = σ.1 46 10) (h2 : τ.1 46 11 = σ.1 46 11) : SQ τ p k a := by unfold SQ; rw [h1, h2]; exact h
theorem ff_succ {q : Nat → Bool} : ∀ (j k : Nat), ff q (j + 1) k = if ff q j k = k + j then (if q (k + j) = true then k + j + 1 else k + j) else ff q j k
  | 0, k => by
    rw [ff, ff, ff, if_pos (show k = k + 0 from rfl)]
    rfl
  | j + 1, k => by
    rw [ff, ff_succ j (k + 1), show ff q (j + 1) k = if q k = true then ff q j (k + 1) else k from rfl]
    by_cases c : q k = true
    · rw [if_pos c, if_pos c, show k + 1 + j = k + (j + 1) by omega]
    · rw [if_neg c, if_neg c, if_neg (by omega)]
theorem ff_pre {q : Nat → Bool} {j : Nat} (h : ff q (j + 1) 1 = j + 2) : ff q j 1 = j + 1 := by
  have h1 := ff_le (q := q) j 1
  rw [ff_succ] at h
  by_cases c : ff q j 1 = 1 + j
  · omega
  · rw [if_neg c] at h; omega
theorem neg9_lt {n : Nat} (h : n < 2 ^ 30) : (-9 : Int32) < nI n := by
  rw [Int32.lt_iff_toInt_lt, nI_toInt (by omega)]
  have : (-9 : Int32).toInt = -9 := by decide
  omega
theorem inR_iff {t : Tx} {i lo hi : Nat} : inR t i lo hi = true ↔ i < t.1 ∧ ¬ (t.2 i - 48) < nI lo ∧ ¬ nI hi < (t.2 i - 48) := by
  unfold inR
  rw [Bool.and_eq_true, decide_eq_true_eq, decide_eq_true_eq]
theorem mFig {σ : Mm} {t : Tx} (h : MTx σ t) (ht : t.1 ≤ 48) {q : Nat → Bool} {p k lo hi : Nat} (hk : 1 ≤ k) (hpk : p + k < 2 ^ 30) (hlo : lo < 2 ^ 30) (hhi : hi < 2 ^ 30) (hs : SQ σ p k (ff q (k - 1) 1)) (hq : ff q (k - 1) 1 = k → q k = inR t (p + k) lo hi) : ∃ v τ, f_X10_figure (nI lo) (nI hi) σ = some (nI v, τ) ∧ v < 2 ^ 30 ∧ SQ τ p (k + 1) (ff q k 1) ∧ F2 σ τ ∧ (ff q k 1 = k + 1 → v = fv t (p + k)) := by
  have hff : ff q k 1 = if ff q (k - 1) 1 = 1 + (k - 1) then (if q (1 + (k - 1)) = true then 1 + (k - 1) + 1 else 1 + (k - 1)) else ff q (k - 1) 1 := by
    have := ff_succ (q := q) (k - 1) 1
    rwa [show k - 1 + 1 = k by omega] at this
  rw [show 1 + (k - 1) = k by omega] at hff
  unfold f_X10_figure f_X10_figure_p35
  rcases hs with ⟨a1, a2, a3⟩ | ⟨a1, a2⟩
  · rw [if_pos a1, hq a1] at hff
    have p37 : ∀ x : Int32, f_X10_figure_p37 (nI lo) (nI hi) x σ = if (¬ x < nI lo ∧ ¬ nI hi < x) then some (x, sI σ 46 10 (nI (p + k + 1))) else some (nI lo, sI σ 46 11 (nI (p + k))) := by
      intro x
      unfold f_X10_figure_p37
      rw [in_eq, b1_some, a2, a3]
      simp only [i64_lt]
      by_cases z : ¬ x < nI lo ∧ ¬ nI hi < x
      · rw [if_pos z, if_neg (by decide), if_pos z, lI 1, nI_add]
      · rw [if_neg z, if_pos rfl, if_pos trivial, if_neg z]
    rw [if_pos a2, a3, h.1]
    by_cases e : p + k < t.1
    · rw [if_neg (nI_ge e (by omega)), gd_t (inB_t (show p + k < 48 by omega) (by decide)), cl_nI (by omega), h.2 _ e, p37]
      by_cases z : inR t (p + k) lo hi = true
      · have y := inR_ok hlo hhi z
        rw [if_pos (inR_iff.mp z).2]
        rw [if_pos z] at hff
        refine ⟨fv t (p + k), _, by rw [y.2.1], by omega, Or.inl ⟨hff, ?_, ?_⟩, F2.f (Or.inl rfl), fun _ => rfl⟩
        · rw [sI_n (by omega)]; exact a2
        · rw [sI_s]; rfl
      · rw [if_neg (fun w => z (inR_iff.mpr ⟨e, w⟩))]
        rw [if_neg z] at hff
        exact ⟨lo, _, rfl, hlo, Or.inr ⟨by omega, by rw [sI_s, hff]⟩, F2.f (Or.inr rfl), fun w => by omega⟩
    · have z : ¬ inR t (p + k) lo hi = true := fun w => e (inR_iff.mp w).1
      rw [if_neg z] at hff
      rw [if_pos (nI_le (by omega) (by omega)), p37, if_neg (fun w => w.1 (neg9_lt hlo))]
      exact ⟨lo, _, rfl, hlo, Or.inr ⟨by omega, by rw [sI_s, hff]⟩, F2.f (Or.inr rfl), fun w => by omega⟩
  · rw [if_neg (show ¬ ff q (k - 1) 1 = k by omega)] at hff
    rw [if_neg (show ¬ σ.1 46 11 = -9 by rw [a2, ne9 (by omega)]; exact id)]
    unfold f_X10_figure_p37
    rw [in_eq, b1_some]
    simp only [i64_lt]
    rw [if_neg (show ¬ (¬ (-9 : Int32) < nI lo ∧ ¬ nI hi < (-9 : Int32)) from fun w => w.1 (neg9_lt hlo)), if_pos rfl, if_neg (show ¬ σ.1 46 11 = -9 by rw [a2, ne9 (by omega)]; exact id)]
    exact ⟨lo, _, rfl, hlo, Or.inr ⟨by omega, by rw [sI_s, a2, hff]⟩, F2.f (Or.inr rfl), fun w => by omega⟩
/-- the six numbers of a bidder, the two of a bell -/
def RO (σ : Mm) (T : Tw) (k : Nat) : Prop := σ.1 51 (6 * k) = eB T k ∧ σ.1 51 (6 * k + 1) = nI (tN T k) ∧ σ.1 51 (6 * k + 2) = nI (tG T k) ∧ σ.1 51 (6 * k + 3) = nI (tF T k) ∧ σ.1 51 (6 * k + 4) = nI (tU T k) ∧ σ.1 51 (6 * k + 5) = nI (tW T k)
def RB (σ : Mm) (T : Tw) : Prop := σ.1 46 12 = nI (tNb T) ∧ σ.1 46 13 = nI (tNd T) ∧ (∀ b, b < tNb T → σ.1 50 (2 * b) = nI (tR T b) ∧ σ.1 50 (2 * b + 1) = nI (tM T b)) ∧ ∀ k, k < tNd T → RO σ T k
def RT (σ : Mm) (t : Tx) (T : Tw) (p : Nat) : Prop := MTx σ t ∧ σ.1 46 10 = nI p ∧ σ.1 46 11 = -9 ∧ RB σ T
theorem mSpanR {σ : Mm} {t : Tx} (h : MTx σ t) (ht : t.1 ≤ 48) {q : Nat → Bool} {p k nd : Nat} (hk : 1 ≤ k) (hk7 : k ≤ 7) (hp : p ≤ 48) (hnd : nd < 5) (h13 : σ.1 46 13 = nI nd) (hs : SQ σ p k (ff q (k - 1) 1)) (q1 : q k = inR t (p + k) 0 9) (q2 : q (k + 1) = inR t (p + (k + 1)) (fv t (p + k)) 9) (q3 : q (k + 2) = inR t (p + (k + 2)) 1 9) : ∃ τ, f_X10_readSpan (nI (6 * nd)) σ = some τ ∧ SQ τ p (k + 3) (ff q (k + 2) 1) ∧ (∀ c, c ≠ 46 → c ≠ 51 → τ.1 c = σ.1 c) ∧ (∀ j, j ≠ 10 → j ≠ 11 → j ≠ 13 → τ.1 46 j = σ.1 46 j) ∧ τ.2 = σ.2 ∧ τ.1 46 13 = nI (nd + 1) ∧ (∀ j, j < 6 * nd + 3 → τ.1 51 j = σ.1 51 j) ∧ (ff q (k + 2) 1 = k + 3 → τ.1 51 (6 * nd + 3) = nI (fv t (p + k)) ∧ τ.1 51 (6 * nd + 4) = nI (fv t (p + (k + 1))) ∧ τ.1 51 (6 * nd + 5) = nI (fv t (p + (k + 2)))) := by
  obtain ⟨v3, τ3, e3, b3, s3, f3, g3⟩ := mFig h ht (q := q) (p := p) (k := k) (lo := 0) (hi := 9) hk (by omega) (by decide) (by decide) hs (fun _ => q1)
  have m3 : MTx (sI τ3 51 (6 * nd + 3) (nI v3)) t := (f3.rf.tr (RF.w (Or.inr rfl))).mt h
  obtain ⟨v4, τ4, e4, b4, s4, f4, g4⟩ := mFig m3 ht (q := q) (p := p) (k := k + 1) (lo := v3) (hi := 9) (by omega) (by omega) b3 (by decide) (s3.of (sI_ne (by decide)).1) (fun z => by rw [q2, g3 z])
  have m4 : MTx (sI τ4 51 (6 * nd + 4) (nI v4)) t := (f4.rf.tr (RF.w (Or.inr rfl))).mt m3
  obtain ⟨v5, τ5, e5, b5, s5, f5, g5⟩ := mFig m4 ht (q := q) (p := p) (k := k + 2) (lo := 1) (hi := 9) (by omega) (by omega) (by decide) (by decide) (s4.of (sI_ne (by decide)).1) (fun _ => q3)
  have c51a : ∀ j, τ4.1 51 j = (sI τ3 51 (6 * nd + 3) (nI v3)).1 51 j := fun j => by rw [f4.1 51 (by decide)]
  have c51b : ∀ j, τ5.1 51 j = (sI τ4 51 (6 * nd + 4) (nI v4)).1 51 j := fun j => by rw [f5.1 51 (by decide)]
  have c51 : ∀ j, τ3.1 51 j = σ.1 51 j := fun j => by rw [f3.1 51 (by decide)]
  have c46 : ∀ j, j ≠ 10 → j ≠ 11 → τ5.1 46 j = σ.1 46 j := fun j h1 h2 => by rw [f5.2.1 j h1 h2, sI_n (by omega), f4.2.1 j h1 h2, sI_n (by omega), f3.2.1 j h1 h2]
  refine ⟨sI (sI τ5 51 (6 * nd + 5) (nI v5)) 46 13 (nI (nd + 1)), ?_, ?_, ?_, ?_, ?_, sI_s, ?_, ?_⟩
  · unfold f_X10_readSpan
    rw [lI 0, lI 9, lI 1, lI 3, lI 4, lI 5, e3, b2_some, nI_add, nI_add, nI_add, gd_t (inB_t (show 6 * nd + 3 < 30 by omega) (by decide)), gd_t (inB_t (show 6 * nd + 3 < 30 by omega) (by decide)), cl_nI (show 6 * nd + 3 < 2 ^ 31 by omega), sI_s, e4, b2_some, gd_t (inB_t (show 6 * nd + 4 < 30 by omega) (by decide)), cl_nI (show 6 * nd + 4 < 2 ^ 31 by omega), e5, b2_some, gd_t (inB_t (show 6 * nd + 5 < 30 by omega) (by decide)), cl_nI (show 6 * nd + 5 < 2 ^ 31 by omega), bnd_eq, sI_n (by omega), c46 13 (by decide) (by decide), h13, nI_add]
  · rcases s5 with ⟨x1, x2, x3⟩ | ⟨x1, x2⟩
    · exact Or.inl ⟨x1, by rw [sI_n (by omega), sI_n (by omega)]; exact x2, by rw [sI_n (by omega), sI_n (by omega)]; exact x3⟩
    · exact Or.inr ⟨x1, by rw [sI_n (by omega), sI_n (by omega)]; exact x2⟩
  · intro c h1 h2
    rw [(sI_ne h1).1, (sI_ne h2).1, f5.1 c h1, (sI_ne h2).1, f4.1 c h1, (sI_ne h2).1, f3.1 c h1]
  · intro j h1 h2 h3
    rw [sI_n (by omega), sI_n (by omega), c46 j h1 h2]
  · show τ5.2 = σ.2
    rw [f5.2.2]
    show τ4.2 = σ.2
    rw [f4.2.2]
    show τ3.2 = σ.2
    exact f3.2.2
  · intro j hj
    rw [sI_n (by omega), sI_n (by omega), c51b, sI_n (by omega), c51a, sI_n (by omega), c51]
  · intro z
    have z1 := ff_pre z
    have z2 := ff_pre z1
    refine ⟨?_, ?_, ?_⟩
    · rw [sI_n (by omega), sI_n (by omega), c51b, sI_n (by omega), c51a, sI_s, g3 z2]
    · rw [sI_n (by omega), sI_n (by omega), c51b, sI_s, g4 z1]
    · rw [sI_n (by omega), sI_s, g5 z]
theorem RO.of {σ τ : Mm} {T T' : Tw} {k : Nat} (h : RO σ T k) (h1 : ∀ j, j < 6 * k + 6 → τ.1 51 j = σ.1 51 j) (e1 : eB T' k = eB T k) (e2 : tN T' k = tN T k) (e3 : tG T' k = tG T k) (e4 : tF T' k = tF T k) (e5 : tU T' k = tU T k) (e6 : tW T' k = tW T k) : RO τ T' k := by
  unfold RO
  rw [h1 _ (by omega), h1 _ (by omega), h1 _ (by omega), h1 _ (by omega), h1 _ (by omega), h1 _ (by omega), e1, e2, e3, e4, e5, e6]
  exact h
theorem upN_ne {f : Nat → Nat} {k v j : Nat} (h : j ≠ k) : upN f k v j = f j := if_neg h
theorem upN_s {f : Nat → Nat} {k v : Nat} : upN f k v k = v := if_pos rfl
theorem addD_lt {T : Tw} {b n g f u w k : Nat} (hk : k < tNd T) : eB (addD T b n g f u w) k = eB T k ∧ tN (addD T b n g f u w) k = tN T k ∧ tG (addD T b n g f u w) k = tG T k ∧ tF (addD T b n g f u w) k = tF T k ∧ tU (addD T b n g f u w) k = tU T k ∧ tW (addD T b n g f u w) k = tW T k ∧ tB (addD T b n g f u w) k = tB T k := by
  have e2 : tN (addD T b n g f u w) k = tN T k := upN_ne (by omega)
  have e7 : tB (addD T b n g f u w) k = tB T k := upN_ne (by omega)
  refine ⟨?_, e2, upN_ne (by omega), upN_ne (by omega), upN_ne (by omega), upN_ne (by omega), e7⟩
  unfold eB
  rw [e2, e7]
theorem addD_eq (T : Tw) (b n g f u w : Nat) : tN (addD T b n g f u w) (tNd T) = n ∧ tG (addD T b n g f u w) (tNd T) = g ∧ tF (addD T b n g f u w) (tNd T) = f ∧ tU (addD T b n g f u w) (tNd T) = u ∧ tW (addD T b n g f u w) (tNd T) = w ∧ tB (addD T b n g f u w) (tNd T) = b := ⟨upN_s, upN_s, upN_s, upN_s, upN_s, upN_s⟩
/-- a bidder more, of which the six numbers lie there -/
theorem RB_addD {σ τ : Mm} {T : Tw} (h : RB σ T) {b n g f u w : Nat} (h12 : τ.1 46 12 = σ.1 46 12) (h13 : τ.1 46 13 = nI (tNd T + 1)) (h50 : τ.1 50 = σ.1 50) (h51 : ∀ j, j < 6 * tNd T → τ.1 51 j = σ.1 51 j) (a0 : τ.1 51 (6 * tNd T) = if n = 0 then -9 else nI b) (a1 : τ.1 51 (6 * tNd T + 1) = nI n) (a2 : τ.1 51 (6 * tNd T + 2) = nI g) (a3 : τ.1 51 (6 * tNd T + 3) = nI f) (a4 : τ.1 51 (6 * tNd T + 4) = nI u) (a5 : τ.1 51 (6 * tNd T + 5) = nI w) : RB τ (addD T b n g f u w) := by
  refine ⟨h12.trans h.1, h13, fun b hb => by rw [h50]; exact h.2.2.1 b hb, fun k hk => ?_⟩
  have hk' : k < tNd T + 1 := hk
  by_cases c : k = tNd T
  · subst c
    obtain ⟨e1, e2, e3, e4, e5, e6⟩ := addD_eq T b n g f u w
    unfold RO eB
    rw [e1, e2, e3, e4, e5, e6]
    exact ⟨a0, a1, a2, a3, a4, a5⟩
  · obtain ⟨e0, e1, e2, e3, e4, e5, _⟩ := addD_lt (T := T) (b := b) (n := n) (g := g) (f := f) (u := u) (w := w) (show k < tNd T by omega)
    exact (h.2.2.2 k (by omega)).of (fun j hj => h51 j (by omega)) e0 e1 e2 e3 e4 e5
theorem RB_addB {σ τ : Mm} {T : Tw} (h : RB σ T) {r d : Nat} (h12 : τ.1 46 12 = nI (tNb T + 1)) (h13 : τ.1 46 13 = σ.1 46 13) (h51 : τ.1 51 = σ.1 51) (h50 : ∀ j, j < 2 * tNb T → τ.1 50 j = σ.1 50 j) (a0 : τ.1 50 (2 * tNb T) = nI r) (a1 : τ.1 50 (2 * tNb T + 1) = nI d) : RB τ (addB T r d) := by
  refine ⟨h12, h13.trans h.2.1, fun b hb => ?_, fun k hk => (h.2.2.2 k hk).of (fun j _ => by rw [h51]) rfl rfl rfl rfl rfl rfl⟩
  have hb' : b < tNb T + 1 := hb
  show τ.1 50 (2 * b) = nI (upN (tR T) (tNb T) r b) ∧ τ.1 50 (2 * b + 1) = nI (upN (tM T) (tNb T) d b)
  by_cases c : b = tNb T
  · subst c
    rw [upN_s, upN_s]
    exact ⟨a0, a1⟩
  · rw [upN_ne c, upN_ne c, h50 _ (by omega), h50 _ (by omega)]
    exact h.2.2.1 b (by omega)
/-- at the end of a part -/
theorem SQ.end {σ : Mm} {p k a : Nat} (h : SQ σ p k a) : (a = k → σ.1 46 11 = -9 ∧ σ.1 46 10 = nI (p + k)) ∧ (a ≠ k → σ.1 46 11 = nI (p + a)) := by
  rcases h with ⟨a1, a2, a3⟩ | ⟨a1, a2⟩
  · exact ⟨fun _ => ⟨a2, a3⟩, fun z => absurd a1 z⟩
  · exact ⟨fun z => by omega, fun _ => a2⟩
def PO (t : Tx) (c : Int32) (T : Tw) (p : Nat) (τ : Mm) : Prop := (fkK t c (tNb T) p = szK c → RT τ t (addP t p c T) (p + szK c)) ∧ (fkK t c (tNb T) p ≠ szK c → τ.1 46 11 = nI (p + fkK t c (tNb T) p))
theorem mPartB {σ : Mm} {t : Tx} {T : Tw} {p : Nat} (h : RT σ t T p) (ht : t.1 ≤ 48) (hp : p < t.1) (hnb : tNb T < 3) : ∃ τ, f_X10_readPart 66 σ = some τ ∧ RF σ τ ∧ PO t 66 T p τ := by
  obtain ⟨h1, h2, h3, h4⟩ := h
  let q := okK t 66 (tNb T) p
  let σ1 := sI σ 46 10 (nI (p + 1))
  have r1 : RF σ σ1 := RF.f (by decide)
  have s1 : SQ σ1 p 1 (ff q (1 - 1) 1) := Or.inl ⟨rfl, by show (sI σ 46 10 (nI (p + 1))).1 46 11 = -9; rw [sI_n (by omega)]; exact h3, sI_s⟩
  obtain ⟨va, τa, ea, ba, sa, fa, ga⟩ := mFig (r1.mt h1) ht (q := q) (p := p) (k := 1) (lo := 1) (hi := 3) (by decide) (by omega) (by decide) (by decide) s1 (fun _ => rfl)
  let σ2 := sI τa 50 (2 * tNb T) (nI va)
  have r2 : RF σ σ2 := (r1.tr fa.rf).tr (RF.w (Or.inl rfl))
  obtain ⟨vb, τb, eb, bb, sb, fb, gb⟩ := mFig (r2.mt h1) ht (q := q) (p := p) (k := 2) (lo := 0) (hi := 2) (by decide) (by omega) (by decide) (by decide) (sa.of (sI_ne (by decide)).1) (fun _ => rfl)
  let σ3 := sI τb 50 (2 * tNb T + 1) (nI vb)
  have r3 : RF σ σ3 := (r2.tr fb.rf).tr (RF.w (Or.inl rfl))
  have n1 : σ1.1 46 12 = nI (tNb T) := by show (sI σ 46 10 (nI (p + 1))).1 46 12 = _; rw [sI_n (by omega)]; exact h4.1
  have n2 : σ2.1 46 12 = nI (tNb T) := by show (sI τa 50 (2 * tNb T) (nI va)).1 46 12 = _; rw [sI_n (by omega), fa.2.1 12 (by decide) (by decide)]; exact n1
  have n3 : σ3.1 46 12 = nI (tNb T) := by show (sI τb 50 (2 * tNb T + 1) (nI vb)).1 46 12 = _; rw [sI_n (by omega), fb.2.1 12 (by decide) (by decide)]; exact n2
  have d13 : σ3.1 46 13 = nI (tNd T) := by
    show (sI τb 50 (2 * tNb T + 1) (nI vb)).1 46 13 = _
    rw [sI_n (by omega), fb.2.1 13 (by decide) (by decide)]
    show (sI τa 50 (2 * tNb T) (nI va)).1 46 13 = _
    rw [sI_n (by omega), fa.2.1 13 (by decide) (by decide)]
    show (sI σ 46 10 (nI (p + 1))).1 46 13 = _
    rw [sI_n (by omega)]
    exact h4.2.1
  refine ⟨sI σ3 46 12 (nI (tNb T + 1)), ?_, r3.tr (RF.f (by decide)), ?_⟩
  · unfold f_X10_readPart
    rw [if_pos rfl, h4.1, lI 3, if_neg (nI_ge hnb (by decide)), h2, lI 1, nI_add]
    show b2 (f_X10_figure (nI 1) (nI 3) σ1) _ = _
    rw [ea, b2_some]
    show gd (inB (2 * σ1.1 46 12) 6) (bnd (sI τa 50 (2 * σ1.1 46 12).toNatClampNeg (nI va)) _) = _
    rw [n1, lI 2, mul_nI, gd_t (inB_t (show 2 * tNb T < 6 by omega) (by decide)), cl_nI (by omega), bnd_eq]
    show b2 (f_X10_figure 0 (nI 2) σ2) _ = _
    rw [lI 0, eb, b2_some]
    show gd (inB (nI 2 * σ2.1 46 12 + nI 1) 6) (bnd (sI τb 50 (nI 2 * σ2.1 46 12 + nI 1).toNatClampNeg (nI vb)) _) = _
    rw [n2, mul_nI, nI_add, gd_t (inB_t (show 2 * tNb T + 1 < 6 by omega) (by decide)), cl_nI (by omega), bnd_eq]
    show some (sI σ3 46 12 (σ3.1 46 12 + nI 1)) = _
    rw [n3, nI_add]
  · have ek : fkK t 66 (tNb T) p = ff q 2 1 := rfl
    have e3 : szK 66 = 3 := rfl
    have se := (sb.of2 (τ := sI σ3 46 12 (nI (tNb T + 1))) (by rw [sI_n (by omega)]; exact sI_n (by omega)) (by rw [sI_n (by omega)]; exact sI_n (by omega))).end
    unfold PO
    rw [ek, e3]
    refine ⟨fun z => ?_, fun z => se.2 z⟩
    obtain ⟨u1, u2⟩ := se.1 z
    have z1 : ff q 1 1 = 2 := ff_pre (j := 1) z
    have c1 : ∀ j, τb.1 50 j = (sI τa 50 (2 * tNb T) (nI va)).1 50 j := fun j => by rw [fb.1 50 (by decide)]
    have c2 : ∀ j, τa.1 50 j = σ.1 50 j := fun j => by rw [fa.1 50 (by decide)]; exact sI_n (by omega)
    have c3 : ∀ j, (sI σ3 46 12 (nI (tNb T + 1))).1 50 j = (sI τb 50 (2 * tNb T + 1) (nI vb)).1 50 j := fun j => sI_n (by omega)
    refine ⟨(r3.tr (RF.f (by decide))).mt h1, u2, u1, ?_⟩
    show RB _ (addB T (fv t (p + 1)) (fv t (p + 2)))
    refine RB_addB h4 sI_s ?_ ?_ (fun j hj => ?_) ?_ ?_
    · rw [sI_n (by omega), d13, h4.2.1]
    · rw [(sI_ne (by decide)).1]
      show (sI τb 50 (2 * tNb T + 1) (nI vb)).1 51 = σ.1 51
      rw [(sI_ne (by decide)).1, fb.1 51 (by decide)]
      show (sI τa 50 (2 * tNb T) (nI va)).1 51 = σ.1 51
      rw [(sI_ne (by decide)).1, fa.1 51 (by decide)]
      exact (sI_ne (by decide)).1
    · rw [c3, sI_n (by omega), c1, sI_n (by omega), c2]
    · rw [c3, sI_n (by omega), c1, sI_s, ga z1]
    · rw [c3, sI_s, gb z]
theorem mPartP {σ : Mm} {t : Tx} {T : Tw} {p : Nat} (h : RT σ t T p) (ht : t.1 ≤ 48) (hp : p < t.1) (hnb : 0 < tNb T) (hn3 : tNb T ≤ 3) (hnd : tNd T < 5) : ∃ τ, f_X10_readPart 80 σ = some τ ∧ RF σ τ ∧ PO t 80 T p τ := by
  obtain ⟨h1, h2, h3, h4⟩ := h
  let q := okK t 80 (tNb T) p
  let K := 6 * tNd T
  let σ1 := sI σ 46 10 (nI (p + 1))
  have r1 : RF σ σ1 := RF.f (by decide)
  have s1 : SQ σ1 p 1 (ff q (1 - 1) 1) := Or.inl ⟨rfl, by show (sI σ 46 10 (nI (p + 1))).1 46 11 = -9; rw [sI_n (by omega)]; exact h3, sI_s⟩
  obtain ⟨va, τa, ea, ba, sa, fa, ga⟩ := mFig (r1.mt h1) ht (q := q) (p := p) (k := 1) (lo := 0) (hi := tNb T - 1) (by decide) (by omega) (by decide) (by omega) s1 (fun _ => rfl)
  let σ2 := sI τa 51 (6 * tNd T) (nI va)
  have r2 : RF σ σ2 := (r1.tr fa.rf).tr (RF.w (Or.inr rfl))
  obtain ⟨vb, τb, eb, bb, sb, fb, gb⟩ := mFig (r2.mt h1) ht (q := q) (p := p) (k := 2) (lo := 1) (hi := 3) (by decide) (by omega) (by decide) (by decide) (sa.of (sI_ne (by decide)).1) (fun _ => rfl)
  let σ3 := sI τb 51 (6 * tNd T + 1) (nI vb)
  have r3 : RF σ σ3 := (r2.tr fb.rf).tr (RF.w (Or.inr rfl))
  obtain ⟨vc, τc, ec, bc, sc, fc, gc⟩ := mFig (r3.mt h1) ht (q := q) (p := p) (k := 3) (lo := 0) (hi := 3) (by decide) (by omega) (by decide) (by decide) (sb.of (sI_ne (by decide)).1) (fun _ => rfl)
  let σ4 := sI τc 51 (6 * tNd T + 2) (nI vc)
  have r4 : RF σ σ4 := (r3.tr fc.rf).tr (RF.w (Or.inr rfl))
  have c46 : ∀ j, j ≠ 10 → j ≠ 11 → σ4.1 46 j = σ.1 46 j := fun j y1 y2 => by
    show (sI τc 51 (6 * tNd T + 2) (nI vc)).1 46 j = _
    rw [sI_n (by omega), fc.2.1 j y1 y2]
    show (sI τb 51 (6 * tNd T + 1) (nI vb)).1 46 j = _
    rw [sI_n (by omega), fb.2.1 j y1 y2]
    show (sI τa 51 (6 * tNd T) (nI va)).1 46 j = _
    rw [sI_n (by omega), fa.2.1 j y1 y2]
    exact sI_n (by omega)
  obtain ⟨τ, e, s5, g1, g2, g3, g4, g5, g6⟩ := mSpanR (r4.mt h1) ht (q := q) (p := p) (k := 4) (nd := tNd T) (by decide) (by decide) (by omega) hnd ((c46 13 (by decide) (by decide)).trans h4.2.1) (sc.of (sI_ne (by decide)).1) rfl rfl rfl
  have rr : RF σ4 τ := ⟨fun c y1 _ y3 => g1 c y1 y3, fun j hj => g2 j (by omega) (by omega) (by omega), g3⟩
  refine ⟨τ, ?_, r4.tr rr, ?_⟩
  · unfold f_X10_readPart
    rw [if_neg (by decide), h4.2.1, lI 6, mul_nI]
    unfold f_X10_readPart_p81
    rw [if_pos rfl, h4.2.1, lI 5, if_neg (nI_ge hnd (by decide)), if_neg (show ¬ σ.1 46 12 ≤ 0 by rw [h4.1, le0_nI (by omega)]; omega), h2, lI 1, nI_add]
    show b2 (f_X10_figure 0 (σ1.1 46 12 - nI 1) σ1) _ = _
    rw [show σ1.1 46 12 = nI (tNb T) from (sI_n (by omega)).trans h4.1, pk_sub (by omega), lI 0, ea, b2_some, gd_t (inB_t (show 6 * tNd T < 30 by omega) (by decide)), cl_nI (show 6 * tNd T < 2 ^ 31 by omega)]
    show b2 (f_X10_figure (nI 1) 3 σ2) _ = _
    rw [lI 3, eb, b2_some, nI_add, gd_t (inB_t (show 6 * tNd T + 1 < 30 by omega) (by decide)), cl_nI (show 6 * tNd T + 1 < 2 ^ 31 by omega)]
    show b2 (f_X10_figure (nI 0) (nI 3) σ3) _ = _
    rw [ec, b2_some, lI 2, nI_add, gd_t (inB_t (show 6 * tNd T + 2 < 30 by omega) (by decide)), cl_nI (show 6 * tNd T + 2 < 2 ^ 31 by omega)]
    show b1 (f_X10_readSpan (nI (6 * tNd T)) σ4) _ = _
    rw [e, b1_some]
  · have ek : fkK t 80 (tNb T) p = ff q 6 1 := rfl
    have e7 : szK 80 = 7 := rfl
    have se := s5.end
    unfold PO
    rw [ek, e7]
    refine ⟨fun z => ?_, fun z => se.2 z⟩
    obtain ⟨u1, u2⟩ := se.1 z
    obtain ⟨w3, w4, w5⟩ := g6 z
    have z5 : ff q 5 1 = 6 := ff_pre (j := 5) z
    have z4 : ff q 4 1 = 5 := ff_pre (j := 4) z5
    have z3 : ff q 3 1 = 4 := ff_pre (j := 3) z4
    have z2 : ff q 2 1 = 3 := ff_pre (j := 2) z3
    have z1 : ff q 1 1 = 2 := ff_pre (j := 1) z2
    have hb2 : 1 ≤ fv t (p + 2) := (figP (z : fkK t 80 (tNb T) p = szK 80) hn3).2.2.1.2.1
    have c4 : ∀ j, j < 6 * tNd T + 3 → τ.1 51 j = (sI τc 51 (6 * tNd T + 2) (nI vc)).1 51 j := g5
    have c3 : ∀ j, τc.1 51 j = (sI τb 51 (6 * tNd T + 1) (nI vb)).1 51 j := fun j => by rw [fc.1 51 (by decide)]
    have c2 : ∀ j, τb.1 51 j = (sI τa 51 (6 * tNd T) (nI va)).1 51 j := fun j => by rw [fb.1 51 (by decide)]
    have c1 : ∀ j, τa.1 51 j = σ.1 51 j := fun j => by rw [fa.1 51 (by decide)]; exact sI_n (by omega)
    refine ⟨(r4.tr rr).mt h1, u2, u1, ?_⟩
    show RB _ (addD T (fv t (p + 1)) (fv t (p + 2)) (fv t (p + 3)) (fv t (p + 4)) (fv t (p + 5)) (fv t (p + 6)))
    refine RB_addD h4 ?_ g4 ?_ (fun j hj => ?_) ?_ ?_ ?_ w3 w4 w5
    · rw [g2 12 (by decide) (by decide) (by decide)]; exact c46 12 (by decide) (by decide)
    · rw [g1 50 (by decide) (by decide)]
      show (sI τc 51 (6 * tNd T + 2) (nI vc)).1 50 = σ.1 50
      rw [(sI_ne (by decide)).1, fc.1 50 (by decide)]
      show (sI τb 51 (6 * tNd T + 1) (nI vb)).1 50 = σ.1 50
      rw [(sI_ne (by decide)).1, fb.1 50 (by decide)]
      show (sI τa 51 (6 * tNd T) (nI va)).1 50 = σ.1 50
      rw [(sI_ne (by decide)).1, fa.1 50 (by decide)]
      exact (sI_ne (by decide)).1
    · rw [c4 j (by omega), sI_n (by omega), c3, sI_n (by omega), c2, sI_n (by omega), c1]
    · rw [c4 _ (by omega), sI_n (by omega), c3, sI_n (by omega), c2, sI_s, ga z1, if_neg (by omega)]
    · rw [c4 _ (by omega), sI_n (by omega), c3, sI_s, gb z2]
    · rw [c4 _ (by omega), sI_s, gc z3]
theorem mPartQ {σ : Mm} {t : Tx} {T : Tw} {p : Nat} (h : RT σ t T p) (ht : t.1 ≤ 48) (hp : p < t.1) (hnd : tNd T < 5) : ∃ τ, f_X10_readPart 81 σ = some τ ∧ RF σ τ ∧ PO t 81 T p τ := by
  obtain ⟨h1, h2, h3, h4⟩ := h
  let q := okK t 81 (tNb T) p
  let σ1 := sI (sI σ 46 10 (nI (p + 1))) 51 (6 * tNd T) (-9)
  let σ2 := sI (sI σ1 51 (6 * tNd T + 1) (nI 0)) 51 (6 * tNd T + 2) (nI 0)
  have r2 : RF σ σ2 := (((RF.f (by decide)).tr (RF.w (Or.inr rfl))).tr (RF.w (Or.inr rfl))).tr (RF.w (Or.inr rfl))
  have c46 : σ2.1 46 = (sI σ 46 10 (nI (p + 1))).1 46 := by
    show (sI (sI (sI (sI σ 46 10 (nI (p + 1))) 51 (6 * tNd T) (-9)) 51 (6 * tNd T + 1) (nI 0)) 51 (6 * tNd T + 2) (nI 0)).1 46 = _
    rw [(sI_ne (by decide)).1, (sI_ne (by decide)).1, (sI_ne (by decide)).1]
  have s1 : SQ σ2 p 1 (ff q (1 - 1) 1) := by
    refine Or.inl ⟨rfl, ?_, ?_⟩
    · rw [c46, sI_n (by omega)]; exact h3
    · rw [c46, sI_s]
  obtain ⟨τ, e, s5, g1, g2, g3, g4, g5, g6⟩ := mSpanR (r2.mt h1) ht (q := q) (p := p) (k := 1) (nd := tNd T) (by decide) (by decide) (by omega) hnd (by rw [c46, sI_n (by omega)]; exact h4.2.1) s1 rfl rfl rfl
  have rr : RF σ2 τ := ⟨fun c y1 _ y3 => g1 c y1 y3, fun j hj => g2 j (by omega) (by omega) (by omega), g3⟩
  refine ⟨τ, ?_, r2.tr rr, ?_⟩
  · unfold f_X10_readPart
    rw [if_neg (by decide), h4.2.1, lI 6, mul_nI]
    unfold f_X10_readPart_p81
    rw [if_neg (by decide)]
    unfold f_X10_readPart_p165
    rw [if_pos rfl, h4.2.1, lI 5, if_neg (nI_ge hnd (by decide)), gd_t (inB_t (show 6 * tNd T < 30 by omega) (by decide)), cl_nI (show 6 * tNd T < 2 ^ 31 by omega), h2, lI 1, lI 2, nI_add, nI_add, nI_add, bnd_eq, gd_t (inB_t (show 6 * tNd T + 1 < 30 by omega) (by decide)), gd_t (inB_t (show 6 * tNd T + 2 < 30 by omega) (by decide)), cl_nI (show 6 * tNd T + 1 < 2 ^ 31 by omega), cl_nI (show 6 * tNd T + 2 < 2 ^ 31 by omega), bnd_eq, lI 0]
    show b1 (f_X10_readSpan (nI (6 * tNd T)) σ2) _ = _
    rw [e, b1_some]
  · have ek : fkK t 81 (tNb T) p = ff q 3 1 := rfl
    have e7 : szK 81 = 4 := rfl
    have se := s5.end
    unfold PO
    rw [ek, e7]
    refine ⟨fun z => ?_, fun z => se.2 z⟩
    obtain ⟨u1, u2⟩ := se.1 z
    obtain ⟨w3, w4, w5⟩ := g6 z
    have c4 : ∀ j, j < 6 * tNd T + 3 → τ.1 51 j = (sI (sI (sI (sI σ 46 10 (nI (p + 1))) 51 (6 * tNd T) (-9)) 51 (6 * tNd T + 1) (nI 0)) 51 (6 * tNd T + 2) (nI 0)).1 51 j := g5
    refine ⟨(r2.tr rr).mt h1, u2, u1, ?_⟩
    show RB _ (addD T 0 0 0 (fv t (p + 1)) (fv t (p + 2)) (fv t (p + 3)))
    refine RB_addD h4 ?_ g4 ?_ (fun j hj => ?_) ?_ ?_ ?_ w3 w4 w5
    · rw [g2 12 (by decide) (by decide) (by decide), c46]; exact sI_n (by omega)
    · rw [g1 50 (by decide) (by decide)]
      show (sI (sI (sI (sI σ 46 10 (nI (p + 1))) 51 (6 * tNd T) (-9)) 51 (6 * tNd T + 1) (nI 0)) 51 (6 * tNd T + 2) (nI 0)).1 50 = _
      rw [(sI_ne (by decide)).1, (sI_ne (by decide)).1, (sI_ne (by decide)).1, (sI_ne (by decide)).1]
    · rw [c4 j (by omega), sI_n (by omega), sI_n (by omega), sI_n (by omega), sI_n (by omega)]
    · rw [c4 _ (by omega), sI_n (by omega), sI_n (by omega), sI_s, if_pos rfl]
    · rw [c4 _ (by omega), sI_n (by omega), sI_s]
    · rw [c4 _ (by omega), sI_s]
theorem mPartN {σ : Mm} {t : Tx} {T : Tw} {p : Nat} (h : RT σ t T p) (hw : WT T) {c : Int32} (hm : ¬ mayT c (tNb T) (tNd T) = true) : f_X10_readPart c σ = some (sI σ 46 11 (nI p)) := by
  obtain ⟨h1, h2, h3, h4⟩ := h
  have w1 := hw.1
  have w2 := hw.2.1
  rw [mayT_iff] at hm
  have p165 : f_X10_readPart_p165 c ((6 : Int32) * (σ.1 46 13)) σ = some (sI σ 46 11 (nI p)) := by
    unfold f_X10_readPart_p165
    by_cases c3 : c = 81
    · rw [if_pos c3, h4.2.1, lI 5, if_pos (nI_le (Nat.le_of_not_lt fun z => hm (Or.inr (Or.inr ⟨c3, z⟩))) (by omega)), h2]
    · rw [if_neg c3, h2]
  have p81 : f_X10_readPart_p81 c ((6 : Int32) * (σ.1 46 13)) σ = some (sI σ 46 11 (nI p)) := by
    unfold f_X10_readPart_p81
    by_cases c2 : c = 80
    · rw [if_pos c2]
      by_cases z : (5 : Int32) ≤ σ.1 46 13
      · rw [if_pos z]; exact p165
      · rw [if_neg z]
        by_cases y : σ.1 46 12 ≤ 0
        · rw [if_pos y]; exact p165
        · exfalso
          rw [h4.2.1, lI 5, le_nI (by omega) (by omega)] at z
          rw [h4.1, le0_nI (by omega)] at y
          exact hm (Or.inr (Or.inl ⟨c2, by omega, by omega⟩))
    · rw [if_neg c2]; exact p165
  unfold f_X10_readPart
  by_cases c1 : c = 66
  · rw [if_pos c1, if_pos]
    · exact p81
    · rw [h4.1, lI 3]
      exact nI_le (Nat.le_of_not_lt fun z => hm (Or.inl ⟨c1, z⟩)) (by omega)
  · rw [if_neg c1]; exact p81
theorem mRead {t : Tx} (ht : t.1 ≤ 48) : ∀ (m p n : Nat) (σ : Mm) (T : Tw), WT T → RT σ t T p → p ≤ t.1 → t.1 < p + m → m < n → ∃ τ, f_X10_readText_p46 n σ = some (eR (pa t m p T), τ) ∧ RF σ τ ∧ ∀ T', pa t m p T = Sum.inr T' → WT T' ∧ RB τ T' := by
  intro m
  induction m with
  | zero => intro p n σ T _ _ h1 h2; omega
  | succ m ih =>
    intro p n σ T hw h hp hm hn
    obtain ⟨n, rfl⟩ : ∃ k, n = k + 1 := ⟨n - 1, by omega⟩
    obtain ⟨h1, h2, h3, h4⟩ := id h
    rw [f_X10_readText_p46, if_pos h3, h1.1, h2, pa]
    by_cases e : t.1 ≤ p
    · rw [if_pos (nI_le e (by omega)), if_pos e, h3]
      refine ⟨σ, rfl, RF.rf σ, fun T' hT => ?_⟩
      cases hT
      exact ⟨hw, h4⟩
    · have e' : p < t.1 := by omega
      rw [if_neg (nI_ge e' (by omega)), if_neg e, gd_t (inB_t (show p < 48 by omega) (by decide)), cl_nI (by omega), h1.2 p e']
      have stop : ∀ (τ : Mm) (j : Nat), j < 2 ^ 30 → τ.1 46 11 = nI j → f_X10_readText_p46 n τ = some (nI j, τ) := by
        intro τ j hj hτ
        obtain ⟨n', rfl⟩ : ∃ k, n = k + 1 := ⟨n - 1, by omega⟩
        rw [f_X10_readText_p46, if_neg (by rw [hτ, ne9 (by omega)]; exact id), hτ]
      by_cases hmt : mayT (t.2 p) (tNb T) (tNd T) = true
      · have key : ∃ τ, f_X10_readPart (t.2 p) σ = some τ ∧ RF σ τ ∧ PO t (t.2 p) T p τ := by
          rcases may3 hmt with ⟨z, y⟩ | ⟨z, y1, y2⟩ | ⟨z, y⟩
          · rw [z]; exact mPartB h ht e' y
          · rw [z]; exact mPartP h ht e' y1 hw.1 y2
          · rw [z]; exact mPartQ h ht e' y
        obtain ⟨τ, k1, k2, k3, k4⟩ := key
        rw [k1, b1_some, if_pos hmt]
        have hs := szK_pos (t.2 p)
        by_cases ef : fkK t (t.2 p) (tNb T) p = szK (t.2 p)
        · obtain ⟨x1, x2, _, _⟩ := WT_addP hw hmt ef
          obtain ⟨ρ, y1, y2, y3⟩ := ih (p + szK (t.2 p)) n τ (addP t p (t.2 p) T) x1 (k3 ef) x2 (by omega) (by omega)
          rw [if_pos ef]
          exact ⟨ρ, y1, k2.tr y2, y3⟩
        · have hf := fk_le t (t.2 p) (tNb T) p
          rw [if_neg ef, stop τ _ (by omega) (k4 ef)]
          exact ⟨τ, rfl, k2, fun T' hT => by cases hT⟩
      · rw [if_neg hmt, mPartN h hw hmt, b1_some, stop _ p (by omega) sI_s]
        exact ⟨_, rfl, RF.f (by decide), fun T' hT => by cases hT⟩
theorem mFault {σ : Mm} {t : Tx} (h : MTx σ t) (ht : t.1 ≤ 48) : ∃ τ, f_X10_readText σ = some (eR (paT t), τ) ∧ RF σ τ ∧ ∀ T', paT t = Sum.inr T' → WT T' ∧ RB τ T' := by
  let σ1 := sI (sI (sI (sI σ 46 10 (0 : Int32)) 46 11 (-9 : Int32)) 46 12 (0 : Int32)) 46 13 (0 : Int32)
  have r1 : RF σ σ1 := (((RF.f (by decide)).tr (RF.f (by decide))).tr (RF.f (by decide))).tr (RF.f (by decide))
  have m1 := r1.mt h
  unfold f_X10_readText paT
  rw [bnd_eq]
  show ∃ τ, (if σ1.1 46 9 = 0 then some ((0 : Int32), σ1) else gd (inB 0 48) (if σ1.1 53 (0 : Int32).toNatClampNeg = 84 then f_X10_readText_p46 FU (sI σ1 46 10 1) else some (0, σ1))) = _ ∧ _
  rw [m1.1]
  by_cases h0 : t.1 = 0
  · rw [if_pos (by rw [h0]; rfl), if_pos h0]
    exact ⟨σ1, rfl, r1, fun T' hT => by cases hT⟩
  · rw [if_neg (nI_ne0 (by omega) (by omega)), if_neg h0, gd_t (by decide), show (0 : Int32).toNatClampNeg = 0 from rfl, m1.2 0 (by omega)]
    by_cases c : t.2 0 = 84
    · rw [if_pos c, if_pos c]
      have r2 : RF σ (sI σ1 46 10 1) := r1.tr (RF.f (by decide))
      have e11 : (sI σ1 46 10 1).1 46 11 = -9 := by
        rw [sI_n (by omega)]
        show (sI (sI (sI (sI σ 46 10 (0 : Int32)) 46 11 (-9 : Int32)) 46 12 (0 : Int32)) 46 13 (0 : Int32)).1 46 11 = -9
        rw [sI_n (by omega), sI_n (by omega), sI_s]
      have e12 : (sI σ1 46 10 1).1 46 12 = nI 0 := by
        rw [sI_n (by omega)]
        show (sI (sI (sI (sI σ 46 10 (0 : Int32)) 46 11 (-9 : Int32)) 46 12 (0 : Int32)) 46 13 (0 : Int32)).1 46 12 = nI 0
        rw [sI_n (by omega), sI_s]
        rfl
      have e13 : (sI σ1 46 10 1).1 46 13 = nI 0 := by
        rw [sI_n (by omega)]
        exact sI_s
      obtain ⟨ρ, y1, y2, y3⟩ := mRead ht 48 1 FU (sI σ1 46 10 1) T0 WT_0 ⟨r2.mt h, sI_s, e11, e12, e13, fun b hb => absurd hb (Nat.not_lt_zero b), fun b hb => absurd hb (Nat.not_lt_zero b)⟩ (by omega) (by omega) (by decide)
      exact ⟨ρ, y1, r2.tr y2, y3⟩
    · rw [if_neg c, if_neg c]
      exact ⟨σ1, rfl, r1, fun T' hT => by cases hT⟩
theorem RF.M {σ τ : Mm} (h : RF σ τ) : MSame σ τ := ⟨⟨h.2.1 0 (by omega), h.2.1 1 (by omega), h.2.1 9 (by omega), h.2.1 14 (by omega), h.2.1 15 (by omega), h.2.1 38 (by omega)⟩, fun k hk => h.1 k (by omega) (by omega) (by omega), by rw [h.2.2]⟩
theorem RF.L {σ τ : Mm} (h : RF σ τ) : Lo σ τ := fun k hk => ⟨h.1 k (by omega) (by omega) (by omega), by rw [h.2.2]⟩
/-- promise 4 -/
theorem op_fault {σ : Mm} (hI : INV σ) : ∃ v ρ, f_X9_fault σ = some v ∧ f_X10_fault σ = some (v, ρ) ∧ INV ρ := by
  obtain ⟨S, hw, hX, hM⟩ := hI
  obtain ⟨ρ, e1, e2, _⟩ := mFault hM.1 hw.1
  refine ⟨eR (paT S.1), ρ, ?_, ?_, S, hw, hX.of e2.L.X, hM.of e2.M⟩
  · unfold f_X9_fault
    rw [xFault hX.1 hw.1, b1_some]
  · unfold f_X10_fault
    rw [e1, b2_some]
