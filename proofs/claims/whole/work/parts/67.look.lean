/-! the reference's tables, what may be had, a look at a day -/
def tkA (T : Tw) (b s : Nat) : Nat := if tN T b = 0 then wantS T b else takeS T b s
def TBn (σ : Mm) (T : Tw) (n : Nat) : Prop := ∀ i, i < n → σ.1 59 i = (if may T (i / 10) (i % 10) = true then 1 else 0) ∧ σ.1 60 i = nI (if may T (i / 10) (i % 10) = true then secS T (i / 10) (i % 10) else 0) ∧ σ.1 61 i = nI (if may T (i / 10) (i % 10) = true then tkA T (i / 10) (i % 10) else 0)
def st3 (T : Tw) (i : Nat) (τ : Mm) : Mm := sI (sI (sI τ 59 i (if may T (i / 10) (i % 10) = true then 1 else 0)) 60 i (nI (if may T (i / 10) (i % 10) = true then secS T (i / 10) (i % 10) else 0))) 61 i (nI (if may T (i / 10) (i % 10) = true then tkA T (i / 10) (i % 10) else 0))
def N3 (σ τ : Mm) : Prop := (∀ c, c ≠ 59 → c ≠ 60 → c ≠ 61 → τ.1 c = σ.1 c) ∧ τ.2 = σ.2
theorem N3.MT {σ τ : Mm} {T : Tw} (g : N3 σ τ) (h : MTw σ T) : MTw τ T := h.of (by rw [g.1 46 (by decide) (by decide) (by decide)]) (by rw [g.1 46 (by decide) (by decide) (by decide)]) (g.1 47 (by decide) (by decide) (by decide)) (g.1 48 (by decide) (by decide) (by decide)) (g.1 49 (by decide) (by decide) (by decide))
theorem N3.st {σ τ : Mm} (g : N3 σ τ) (T : Tw) (i : Nat) : N3 σ (st3 T i τ) := ⟨fun c h1 h2 h3 => by unfold st3; rw [(sI_ne h3).1, (sI_ne h2).1, (sI_ne h1).1]; exact g.1 c h1 h2 h3, g.2⟩
theorem TBn.st {τ : Mm} {T : Tw} {i : Nat} (h : TBn τ T i) : TBn (st3 T i τ) T (i + 1) := fun j hj => by
  unfold st3
  by_cases q : j = i
  · subst q
    refine ⟨by rw [sI_n (by omega), sI_n (by omega), sI_s], by rw [sI_n (by omega), sI_s], by rw [sI_s]⟩
  · rw [sI_n (by omega), sI_n (by omega), sI_n (by omega), sI_n (by omega), sI_n (by omega), sI_n (by omega), sI_n (by omega), sI_n (by omega), sI_n (by omega)]
    exact h j (by omega)
theorem mSec0 {σ : Mm} {T : Tw} (h : MTw σ T) (hw : WT T) {k s : Nat} (hk : k < tNd T) (hs : s < 10) : f_X10_seconds σ (nI k) (nI s) 0 = some (nI (secS T k s)) := by
  rw [mSecs h hw hk hs, if_pos rfl]; rfl
theorem mSec1 {σ : Mm} {T : Tw} (h : MTw σ T) (hw : WT T) {k s : Nat} (hk : k < tNd T) (hs : s < 10) : f_X10_seconds σ (nI k) (nI s) 1 = some (nI (tkA T k s)) := by
  rw [mSecs h hw hk hs, if_neg n10]; rfl
theorem lay1 {τ : Mm} {T : Tw} (h : MTw τ T) (hw : WT T) {b s : Nat} (hb : b < tNd T) (hs : s < 10) (ke : Int32 → Mm → Option Mm) (n : Nat) : f_X10_layTables_p12 ke (n + 1) (nI b) (nI s) τ = f_X10_layTables_p12 ke n (nI b) (nI (s + 1)) (st3 T (10 * b + s) τ) := by
  have h5 := hw.2.1
  have e1 : (10 * b + s) / 10 = b := by omega
  have e2 : (10 * b + s) % 10 = s := by omega
  have g50 : inB (nI (10 * b + s)) 50 = true := inB_t (by omega) (by decide)
  unfold st3
  rw [e1, e2, f_X10_layTables_p12, lI 10, if_neg (nI_ge hs (by decide)), mMay h hw hb hs, b1_some, mul_nI, nI_add, gd_t g50, gd_t g50, cl_nI (by omega), one1]
  have hT1 : ∀ v, MTw (sI τ 59 (10 * b + s) v) T := fun v => h.of (by rw [(sI_ne (by decide)).1]) (by rw [(sI_ne (by decide)).1]) (sI_ne (by decide)).1 (sI_ne (by decide)).1 (sI_ne (by decide)).1
  have hT2 : ∀ v w, MTw (sI (sI τ 59 (10 * b + s) v) 60 (10 * b + s) w) T := fun v w => (hT1 v).of (by rw [(sI_ne (by decide)).1]) (by rw [(sI_ne (by decide)).1]) (sI_ne (by decide)).1 (sI_ne (by decide)).1 (sI_ne (by decide)).1
  by_cases hm : may T b s = true
  · rw [if_pos hm, if_pos hm, if_pos hm, sI_s, if_neg n10, mSec0 (hT1 _) hw hb hs, b1_some]
    unfold f_X10_layTables_p70
    rw [gd_t g50, lI 10, mul_nI, nI_add, gd_t g50, gd_t g50, cl_nI (by omega), sI_n (show ¬ (59 = 60 ∧ 10 * b + s = 10 * b + s) by omega), sI_s, if_neg n10, mSec1 (hT2 _ _) hw hb hs, b1_some, gd_t g50, bnd_eq, lI 1, nI_add]
  · rw [if_neg hm, if_neg hm, if_neg hm, sI_s, if_pos rfl]
    unfold f_X10_layTables_p70
    rw [gd_t g50, lI 10, mul_nI, nI_add, gd_t g50, gd_t g50, cl_nI (by omega), sI_n (show ¬ (59 = 60 ∧ 10 * b + s = 10 * b + s) by omega), sI_s, if_pos rfl, bnd_eq, lI 1, nI_add, nI0]
theorem mTables {σ : Mm} {T : Tw} (h : MTw σ T) (hw : WT T) : ∃ τ, f_X10_layTables σ = some τ ∧ N3 σ τ ∧ TBn τ T (10 * tNd T) := by
  have h5 := hw.2.1
  unfold f_X10_layTables
  have key := itL (fun n i τ => f_X10_layTables_p2 n i τ) some (fun i τ => itN (fun s => st3 T (10 * i + s)) 10 τ) (tNd T) (fun i τ => N3 σ τ ∧ TBn τ T (10 * i)) (a := σ) ⟨⟨fun _ _ _ _ => rfl, rfl⟩, fun i hi => by omega⟩ ?_ ?_ FU (by have : FU = 1000000000 := rfl; omega)
  · exact ⟨_, key.1, key.2⟩
  · intro n i τ hi hp
    have q := itL (fun m s ζ => f_X10_layTables_p12 (f_X10_layTables_p113 (f_X10_layTables_p2 n)) m (nI i) s ζ) (fun ζ => f_X10_layTables_p113 (f_X10_layTables_p2 n) (nI i) ζ) (fun s => st3 T (10 * i + s)) 10 (fun s ζ => N3 σ ζ ∧ TBn ζ T (10 * i + s)) (a := τ) hp ?_ ?_ FU (by decide)
    · refine ⟨?_, q.2.1, ?_⟩
      · show f_X10_layTables_p2 (n + 1) (nI i) τ = _
        rw [f_X10_layTables_p2, (hp.1.MT h).2.1, if_neg (nI_ge hi (by omega))]
        refine q.1.trans ?_
        unfold f_X10_layTables_p113
        rw [lI 1, nI_add]
      · have := q.2.2
        rw [show 10 * i + 10 = 10 * (i + 1) by omega] at this
        exact this
    · intro m s ζ hs hz
      exact ⟨lay1 (hz.1.MT h) hw hi hs _ m, hz.1.st T _, hz.2.st⟩
    · intro m ζ _
      show f_X10_layTables_p12 _ (m + 1) (nI i) (nI 10) ζ = _
      rw [f_X10_layTables_p12, lI 10, if_pos (nI_le (Nat.le_refl _) (by decide))]
  · intro n τ hp
    show f_X10_layTables_p2 (n + 1) (nI (tNd T)) τ = _
    rw [f_X10_layTables_p2, (hp.1.MT h).2.1, if_pos (nI_le (Nat.le_refl _) (by omega))]
/-- what stands while days are gone through -/
def GS (σ : Mm) (T : Tw) (N : Dy) (H : Hd) : Prop := MTw σ T ∧ MD σ N ∧ MH σ H ∧ TBn σ T (10 * tNd T)
def GF (σ τ : Mm) : Prop := (∀ c, c ≠ 46 → c ≠ 55 → c ≠ 56 → c ≠ 57 → c ≠ 58 → c ≠ 62 → τ.1 c = σ.1 c) ∧ (∀ j, ¬ (20 ≤ j ∧ j ≤ 23) → τ.1 46 j = σ.1 46 j) ∧ τ.2 = σ.2
theorem GF.rf (σ : Mm) : GF σ σ := ⟨fun _ _ _ _ _ _ _ => rfl, fun _ _ => rfl, rfl⟩
theorem GF.tr {σ τ ρ : Mm} (h : GF σ τ) (g : GF τ ρ) : GF σ ρ := ⟨fun c h1 h2 h3 h4 h5 h6 => (g.1 c h1 h2 h3 h4 h5 h6).trans (h.1 c h1 h2 h3 h4 h5 h6), fun j hj => (g.2.1 j hj).trans (h.2.1 j hj), g.2.2.trans h.2.2⟩
theorem GF.w {σ : Mm} {c j : Nat} {v : Int32} (hc : c = 55 ∨ c = 56 ∨ c = 57 ∨ c = 58 ∨ c = 62) : GF σ (sI σ c j v) := ⟨fun k h1 h2 h3 h4 h5 h6 => (sI_ne (by omega)).1, fun j hj => sI_n (by omega), rfl⟩
theorem GF.f46 {σ : Mm} {j : Nat} {v : Int32} (hj : 20 ≤ j ∧ j ≤ 23) : GF σ (sI σ 46 j v) := ⟨fun k h1 h2 h3 h4 h5 h6 => (sI_ne h1).1, fun i hi => sI_n (by omega), rfl⟩
theorem GS.of {σ τ : Mm} {T : Tw} {N : Dy} {H : Hd} (h : GS σ T N H) (g : GF σ τ) : GS τ T N H := by
  obtain ⟨h1, h2, h3, h4⟩ := h
  have e : ∀ c, 47 ≤ c → c ≤ 54 → τ.1 c = σ.1 c := fun c q1 q2 => g.1 c (by omega) (by omega) (by omega) (by omega) (by omega) (by omega)
  have e2 : ∀ c, 59 ≤ c → c ≠ 62 → τ.1 c = σ.1 c := fun c q1 q2 => g.1 c (by omega) (by omega) (by omega) (by omega) (by omega) (by omega)
  refine ⟨h1.of (g.2.1 0 (by omega)) (g.2.1 1 (by omega)) (e 47 (by decide) (by decide)) (e 48 (by decide) (by decide)) (e 49 (by decide) (by decide)), h2.of (e 52 (by decide) (by decide)), h3.of (g.2.1 38 (by omega)) (e2 71 (by decide) (by decide)) (e2 72 (by decide) (by decide)), fun i hi => ?_⟩
  rw [e2 59 (by decide) (by decide), e2 60 (by decide) (by decide), e2 61 (by decide) (by decide)]
  exact h4 i hi
def DR (σ : Mm) (E : Dy) (b : Nat) : Prop := ∀ o, o < b → σ.1 55 o = nI (E o)
def PV (T : Tw) (E : Dy) (b : Nat) : Prop := ∀ o, o < b → E o ≤ 10 ∧ (E o ≠ 0 → may T o (E o - 1) = true)
def fr1 (T : Tw) (E : Dy) (b v : Nat) (o : Nat) : Bool := decide (E o = 0) || !cla T b (v - 1) o (E o - 1)
/-- what the reference asks of the next one -/
def pR (T : Tw) (N : Dy) (st : Bool) (E : Dy) (b v : Nat) : Bool := (!st || (decide (N b = 0) || decide (v = N b))) && (decide (v = 0) || (may T b (v - 1) && allN (fr1 T E b v) b))
theorem allN_cong {f g : Nat → Bool} : ∀ {n : Nat}, (∀ i, i < n → f i = g i) → allN f n = allN g n
  | 0, _ => rfl
  | n + 1, h => by rw [allN, allN, allN_cong (fun i hi => h i (by omega)), h n (by omega)]
theorem pR_loc (T : Tw) (N : Dy) (st : Bool) : Loc (pR T N st) := fun E F b v h => by
  unfold pR
  have e : allN (fr1 T E b v) b = allN (fr1 T F b v) b := allN_cong (fun o ho => by unfold fr1; rw [h o ho])
  rw [e]
theorem TBat {σ : Mm} {T : Tw} (h : TBn σ T (10 * tNd T)) {b s : Nat} (hb : b < tNd T) (hs : s < 10) (hm : may T b s = true) : σ.1 60 (10 * b + s) = nI (secS T b s) ∧ σ.1 61 (10 * b + s) = nI (tkA T b s) := by
  have := h (10 * b + s) (by omega)
  rw [show (10 * b + s) / 10 = b by omega, show (10 * b + s) % 10 = s by omega] at this
  simp only [if_pos hm] at this
  exact this.2
theorem mClashAt {σ : Mm} {T : Tw} (h : MTw σ T) (hw : WT T) (ht : TBn σ T (10 * tNd T)) {k s o u : Nat} (hk : k < tNd T) (ho : o < tNd T) (h1 : may T k s = true) (h2 : may T o u = true) : f_X10_clashAt σ (nI k) (nI (10 * k + s)) (nI o) (nI (10 * o + u)) = some (if cla T k s o u = true then 1 else 0) := by
  have h5 := hw.2.1
  have s1 := may_lt hw hk h1
  have s2 := may_lt hw ho h2
  have b1 := ringS_lt31 hw hk h1
  have b2 := ringS_lt31 hw ho h2
  obtain ⟨r1, t1⟩ := TBat ht hk s1 h1
  obtain ⟨r2, t2⟩ := TBat ht ho s2 h2
  have g30 : ∀ k, k < 5 → inB (nI (6 * k)) 30 = true := fun j hj => inB_t (by omega) (by decide)
  have gk : inB (nI (10 * k + s)) 50 = true := inB_t (by omega) (by decide)
  have go : inB (nI (10 * o + u)) 50 = true := inB_t (by omega) (by decide)
  have p76 : f_X10_clashAt_p76 σ (nI (10 * k + s)) (nI (10 * o + u)) = some (if secS T k s &&& secS T o u ≠ 0 then 1 else 0) := by
    unfold f_X10_clashAt_p76
    rw [gd_t gk, gd_t go, cl_nI (by omega), cl_nI (by omega), r1, r2, and_nI]
    have b3 := and_lt (b := secS T o u) b1.1
    simp only [nI_0iff (n := secS T k s &&& secS T o u) (by omega)]
    by_cases c : secS T k s &&& secS T o u = 0
    · rw [if_pos c, if_neg (fun q => q c)]
    · rw [if_neg c, if_pos c]
  have p60 : f_X10_clashAt_p60 σ (nI k) (nI (10 * k + s)) (nI o) (nI (10 * o + u)) = some (if tN T k = 0 ∧ tN T o = 0 then 0 else if secS T k s &&& secS T o u ≠ 0 then 1 else 0) := by
    unfold f_X10_clashAt_p60
    rw [mQuiet h hw hk, b1_some, mQuiet h hw ho, b1_some, p76]
    by_cases q1 : tN T k = 0
    · by_cases q2 : tN T o = 0
      · rw [if_pos q1, if_neg n10, if_pos q2, if_neg n10, if_pos ⟨q1, q2⟩]
      · rw [if_pos q1, if_neg n10, if_neg q2, if_pos rfl, if_neg (show ¬ (tN T k = 0 ∧ tN T o = 0) from fun z => q2 z.2)]
    · rw [if_neg q1, if_pos rfl, if_neg (show ¬ (tN T k = 0 ∧ tN T o = 0) from fun z => q1 z.1)]
  unfold f_X10_clashAt cla
  rw [mQuiet h hw hk, b1_some, mQuiet h hw ho, b1_some, p60]
  by_cases q1 : tN T k = 0
  · rw [if_pos q1, if_neg n10]
    by_cases q2 : tN T o = 0
    · rw [if_pos (show tN T k = 0 ∧ tN T o = 0 from ⟨q1, q2⟩), if_pos (show tN T k = 0 ∧ tN T o = 0 from ⟨q1, q2⟩), if_neg (by decide)]
    · rw [if_neg (show ¬ (tN T k = 0 ∧ tN T o = 0) from fun z => q2 z.2), if_neg (show ¬ (tN T k = 0 ∧ tN T o = 0) from fun z => q2 z.2), if_neg (show ¬ (tN T k ≠ 0 ∧ tN T o ≠ 0) from fun z => z.1 q1)]
      simp only [decide_eq_true_eq]
  · rw [if_neg q1, if_pos rfl]
    by_cases q2 : tN T o = 0
    · rw [if_pos q2, if_neg n10, if_neg (show ¬ (tN T k = 0 ∧ tN T o = 0) from fun z => q1 z.1), if_neg (show ¬ (tN T k = 0 ∧ tN T o = 0) from fun z => q1 z.1), if_neg (show ¬ (tN T k ≠ 0 ∧ tN T o ≠ 0) from fun z => z.2 q2)]
      simp only [decide_eq_true_eq]
    · rw [if_neg q2, if_pos rfl, if_neg (show ¬ (tN T k = 0 ∧ tN T o = 0) from fun z => q1 z.1), if_pos (show tN T k ≠ 0 ∧ tN T o ≠ 0 from ⟨q1, q2⟩), lI 6, mul_nI, mul_nI, gd_t (g30 k (by omega)), gd_t (g30 o (by omega)), cl_nI (show 6 * k < 2 ^ 31 by omega), cl_nI (show 6 * o < 2 ^ 31 by omega), (h.2.2.2 k hk).1, (h.2.2.2 o ho).1, gd_t gk, gd_t go, cl_nI (by omega), cl_nI (by omega), t1, t2, tkA, tkA, if_neg q1, if_neg q2, and_nI]
      have b3 := and_lt (b := takeS T o u) (b1.2 q1)
      simp only [eB_eq hw hk ho q1 q2, nI_0iff (n := takeS T k s &&& takeS T o u) (by omega)]
      by_cases c1 : tB T k = tB T o
      · by_cases c2 : takeS T k s &&& takeS T o u = 0
        · rw [if_pos c1, if_pos c2, if_neg (by simp [c2])]
        · rw [if_pos c1, if_neg c2, if_pos (by simp [c1, c2])]
      · rw [if_neg c1, if_neg (by simp [c1])]
theorem mHave {σ : Mm} {T : Tw} {N : Dy} {H : Hd} (hg : GS σ T N H) (hw : WT T) (hN : OD T N) {E : Dy} {b v : Nat} (hb : b < tNd T) (hd : DR σ E b) (hE : PV T E b) (hv : v ≤ 10) (h55 : σ.1 55 b = nI v) (st : Bool) : f_X10_mayHave σ (nI b) (if st = true then 1 else 0) = some (if pR T N st E b v = true then 1 else 0) := by
  obtain ⟨hT, hMD, _, hTB⟩ := hg
  have h5 := hw.2.1
  have g5 : inB (nI b) 5 = true := inB_t (by omega) (by decide)
  have hNb := hN.le b
  have p34 : f_X10_mayHave_p34 σ (nI b) = some (if (decide (v = 0) || (may T b (v - 1) && allN (fr1 T E b v) b)) = true then 1 else 0) := by
    unfold f_X10_mayHave_p34
    rw [gd_t g5, cl_nI (by omega), h55]
    by_cases c0 : v = 0
    · rw [if_pos (by rw [nI_0iff (by omega)]; exact c0), if_pos (by simp [c0])]
    · have hi : 10 * b + v - 1 = 10 * b + (v - 1) := by omega
      rw [if_neg (by rw [nI_0iff (by omega)]; exact c0), gd_t g5, lI 10, mul_nI, nI_add, lI 1, pk_sub (by omega), hi, bnd_eq, gd_t (inB_t (by omega) (by decide)), cl_nI (by omega)]
      have e59 := (hTB (10 * b + (v - 1)) (by omega)).1
      rw [show (10 * b + (v - 1)) / 10 = b by omega, show (10 * b + (v - 1)) % 10 = v - 1 by omega] at e59
      rw [e59]
      by_cases c1 : may T b (v - 1) = true
      · rw [if_pos c1]
        have key : ∀ r o fu, o + r = b → r + 1 < fu → allN (fr1 T E b v) o = true → f_X10_mayHave_p70 σ fu (nI b) (nI (10 * b + (v - 1))) 1 (nI o) = some (if allN (fr1 T E b v) b = true then 1 else 0) := by
          intro r
          induction r with
          | zero =>
            intro o fu ho hf ha
            obtain ⟨fu, rfl⟩ : ∃ f, fu = f + 1 := ⟨fu - 1, by omega⟩
            have e : o = b := by omega
            subst e
            rw [f_X10_mayHave_p70, if_pos (nI_le (Nat.le_refl _) (by omega)), gd_t (by decide), if_pos ha]
          | succ r ih =>
            intro o fu ho hf ha
            obtain ⟨fu, rfl⟩ : ∃ f, fu = f + 2 := ⟨fu - 2, by omega⟩
            have go5 : inB (nI o) 5 = true := inB_t (by omega) (by decide)
            obtain ⟨e1, e2⟩ := hE o (by omega)
            rw [f_X10_mayHave_p70, if_neg (nI_ge (by omega) (by omega)), if_neg n10, gd_t go5, cl_nI (by omega), hd o (by omega)]
            by_cases c2 : E o = 0
            · rw [if_pos (by rw [nI_0iff (by omega)]; exact c2), lI 1, nI_add]
              exact ih (o + 1) (fu + 1) (by omega) (by omega) (by rw [allN, ha, fr1, decide_eq_true c2]; rfl)
            · rw [if_neg (by rw [nI_0iff (by omega)]; exact c2), gd_t go5, lI 10, mul_nI, nI_add, lI 1, pk_sub (by omega), show 10 * o + E o - 1 = 10 * o + (E o - 1) by omega, mClashAt hT hw hTB hb (by omega) c1 (e2 c2), b1_some, nI_add]
              by_cases c3 : cla T b (v - 1) o (E o - 1) = true
              · have hf1 : fr1 T E b v o = false := by rw [fr1, decide_eq_false c2, c3]; rfl
                rw [if_pos c3, if_neg n10, if_neg]
                · rw [f_X10_mayHave_p70]
                  by_cases c4 : b ≤ o + 1
                  · rw [if_pos (nI_le c4 (by omega)), gd_t (by decide)]
                  · rw [if_neg (nI_ge (by omega) (by omega)), if_pos rfl, gd_t (by decide)]
                · intro z
                  rw [allN_iff] at z
                  rw [z o (by omega)] at hf1
                  cases hf1
              · rw [if_neg c3, if_pos rfl]
                exact ih (o + 1) (fu + 1) (by omega) (by omega) (by rw [allN, ha, fr1]; simp [c3])
        have := key b 0 FU (by omega) (by have : FU = 1000000000 := rfl; omega) rfl
        refine this.trans (congrArg some (ifc (by simp [c0, c1])))
      · rw [if_neg c1, if_neg (by simp [c0, c1])]
        have hFU : FU = 999999999 + 1 := rfl
        rw [hFU, f_X10_mayHave_p70]
        by_cases c4 : b = 0
        · rw [if_pos (by rw [c4]; decide), gd_t (by decide)]
        · rw [← nI0, if_neg (show ¬ nI b ≤ nI 0 by rw [le_nI (by omega) (by decide)]; omega), nI0, if_pos rfl, gd_t (by decide)]
  unfold f_X10_mayHave
  rw [p34]
  cases st with
  | false =>
    rw [if_neg (show ¬ (false = true) by decide), if_pos rfl]
    refine congrArg some (ifc ?_)
    unfold pR
    simp
  | true =>
    rw [if_pos rfl, if_neg n10, gd_t g5, cl_nI (by omega), hMD b (by omega)]
    by_cases cN : N b = 0
    · rw [if_pos (show eD (N b) = -9 by rw [eD_0 hNb]; exact cN)]
      refine congrArg some (ifc ?_)
      unfold pR
      simp [cN]
    · have eN : eD (N b) + 1 = nI (N b) := by unfold eD; rw [if_neg cN, lI 1, nI_add, show N b - 1 + 1 = N b by omega]
      rw [if_neg (show ¬ eD (N b) = -9 by rw [eD_0 hNb]; exact cN), gd_t g5, gd_t g5, h55, eN]
      by_cases c2 : v = N b
      · rw [if_pos (by rw [c2])]
        refine congrArg some (ifc ?_)
        unfold pR
        simp [c2]
      · rw [if_neg (by rw [eq_nI (by omega) (by omega)]; exact c2), if_neg]
        unfold pR
        simp [cN, c2]
