/-! the reference pairs strokes off -/
theorem mReach {σ : Mm} {L : List Sk} (h : RS σ L) (hB : BS L) (hn : L.length ≤ 15) {i j : Nat} (hi : i < L.length) (hj : j < L.length) : f_X10_reaches σ (nI i) (nI j) = some (if rc L i j = true then 1 else 0) := by
  obtain ⟨i1, i2, i3⟩ := h.2 i hi
  obtain ⟨j1, j2, j3⟩ := h.2 j hj
  have bi := hB i hi
  have bj := hB j hj
  have hd := dst_le bi.2.2 bj.2.2
  have gi : inB (nI i) 15 = true := inB_t (by omega) (by decide)
  have gj : inB (nI j) 15 = true := inB_t (by omega) (by decide)
  have p44 : f_X10_reaches_p44 σ (nI i) (nI j) (nI (dst (sA L i).2.2 (sA L j).2.2)) = some (if rc L i j = true then 1 else 0) := by
    unfold f_X10_reaches_p44
    rw [gd_t gi, gd_t gj, cl_nI (by omega), cl_nI (by omega), j1, i2, nI_add]
    by_cases c : (sA L i).1 + (sA L i).2.1 + dst (sA L i).2.2 (sA L j).2.2 ≤ (sA L j).1
    · rw [if_neg (nI_ge (by omega) (by omega)), if_pos (show rc L i j = true from decide_eq_true c)]
    · rw [if_pos (nI_le (by omega) (by omega)), if_neg (show ¬ rc L i j = true from fun z => c (of_decide_eq_true z))]
  unfold f_X10_reaches
  rw [gd_t gi, gd_t gj, cl_nI (show i < 2 ^ 31 by omega), cl_nI (show j < 2 ^ 31 by omega), i3, j3, gd_t gj, gd_t gi, gd_t gi, gd_t gj]
  by_cases c : (sA L i).2.2 ≤ (sA L j).2.2
  · rw [if_pos (nI_le c (by omega)), pk_sub c, show (sA L j).2.2 - (sA L i).2.2 = dst (sA L i).2.2 (sA L j).2.2 from (if_pos c).symm]
    exact p44
  · rw [if_neg (nI_ge (by omega) (by omega)), pk_sub (by omega), show (sA L i).2.2 - (sA L j).2.2 = dst (sA L i).2.2 (sA L j).2.2 from (if_neg c).symm]
    exact p44
def MV (R : Nat → Nat → Bool) (n : Nat) (M Bh : Nat → Nat) : Prop := PM R n M ∧ ∀ i j, Bh i = j + 1 ↔ M j = i + 1
theorem MV.n0 {R : Nat → Nat → Bool} {n : Nat} {M Bh : Nat → Nat} (h : MV R n M Bh) (i : Nat) : Bh i ≠ 0 ↔ ∃ j, M j = i + 1 := by
  constructor
  · intro z
    exact ⟨Bh i - 1, (h.2 i (Bh i - 1)).mp (by omega)⟩
  · rintro ⟨j, hj⟩ z
    have := (h.2 i j).mpr hj
    omega
theorem MV.set0 {R : Nat → Nat → Bool} {n : Nat} {M Bh : Nat → Nat} {o a : Nat} (h : MV R n (upD M o 0) Bh) (ho : o < n) (ha : a < n) (hR : R a o = true) (h0 : Bh a = 0) : MV R n (upD M o (a + 1)) (upD Bh a (o + 1)) := by
  have no : ∀ y, y ≠ o → M y ≠ a + 1 := fun y hy e => by
    have := (h.2 a y).mpr (by rw [upD_n hy]; exact e)
    omega
  refine ⟨⟨fun x hx => ?_, fun x y hx e => ?_⟩, fun i j => ?_⟩
  · by_cases c : x = o
    · subst c; rw [upD_s]; exact ⟨ho, ha, hR⟩
    · rw [upD_n c] at hx ⊢
      have := h.1.1 x (by rw [upD_n c]; exact hx)
      rw [upD_n c] at this
      exact this
  · by_cases c : x = o <;> by_cases d : y = o
    · rw [c, d]
    · rw [c, upD_s, upD_n d] at e; exact absurd e.symm (no y d)
    · rw [d, upD_s, upD_n c] at e; exact absurd e (no x c)
    · rw [upD_n c] at hx e
      rw [upD_n d] at e
      exact h.1.2 x y (by rw [upD_n c]; exact hx) (by rw [upD_n c, upD_n d]; exact e)
  · by_cases c : i = a <;> by_cases d : j = o
    · rw [c, d, upD_s, upD_s]; exact ⟨fun _ => rfl, fun _ => rfl⟩
    · rw [c, upD_s, upD_n d]; exact ⟨fun z => absurd (show j = o by omega) d, fun z => absurd z (no j d)⟩
    · rw [d, upD_n c, upD_s]
      refine ⟨fun z => ?_, fun z => absurd (show i = a by omega) c⟩
      have := (h.2 i o).mp z
      rw [upD_s] at this
      omega
    · rw [upD_n c, upD_n d, h.2 i j, upD_n d]
theorem MV.set1 {R : Nat → Nat → Bool} {n : Nat} {M Bh : Nat → Nat} {o a j : Nat} (h : MV R n (upD M o 0) Bh) (ho : o < n) (ha : a < n) (hR : R a o = true) (h0 : Bh a = j + 1) : j < n ∧ MV R n (upD (upD M o (a + 1)) j 0) (upD Bh a (o + 1)) := by
  have hj := (h.2 a j).mp h0
  have jo : j ≠ o := fun e => by rw [e, upD_s] at hj; omega
  have jn := (h.1.1 j (by omega)).1
  have un : ∀ y, y ≠ o → upD M o 0 y = M y := fun y hy => upD_n hy
  have no : ∀ y, y ≠ o → y ≠ j → M y ≠ a + 1 := fun y hy hyj e => hyj (h.1.2 y j (by rw [un y hy]; omega) (by rw [un y hy, hj]; exact e))
  have vo : upD (upD M o (a + 1)) j 0 o = a + 1 := by rw [upD_n (Ne.symm jo), upD_s]
  have vj : upD (upD M o (a + 1)) j 0 j = 0 := upD_s
  have vn : ∀ y, y ≠ o → y ≠ j → upD (upD M o (a + 1)) j 0 y = M y := fun y h1 h2 => by rw [upD_n h2, upD_n h1]
  refine ⟨jn, ⟨fun x hx => ?_, fun x y hx e => ?_⟩, fun i x => ?_⟩
  · by_cases c : x = o
    · subst c; rw [vo]; exact ⟨ho, ha, hR⟩
    · have d : x ≠ j := fun z => hx (by rw [z]; exact vj)
      rw [vn x c d] at hx ⊢
      have := h.1.1 x (by rw [un x c]; exact hx)
      rw [un x c] at this
      exact this
  · have dx : x ≠ j := fun z => hx (by rw [z]; exact vj)
    have dy : y ≠ j := fun z => hx (by rw [e, z]; exact vj)
    by_cases c : x = o <;> by_cases d : y = o
    · rw [c, d]
    · rw [c, vo, vn y d dy] at e; exact absurd e.symm (no y d dy)
    · rw [d, vo, vn x c dx] at e; exact absurd e (no x c dx)
    · rw [vn x c dx] at hx e
      rw [vn y d dy] at e
      exact h.1.2 x y (by rw [un x c]; exact hx) (by rw [un x c, un y d]; exact e)
  · by_cases c : i = a
    · rw [c, upD_s]
      by_cases d : x = o
      · rw [d, vo]; exact ⟨fun _ => rfl, fun _ => rfl⟩
      · refine ⟨fun z => absurd (show x = o by omega) d, fun z => ?_⟩
        have d2 : x ≠ j := fun y => by rw [y, vj] at z; omega
        rw [vn x d d2] at z
        exact absurd z (no x d d2)
    · rw [upD_n c, h.2 i x]
      by_cases d : x = o
      · rw [d, vo, upD_s]
        exact ⟨fun z => by omega, fun z => absurd (show i = a by omega) c⟩
      · by_cases d2 : x = j
        · rw [d2, vj, hj]
          exact ⟨fun z => absurd (show i = a by omega) c, fun z => by omega⟩
        · rw [vn x d d2, un x d]
/-- pairs are changed along the way found -/
theorem mTurn {L : List Sk} (hn : L.length ≤ 15) {B Ls : Nat → Nat} {st : Nat} (hs0 : Ls 0 = st) : ∀ (N q : Nat), q < N → ∀ (M Bh : Nat → Nat) (o : Nat) (σ : Mm) (fuel : Nat), q + 1 < fuel → o < L.length → B o = Ls q + 1 → rc L (Ls q) o = true → (∀ p, p ≤ q → Ls p < L.length) → (∀ p p', p ≤ q → p' ≤ q → Ls p = Ls p' → p = p') → MV (rc L) L.length (upD M o 0) Bh → Bh st = 0 → (∀ p, p ≤ q → p ≠ 0 → ∃ j, Bh (Ls p) = j + 1 ∧ ∃ p', p' < p ∧ B j = Ls p' + 1 ∧ rc L (Ls p') j = true) → (∀ i, i < L.length → σ.1 66 i = eD (Bh i)) → (∀ j, j < L.length → σ.1 67 j = eD (M j)) → (∀ j, j < L.length → σ.1 68 j = eD (B j)) → ∃ (τ : Mm) (M' Bh' : Nat → Nat), f_X10_turn_p2 fuel (nI o) σ = some τ ∧ (∀ c, c ≠ 66 → c ≠ 67 → τ.1 c = σ.1 c) ∧ τ.2 = σ.2 ∧ MV (rc L) L.length M' Bh' ∧ (∀ i, Bh' i ≠ 0 ↔ Bh i ≠ 0 ∨ i = st) ∧ (∀ i, i < L.length → τ.1 66 i = eD (Bh' i)) ∧ (∀ j, j < L.length → τ.1 67 j = eD (M' j)) := by
  intro N
  induction N with
  | zero => intro q hq; omega
  | succ N ih =>
    intro q hq M Bh o σ fuel hf ho hBo hR hlt hinj hMV hst hch h66 h67 h68
    obtain ⟨fuel, rfl⟩ : ∃ f, fuel = f + 2 := ⟨fuel - 2, by omega⟩
    have hqn := hlt q (Nat.le_refl _)
    have go : inB (nI o) 15 = true := inB_t (by omega) (by decide)
    have gl : inB (nI (Ls q)) 15 = true := inB_t (by omega) (by decide)
    have head : f_X10_turn_p2 (fuel + 2) (nI o) σ = f_X10_turn_p2 (fuel + 1) (eD (Bh (Ls q))) (sI (sI σ 66 (Ls q) (nI o)) 67 o (nI (Ls q))) := by
      rw [f_X10_turn_p2, if_neg (by rw [ne9 (by omega)]; exact fun z => z), gd_t go, cl_nI (show o < 2 ^ 31 by omega), h68 o ho, hBo, eD_s, gd_t gl, bnd_eq, cl_nI (show Ls q < 2 ^ 31 by omega), h66 (Ls q) hqn, gd_t gl, gd_t go, bnd_eq]
    have c66 : ∀ i, i < L.length → (sI (sI σ 66 (Ls q) (nI o)) 67 o (nI (Ls q))).1 66 i = eD (upD Bh (Ls q) (o + 1) i) := fun i hi => by
      rw [sI_n (by omega)]
      by_cases c : i = Ls q
      · rw [c, sI_s, upD_s, eD_s]
      · rw [sI_n (by omega), upD_n c]; exact h66 i hi
    have c67 : ∀ j, j < L.length → (sI (sI σ 66 (Ls q) (nI o)) 67 o (nI (Ls q))).1 67 j = eD (upD M o (Ls q + 1) j) := fun j hj => by
      by_cases c : j = o
      · rw [c, sI_s, upD_s, eD_s]
      · rw [sI_n (by omega), sI_n (by omega), upD_n c]; exact h67 j hj
    have cc : ∀ c, c ≠ 66 → c ≠ 67 → (sI (sI σ 66 (Ls q) (nI o)) 67 o (nI (Ls q))).1 c = σ.1 c := fun c h1 h2 => by rw [(sI_ne h2).1, (sI_ne h1).1]
    rw [head]
    by_cases q0 : q = 0
    · have eq : Ls q = st := by rw [q0]; exact hs0
      have hst' : Bh (Ls q) = 0 := by rw [eq]; exact hst
      rw [hst', show eD 0 = -9 from rfl, f_X10_turn_p2, if_pos rfl]
      refine ⟨_, _, _, rfl, cc, rfl, hMV.set0 ho hqn hR hst', fun i => ?_, c66, c67⟩
      rw [← eq]
      by_cases c : i = Ls q
      · rw [c, upD_s]; exact ⟨fun _ => Or.inr rfl, fun _ => by omega⟩
      · rw [upD_n c]; exact ⟨Or.inl, fun z => z.elim id (fun y => absurd y c)⟩
    · obtain ⟨j, hj, p', hp', hBj, hRj⟩ := hch q (Nat.le_refl _) q0
      obtain ⟨jn, hMV'⟩ := hMV.set1 ho hqn hR hj
      have sne : st ≠ Ls q := fun e => by
        have := hinj 0 q (Nat.zero_le _) (Nat.le_refl _) (by rw [hs0]; exact e)
        omega
      rw [hj, eD_s]
      obtain ⟨τ, M', Bh', t1, t2, t3, t4, t5, t6, t7⟩ := ih p' (by omega) (upD M o (Ls q + 1)) (upD Bh (Ls q) (o + 1)) j (sI (sI σ 66 (Ls q) (nI o)) 67 o (nI (Ls q))) (fuel + 1) (by omega) jn hBj hRj (fun p hp => hlt p (by omega)) (fun p r h1 h2 => hinj p r (by omega) (by omega)) hMV' (by rw [upD_n sne]; exact hst) (fun p hp h0 => by
        obtain ⟨x, e1, e2⟩ := hch p (by omega) h0
        have pn : Ls p ≠ Ls q := fun e => by have := hinj p q (by omega) (Nat.le_refl _) e; omega
        exact ⟨x, by rw [upD_n pn]; exact e1, e2⟩) c66 c67 (fun x hx => by rw [cc 68 (by decide) (by decide)]; exact h68 x hx)
      refine ⟨τ, M', Bh', t1, fun c h1 h2 => (t2 c h1 h2).trans (cc c h1 h2), t3, t4, fun i => ?_, t6, t7⟩
      rw [t5 i]
      by_cases c : i = Ls q
      · rw [c, upD_s, hj]; exact ⟨fun _ => Or.inl (by omega), fun _ => Or.inl (by omega)⟩
      · rw [upD_n c]
def BI (L : List Sk) (st : Nat) (M B Ls : Nat → Nat) (m : Nat) : Prop := Ls 0 = st ∧ 1 ≤ m ∧ (∀ p, p < m → Ls p < L.length) ∧ (∀ p q, p < m → q < m → Ls p = Ls q → p = q) ∧ (∀ p, p < m → p ≠ 0 → ∃ j, M j = Ls p + 1 ∧ B j ≠ 0 ∧ ∃ q, q < p ∧ B j = Ls q + 1 ∧ rc L (Ls q) j = true) ∧ (∀ j, j < L.length → B j ≠ 0 → M j ≠ 0 ∧ ∃ p, p < m ∧ M j = Ls p + 1) ∧ ∀ j, B j ≤ L.length
theorem BI.le {L : List Sk} {st : Nat} {M B Ls : Nat → Nat} {m : Nat} (h : BI L st M B Ls m) : m ≤ L.length := by
  obtain ⟨_, _, h3, h4, _⟩ := h
  have key : ((List.range m).map Ls).length ≤ (List.range L.length).length := by
    refine List.Nodup.length_le_of_subset ?_ ?_
    · refine List.pairwise_map.mpr (List.Pairwise.imp_of_mem (fun {a b} ha hb hab e => hab (h4 a b (List.mem_range.mp ha) (List.mem_range.mp hb) e)) List.nodup_range)
    · intro y hy
      obtain ⟨p, hp, rfl⟩ := List.mem_map.mp hy
      exact List.mem_range.mpr (h3 p (List.mem_range.mp hp))
  rw [List.length_map, List.length_range, List.length_range] at key
  exact key
theorem BI.add {L : List Sk} {st : Nat} {M B Ls : Nat → Nat} {m o t k : Nat} (h : BI L st M B Ls m) (hM : PM (rc L) L.length M) (hs : ∀ j, M j ≠ st + 1) (ho : o < L.length) (hB : B o = 0) (ht : M o = t + 1) (hk : k < m) (hR : rc L (Ls k) o = true) : BI L st M (upD B o (Ls k + 1)) (upD Ls m t) (m + 1) := by
  obtain ⟨h1, h2, h3, h4, h5, h6, h7⟩ := h
  have tn := (hM.1 o (by omega)).2.1
  have old : ∀ p, p < m → upD Ls m t p = Ls p := fun p hp => upD_n (by omega)
  have new : ∀ q, q < m → t ≠ Ls q := fun q hq e => by
    by_cases c : q = 0
    · rw [c, h1] at e
      exact hs o (by omega)
    · obtain ⟨j, j1, j2, _⟩ := h5 q hq c
      have := hM.2 j o (by omega) (by omega)
      rw [this] at j2
      exact j2 hB
  refine ⟨by rw [old 0 (by omega)]; exact h1, by omega, fun p hp => ?_, fun p q hp hq e => ?_, fun p hp h0 => ?_, fun j hj hb => ?_, fun j => ?_⟩
  · by_cases c : p = m
    · rw [c, upD_s]; omega
    · rw [old p (by omega)]; exact h3 p (by omega)
  · by_cases c : p = m <;> by_cases d : q = m
    · omega
    · rw [c, upD_s, old q (by omega)] at e; exact absurd e (new q (by omega))
    · rw [d, upD_s, old p (by omega)] at e; exact absurd e.symm (new p (by omega))
    · rw [old p (by omega), old q (by omega)] at e; exact h4 p q (by omega) (by omega) e
  · by_cases c : p = m
    · refine ⟨o, by rw [c, upD_s]; exact ht, by rw [upD_s]; omega, k, by omega, by rw [upD_s, old k hk], by rw [old k hk]; exact hR⟩
    · obtain ⟨j, j1, j2, q, q1, q2, q3⟩ := h5 p (by omega) h0
      have jo : j ≠ o := fun e => j2 (by rw [e]; exact hB)
      exact ⟨j, by rw [old p (by omega)]; exact j1, by rw [upD_n jo]; exact j2, q, q1, by rw [upD_n jo, old q (by omega)]; exact q2, by rw [old q (by omega)]; exact q3⟩
  · by_cases c : j = o
    · exact ⟨by rw [c]; omega, m, by omega, by rw [c, upD_s]; exact ht⟩
    · rw [upD_n c] at hb
      obtain ⟨e1, p, e2, e3⟩ := h6 j hj hb
      exact ⟨e1, p, by omega, by rw [old p e2]; exact e3⟩
  · by_cases c : j = o
    · rw [c, upD_s]; have := h3 k hk; omega
    · rw [upD_n c]; exact h7 j
theorem eD_9 {v : Nat} (h : v ≤ 15) : (eD v = -9) = (v = 0) := by
  unfold eD
  by_cases c : v = 0
  · rw [if_pos c]; exact propext ⟨fun _ => c, fun _ => rfl⟩
  · rw [if_neg c, ne9 (by omega)]; exact propext ⟨fun z => z.elim, fun z => absurd z c⟩
/-- what a search of the reference comes to -/
def GR (L : List Sk) (st : Nat) (M Bh : Nat → Nat) (σ : Mm) (x : Option (Int32 × Mm)) : Prop := ∃ (b : Bool) (M' Bh' : Nat → Nat) (τ : Mm), x = some ((if b = true then 1 else 0), τ) ∧ (∀ c, ¬ (66 ≤ c ∧ c ≤ 69) → τ.1 c = σ.1 c) ∧ τ.2 = σ.2 ∧ (∀ i, i < L.length → τ.1 66 i = eD (Bh' i)) ∧ (∀ j, j < L.length → τ.1 67 j = eD (M' j)) ∧ MV (rc L) L.length M' Bh' ∧ (b = true → ∀ i, Bh' i ≠ 0 ↔ Bh i ≠ 0 ∨ i = st) ∧ (b = false → Bh' = Bh ∧ ∃ V : Nat → Bool, (∀ j, j < L.length → rc L st j = true → V j = true) ∧ ∀ j, V j = true → M j ≠ 0 ∧ ∀ i, i < L.length → rc L (M j - 1) i = true → V i = true)
theorem RS.of {σ τ : Mm} {L : List Sk} (h : RS σ L) (g : ∀ c, ¬ (66 ≤ c ∧ c ≤ 69) → τ.1 c = σ.1 c) : RS τ L := by
  unfold RS
  rw [g 46 (by decide), g 63 (by decide), g 64 (by decide), g 65 (by decide)]
  exact h
theorem mBfs {L : List Sk} (hn : L.length ≤ 15) (hB : BS L) {σ : Mm} (h : RS σ L) {M Bh : Nat → Nat} {st : Nat} (hMV : MV (rc L) L.length M Bh) (hst : Bh st = 0) (h66 : ∀ i, i < L.length → σ.1 66 i = eD (Bh i)) (h67 : ∀ j, j < L.length → σ.1 67 j = eD (M j)) : ∀ (r k m : Nat) (B Ls : Nat → Nat) (ζ : Mm) (fuel : Nat), k + r = 15 → r < fuel → (∀ c, c ≠ 68 → c ≠ 69 → ζ.1 c = σ.1 c) → ζ.2 = σ.2 → (∀ j, j < L.length → ζ.1 68 j = eD (B j)) → (∀ p, p < m → ζ.1 69 p = nI (Ls p)) → BI L st M B Ls m → (∀ p, p < k → p < m → ∀ j, j < L.length → rc L (Ls p) j = true → B j ≠ 0) → GR L st M Bh σ (f_X10_grow_p35 fuel (nI m) (nI k) ζ) := by
  have hs : ∀ j, M j ≠ st + 1 := fun j e => by have := (hMV.2 st j).mpr e; omega
  have done : ∀ (k m : Nat) (B Ls : Nat → Nat) (ζ : Mm) (fuel : Nat), m ≤ k → 0 < fuel → k ≤ 15 → (∀ c, c ≠ 68 → c ≠ 69 → ζ.1 c = σ.1 c) → ζ.2 = σ.2 → BI L st M B Ls m → (∀ p, p < k → p < m → ∀ j, j < L.length → rc L (Ls p) j = true → B j ≠ 0) → GR L st M Bh σ (f_X10_grow_p35 fuel (nI m) (nI k) ζ) := by
    intro k m B Ls ζ fuel hmk hf hk hc h2 hI h5
    obtain ⟨fuel, rfl⟩ : ∃ f, fuel = f + 1 := ⟨fuel - 1, by omega⟩
    rw [f_X10_grow_p35, if_pos (nI_le hmk (by omega))]
    obtain ⟨b1, b2, b3, b4, b5, b6, b7⟩ := hI
    refine ⟨false, M, Bh, ζ, rfl, fun c hc2 => hc c (by omega) (by omega), h2, by rw [hc 66 (by decide) (by decide)]; exact h66, by rw [hc 67 (by decide) (by decide)]; exact h67, hMV, fun z => absurd z (by decide), fun _ => ⟨rfl, fun j => decide (j < L.length ∧ B j ≠ 0), fun j hj hr => ?_, fun j hj => ?_⟩⟩
    · exact decide_eq_true ⟨hj, h5 0 (by omega) (by omega) j hj (by rw [b1]; exact hr)⟩
    · obtain ⟨j1, j2⟩ := of_decide_eq_true hj
      obtain ⟨e1, p, e2, e3⟩ := b6 j j1 j2
      refine ⟨e1, fun i hi hr => decide_eq_true ⟨hi, h5 p (by omega) e2 i hi ?_⟩⟩
      rw [e3] at hr
      exact hr
  intro r
  induction r with
  | zero =>
    intro k m B Ls ζ fuel hk hf hc h2 h68 h69 hI h5
    exact done k m B Ls ζ fuel (by have := hI.le; omega) (by omega) (by omega) hc h2 hI h5
  | succ r ih =>
    intro k m B Ls ζ fuel hk hf hc h2 h68 h69 hI h5
    by_cases hkm : m ≤ k
    · exact done k m B Ls ζ fuel hkm (by omega) (by omega) hc h2 hI h5
    · obtain ⟨fuel, rfl⟩ : ∃ f, fuel = f + 1 := ⟨fuel - 1, by omega⟩
      have m15 := hI.le
      rw [f_X10_grow_p35, if_neg (nI_ge (by omega) (by omega))]
      have inner : ∀ (s o m n : Nat) (B Ls : Nat → Nat) (ζ : Mm), o + s = L.length → s < n → k < m → (∀ c, c ≠ 68 → c ≠ 69 → ζ.1 c = σ.1 c) → ζ.2 = σ.2 → (∀ j, j < L.length → ζ.1 68 j = eD (B j)) → (∀ p, p < m → ζ.1 69 p = nI (Ls p)) → BI L st M B Ls m → (∀ p, p < k → p < m → ∀ j, j < L.length → rc L (Ls p) j = true → B j ≠ 0) → (∀ j, j < o → rc L (Ls k) j = true → B j ≠ 0) → GR L st M Bh σ (f_X10_grow_p43 (f_X10_grow_p134 (f_X10_grow_p35 fuel)) n (nI m) (nI k) (nI o) ζ) := by
        intro s
        induction s with
        | zero =>
          intro o m n B Ls ζ ho hs' hk' hc h2 h68 h69 hI h5 h6
          obtain ⟨n, rfl⟩ : ∃ f, n = f + 1 := ⟨n - 1, by omega⟩
          have e46 : ζ.1 46 29 = nI L.length := by rw [hc 46 (by decide) (by decide)]; exact h.1
          rw [f_X10_grow_p43, e46, if_pos (nI_le (by omega) (by omega))]
          unfold f_X10_grow_p134
          rw [lI 1, nI_add]
          exact ih (k + 1) m B Ls ζ fuel (by omega) (by omega) hc h2 h68 h69 hI (fun p hp hpm j hj hr => by
            by_cases q : p = k
            · rw [q] at hr; exact h6 j (by omega) hr
            · exact h5 p (by omega) hpm j hj hr)
        | succ s ihs =>
          intro o m n B Ls ζ ho hs' hk' hc h2 h68 h69 hI h5 h6
          obtain ⟨n, rfl⟩ : ∃ f, n = f + 1 := ⟨n - 1, by omega⟩
          have hon : o < L.length := by omega
          have hmn := hI.le
          have e46 : ζ.1 46 29 = nI L.length := by rw [hc 46 (by decide) (by decide)]; exact h.1
          have rs : RS ζ L := h.of (fun c hc2 => hc c (by omega) (by omega))
          have go : inB (nI o) 15 = true := inB_t (by omega) (by decide)
          have gk : inB (nI k) 15 = true := inB_t (by omega) (by decide)
          have bo := hI.2.2.2.2.2.2 o
          have lk := hI.2.2.1 k hk'
          rw [f_X10_grow_p43, e46, if_neg (nI_ge hon (by omega)), gd_t go, cl_nI (show o < 2 ^ 31 by omega), h68 o hon, lI 1, nI_add]
          by_cases c1 : B o = 0
          · rw [if_pos (show eD (B o) = -9 by rw [c1]; rfl), gd_t gk, cl_nI (show k < 2 ^ 31 by omega), h69 k hk', mReach rs hB hn lk hon, b1_some]
            by_cases c2 : rc L (Ls k) o = true
            · have mo : M o ≤ L.length := by
                by_cases z : M o = 0
                · omega
                · exact (hMV.1.1 o z).2.1
              have e67 : (sI ζ 68 o (nI (Ls k))).1 67 o = eD (M o) := by rw [sI_n (by omega), hc 67 (by decide) (by decide)]; exact h67 o hon
              rw [if_pos c2, if_neg n10, gd_t gk, gd_t go, gd_t go, e67]
              have b68 : ∀ j, j < L.length → (sI ζ 68 o (nI (Ls k))).1 68 j = eD (upD B o (Ls k + 1) j) := fun j hj => by
                by_cases q : j = o
                · rw [q, sI_s, upD_s, eD_s]
                · rw [sI_n (by omega), upD_n q]; exact h68 j hj
              by_cases c3 : M o = 0
              · rw [if_pos (show eD (M o) = -9 by rw [c3]; rfl)]
                unfold f_X10_turn
                have eM : upD M o 0 = M := upD_0 c3
                obtain ⟨τ, M', Bh', t1, t2, t3, t4, t5, t6, t7⟩ := mTurn hn (B := upD B o (Ls k + 1)) (Ls := Ls) (st := st) hI.1 (k + 1) k (by omega) M Bh o (sI ζ 68 o (nI (Ls k))) FU (by have : FU = 1000000000 := rfl; omega) hon upD_s c2 (fun p hp => hI.2.2.1 p (by omega)) (fun p q hp hq => hI.2.2.2.1 p q (by omega) (by omega)) (by rw [eM]; exact hMV) hst (fun p hp h0 => by
                  obtain ⟨j, j1, j2, q, q1, q2, q3⟩ := hI.2.2.2.2.1 p (by omega) h0
                  have jo : j ≠ o := fun e => j2 (by rw [e]; exact c1)
                  exact ⟨j, (hMV.2 _ _).mpr j1, q, q1, by rw [upD_n jo]; exact q2, q3⟩) (fun i hi => by rw [sI_n (by omega), hc 66 (by decide) (by decide)]; exact h66 i hi) (fun j hj => by rw [sI_n (by omega), hc 67 (by decide) (by decide)]; exact h67 j hj) b68
                rw [t1, b1_some]
                exact ⟨true, M', Bh', τ, rfl, fun c hc2 => by rw [t2 c (by omega) (by omega), (sI_ne (by omega)).1]; exact hc c (by omega) (by omega), t3.trans h2, t6, t7, t4, fun _ => t5, fun z => absurd z (by decide)⟩
              · obtain ⟨t, ht⟩ : ∃ t, M o = t + 1 := ⟨M o - 1, by omega⟩
                have hI' := hI.add hMV.1 hs hon c1 ht hk' c2
                have m15 := hI'.le
                rw [if_neg (show ¬ eD (M o) = -9 by rw [eD_9 (by omega)]; exact c3), gd_t go, gd_t (show inB (nI m) 15 = true from inB_t (by omega) (by decide)), bnd_eq, cl_nI (show m < 2 ^ 31 by omega), nI_add, ht, eD_s]
                exact ihs (o + 1) (m + 1) n (upD B o (Ls k + 1)) (upD Ls m t) (sI (sI ζ 68 o (nI (Ls k))) 69 m (nI t)) (by omega) (by omega) (by omega) (fun c h1 h2 => by rw [(sI_ne h2).1, (sI_ne h1).1]; exact hc c h1 h2) h2 (fun j hj => by rw [sI_n (by omega)]; exact b68 j hj) (fun p hp => by
                  by_cases q : p = m
                  · rw [q, sI_s, upD_s]
                  · rw [sI_n (by omega), sI_n (by omega), upD_n q]; exact h69 p (by omega)) hI' (fun p hp _ j hj hr => by
                  rw [upD_n (show p ≠ m by omega)] at hr
                  by_cases q : j = o
                  · rw [q, upD_s]; omega
                  · rw [upD_n q]; exact h5 p hp (by omega) j hj hr) (fun j hj hr => by
                  rw [upD_n (show k ≠ m by omega)] at hr
                  by_cases q : j = o
                  · rw [q, upD_s]; omega
                  · rw [upD_n q]; exact h6 j (by omega) hr)
            · rw [if_neg c2, if_pos rfl]
              exact ihs (o + 1) m n B Ls ζ (by omega) (by omega) hk' hc h2 h68 h69 hI h5 (fun j hj hr => by
                by_cases q : j = o
                · rw [q] at hr; exact absurd hr c2
                · exact h6 j (by omega) hr)
          · rw [if_neg (show ¬ eD (B o) = -9 by rw [eD_9 (by omega)]; exact c1)]
            exact ihs (o + 1) m n B Ls ζ (by omega) (by omega) hk' hc h2 h68 h69 hI h5 (fun j hj hr => by
              by_cases q : j = o
              · rw [q]; exact c1
              · exact h6 j (by omega) hr)
      exact inner L.length 0 m FU B Ls ζ (by omega) (by have : FU = 1000000000 := rfl; omega) (by omega) hc h2 h68 h69 hI h5 (fun j hj => absurd hj (by omega))
theorem mGrow {L : List Sk} (hn : L.length ≤ 15) (hB : BS L) {σ : Mm} (h : RS σ L) {M Bh : Nat → Nat} {st : Nat} (hsn : st < L.length) (hMV : MV (rc L) L.length M Bh) (hst : Bh st = 0) (h66 : ∀ i, i < L.length → σ.1 66 i = eD (Bh i)) (h67 : ∀ j, j < L.length → σ.1 67 j = eD (M j)) : GR L st M Bh σ (f_X10_grow (nI st) σ) := by
  unfold f_X10_grow
  obtain ⟨ζ, e, p1, p2, p3⟩ := itE (fun n i τ => f_X10_grow_p2 f_X10_grow_p24 n (nI st) i τ) (fun τ => f_X10_grow_p24 (nI st) τ) L.length (fun i τ => (∀ c, c ≠ 68 → τ.1 c = σ.1 c) ∧ τ.2 = σ.2 ∧ ∀ j, j < i → τ.1 68 j = -9) (a := σ) ⟨fun _ _ => rfl, rfl, fun j hj => absurd hj (Nat.not_lt_zero _)⟩ (by
    rintro n i τ hi ⟨q1, q2, q3⟩
    refine ⟨sI τ 68 i (-9), ?_, fun c hc => by rw [(sI_ne hc).1]; exact q1 c hc, q2, fun j hj => ?_⟩
    · show f_X10_grow_p2 f_X10_grow_p24 (n + 1) (nI st) (nI i) τ = _
      rw [f_X10_grow_p2, q1 46 (by decide), h.1, if_neg (nI_ge hi (by omega)), gd_t (inB_t (by omega) (by decide)), cl_nI (by omega), lI 1, nI_add]
    · by_cases q : j = i
      · rw [q, sI_s]
      · rw [sI_n (by omega)]; exact q3 j (by omega)) (by
    rintro n τ ⟨q1, q2, q3⟩
    show f_X10_grow_p2 f_X10_grow_p24 (n + 1) (nI st) (nI L.length) τ = _
    rw [f_X10_grow_p2, q1 46 (by decide), h.1, if_pos (nI_le (Nat.le_refl _) (by omega))]) FU (by have : FU = 1000000000 := rfl; omega)
  have e' : f_X10_grow_p2 f_X10_grow_p24 FU (nI st) 0 σ = f_X10_grow_p24 (nI st) ζ := e
  rw [e']
  unfold f_X10_grow_p24
  rw [gd_t (by decide)]
  show GR L st M Bh σ (f_X10_grow_p35 FU (nI 1) (nI 0) (sI ζ 69 0 (nI st)))
  refine mBfs hn hB h hMV hst h66 h67 15 0 1 (fun _ => 0) (fun _ => st) (sI ζ 69 0 (nI st)) FU (by omega) (by decide) (fun c h1 h2 => by rw [(sI_ne h2).1]; exact p1 c h1) p2 (fun j hj => by rw [sI_n (by omega)]; exact p3 j hj) (fun p hp => by rw [show p = 0 by omega, sI_s]) ⟨rfl, Nat.le_refl _, fun _ _ => hsn, fun p q hp hq _ => by omega, fun p hp h0 => by omega, fun j _ hb => absurd rfl hb, fun _ => Nat.zero_le _⟩ (fun p hp => by omega)
theorem mHands {σ : Mm} {L : List Sk} (hn : L.length ≤ 15) (hB : BS L) (h : RS σ L) : ∃ τ, f_X10_hands_p6 f_X10_hands_p36 FU 0 σ = some (nI (L.length - chc (rc L) L.length L.length), τ) ∧ RFs σ τ := by
  obtain ⟨ζ, e, p1, p2, p3⟩ := itE (fun n i τ => f_X10_hands_p6 f_X10_hands_p36 n i τ) (fun τ => f_X10_hands_p36 τ) L.length (fun i τ => (∀ c, c ≠ 66 → c ≠ 67 → τ.1 c = σ.1 c) ∧ τ.2 = σ.2 ∧ ∀ j, j < i → τ.1 66 j = -9 ∧ τ.1 67 j = -9) (a := σ) ⟨fun _ _ _ => rfl, rfl, fun j hj => absurd hj (Nat.not_lt_zero _)⟩ (by
    rintro n i τ hi ⟨q1, q2, q3⟩
    have g15 : inB (nI i) 15 = true := inB_t (by omega) (by decide)
    refine ⟨sI (sI τ 66 i (-9)) 67 i (-9), ?_, fun c h1 h2 => by rw [(sI_ne h2).1, (sI_ne h1).1]; exact q1 c h1 h2, q2, fun j hj => ?_⟩
    · show f_X10_hands_p6 f_X10_hands_p36 (n + 1) (nI i) τ = _
      rw [f_X10_hands_p6, q1 46 (by decide) (by decide), h.1, if_neg (nI_ge hi (by omega)), gd_t g15, gd_t g15, bnd_eq, cl_nI (by omega), lI 1, nI_add]
    · by_cases q : j = i
      · rw [q]; exact ⟨by rw [sI_n (by omega), sI_s], sI_s⟩
      · rw [sI_n (by omega), sI_n (by omega), sI_n (by omega), sI_n (by omega)]; exact q3 j (by omega)) (by
    rintro n τ ⟨q1, q2, q3⟩
    show f_X10_hands_p6 f_X10_hands_p36 (n + 1) (nI L.length) τ = _
    rw [f_X10_hands_p6, q1 46 (by decide) (by decide), h.1, if_pos (nI_le (Nat.le_refl _) (by omega))]) FU (by have : FU = 1000000000 := rfl; omega)
  have e' : f_X10_hands_p6 f_X10_hands_p36 FU 0 σ = f_X10_hands_p36 ζ := e
  have rz : RS ζ L := h.of (fun c hc => p1 c (by omega) (by omega))
  rw [e']
  unfold f_X10_hands_p36
  rw [rz.1]
  have key := itE (fun n i (a : Int32 × Mm) => f_X10_hands_p43 n a.1 i a.2) (fun a => some (a.1, a.2)) L.length (fun k a => a.1 = nI (L.length - chc (rc L) L.length k) ∧ (∀ c, ¬ (66 ≤ c ∧ c ≤ 69) → a.2.1 c = ζ.1 c) ∧ a.2.2 = ζ.2 ∧ ∃ M Bh : Nat → Nat, (∀ i, i < L.length → a.2.1 66 i = eD (Bh i)) ∧ (∀ j, j < L.length → a.2.1 67 j = eD (M j)) ∧ MV (rc L) L.length M Bh ∧ ∀ i, Bh i ≠ 0 ↔ chs (rc L) L.length k i) (a := (nI L.length, ζ)) ⟨rfl, fun _ _ => rfl, rfl, fun _ => 0, fun _ => 0, fun i hi => (p3 i hi).1, fun i hi => (p3 i hi).2, ⟨⟨fun j hj => absurd rfl hj, fun j _ hj => absurd rfl hj⟩, fun i j => ⟨fun z => absurd (show 0 = j + 1 from z) (by omega), fun z => absurd (show 0 = i + 1 from z) (by omega)⟩⟩, fun i => ⟨fun z => absurd rfl z, fun z => z.elim⟩⟩ ?_ ?_ FU (by have : FU = 1000000000 := rfl; omega)
  · obtain ⟨⟨v, τ⟩, k1, k2, k3, k4, _⟩ := key
    have k1' : f_X10_hands_p43 FU (nI L.length) (nI 0) ζ = some (v, τ) := k1
    rw [show v = _ from k2] at k1'
    refine ⟨τ, k1', fun c h1 h2 => ?_, fun j _ => ?_, k4.trans p2⟩
    · rw [k3 c (by omega), p1 c (by omega) (by omega)]
    · rw [k3 46 (by decide), p1 46 (by decide) (by decide)]
  · rintro n k ⟨v, τ⟩ hk ⟨q1, q2, q3, M, Bh, m1, m2, m3, m4⟩
    have hle := chc_le (R := rc L) (n := L.length) k
    have rt : RS τ L := rz.of q2
    have hst : Bh k = 0 := Decidable.byContradiction fun z => by have := chs_lt ((m4 k).mp z); omega
    obtain ⟨b, M', Bh', τ2, t1, t2, t3, t4, t5, t6, t7, t8⟩ := mGrow hn hB rt hk m3 hst m1 m2
    have hstep : f_X10_hands_p43 (n + 1) v (nI k) τ = f_X10_hands_p43 n (v - if b = true then 1 else 0) (nI (k + 1)) τ2 := by
      rw [f_X10_hands_p43, rt.1, if_neg (nI_ge hk (by omega)), t1, b2_some, lI 1, nI_add]
      cases b with
      | true => rfl
      | false => rfl
    refine ⟨(v - if b = true then 1 else 0, τ2), hstep, ?_⟩
    have f1 : ∀ c, ¬ (66 ≤ c ∧ c ≤ 69) → τ2.1 c = ζ.1 c := fun c hc => (t2 c hc).trans (q2 c hc)
    cases b with
    | true =>
      have mt : Mt (rc L) L.length (fun a => chs (rc L) L.length k a ∨ a = k) := ⟨M', t6.1, fun i hi => (t6.n0 i).mp ((t7 rfl i).mpr (hi.imp (fun z => (m4 i).mpr z) id))⟩
      refine ⟨?_, f1, t3.trans q3, M', Bh', t4, t5, t6, fun i => by rw [t7 rfl i, m4 i, chs_y mt i]⟩
      show v - (if true = true then 1 else 0) = _
      rw [if_pos rfl, show v = _ from q1, lI 1, pk_sub (by omega), chc_y mt]
      congr 1
    | false =>
      obtain ⟨u1, V, u2, u3⟩ := t8 rfl
      have mt := hall (k := k) (V := V) m3.1 (fun i => (m3.n0 i).symm.trans (m4 i)) (fun z => by have := chs_lt z; omega) u2 u3
      refine ⟨?_, f1, t3.trans q3, M', Bh', t4, t5, t6, fun i => by rw [u1, m4 i, chs_n mt i]⟩
      show v - (if false = true then 1 else 0) = _
      rw [if_neg (by decide), show v = _ from q1, chc_n mt, Int32.sub_zero]
  · rintro n ⟨v, τ⟩ ⟨_, q2, _⟩
    show f_X10_hands_p43 (n + 1) v (nI L.length) τ = _
    rw [f_X10_hands_p43, (rz.of q2).1, if_pos (nI_le (Nat.le_refl _) (by omega))]
/-- promise 20 -/
theorem op_hands {σ : Mm} (hI : INV σ) : ∃ v τ ρ, f_X9_hands σ = some (v, τ) ∧ f_X10_hands τ = some (v, ρ) ∧ INV ρ := by
  obtain ⟨S, hw, hX, hM⟩ := id hI
  have wT := hw.2.1
  have h5 := wT.2.1
  have hO := hw.2.2.1.od
  have hl := sL_len wT hO (tNd S.2.1)
  have hn : (sL S.2.1 S.2.2.1 (tNd S.2.1)).length ≤ 15 := by omega
  have hb := sL_bs wT hO (tNd S.2.1)
  obtain ⟨τ1, a1, a2, a3⟩ := xLayS hX.2.1 wT hX.2.2.1 hO (f_X5_fewest_p36 16)
  obtain ⟨τ, b1', b2'⟩ := xFew hn hb a3
  have fs : FS σ τ := a2.tr b2'
  have hXt : XI τ S := hX.of ⟨fun k h1 h2 => fs.1 k (by omega), fun k h1 h2 => fs.1 k (by omega), fun k h1 h2 => fs.1 k (by omega), by rw [fs.2], by rw [fs.2]⟩
  have hHi : Hi σ τ := fun k hk => ⟨fs.1 k (by omega), by rw [fs.2]⟩
  have hMτ := hM.hi hHi
  obtain ⟨ρ1, c1, c2, c3⟩ := mLay hMτ.2.1 wT hMτ.2.2.1 hO
  obtain ⟨ρ, d1, d2⟩ := mHands hn hb c3
  have rf : RFs τ ρ := c2.tr d2
  have E1 : f_X9_hands σ = some (nI ((sL S.2.1 S.2.2.1 (tNd S.2.1)).length - chc (rc (sL S.2.1 S.2.2.1 (tNd S.2.1))) (sL S.2.1 S.2.2.1 (tNd S.2.1)).length (sL S.2.1 S.2.2.1 (tNd S.2.1)).length), τ) := by
    unfold f_X9_hands f_X5_fewest
    rw [a1, b1', b2_some]
  have E2 : f_X10_hands τ = some (nI ((sL S.2.1 S.2.2.1 (tNd S.2.1)).length - chc (rc (sL S.2.1 S.2.2.1 (tNd S.2.1))) (sL S.2.1 S.2.2.1 (tNd S.2.1)).length (sL S.2.1 S.2.2.1 (tNd S.2.1)).length), ρ) := by
    unfold f_X10_hands
    rw [c1, b1_some]
    exact d1
  refine ⟨_, τ, ρ, E1, E2, S, hw, hXt.of ?_, hMτ.of ?_⟩
  · exact ⟨fun k h1 h2 => rf.1 k (by omega) (by omega), fun k h1 h2 => rf.1 k (by omega) (by omega), fun k h1 h2 => rf.1 k (by omega) (by omega), by rw [rf.2.2], by rw [rf.2.2]⟩
  · exact ⟨⟨rf.2.1 0 (by decide), rf.2.1 1 (by decide), rf.2.1 9 (by decide), rf.2.1 14 (by decide), rf.2.1 15 (by decide), rf.2.1 38 (by decide)⟩, fun k hk => rf.1 k (by omega) (by omega), by rw [rf.2.2]⟩
