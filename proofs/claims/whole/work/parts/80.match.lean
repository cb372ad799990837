/-! matchings: who can go on to whom -/
def PM (R : Nat → Nat → Bool) (n : Nat) (M : Nat → Nat) : Prop := (∀ j, M j ≠ 0 → j < n ∧ M j ≤ n ∧ R (M j - 1) j = true) ∧ ∀ j i, M j ≠ 0 → M j = M i → j = i
def Mt (R : Nat → Nat → Bool) (n : Nat) (S : Nat → Prop) : Prop := ∃ M, PM R n M ∧ ∀ i, S i → ∃ j, M j = i + 1
/-- no way on: those can't all be paired -/
theorem hall {R : Nat → Nat → Bool} {n : Nat} {M : Nat → Nat} {S : Nat → Prop} {k : Nat} {V : Nat → Bool} (hM : PM R n M) (hc : ∀ i, (∃ j, M j = i + 1) ↔ S i) (hk : ¬ S k)
    (h1 : ∀ j, j < n → R k j = true → V j = true) (h2 : ∀ j, V j = true → M j ≠ 0 ∧ ∀ i, i < n → R (M j - 1) i = true → V i = true) : ¬ Mt R n (fun i => S i ∨ i = k) := by
  rintro ⟨M', p', c'⟩
  have hex : ∀ i, ∃ j, (S i ∨ i = k) → M' j = i + 1 := fun i => by
    rcases Classical.em (S i ∨ i = k) with h | h
    · obtain ⟨j, hj⟩ := c' i h
      exact ⟨j, fun _ => hj⟩
    · exact ⟨0, fun z => absurd z h⟩
  obtain ⟨f, hf⟩ := Classical.axiomOfChoice hex
  have hS : ∀ x, V x = true → S (M x - 1) := fun x hx => (hc _).mp ⟨x, by have := (h2 x hx).1; omega⟩
  obtain ⟨U, eU⟩ : ∃ U, U = (List.range n).filter V := ⟨_, rfl⟩
  have hU : ∀ x, x ∈ U → V x = true := fun x hx => by rw [eU] at hx; exact (List.mem_filter.mp hx).2
  have hVn : ∀ x, V x = true → x ∈ U := fun x hx => by rw [eU]; exact List.mem_filter.mpr ⟨List.mem_range.mpr (hM.1 x (h2 x hx).1).1, hx⟩
  have fk := hf k (Or.inr rfl)
  have nU : U.Nodup := by rw [eU]; exact List.Pairwise.filter V List.nodup_range
  have key : (f k :: U.map (fun x => f (M x - 1))).length ≤ U.length := by
    refine List.Nodup.length_le_of_subset (List.nodup_cons.mpr ⟨?_, ?_⟩) ?_
    · intro h
      obtain ⟨x, hx, e⟩ := List.mem_map.mp h
      have h3 := hf (M x - 1) (Or.inl (hS x (hU x hx)))
      rw [e, fk] at h3
      exact hk ((hc k).mp ⟨x, by have := (h2 x (hU x hx)).1; omega⟩)
    · refine List.pairwise_map.mpr (List.Pairwise.imp_of_mem (fun {a b} ha hb hab e => ?_) nU)
      have h3 := hf (M a - 1) (Or.inl (hS a (hU a ha)))
      have h4 := hf (M b - 1) (Or.inl (hS b (hU b hb)))
      rw [e, h4] at h3
      have h5 := (h2 a (hU a ha)).1
      have h6 := (h2 b (hU b hb)).1
      exact hab (hM.2 a b h5 (by omega))
    · intro y hy
      rcases List.mem_cons.mp hy with rfl | hy
      · refine hVn _ (h1 _ ?_ ?_)
        · exact (p'.1 _ (by rw [fk]; omega)).1
        · have := (p'.1 (f k) (by rw [fk]; omega)).2.2
          rw [fk] at this
          exact this
      · obtain ⟨x, hx, rfl⟩ := List.mem_map.mp hy
        have h3 := hf (M x - 1) (Or.inl (hS x (hU x hx)))
        have h4 := p'.1 (f (M x - 1)) (by rw [h3]; omega)
        refine hVn _ ((h2 x (hU x hx)).2 _ h4.1 ?_)
        have h5 := h4.2.2
        rw [h3] at h5
        exact h5
  rw [List.length_cons, List.length_map] at key
  omega
/-- before a way is sought from i beside what is seen; after it was found -/
def Pre (R : Nat → Nat → Bool) (n : Nat) (V : Nat → Bool) (M : Nat → Nat) (i : Nat) : Prop := (∀ j, M j ≠ 0 → j < n ∧ M j ≤ n ∧ R (M j - 1) j = true) ∧ (∀ j l, V j = false → V l = false → M j ≠ 0 → M j = M l → j = l) ∧ ∀ j, V j = false → M j ≠ i + 1
def Aug (R : Nat → Nat → Bool) (n : Nat) (V : Nat → Bool) (M : Nat → Nat) (i : Nat) (M' : Nat → Nat) : Prop := (∀ j, V j = true → M' j = M j) ∧ (∀ j, M' j ≠ 0 → j < n ∧ M' j ≤ n ∧ R (M' j - 1) j = true) ∧ (∀ j l, V j = false → V l = false → M' j ≠ 0 → M' j = M' l → j = l) ∧ ∀ a, a ≠ 0 → ((∃ j, V j = false ∧ M' j = a) ↔ (∃ j, V j = false ∧ M j = a) ∨ a = i + 1)
def Cl (R : Nat → Nat → Bool) (n : Nat) (M : Nat → Nat) (V W : Nat → Bool) : Prop := ∀ j, W j = true → V j = true ∨ (M j ≠ 0 ∧ ∀ l, l < n → R (M j - 1) l = true → W l = true)
theorem sub_f {V W : Nat → Bool} (h : ∀ j, V j = true → W j = true) {q : Nat} (hq : W q = false) : V q = false := by
  cases e : V q with
  | false => rfl
  | true => rw [h q e] at hq; cases hq
theorem Pre.mono {R : Nat → Nat → Bool} {n : Nat} {V W : Nat → Bool} {M : Nat → Nat} {i : Nat} (p : Pre R n V M i) (h : ∀ j, V j = true → W j = true) : Pre R n W M i :=
  ⟨p.1, fun j l hj hl => p.2.1 j l (sub_f h hj) (sub_f h hl), fun j hj => p.2.2 j (sub_f h hj)⟩
theorem Aug.mono {R : Nat → Nat → Bool} {n : Nat} {V W : Nat → Bool} {M M' : Nat → Nat} {i : Nat} (p : Pre R n V M i) (h : ∀ j, V j = true → W j = true) (a : Aug R n W M i M') : Aug R n V M i M' := by
  obtain ⟨p1, p2, p3⟩ := p
  obtain ⟨a1, a2, a3, a4⟩ := a
  have mix : ∀ j l, V j = false → W j = true → W l = false → M' j ≠ 0 → M' j ≠ M' l := fun j l hj wj wl h0 e => by
    have ej := a1 j wj
    rw [ej] at h0 e
    rcases (a4 (M j) h0).mp ⟨l, wl, e.symm⟩ with ⟨q, hq, eq⟩ | z
    · have := p2 q j (sub_f h hq) hj (by rw [eq]; exact h0) eq
      rw [this, wj] at hq
      cases hq
    · exact p3 j hj z
  refine ⟨fun j hj => a1 j (h j hj), a2, fun j l hj hl h0 e => ?_, fun a ha => ⟨?_, ?_⟩⟩
  · cases wj : W j with
    | true =>
      cases wl : W l with
      | true =>
        rw [a1 j wj] at h0 e
        rw [a1 l wl] at e
        exact p2 j l hj hl h0 e
      | false => exact absurd e (mix j l hj wj wl h0)
    | false =>
      cases wl : W l with
      | true => exact absurd e.symm (mix l j hl wl wj (by rw [← e]; exact h0))
      | false => exact a3 j l wj wl h0 e
  · rintro ⟨j, hj, e⟩
    cases wj : W j with
    | true => exact Or.inl ⟨j, hj, by rw [← a1 j wj]; exact e⟩
    | false =>
      rcases (a4 a ha).mp ⟨j, wj, e⟩ with ⟨q, hq, eq⟩ | z
      · exact Or.inl ⟨q, sub_f h hq, eq⟩
      · exact Or.inr z
  · rintro (⟨j, hj, e⟩ | z)
    · cases wj : W j with
      | true => exact ⟨j, hj, by rw [a1 j wj]; exact e⟩
      | false =>
        obtain ⟨q, hq, eq⟩ := (a4 a ha).mpr (Or.inl ⟨j, wj, e⟩)
        exact ⟨q, sub_f h hq, eq⟩
    · obtain ⟨q, hq, eq⟩ := (a4 a ha).mpr (Or.inr z)
      exact ⟨q, sub_f h hq, eq⟩
theorem upD_s {E : Dy} {b v : Nat} : upD E b v b = v := if_pos rfl
theorem upD_n {E : Dy} {b v j : Nat} (h : j ≠ b) : upD E b v j = E j := if_neg h
theorem Aug.take {R : Nat → Nat → Bool} {n : Nat} {V : Nat → Bool} {M : Nat → Nat} {i j : Nat} (p : Pre R n V M i) (hi : i < n) (hj : j < n) (hV : V j = false) (hR : R i j = true) (h0 : M j = 0) : Aug R n V M i (upD M j (i + 1)) := by
  obtain ⟨p1, p2, p3⟩ := p
  have nj : ∀ q, V q = true → q ≠ j := fun q hq e => by rw [e, hV] at hq; cases hq
  refine ⟨fun q hq => upD_n (nj q hq), fun q h => ?_, fun q l hq hl h e => ?_, fun a ha => ⟨?_, ?_⟩⟩
  · by_cases c : q = j
    · subst c
      rw [upD_s]
      exact ⟨hj, hi, hR⟩
    · rw [upD_n c] at h ⊢
      exact p1 q h
  · by_cases c : q = j <;> by_cases d : l = j
    · rw [c, d]
    · rw [c, upD_s, upD_n d] at e
      exact absurd e.symm (p3 l hl)
    · rw [d, upD_s, upD_n c] at e
      exact absurd e (p3 q hq)
    · rw [upD_n c] at h e
      rw [upD_n d] at e
      exact p2 q l hq hl h e
  · rintro ⟨q, hq, e⟩
    by_cases c : q = j
    · rw [c, upD_s] at e
      exact Or.inr e.symm
    · rw [upD_n c] at e
      exact Or.inl ⟨q, hq, e⟩
  · rintro (⟨q, hq, e⟩ | z)
    · have c : q ≠ j := fun z => ha (by rw [← e, z, h0])
      exact ⟨q, hq, by rw [upD_n c]; exact e⟩
    · exact ⟨j, hV, by rw [upD_s]; exact z.symm⟩
theorem Pre.go {R : Nat → Nat → Bool} {n : Nat} {V W : Nat → Bool} {M : Nat → Nat} {i j t : Nat} (p : Pre R n V M i) (hV : V j = false) (hW : ∀ q, W q = true ↔ V q = true ∨ q = j) (ht : M j = t + 1) : Pre R n W M t := by
  have hs : ∀ q, V q = true → W q = true := fun q hq => (hW q).mpr (Or.inl hq)
  obtain ⟨p1, p2, p3⟩ := p.mono hs
  refine ⟨p1, p2, fun q hq e => ?_⟩
  have := p.2.1 q j (sub_f hs hq) hV (by omega) (by omega)
  rw [this, (hW j).mpr (Or.inr rfl)] at hq
  cases hq
theorem Aug.go {R : Nat → Nat → Bool} {n : Nat} {V W : Nat → Bool} {M M1 : Nat → Nat} {i j t : Nat} (p : Pre R n V M i) (hi : i < n) (hj : j < n) (hV : V j = false) (hR : R i j = true) (ht : M j = t + 1) (hW : ∀ q, W q = true ↔ V q = true ∨ q = j) (a : Aug R n W M t M1) : Aug R n V M i (upD M1 j (i + 1)) := by
  have hs : ∀ q, V q = true → W q = true := fun q hq => (hW q).mpr (Or.inl hq)
  obtain ⟨p1, p2, p3⟩ := p
  obtain ⟨a1, a2, a3, a4⟩ := a
  have nj : ∀ q, V q = true → q ≠ j := fun q hq e => by rw [e, hV] at hq; cases hq
  have wf : ∀ q, V q = false → q ≠ j → W q = false := fun q hq hn => by
    cases e : W q with
    | false => rfl
    | true =>
      rcases (hW q).mp e with z | z
      · rw [z] at hq; cases hq
      · exact absurd z hn
  have wn : ∀ q, W q = false → q ≠ j := fun q hq e => by rw [e, (hW j).mpr (Or.inr rfl)] at hq; cases hq
  have no : ∀ l, W l = false → M1 l ≠ i + 1 := fun l hl e => by
    rcases (a4 (i + 1) (by omega)).mp ⟨l, hl, e⟩ with ⟨r, hr, er⟩ | z
    · exact p3 r (sub_f hs hr) er
    · exact p3 j hV (by omega)
  refine ⟨fun q hq => by rw [upD_n (nj q hq)]; exact a1 q (hs q hq), fun q h => ?_, fun q l hq hl h e => ?_, fun a ha => ⟨?_, ?_⟩⟩
  · by_cases c : q = j
    · subst c
      rw [upD_s]
      exact ⟨hj, hi, hR⟩
    · rw [upD_n c] at h ⊢
      exact a2 q h
  · by_cases c : q = j <;> by_cases d : l = j
    · rw [c, d]
    · rw [c, upD_s, upD_n d] at e
      exact absurd e.symm (no l (wf l hl d))
    · rw [d, upD_s, upD_n c] at e
      exact absurd e (no q (wf q hq c))
    · rw [upD_n c] at h e
      rw [upD_n d] at e
      exact a3 q l (wf q hq c) (wf l hl d) h e
  · rintro ⟨q, hq, e⟩
    by_cases c : q = j
    · rw [c, upD_s] at e
      exact Or.inr e.symm
    · rw [upD_n c] at e
      rcases (a4 a ha).mp ⟨q, wf q hq c, e⟩ with ⟨r, hr, er⟩ | z
      · exact Or.inl ⟨r, sub_f hs hr, er⟩
      · exact Or.inl ⟨j, hV, by omega⟩
  · rintro (⟨q, hq, e⟩ | z)
    · have : (∃ r, W r = false ∧ M r = a) ∨ a = t + 1 := by
        by_cases c : q = j
        · rw [c] at e
          exact Or.inr (by omega)
        · exact Or.inl ⟨q, wf q hq c, e⟩
      obtain ⟨r, hr, er⟩ := (a4 a ha).mpr this
      exact ⟨r, sub_f hs hr, by rw [upD_n (wn r hr)]; exact er⟩
    · exact ⟨j, hV, by rw [upD_s]; exact z.symm⟩
/-- which strokes are gone on from, as they are tried one after the other; how many -/
def chs (R : Nat → Nat → Bool) (n : Nat) : Nat → Nat → Prop
  | 0, _ => False
  | k + 1, i => chs R n k i ∨ (i = k ∧ Mt R n (fun a => chs R n k a ∨ a = k))
noncomputable def chc (R : Nat → Nat → Bool) (n : Nat) : Nat → Nat
  | 0 => 0
  | k + 1 => chc R n k + @ite Nat (Mt R n (fun a => chs R n k a ∨ a = k)) (Classical.propDecidable _) 1 0
theorem chs_lt {R : Nat → Nat → Bool} {n : Nat} : ∀ {k i : Nat}, chs R n k i → i < k
  | 0, _, h => h.elim
  | k + 1, i, h => by
    rcases h with h | h
    · have := chs_lt h
      omega
    · omega
theorem chs_y {R : Nat → Nat → Bool} {n k : Nat} (h : Mt R n (fun a => chs R n k a ∨ a = k)) (i : Nat) : chs R n (k + 1) i ↔ chs R n k i ∨ i = k := by
  show (chs R n k i ∨ (i = k ∧ Mt R n (fun a => chs R n k a ∨ a = k))) ↔ _
  exact ⟨fun z => z.imp id (fun y => y.1), fun z => z.imp id (fun y => ⟨y, h⟩)⟩
theorem chs_n {R : Nat → Nat → Bool} {n k : Nat} (h : ¬ Mt R n (fun a => chs R n k a ∨ a = k)) (i : Nat) : chs R n (k + 1) i ↔ chs R n k i := by
  show (chs R n k i ∨ (i = k ∧ Mt R n (fun a => chs R n k a ∨ a = k))) ↔ _
  exact ⟨fun z => z.elim id (fun y => absurd y.2 h), Or.inl⟩
theorem chc_y {R : Nat → Nat → Bool} {n k : Nat} (h : Mt R n (fun a => chs R n k a ∨ a = k)) : chc R n (k + 1) = chc R n k + 1 := by
  rw [chc, if_pos h]
theorem chc_n {R : Nat → Nat → Bool} {n k : Nat} (h : ¬ Mt R n (fun a => chs R n k a ∨ a = k)) : chc R n (k + 1) = chc R n k := by
  rw [chc, if_neg h]; rfl
theorem chc_le {R : Nat → Nat → Bool} {n : Nat} : ∀ k, chc R n k ≤ k
  | 0 => Nat.le_refl _
  | k + 1 => by
    have := chc_le (R := R) (n := n) k
    rcases Classical.em (Mt R n (fun a => chs R n k a ∨ a = k)) with h | h
    · rw [chc_y h]; omega
    · rw [chc_n h]; omega
theorem suN_mono {f g : Nat → Nat} : ∀ {n : Nat}, (∀ i, i < n → f i ≤ g i) → suN f n ≤ suN g n
  | 0, _ => Nat.le_refl _
  | n + 1, h => by
    rw [suN, suN]
    have := suN_mono (f := f) (g := g) (n := n) (fun i hi => h i (by omega))
    have := h n (by omega)
    omega
theorem suN_strict {f g : Nat → Nat} {j : Nat} : ∀ {n : Nat}, (∀ i, i < n → f i ≤ g i) → j < n → f j < g j → suN f n < suN g n
  | 0, _, h, _ => absurd h (by omega)
  | n + 1, h, hj, hl => by
    rw [suN, suN]
    have a := h n (by omega)
    by_cases c : j = n
    · have := suN_mono (f := f) (g := g) (n := n) (fun i hi => h i (by omega))
      rw [c] at hl
      omega
    · have := suN_strict (f := f) (g := g) (n := n) (fun i hi => h i (by omega)) (by omega) hl
      omega
/-- how many are seen -/
def cB (V n : Nat) : Nat := suN (fun j => if V.testBit j then 1 else 0) n
theorem cB_le (V n : Nat) : cB V n ≤ n := by
  have := suN_le (f := fun j => if V.testBit j then 1 else 0) (c := 1) (n := n) (fun i _ => by
    show (if V.testBit i then 1 else 0) ≤ 1
    split <;> omega)
  unfold cB
  omega
theorem cB_mono {V W n : Nat} (h : ∀ j, V.testBit j = true → W.testBit j = true) : cB V n ≤ cB W n := suN_mono (fun i _ => by
  show (if V.testBit i then 1 else 0) ≤ (if W.testBit i then 1 else 0)
  by_cases c : V.testBit i = true
  · rw [if_pos c, if_pos (h i c)]; exact Nat.le_refl _
  · rw [if_neg c]; exact Nat.zero_le _)
theorem cB_add {V W n j : Nat} (h : ∀ q, W.testBit q = true ↔ V.testBit q = true ∨ q = j) (hj : j < n) (hV : V.testBit j = false) : cB V n < cB W n := suN_strict (j := j) (fun i _ => by
  show (if V.testBit i then 1 else 0) ≤ (if W.testBit i then 1 else 0)
  by_cases c : V.testBit i = true
  · rw [if_pos c, if_pos ((h i).mpr (Or.inl c))]; exact Nat.le_refl _
  · rw [if_neg c]; exact Nat.zero_le _) hj (by
  show (if V.testBit j then 1 else 0) < (if W.testBit j then 1 else 0)
  rw [if_neg (by rw [hV]; decide), if_pos ((h j).mpr (Or.inr rfl))]
  decide)
