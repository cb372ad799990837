/-! all days, one after the other -/
theorem allN_iff {q : Nat → Bool} : ∀ {n : Nat}, allN q n = true ↔ ∀ i, i < n → q i = true
  | 0 => by simp [allN]
  | n + 1 => by
    rw [allN, Bool.and_eq_true, allN_iff]
    constructor
    · rintro ⟨h1, h2⟩ i hi
      rcases Nat.lt_or_ge i n with q | q
      · exact h1 i q
      · rw [show i = n by omega]; exact h2
    · intro h
      exact ⟨fun i hi => h i (by omega), h n (by omega)⟩
def catN {α : Type} (f : Nat → List α) : Nat → List α
  | 0 => []
  | n + 1 => catN f n ++ f n
theorem mem_catN {α : Type} {f : Nat → List α} {x : α} : ∀ {n : Nat}, x ∈ catN f n ↔ ∃ i, i < n ∧ x ∈ f i
  | 0 => by simp [catN]
  | n + 1 => by
    rw [catN, List.mem_append, mem_catN]
    constructor
    · rintro (⟨i, hi, h⟩ | h)
      · exact ⟨i, by omega, h⟩
      · exact ⟨n, by omega, h⟩
    · rintro ⟨i, hi, h⟩
      rcases Nat.lt_or_ge i n with q | q
      · exact Or.inl ⟨i, q, h⟩
      · rw [show i = n by omega] at h; exact Or.inr h
theorem catN_cong {α : Type} {f g : Nat → List α} : ∀ {n : Nat}, (∀ i, i < n → f i = g i) → catN f n = catN g n
  | 0, _ => rfl
  | n + 1, h => by rw [catN, catN, catN_cong (fun i hi => h i (by omega)), h n (by omega)]
def en (p : Dy → Nat → Nat → Bool) : Nat → Nat → Dy → List Dy
  | 0, _, E => [E]
  | m + 1, b, E => catN (fun v => if p E b v = true then en p m (b + 1) (upD E b v) else []) 11
/-- p looks only at those ahead -/
def Loc (p : Dy → Nat → Nat → Bool) : Prop := ∀ E F b v, (∀ o, o < b → E o = F o) → p E b v = p F b v
theorem mem_en {p : Dy → Nat → Nat → Bool} (hp : Loc p) {D : Dy} : ∀ {m b : Nat} {E : Dy}, D ∈ en p m b E ↔ (∀ j, j < b ∨ b + m ≤ j → D j = E j) ∧ ∀ j, b ≤ j → j < b + m → D j ≤ 10 ∧ p D j (D j) = true
  | 0, b, E => by
    rw [en, List.mem_singleton]
    constructor
    · rintro rfl
      exact ⟨fun _ _ => rfl, fun j h1 h2 => by omega⟩
    · rintro ⟨h, _⟩
      funext j
      exact h j (by omega)
  | m + 1, b, E => by
    rw [en, mem_catN]
    constructor
    · rintro ⟨v, hv, h⟩
      by_cases c : p E b v = true
      · rw [if_pos c] at h
        obtain ⟨h1, h2⟩ := (mem_en hp).mp h
        have hb : D b = v := by rw [h1 b (by omega)]; exact if_pos rfl
        have ho : ∀ j, j < b → D j = E j := fun j hj => by rw [h1 j (by omega)]; exact if_neg (by omega)
        refine ⟨fun j hj => ?_, fun j h3 h4 => ?_⟩
        · rw [h1 j (by omega)]; exact if_neg (by omega)
        · by_cases q : j = b
          · subst q
            rw [hb]
            exact ⟨by omega, by rw [hp D E j v ho]; exact c⟩
          · exact h2 j (by omega) (by omega)
      · rw [if_neg c] at h; cases h
    · rintro ⟨h1, h2⟩
      obtain ⟨h3, h4⟩ := h2 b (Nat.le_refl _) (by omega)
      have ho : ∀ j, j < b → D j = E j := fun j hj => h1 j (by omega)
      rw [hp D E b (D b) ho] at h4
      refine ⟨D b, by omega, ?_⟩
      rw [if_pos h4]
      refine (mem_en hp).mpr ⟨fun j hj => ?_, fun j h5 h6 => h2 j (by omega) (by omega)⟩
      show D j = if j = b then D b else E j
      by_cases q : j = b
      · rw [if_pos q, q]
      · rw [if_neg q]; exact h1 j (by omega)
theorem en_cong {p q : Dy → Nat → Nat → Bool} (I : Dy → Nat → Prop) (hI : ∀ E b v, I E b → p E b v = true → v < 11 → I (upD E b v) (b + 1)) (hpq : ∀ E b v, I E b → v < 11 → p E b v = q E b v) : ∀ (m b : Nat) (E : Dy), I E b → en p m b E = en q m b E
  | 0, _, _, _ => rfl
  | m + 1, b, E, h => by
    rw [en, en]
    refine catN_cong (fun v hv => ?_)
    rw [← hpq E b v h hv]
    by_cases c : p E b v = true
    · rw [if_pos c, if_pos c, en_cong I hI hpq m (b + 1) (upD E b v) (hI E b v h c hv)]
    · rw [if_neg c, if_neg c]
theorem upD_0 {E : Dy} {b : Nat} (h : E b = 0) : upD E b 0 = E := by
  funext j
  show (if j = b then 0 else E j) = E j
  by_cases q : j = b
  · rw [if_pos q, q, h]
  · rw [if_neg q]
/-- beyond the last bidder a day goes on with nothing -/
theorem en_ext {p : Dy → Nat → Nat → Bool} {nd : Nat} (hz : ∀ E b v, nd ≤ b → p E b v = decide (v = 0)) : ∀ (m r b : Nat) (E : Dy), b + m = nd → (∀ j, b ≤ j → E j = 0) → en p (m + r) b E = en p m b E
  | 0, 0, b, E, _, _ => rfl
  | 0, r + 1, b, E, hb, hE => by
    have ih : ∀ (r b : Nat) (E : Dy), nd ≤ b → (∀ j, b ≤ j → E j = 0) → en p r b E = [E] := by
      intro r
      induction r with
      | zero => intro b E _ _; rfl
      | succ r ih =>
        intro b E hb hE
        rw [en]
        have e : ∀ n, catN (fun v => if p E b v = true then en p r (b + 1) (upD E b v) else []) (n + 1) = [E] := by
          intro n
          induction n with
          | zero =>
            rw [catN, catN, hz E b 0 hb, if_pos (by decide), upD_0 (hE b (Nat.le_refl _)), ih (b + 1) E (by omega) (fun j hj => hE j (by omega))]
            rfl
          | succ n ihn =>
            rw [catN, ihn, hz E b (n + 1) hb, if_neg (by simp)]
            rfl
        exact e 10
    rw [Nat.zero_add]
    exact ih (r + 1) b E (by omega) hE
  | m + 1, r, b, E, hb, hE => by
    rw [show m + 1 + r = (m + r) + 1 by omega, en, en]
    refine catN_cong (fun v hv => ?_)
    by_cases c : p E b v = true
    · rw [if_pos c, if_pos c, en_ext hz m r (b + 1) (upD E b v) (by omega) (fun j hj => by rw [show upD E b v j = E j from if_neg (by omega)]; exact hE j (by omega))]
    · rw [if_neg c, if_neg c]
/-- the first of most weight -/
abbrev Bs : Type := Option (Nat × Dy)
def upB (w : Dy → Nat) (s : Bs) (D : Dy) : Bs := match s with
  | none => some (w D, D)
  | some (M, F) => if M < w D then some (w D, D) else some (M, F)
def bsL (w : Dy → Nat) (s : Bs) (L : List Dy) : Bs := L.foldl (upB w) s
theorem bsL_app (w : Dy → Nat) (s : Bs) (L K : List Dy) : bsL w s (L ++ K) = bsL w (bsL w s L) K := List.foldl_append
theorem bsL_nil (w : Dy → Nat) (s : Bs) : bsL w s [] = s := rfl
theorem bsL_one (w : Dy → Nat) (s : Bs) (D : Dy) : bsL w s [D] = upB w s D := rfl
/-- nothing that is more: nothing changes -/
theorem bsL_le {w : Dy → Nat} {M : Nat} {F : Dy} : ∀ {L : List Dy}, (∀ D, D ∈ L → w D ≤ M) → bsL w (some (M, F)) L = some (M, F)
  | [], _ => rfl
  | D :: L, h => by
    have e : upB w (some (M, F)) D = some (M, F) := if_neg (Nat.not_lt.mpr (h D (List.mem_cons_self ..)))
    show bsL w (upB w (some (M, F)) D) L = _
    rw [e]
    exact bsL_le (fun D hD => h D (List.mem_cons_of_mem _ hD))
theorem bsL_some {w : Dy → Nat} : ∀ {L : List Dy} {M : Nat} {F : Dy}, ∃ M' F', bsL w (some (M, F)) L = some (M', F') ∧ M ≤ M' ∧ (∀ D, D ∈ L → w D ≤ M') ∧ ((M' = M ∧ F' = F) ∨ (F' ∈ L ∧ w F' = M'))
  | [], M, F => ⟨M, F, rfl, Nat.le_refl _, fun D hD => absurd hD (by simp), Or.inl ⟨rfl, rfl⟩⟩
  | D :: L, M, F => by
    show ∃ M' F', bsL w (upB w (some (M, F)) D) L = some (M', F') ∧ _
    by_cases c : M < w D
    · have e : upB w (some (M, F)) D = some (w D, D) := if_pos c
      rw [e]
      obtain ⟨M', F', h1, h2, h3, h4⟩ := bsL_some (w := w) (L := L) (M := w D) (F := D)
      refine ⟨M', F', h1, by omega, fun A hA => ?_, Or.inr ?_⟩
      · rcases List.mem_cons.mp hA with rfl | h
        · exact h2
        · exact h3 A h
      · rcases h4 with ⟨q1, q2⟩ | ⟨q1, q2⟩
        · exact ⟨by rw [q2]; exact List.mem_cons_self .., by rw [q2, q1]⟩
        · exact ⟨List.mem_cons_of_mem _ q1, q2⟩
    · have e : upB w (some (M, F)) D = some (M, F) := if_neg c
      rw [e]
      obtain ⟨M', F', h1, h2, h3, h4⟩ := bsL_some (w := w) (L := L) (M := M) (F := F)
      refine ⟨M', F', h1, h2, fun A hA => ?_, ?_⟩
      · rcases List.mem_cons.mp hA with rfl | h
        · omega
        · exact h3 A h
      · rcases h4 with q | ⟨q1, q2⟩
        · exact Or.inl q
        · exact Or.inr ⟨List.mem_cons_of_mem _ q1, q2⟩
theorem bsL_ne {w : Dy → Nat} : ∀ {L : List Dy}, L ≠ [] → ∃ M F, bsL w none L = some (M, F) ∧ F ∈ L ∧ w F = M ∧ ∀ D, D ∈ L → w D ≤ M
  | [], h => absurd rfl h
  | D :: L, _ => by
    obtain ⟨M', F', h1, h2, h3, h4⟩ := bsL_some (w := w) (L := L) (M := w D) (F := D)
    refine ⟨M', F', h1, ?_, ?_, fun A hA => ?_⟩
    · rcases h4 with ⟨_, q⟩ | ⟨q, _⟩
      · rw [q]; exact List.mem_cons_self ..
      · exact List.mem_cons_of_mem _ q
    · rcases h4 with ⟨q1, q2⟩ | ⟨_, q⟩
      · rw [q2, q1]
      · exact q
    · rcases List.mem_cons.mp hA with rfl | h
      · exact h2
      · exact h3 A h
theorem bsL_cong {w w' : Dy → Nat} : ∀ {L : List Dy} {s : Bs}, (∀ D, D ∈ L → w D = w' D) → bsL w s L = bsL w' s L
  | [], _, _ => rfl
  | D :: L, s, h => by
    show bsL w (upB w s D) L = bsL w' (upB w' s D) L
    have e : upB w s D = upB w' s D := by unfold upB; rw [h D (List.mem_cons_self ..)]
    rw [e]
    exact bsL_cong (fun A hA => h A (List.mem_cons_of_mem _ hA))
/-- the empty day is one of them -/
theorem en_0 {p : Dy → Nat → Nat → Bool} (hp : Loc p) {m : Nat} (h0 : ∀ j, j < m → p (fun _ => 0) j 0 = true) : (fun _ => 0) ∈ en p m 0 (fun _ => 0) :=
  (mem_en hp).mpr ⟨fun _ _ => rfl, fun j _ hj => ⟨Nat.zero_le _, h0 j (by omega)⟩⟩
