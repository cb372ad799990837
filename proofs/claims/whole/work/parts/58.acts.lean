/-! rows copied, acts kept -/
def putR (σ : Mm) (c base n : Nat) (f : Nat → Int32) : Mm := (fun a b => if a = c ∧ base ≤ b ∧ b < base + n then f (b - base) else σ.1 a b, σ.2)
theorem putR_0 (σ : Mm) (c base : Nat) (f : Nat → Int32) : putR σ c base 0 f = σ := by
  refine Prod.ext ?_ rfl
  funext a b
  show (if a = c ∧ base ≤ b ∧ b < base + 0 then f (b - base) else σ.1 a b) = σ.1 a b
  rw [if_neg (by omega)]
theorem putR_s {σ : Mm} {c base i : Nat} {f : Nat → Int32} {v : Int32} (hv : v = f i) : sI (putR σ c base i f) c (base + i) v = putR σ c base (i + 1) f := by
  refine Prod.ext ?_ rfl
  funext a b
  show (if a = c ∧ b = base + i then v else if a = c ∧ base ≤ b ∧ b < base + i then f (b - base) else σ.1 a b) = if a = c ∧ base ≤ b ∧ b < base + (i + 1) then f (b - base) else σ.1 a b
  by_cases h1 : a = c ∧ b = base + i
  · rw [if_pos h1, if_pos ⟨h1.1, by omega, by omega⟩, hv, h1.2]
    congr 1
    omega
  · rw [if_neg h1]
    by_cases h2 : a = c ∧ base ≤ b ∧ b < base + i
    · rw [if_pos h2, if_pos ⟨h2.1, h2.2.1, by omega⟩]
    · rw [if_neg h2, if_neg]
      intro h3
      rcases Nat.lt_or_ge b (base + i) with q | q
      · exact h2 ⟨h3.1, h3.2.1, q⟩
      · exact h1 ⟨h3.1, by omega⟩
theorem putR_ne {σ : Mm} {c base n a : Nat} {f : Nat → Int32} (h : a ≠ c) : (putR σ c base n f).1 a = σ.1 a := by
  funext b
  show (if a = c ∧ base ≤ b ∧ b < base + n then f (b - base) else σ.1 a b) = σ.1 a b
  rw [if_neg (fun q => h q.1)]
theorem putR_out {σ : Mm} {c base n a b : Nat} {f : Nat → Int32} (h : ¬ (a = c ∧ base ≤ b ∧ b < base + n)) : (putR σ c base n f).1 a b = σ.1 a b := if_neg h
theorem putR_at {σ : Mm} {c base n j : Nat} {f : Nat → Int32} (h : j < n) : (putR σ c base n f).1 c (base + j) = f j := by
  show (if c = c ∧ base ≤ base + j ∧ base + j < base + n then f (base + j - base) else _) = f j
  rw [if_pos ⟨rfl, by omega, by omega⟩]
  congr 1
  omega
theorem putR_2 (σ : Mm) (c base n : Nat) (f : Nat → Int32) : (putR σ c base n f).2 = σ.2 := rfl
theorem Hi.putR {σ τ : Mm} {c base n : Nat} {f : Nat → Int32} (h : Hi σ τ) (hc : c < 46) : Hi σ (putR τ c base n f) := fun k hk => ⟨(putR_ne (by omega)).trans (h k hk).1, (h k hk).2⟩
theorem Lo.putR {σ τ : Mm} {c base n : Nat} {f : Nat → Int32} (h : Lo σ τ) (hc : 46 ≤ c) : Lo σ (putR τ c base n f) := fun k hk => ⟨(putR_ne (by omega)).trans (h k hk).1, (h k hk).2⟩
theorem copy_eq {σ : Mm} {a b : Nat} (ha : cRef a 1 ≠ cRef b 1) : f_X1_copy a b σ = some (putR σ (cRef a 1) 0 5 (σ.1 (cRef b 1))) := by
  unfold f_X1_copy
  have e := (itL (fun n i τ => f_X1_copy_p2 a b n i τ) some (fun i τ => sI τ (cRef a 1) i (σ.1 (cRef b 1) i)) 5 (fun i τ => τ = putR σ (cRef a 1) 0 i (σ.1 (cRef b 1))) (putR_0 _ _ _ _).symm ?_ ?_ FU (by decide))
  · rw [e.2] at e
    exact e.1
  · intro n i τ hi hp
    refine ⟨?_, ?_⟩
    · simp (disch := omega) only [f_X1_copy_p2, lI 5, lI 1, le_nI, Nat.not_le.mpr hi, if_false, nI_add, gd_t (inB_t hi (by decide)), cl_nI, bnd_eq]
      rw [hp, putR_ne (fun q => ha q.symm)]
    · rw [hp]
      have := putR_s (σ := σ) (c := cRef a 1) (base := 0) (i := i) (f := σ.1 (cRef b 1)) rfl
      rw [Nat.zero_add] at this
      exact this
  · intro n τ _
    simp (disch := omega) only [f_X1_copy_p2, lI 5, le_nI, Nat.le_refl, if_true]
theorem clear_eq (σ : Mm) (a : Nat) : f_X1_clear a σ = some (putR σ (cRef a 1) 0 5 (fun _ => 0)) := by
  unfold f_X1_clear
  have e := (itL (fun n i τ => f_X1_clear_p2 a n i τ) some (fun i τ => sI τ (cRef a 1) i 0) 5 (fun i τ => τ = putR σ (cRef a 1) 0 i (fun _ => 0)) (putR_0 _ _ _ _).symm ?_ ?_ FU (by decide))
  · rw [e.2] at e
    exact e.1
  · intro n i τ hi hp
    refine ⟨?_, ?_⟩
    · simp (disch := omega) only [f_X1_clear_p2, lI 5, lI 1, le_nI, Nat.not_le.mpr hi, if_false, nI_add, gd_t (inB_t hi (by decide)), cl_nI, bnd_eq]
    · rw [hp]
      have := putR_s (σ := σ) (c := cRef a 1) (base := 0) (i := i) (f := fun _ => 0) rfl
      rw [Nat.zero_add] at this
      exact this
  · intro n τ _
    simp (disch := omega) only [f_X1_clear_p2, lI 5, le_nI, Nat.le_refl, if_true]
theorem tell_eq (σ : Mm) (a k : Nat) (v : Int32) (hk : k < 5) : f_X1_tell a (nI k) v σ = some (sI σ (cRef a 1) k v) := by
  simp (disch := omega) only [f_X1_tell, ng_nI, lI 5, le_nI, Nat.not_le.mpr hk, if_false, gd_t (inB_t hk (by decide)), cl_nI]
def pushA (A : Ac_) (k v : Nat) : Ac_ := (if A.1 < 16 then A.1 + 1 else 16, fun i => if i = 0 then (k, v) else A.2 (i - 1))
theorem unD_push (A : Ac_) (D : Dy) (k v : Nat) : ∀ i, unD (pushA A k (D k)).2 (i + 1) (upD D k v) = unD A.2 i D
  | 0 => by
    funext j
    show (if j = k then D k else if j = k then v else D j) = D j
    by_cases h : j = k
    · rw [if_pos h, h]
    · rw [if_neg h, if_neg h]
  | i + 1 => by
    show upD (unD (pushA A k (D k)).2 (i + 1) (upD D k v)) (A.2 i).1 (A.2 i).2 = upD (unD A.2 i D) (A.2 i).1 (A.2 i).2
    rw [unD_push A D k v i]
theorem forget_eq (σ : Mm) : f_X0_forgetFirst σ = some (sI (putR (putR σ 27 0 15 (fun j => σ.1 27 (j + 1))) 28 0 15 (fun j => σ.1 28 (j + 1))) 26 2 15) := by
  unfold f_X0_forgetFirst
  have e := (itL (fun n i τ => f_X0_forgetFirst_p2 n (i + 1) τ) (fun τ => some (sI τ 26 2 15)) (fun i τ => sI (sI τ 27 i (σ.1 27 (i + 1))) 28 i (σ.1 28 (i + 1))) 15 (fun i τ => τ = putR (putR σ 27 0 i (fun j => σ.1 27 (j + 1))) 28 0 i (fun j => σ.1 28 (j + 1))) (by rw [putR_0, putR_0]) ?_ ?_ FU (by decide))
  · rw [e.2] at e
    exact e.1
  · intro n i τ hi hp
    have r27 : τ.1 27 (i + 1) = σ.1 27 (i + 1) := by rw [hp, putR_ne (by decide), putR_out (by omega)]
    have r28 : τ.1 28 (i + 1) = σ.1 28 (i + 1) := by rw [hp, putR_out (by omega), putR_ne (by decide)]
    refine ⟨?_, ?_⟩
    · simp (disch := omega) only [f_X0_forgetFirst_p2, lI 16, lI 1, nI_add, le_nI, show ¬ 16 ≤ i + 1 by omega, if_false, gd_t (inB_t (show i + 1 < 16 by omega) (by decide)), pk_sub, Nat.add_sub_cancel, gd_t (inB_t (show i < 16 by omega) (by decide)), cl_nI, bnd_eq, r27]
      rw [(sI_ne (show (28 : Nat) ≠ 27 by decide)).1, r28]
    · rw [hp]
      have e1 := putR_s (σ := σ) (c := 27) (base := 0) (i := i) (f := fun j => σ.1 27 (j + 1)) rfl
      have e2 := putR_s (σ := putR σ 27 0 (i + 1) (fun j => σ.1 27 (j + 1))) (c := 28) (base := 0) (i := i) (f := fun j => σ.1 28 (j + 1)) rfl
      rw [Nat.zero_add] at e1 e2
      rw [← e2, ← e1]
      refine congrArg (fun z => sI z 28 i (σ.1 28 (i + 1))) ?_
      refine Prod.ext ?_ rfl
      funext a b
      show (if a = 27 ∧ b = i then σ.1 27 (i + 1) else if a = 28 ∧ 0 ≤ b ∧ b < 0 + i then σ.1 28 (b - 0 + 1) else (putR σ 27 0 i (fun j => σ.1 27 (j + 1))).1 a b) = if a = 28 ∧ 0 ≤ b ∧ b < 0 + i then σ.1 28 (b - 0 + 1) else if a = 27 ∧ b = i then σ.1 27 (i + 1) else (putR σ 27 0 i (fun j => σ.1 27 (j + 1))).1 a b
      by_cases c1 : a = 27
      · rw [if_neg (show ¬ (a = 28 ∧ 0 ≤ b ∧ b < 0 + i) by omega), if_neg (show ¬ (a = 28 ∧ 0 ≤ b ∧ b < 0 + i) by omega)]
      · rw [if_neg (show ¬ (a = 27 ∧ b = i) by omega), if_neg (show ¬ (a = 27 ∧ b = i) by omega)]
  · intro n τ _
    simp (disch := omega) only [f_X0_forgetFirst_p2, lI 16, lI 1, nI_add, le_nI, show 16 ≤ 15 + 1 by decide, if_true]
/-- what an act leaves of the class's row -/
theorem xAppend {σ : Mm} {A : Ac_} (h : XA σ A) (ha : A.1 ≤ 16) (k v : Nat) : ∃ τ, f_X0_append (nI k) (nI v) σ = some τ ∧ XA τ (pushA A k v) ∧ (∀ c, ¬ (26 ≤ c ∧ c ≤ 28) → τ.1 c = σ.1 c) ∧ τ.2 = σ.2 := by
  have p13 : ∀ (ρ : Mm) (a : Nat), a < 16 → ρ.1 26 2 = nI a → f_X0_append_p13 (nI k) (nI v) ρ = some (sI (sI (sI ρ 27 a (nI k)) 28 a (nI v)) 26 2 (nI (a + 1))) := by
    intro ρ a hlt hρ
    unfold f_X0_append_p13
    have e1 : (sI ρ 27 a (nI k)).1 26 2 = nI a := by rw [sI_n (by omega)]; exact hρ
    have e2 : (sI (sI ρ 27 a (nI k)) 28 a (nI v)).1 26 2 = nI a := by rw [sI_n (by omega)]; exact e1
    rw [hρ, if_neg (nI_pos (by omega)), lI 16, if_neg (nI_ge hlt (by decide)), gd_t (inB_t hlt (by decide)), cl_nI (by omega), e1, gd_t (inB_t hlt (by decide)), bnd_eq, cl_nI (by omega), e2, lI 1, nI_add]
  unfold f_X0_append
  rw [h.1]
  by_cases hlt : A.1 < 16
  · refine ⟨sI (sI (sI σ 27 A.1 (nI k)) 28 A.1 (nI v)) 26 2 (nI (A.1 + 1)), by rw [lI 16, if_pos (nI_lt hlt (by decide)), p13 σ A.1 hlt h.1], ?_, ?_, rfl⟩
    · have ep : (pushA A k v).1 = A.1 + 1 := if_pos hlt
      refine ⟨by rw [sI_s, ep], fun i hi => ?_⟩
      rw [ep] at hi ⊢
      by_cases h0 : i = 0
      · subst h0
        show _ = nI (if 0 = 0 then (k, v) else A.2 (0 - 1)).1 ∧ _ = nI (if 0 = 0 then (k, v) else A.2 (0 - 1)).2
        rw [if_pos rfl]
        exact ⟨by rw [sI_n (by omega), sI_n (by omega), show A.1 + 1 - 1 - 0 = A.1 by omega, sI_s], by rw [sI_n (by omega), show A.1 + 1 - 1 - 0 = A.1 by omega, sI_s]⟩
      · show _ = nI (if i = 0 then (k, v) else A.2 (i - 1)).1 ∧ _ = nI (if i = 0 then (k, v) else A.2 (i - 1)).2
        rw [if_neg h0, show A.1 + 1 - 1 - i = A.1 - 1 - (i - 1) by omega, sI_n (by omega), sI_n (by omega), sI_n (by omega), sI_n (by omega), sI_n (by omega), sI_n (by omega)]
        exact h.2 (i - 1) (by omega)
    · intro c hc
      rw [(sI_ne (by omega)).1, (sI_ne (by omega)).1, (sI_ne (by omega)).1]
  · have h16 : A.1 = 16 := by omega
    generalize hρ : sI (putR (putR σ 27 0 15 (fun j => σ.1 27 (j + 1))) 28 0 15 (fun j => σ.1 28 (j + 1))) 26 2 15 = ρ
    have r0 : ρ.1 26 2 = nI 15 := by rw [← hρ, sI_s]; rfl
    have r27 : ∀ j, j < 15 → ρ.1 27 j = σ.1 27 (j + 1) := fun j hj => by
      rw [← hρ, sI_n (by omega), putR_ne (by decide)]
      have := putR_at (σ := σ) (c := 27) (base := 0) (f := fun j => σ.1 27 (j + 1)) hj
      rw [Nat.zero_add] at this
      exact this
    have r28 : ∀ j, j < 15 → ρ.1 28 j = σ.1 28 (j + 1) := fun j hj => by
      rw [← hρ, sI_n (by omega)]
      have := putR_at (σ := putR σ 27 0 15 (fun j => σ.1 27 (j + 1))) (c := 28) (base := 0) (f := fun j => σ.1 28 (j + 1)) hj
      rw [Nat.zero_add] at this
      exact this
    refine ⟨sI (sI (sI ρ 27 15 (nI k)) 28 15 (nI v)) 26 2 (nI (15 + 1)), by rw [lI 16, if_neg (nI_nlt (by omega) (by omega)), forget_eq, b1_some, hρ, p13 ρ 15 (by decide) r0], ?_, ?_, by rw [← hρ]; rfl⟩
    · have ep : (pushA A k v).1 = 16 := if_neg hlt
      refine ⟨by rw [sI_s, ep], fun i hi => ?_⟩
      rw [ep] at hi ⊢
      by_cases h0 : i = 0
      · subst h0
        show _ = nI (if 0 = 0 then (k, v) else A.2 (0 - 1)).1 ∧ _ = nI (if 0 = 0 then (k, v) else A.2 (0 - 1)).2
        rw [if_pos rfl]
        exact ⟨by rw [sI_n (by omega), sI_n (by omega), sI_s], by rw [sI_n (by omega), sI_s]⟩
      · show _ = nI (if i = 0 then (k, v) else A.2 (i - 1)).1 ∧ _ = nI (if i = 0 then (k, v) else A.2 (i - 1)).2
        have h2 := h.2 (i - 1) (by omega)
        rw [if_neg h0, sI_n (by omega), sI_n (by omega), sI_n (by omega), sI_n (by omega), sI_n (by omega), sI_n (by omega), r27 _ (by omega), r28 _ (by omega), show 16 - 1 - i + 1 = A.1 - 1 - (i - 1) by omega]
        exact h2
    · intro c hc
      rw [(sI_ne (by omega)).1, (sI_ne (by omega)).1, (sI_ne (by omega)).1, ← hρ, (sI_ne (by omega)).1, putR_ne (by omega), putR_ne (by omega)]
/-- an act of the class -/
theorem xAct {σ : Mm} {A : Ac_} {D : Dy} (h : XA σ A) (ha : A.1 ≤ 16) (hd : XD σ 17 D) {k : Nat} (hk : k < 5) (v : Nat) : ∃ τ, f_X9_act (nI k) (nI v) σ = some τ ∧ XA τ (pushA A k (D k)) ∧ XD τ 17 (upD D k v) ∧ (∀ c, c ≠ 17 → ¬ (26 ≤ c ∧ c ≤ 28) → τ.1 c = σ.1 c) ∧ τ.2 = σ.2 := by
  unfold f_X9_act
  rw [xTold (K := 16) hd hk, b1_some]
  obtain ⟨τ, e1, e2, e3, e4⟩ := xAppend h ha k (D k)
  rw [e1, b1_some, tell_eq τ 16 k _ hk, b1_some]
  refine ⟨_, rfl, e2.of (sI_ne (by decide)).1 (sI_ne (by decide)).1 (sI_ne (by decide)).1, fun j hj => ?_, fun c h1 h2 => ?_, e4⟩
  · show (sI τ 17 k (nI v)).1 17 j = nI (if j = k then v else D j)
    by_cases c : j = k
    · rw [if_pos c, c, sI_s]
    · rw [if_neg c, sI_n (by omega), e3 17 (by omega)]
      exact hd j hj
  · show (sI τ 17 k (nI v)).1 c = σ.1 c
    rw [(sI_ne h1).1, e3 c h2]
theorem jrem_nI {a d : Nat} (ha : a < 2 ^ 31) (h0 : 0 < d) (hd : d < 2 ^ 31) : jrem (nI a) (nI d) = nI (a % d) := pk_rem ha h0 hd
/-- an act of the reference: its row first -/
theorem mKeep {σ : Mm} {A : Ac_} {D : Dy} (h : MA σ A D) (ha : A.1 ≤ 16) (hd : MD σ D) {k : Nat} (v : Nat) : ∃ τ, f_X10_keepAct σ = some τ ∧ (∀ ρ : Mm, ρ.1 46 14 = τ.1 46 14 → ρ.1 46 15 = τ.1 46 15 → ρ.1 54 = τ.1 54 → MA ρ (pushA A k (D k)) (upD D k v)) ∧ (∀ c, c ≠ 46 → c ≠ 54 → τ.1 c = σ.1 c) ∧ (∀ j, j ≠ 14 → j ≠ 15 → τ.1 46 j = σ.1 46 j) ∧ τ.2 = σ.2 := by
  obtain ⟨h1, x, hx, h2, h3⟩ := h
  have e0 : f_X10_keepAct σ = f_X10_keepAct_p32 (putR σ 54 (5 * x) 5 (σ.1 52)) := by
    unfold f_X10_keepAct
    have e := (itL (fun n i τ => f_X10_keepAct_p2 f_X10_keepAct_p32 n i τ) f_X10_keepAct_p32 (fun i τ => sI τ 54 (5 * x + i) (σ.1 52 i)) 5 (fun i τ => τ = putR σ 54 (5 * x) i (σ.1 52)) (putR_0 _ _ _ _).symm ?_ ?_ FU (by decide))
    · rw [e.2] at e
      exact e.1
    · intro n i τ hi hp
      have r1 : τ.1 46 15 = nI x := by rw [hp, putR_ne (by decide)]; exact h2
      have r2 : τ.1 52 i = σ.1 52 i := by rw [hp, putR_ne (by decide)]
      refine ⟨?_, ?_⟩
      · simp (disch := omega) only [f_X10_keepAct_p2, lI 5, lI 1, le_nI, Nat.not_le.mpr hi, if_false, nI_add, r1, mul_nI, gd_t (inB_t hi (by decide)), gd_t (inB_t (show 5 * x + i < 80 by omega) (by decide)), cl_nI, bnd_eq, r2]
      · rw [hp]
        exact putR_s rfl
    · intro n τ _
      simp (disch := omega) only [f_X10_keepAct_p2, lI 5, le_nI, Nat.le_refl, if_true]
  generalize hτ : putR σ 54 (5 * x) 5 (σ.1 52) = τ at e0
  have t1 : τ.1 46 15 = nI x := by rw [← hτ, putR_ne (by decide)]; exact h2
  have t2 : τ.1 46 14 = nI A.1 := by rw [← hτ, putR_ne (by decide)]; exact h1
  have e1 : f_X10_keepAct_p32 τ = some (sI (sI τ 46 15 (nI ((x + 1) % 16))) 46 14 (nI (pushA A k (D k)).1)) := by
    unfold f_X10_keepAct_p32
    have q : (sI τ 46 15 (nI ((x + 1) % 16))).1 46 14 = nI A.1 := by rw [sI_n (by omega)]; exact t2
    rw [t1, lI 1, lI 16, nI_add, jrem_nI (by omega) (by decide) (by decide), q]
    by_cases c : A.1 < 16
    · rw [if_neg (nI_ge c (by decide)), bnd_eq, nI_add, show (pushA A k (D k)).1 = A.1 + 1 from if_pos c]
    · rw [if_pos (nI_le (by omega) (by omega)), bnd_eq, show (pushA A k (D k)).1 = 16 from if_neg c]
  refine ⟨_, by rw [e0, e1], ?_, ?_, ?_, by rw [← hτ]; rfl⟩
  · intro ρ g1 g2 g3
    refine ⟨by rw [g1, sI_s], (x + 1) % 16, by omega, by rw [g2, sI_n (by omega), sI_s], fun i hi j hj => ?_⟩
    rw [unD_push, g3, (sI_ne (by decide)).1, (sI_ne (by decide)).1, ← hτ]
    have hi16 : i < 16 := by
      have : (pushA A k (D k)).1 ≤ 16 := by show (if A.1 < 16 then A.1 + 1 else 16) ≤ 16; split <;> omega
      omega
    by_cases c : i = 0
    · subst c
      rw [show ((x + 1) % 16 + 15 - 0) % 16 = x by omega, putR_at hj]
      exact hd j hj
    · have hiA : i - 1 < A.1 := by
        have : (pushA A k (D k)).1 = if A.1 < 16 then A.1 + 1 else 16 := rfl
        rw [this] at hi
        split at hi <;> omega
      have e3 := h3 (i - 1) hiA j hj
      rw [show i - 1 + 1 = i by omega] at e3
      rw [show ((x + 1) % 16 + 15 - i) % 16 = (x + 15 - (i - 1)) % 16 by omega, putR_out (by omega)]
      exact e3
  · intro c h1 h2
    rw [(sI_ne h1).1, (sI_ne h1).1, ← hτ, putR_ne h2]
  · intro j h1 h2
    rw [sI_n (by omega), sI_n (by omega), ← hτ, putR_ne (by decide)]
theorem orN_eq0 {f : Nat → Nat} : ∀ {n : Nat}, orN f n = 0 → ∀ i, i < n → f i = 0
  | 0, _, i, hi => absurd hi (Nat.not_lt_zero i)
  | n + 1, h, i, hi => by
    have h1 : orN f n = 0 := by
      rw [orN] at h
      exact Nat.eq_zero_of_le_zero (h ▸ Nat.left_le_or)
    have h2 : f n = 0 := by
      rw [orN] at h
      exact Nat.eq_zero_of_le_zero (h ▸ Nat.right_le_or)
    rcases Nat.lt_or_ge i n with q | q
    · exact orN_eq0 h1 i q
    · rw [show i = n by omega]; exact h2
theorem can_iff {T : Tw} {D : Dy} {k s : Nat} : can T D k s = true ↔ may T k s = true ∧ ∀ o, o < 5 → o ≠ k → D o ≠ 0 → cla T k s o (D o - 1) = false := by
  unfold can
  rw [Bool.and_eq_true, decide_eq_true_eq]
  refine and_congr_right (fun _ => ⟨fun h o ho h1 h2 => ?_, fun h => orN_0 (fun i hi => ?_)⟩)
  · have h3 := orN_eq0 h o ho
    by_cases c : cla T k s o (D o - 1) = true
    · rw [if_pos ⟨h1, h2, c⟩] at h3
      exact absurd h3 (Nat.ne_of_gt (Nat.two_pow_pos o))
    · simpa using c
  · rw [if_neg]
    intro q
    rw [h i hi q.1 q.2.1] at q
    exact absurd q.2.2 (by decide)
theorem VD_up {T : Tw} (hw : WT T) {D : Dy} (h : VD T D) {k s : Nat} (hk : k < tNd T) (hs : s < 10) (hc : can T D k s = true) : VD T (upD D k (s + 1)) := by
  obtain ⟨c1, c2⟩ := can_iff.mp hc
  have h5 := hw.2.1
  refine ⟨fun j hj => ?_, fun j o hj ho hjo => ?_⟩
  · by_cases q : j = k
    · subst q
      refine ⟨hk, ?_, ?_⟩
      · show (if j = j then s + 1 else D j) ≤ 10; rw [if_pos rfl]; omega
      · show may T j ((if j = j then s + 1 else D j) - 1) = true; rw [if_pos rfl]; exact c1
    · have e : upD D k (s + 1) j = D j := if_neg q
      rw [e] at hj ⊢
      exact h.1 j hj
  · by_cases q1 : j = k
    · have q2 : o ≠ k := fun e => hjo (q1.trans e.symm)
      have e1 : upD D k (s + 1) j = s + 1 := if_pos q1
      have e2 : upD D k (s + 1) o = D o := if_neg q2
      rw [e2] at ho
      rw [e1, e2, q1]
      exact c2 o (by have := (h.1 o ho).1; omega) q2 ho
    · have e1 : upD D k (s + 1) j = D j := if_neg q1
      rw [e1] at hj
      by_cases q2 : o = k
      · have e2 : upD D k (s + 1) o = s + 1 := if_pos q2
        rw [e1, e2, cla_sym, q2]
        exact c2 j (by have := (h.1 j hj).1; omega) q1 hj
      · have e2 : upD D k (s + 1) o = D o := if_neg q2
        rw [e2] at ho
        rw [e1, e2]
        exact h.2 j o hj ho hjo
theorem VD_no {T : Tw} {D : Dy} (h : VD T D) (k : Nat) : VD T (upD D k 0) := by
  have e : ∀ j, upD D k 0 j ≠ 0 → j ≠ k ∧ upD D k 0 j = D j := fun j hj => by
    by_cases q : j = k
    · exact absurd (show upD D k 0 j = 0 from if_pos q) hj
    · exact ⟨q, if_neg q⟩
  refine ⟨fun j hj => ?_, fun j o hj ho hjo => ?_⟩
  · have e1 := (e j hj).2
    rw [e1] at hj ⊢
    exact h.1 j hj
  · have e1 := (e j hj).2
    have e2 := (e o ho).2
    rw [e1] at hj ⊢
    rw [e2] at ho ⊢
    exact h.2 j o hj ho hjo
