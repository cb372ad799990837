/-! the class pairs strokes off -/
def dst (a b : Nat) : Nat := if a ≤ b then b - a else a - b
def rc (L : List Sk) (i j : Nat) : Bool := decide ((sA L i).1 + (sA L i).2.1 + dst (sA L i).2.2 (sA L j).2.2 ≤ (sA L j).1)
theorem abs_c : ∀ a, a < 3 → ∀ b, b < 3 → jabs (nI a - nI b) = nI (dst a b) := by decide +kernel
theorem dst_le {a b : Nat} (ha : a < 3) (hb : b < 3) : dst a b ≤ 2 := by
  unfold dst
  split <;> omega
theorem xTime {σ : Mm} {L : List Sk} (h : XS σ L) (hB : BS L) (hn : L.length ≤ 15) {i j : Nat} (hi : i < L.length) (hj : j < L.length) : f_X5_isInTime σ (nI i) (nI j) = some (if rc L i j = true then 1 else 0) := by
  obtain ⟨i1, i2, i3⟩ := h.2 i hi
  obtain ⟨j1, j2, j3⟩ := h.2 j hj
  have bi := hB i hi
  have bj := hB j hj
  have hd := dst_le bi.2.2 bj.2.2
  unfold f_X5_isInTime
  rw [at_eq σ 42 i 15 rfl (by omega) (by decide), b1_some, at_eq σ 43 i 15 rfl (by omega) (by decide), b1_some, at_eq σ 43 j 15 rfl (by omega) (by decide), b1_some, at_eq σ 41 j 15 rfl (by omega) (by decide), b1_some, i2, i3, j3, j1, abs_c _ bi.2.2 _ bj.2.2, nI_add]
  by_cases c : (sA L i).1 + (sA L i).2.1 + dst (sA L i).2.2 (sA L j).2.2 ≤ (sA L j).1
  · rw [if_neg (nI_nlt c (by omega)), if_pos (show rc L i j = true from decide_eq_true c)]
  · rw [if_pos (nI_lt (by omega) (by omega)), if_neg (show ¬ rc L i j = true from fun z => c (of_decide_eq_true z))]
def FG (σ τ : Mm) : Prop := (∀ c, c ≠ 40 → c ≠ 44 → τ.1 c = σ.1 c) ∧ (∀ j, j ≠ 6 → τ.1 40 j = σ.1 40 j) ∧ τ.2 = σ.2
theorem FG.rf (σ : Mm) : FG σ σ := ⟨fun _ _ _ => rfl, fun _ _ => rfl, rfl⟩
theorem FG.tr {σ τ ρ : Mm} (h : FG σ τ) (g : FG τ ρ) : FG σ ρ := ⟨fun c h1 h2 => (g.1 c h1 h2).trans (h.1 c h1 h2), fun j hj => (g.2.1 j hj).trans (h.2.1 j hj), g.2.2.trans h.2.2⟩
theorem FG.s {σ : Mm} {v : Int32} : FG σ (sI σ 40 6 v) := ⟨fun c h1 _ => (sI_ne h1).1, fun j hj => sI_n (by omega), rfl⟩
theorem FG.c {σ : Mm} {j : Nat} {v : Int32} : FG σ (sI σ 44 j v) := ⟨fun c _ h2 => (sI_ne h2).1, fun i _ => sI_n (by omega), rfl⟩
theorem FG.fs {σ τ : Mm} (h : FG σ τ) : FS σ τ := ⟨fun c hc => h.1 c (by omega) (by omega), h.2.2⟩
theorem XS.of {σ τ : Mm} {L : List Sk} (h : XS σ L) (g : FG σ τ) : XS τ L := ⟨by rw [g.2.1 5 (by decide)]; exact h.1, by rw [g.1 41 (by decide) (by decide), g.1 42 (by decide) (by decide), g.1 43 (by decide) (by decide)]; exact h.2⟩
theorem or_tb {V j q : Nat} : (V ||| 2 ^ j).testBit q = true ↔ V.testBit q = true ∨ q = j := by
  rw [Nat.testBit_or, Bool.or_eq_true, pow_tb, decide_eq_true_eq]
  exact ⟨fun h => h.imp id Eq.symm, fun h => h.imp id Eq.symm⟩
theorem eD_s (i : Nat) : eD (i + 1) = nI i := if_neg (by omega)
theorem xGo {L : List Sk} (hn : L.length ≤ 15) (hB : BS L) : ∀ (m d i V : Nat) (M : Nat → Nat) (σ : Mm) (fuel : Nat), d + m = 16 → m ≤ fuel → i < L.length → V < 2 ^ 15 → d ≤ cB V L.length → XS σ L → σ.1 40 6 = nI V → (∀ j, j < L.length → σ.1 44 j = eD (M j)) → Pre (rc L) L.length V.testBit M i → ∃ (b : Bool) (V' : Nat) (M' : Nat → Nat) (τ : Mm), f_X5_goesOn fuel (nI i) (nI d) σ = some ((if b = true then 1 else 0), τ) ∧ FG σ τ ∧ τ.1 40 6 = nI V' ∧ V' < 2 ^ 15 ∧ (∀ j, j < L.length → τ.1 44 j = eD (M' j)) ∧ (∀ j, V.testBit j = true → V'.testBit j = true) ∧ (b = true → Aug (rc L) L.length V.testBit M i M') ∧ (b = false → M' = M ∧ (∀ j, j < L.length → rc L i j = true → V'.testBit j = true) ∧ Cl (rc L) L.length M V.testBit V'.testBit) := by
  intro m
  induction m with
  | zero =>
    intro d i V M σ fuel hdm _ _ _ hd
    have := cB_le V L.length
    omega
  | succ m ih =>
    intro d i V M σ fuel hdm hf hi hV hd hx h6 h44 hp
    obtain ⟨fuel, rfl⟩ : ∃ f, fuel = f + 1 := ⟨fuel - 1, by omega⟩
    have hcb := cB_le V L.length
    rw [f_X5_goesOn]
    unfold f_X5_goesOn_e
    rw [if_neg (nI_pos (by omega)), lI 15, if_neg (nI_ge (by omega) (by decide)), if_pos (nI_le (by omega) (by decide))]
    have loop : ∀ (r p n W : Nat) (ζ : Mm), p + r = L.length → r < n → W < 2 ^ 15 → XS ζ L → ζ.1 40 6 = nI W → (∀ j, j < L.length → ζ.1 44 j = eD (M j)) → (∀ j, V.testBit j = true → W.testBit j = true) → (∀ j, j < p → rc L i j = true → W.testBit j = true) → Cl (rc L) L.length M V.testBit W.testBit → ∃ (b : Bool) (V' : Nat) (M' : Nat → Nat) (τ : Mm), f_X5_goesOn_p20 (f_X5_goesOn fuel) n (nI i) (nI d) (nI p) ζ = some ((if b = true then 1 else 0), τ) ∧ FG ζ τ ∧ τ.1 40 6 = nI V' ∧ V' < 2 ^ 15 ∧ (∀ j, j < L.length → τ.1 44 j = eD (M' j)) ∧ (∀ j, V.testBit j = true → V'.testBit j = true) ∧ (b = true → Aug (rc L) L.length V.testBit M i M') ∧ (b = false → M' = M ∧ (∀ j, j < L.length → rc L i j = true → V'.testBit j = true) ∧ Cl (rc L) L.length M V.testBit V'.testBit) := by
      intro r
      induction r with
      | zero =>
        intro p n W ζ hpr hn' hW hxz hz6 hz44 hs hlt hcl
        obtain ⟨n, rfl⟩ : ∃ f, n = f + 1 := ⟨n - 1, by omega⟩
        refine ⟨false, W, M, ζ, ?_, FG.rf ζ, hz6, hW, hz44, hs, fun z => absurd z (by decide), fun _ => ⟨rfl, fun j hj => hlt j (by omega), hcl⟩⟩
        rw [f_X5_goesOn_p20, hxz.1]
        by_cases c : 15 ≤ p
        · rw [lI 15, if_pos (nI_le c (by omega))]; rfl
        · rw [lI 15, if_neg (nI_ge (by omega) (by decide)), if_pos (nI_le (by omega) (by omega))]; rfl
      | succ r ihr =>
        intro p n W ζ hpr hn' hW hxz hz6 hz44 hs hlt hcl
        obtain ⟨n, rfl⟩ : ∃ f, n = f + 1 := ⟨n - 1, by omega⟩
        have hpn : p < L.length := by omega
        have g15 : inB (nI p) 15 = true := inB_t (by omega) (by decide)
        have head : f_X5_goesOn_p20 (f_X5_goesOn fuel) (n + 1) (nI i) (nI d) (nI p) ζ = if W.testBit p = false ∧ rc L i p = true then (if M p = 0 then some (1, sI (sI ζ 40 6 (nI (W ||| 2 ^ p))) 44 p (nI i)) else b2 (f_X5_goesOn fuel (eD (M p)) (nI (d + 1)) (sI ζ 40 6 (nI (W ||| 2 ^ p)))) (fun r9 τ => if r9 = 0 then f_X5_goesOn_p20 (f_X5_goesOn fuel) n (nI i) (nI d) (nI (p + 1)) τ else some (1, sI τ 44 p (nI i)))) else f_X5_goesOn_p20 (f_X5_goesOn fuel) n (nI i) (nI d) (nI (p + 1)) ζ := by
          rw [f_X5_goesOn_p20, lI 15, if_neg (nI_ge (by omega) (by decide)), hxz.1, if_neg (nI_ge hpn (by omega)), hz6, lI 1, nI_add]
          by_cases c1 : W.testBit p = true
          · rw [if_neg (show ¬ (jushr (nI W) (nI p) &&& nI 1) = 0 by rw [← lI 1, bit_u (by omega) (by omega), if_pos c1]; decide), if_neg (fun z => by rw [c1] at z; cases z.1)]
          · have c1' : W.testBit p = false := Bool.eq_false_iff.mpr c1
            rw [if_pos (show (jushr (nI W) (nI p) &&& nI 1) = 0 by rw [← lI 1, bit_u (by omega) (by omega), if_neg c1]; decide), xTime hxz hB hn hi hpn, b1_some]
            by_cases c2 : rc L i p = true
            · have hle : M p ≤ L.length := by
                by_cases z : M p = 0
                · omega
                · exact (hp.1 p z).2.1
              rw [if_pos c2, if_neg n10, if_pos (show W.testBit p = false ∧ rc L i p = true from ⟨c1', c2⟩), gd_t g15, shl_nI 1 (by omega), Nat.one_mul, or_nI, cl_nI (by omega), sI_n (show ¬ (44 = 40 ∧ p = 6) by omega), hz44 p hpn]
              by_cases c3 : M p = 0
              · rw [if_pos c3, if_pos (show eD (M p) = -9 by rw [c3]; rfl), gd_t g15, bnd_eq]
              · rw [if_neg c3, if_neg (show ¬ eD (M p) = -9 by unfold eD; rw [if_neg c3, ne9 (by omega)]; exact fun z => z), gd_t g15, nI_add]
                congr 1
                funext r9 τ
                by_cases c4 : r9 = 0
                · rw [if_pos c4, if_pos c4]
                · rw [if_neg c4, if_neg c4, gd_t g15]
            · rw [if_neg c2, if_pos rfl, if_neg (fun z => c2 z.2)]
        rw [head]
        by_cases c : W.testBit p = false ∧ rc L i p = true
        · obtain ⟨c1, c2⟩ := c
          have hV1 : W ||| 2 ^ p < 2 ^ 15 := Nat.or_lt_two_pow hW (pow_lt (by omega))
          have hW1 : ∀ q, (W ||| 2 ^ p).testBit q = true ↔ W.testBit q = true ∨ q = p := fun q => or_tb
          have hsW : ∀ q, W.testBit q = true → (W ||| 2 ^ p).testBit q = true := fun q hq => (hW1 q).mpr (Or.inl hq)
          have hpW := hp.mono hs
          rw [if_pos ⟨c1, c2⟩]
          by_cases c3 : M p = 0
          · rw [if_pos c3]
            refine ⟨true, W ||| 2 ^ p, upD M p (i + 1), _, rfl, FG.s.tr FG.c, by rw [sI_n (by omega), sI_s], hV1, fun j hj => ?_, fun j hj => hsW j (hs j hj), fun _ => (Aug.take hpW hi hpn c1 c2 c3).mono hp hs, fun z => absurd z (by decide)⟩
            by_cases q : j = p
            · rw [q, sI_s, upD_s, eD_s]
            · rw [sI_n (by omega), sI_n (by omega), upD_n q]; exact hz44 j hj
          · obtain ⟨t, ht⟩ : ∃ t, M p = t + 1 := ⟨M p - 1, by omega⟩
            have htn := (hp.1 p c3).2.1
            rw [if_neg c3, ht, eD_s]
            have cb1 := cB_mono (n := L.length) hs
            have cb2 := cB_add hW1 hpn c1
            obtain ⟨b2', V2, M2, τ2, t1, t2, t3, t4, t5, t6, t7, t8⟩ := ih (d + 1) t (W ||| 2 ^ p) M (sI ζ 40 6 (nI (W ||| 2 ^ p))) fuel (by omega) (by omega) (by omega) hV1 (by omega) (hxz.of FG.s) sI_s (fun j hj => by rw [sI_n (by omega)]; exact hz44 j hj) (hpW.go c1 hW1 ht)
            rw [t1, b2_some]
            cases b2' with
            | true =>
              rw [if_pos rfl, if_neg n10]
              refine ⟨true, V2, upD M2 p (i + 1), _, rfl, (FG.s.tr t2).tr FG.c, by rw [sI_n (by omega)]; exact t3, t4, fun j hj => ?_, fun j hj => t6 j (hsW j (hs j hj)), fun _ => (Aug.go hpW hi hpn c1 c2 ht hW1 (t7 rfl)).mono hp hs, fun z => absurd z (by decide)⟩
              by_cases q : j = p
              · rw [q, sI_s, upD_s, eD_s]
              · rw [sI_n (by omega), upD_n q]; exact t5 j hj
            | false =>
              obtain ⟨u1, u2, u3⟩ := t8 rfl
              rw [if_pos (show (if (false : Bool) = true then (1 : Int32) else 0) = 0 from rfl)]
              rw [u1] at t5
              have hWV : ∀ q, W.testBit q = true → V2.testBit q = true := fun q hq => t6 q (hsW q hq)
              obtain ⟨b, V', M', τ, k1, k2, k3⟩ := ihr (p + 1) n V2 τ2 (by omega) (by omega) t4 (hxz.of (FG.s.tr t2)) t3 t5 (fun j hj => hWV j (hs j hj)) (fun j hj hr => by
                by_cases q : j = p
                · rw [q]; exact t6 p ((hW1 p).mpr (Or.inr rfl))
                · exact hWV j (hlt j (by omega) hr)) (fun j hj => by
                rcases u3 j hj with z | z
                · rcases (hW1 j).mp z with y | y
                  · rcases hcl j y with x | x
                    · exact Or.inl x
                    · exact Or.inr ⟨x.1, fun l h1 h2 => hWV l (x.2 l h1 h2)⟩
                  · rw [y]
                    refine Or.inr ⟨c3, fun l h1 h2 => ?_⟩
                    rw [ht] at h2
                    exact u2 l h1 h2
                · exact Or.inr z)
              exact ⟨b, V', M', τ, k1, (FG.s.tr t2).tr k2, k3⟩
        · rw [if_neg c]
          exact ihr (p + 1) n W ζ (by omega) (by omega) hW hxz hz6 hz44 hs (fun j hj hr => by
            by_cases q : j = p
            · rw [q] at hr ⊢
              cases e : W.testBit p with
              | true => rfl
              | false => exact absurd ⟨e, hr⟩ c
            · exact hlt j (by omega) hr) hcl
    exact loop L.length 0 FU V σ (by omega) (by have : FU = 1000000000 := rfl; omega) hV hx h6 h44 (fun _ h => h) (fun j hj => absurd hj (by omega)) (fun j hj => Or.inl hj)
theorem z_tb (j : Nat) : (0 : Nat).testBit j = false := Nat.zero_testBit j
theorem xFew {σ : Mm} {L : List Sk} (hn : L.length ≤ 15) (hB : BS L) (h : XS0 σ L) : ∃ τ, f_X5_fewest_p36 16 σ = some (nI (L.length - chc (rc L) L.length L.length), τ) ∧ FS σ τ := by
  unfold f_X5_fewest_p36
  rw [h.1.1]
  have key := itE (fun n i (a : Int32 × Mm) => f_X5_fewest_p43 16 n a.1 i a.2) (fun a => some (a.1, a.2)) L.length (fun k a => a.1 = nI (L.length - chc (rc L) L.length k) ∧ FS σ a.2 ∧ XS a.2 L ∧ ∃ M : Nat → Nat, (∀ j, j < L.length → a.2.1 44 j = eD (M j)) ∧ PM (rc L) L.length M ∧ ∀ i, (∃ j, M j = i + 1) ↔ chs (rc L) L.length k i) (a := (nI L.length, σ)) ⟨rfl, FS.rf σ, h.1, fun _ => 0, fun j hj => h.2 j hj, ⟨fun j hj => absurd rfl hj, fun j _ hj => absurd rfl hj⟩, fun i => ⟨fun ⟨j, hj⟩ => absurd (show 0 = i + 1 from hj) (by omega), fun z => z.elim⟩⟩ ?_ ?_ FU (by have : FU = 1000000000 := rfl; omega)
  · obtain ⟨⟨v, τ⟩, e, p1, p2, _⟩ := key
    refine ⟨τ, ?_, p2⟩
    have e' : f_X5_fewest_p43 16 FU (nI L.length) (nI 0) σ = some (v, τ) := e
    rw [show v = _ from p1] at e'
    exact e'
  · rintro n k ⟨v, τ⟩ hk ⟨p1, p2, p3, M, m1, m2, m3⟩
    have hle := chc_le (R := rc L) (n := L.length) k
    have hpre : Pre (rc L) L.length (0 : Nat).testBit M k := ⟨m2.1, fun j l _ _ => m2.2 j l, fun j _ e => absurd (chs_lt ((m3 k).mp ⟨j, e⟩)) (by omega)⟩
    obtain ⟨b, V', M', τ2, t1, t2, t3, t4, t5, t6, t7, t8⟩ := xGo hn hB 16 0 k 0 M (sI τ 40 6 0) 40 (by omega) (by omega) hk (by decide) (Nat.zero_le _) (p3.of FG.s) sI_s (fun j hj => by rw [sI_n (by omega)]; exact m1 j hj) hpre
    have hstep : f_X5_fewest_p43 16 (n + 1) v (nI k) τ = f_X5_fewest_p43 16 n (v - if b = true then 1 else 0) (nI (k + 1)) τ2 := by
      rw [f_X5_fewest_p43, lI 15, if_neg (nI_ge (by omega) (by decide)), p3.1, if_neg (nI_ge hk (by omega)), show f_X5_goesOn 40 (nI k) 0 (sI τ 40 6 0) = _ from t1, b2_some, lI 1, nI_add]
      cases b with
      | true => rfl
      | false => rfl
    refine ⟨(v - if b = true then 1 else 0, τ2), hstep, ?_⟩
    have fr : FS σ τ2 := p2.tr (FG.s.tr t2).fs
    have xs : XS τ2 L := p3.of (FG.s.tr t2)
    cases b with
    | true =>
      obtain ⟨a1, a2, a3, a4⟩ := t7 rfl
      have pm : PM (rc L) L.length M' := ⟨a2, fun j i h0 e => a3 j i (z_tb j) (z_tb i) h0 e⟩
      have cov : ∀ i, (∃ j, M' j = i + 1) ↔ chs (rc L) L.length k i ∨ i = k := fun i => by
        rw [← m3 i]
        constructor
        · rintro ⟨j, hj⟩
          rcases (a4 (i + 1) (by omega)).mp ⟨j, z_tb j, hj⟩ with ⟨q, _, e⟩ | z
          · exact Or.inl ⟨q, e⟩
          · exact Or.inr (by omega)
        · intro z
          obtain ⟨j, _, hj⟩ := (a4 (i + 1) (by omega)).mpr (z.imp (fun ⟨q, e⟩ => ⟨q, z_tb q, e⟩) (fun e => by omega))
          exact ⟨j, hj⟩
      have mt : Mt (rc L) L.length (fun a => chs (rc L) L.length k a ∨ a = k) := ⟨M', pm, fun i hi => (cov i).mpr hi⟩
      refine ⟨?_, fr, xs, M', t5, pm, fun i => by rw [cov i, chs_y mt i]⟩
      show v - (if true = true then 1 else 0) = _
      rw [if_pos rfl, show v = _ from p1, lI 1, pk_sub (by omega), chc_y mt]
      congr 1
    | false =>
      obtain ⟨u1, u2, u3⟩ := t8 rfl
      rw [u1] at t5
      have mt := hall (k := k) (V := V'.testBit) m2 m3 (fun z => by have := chs_lt z; omega) u2 (fun j hj => by
        rcases u3 j hj with z | z
        · rw [z_tb] at z; cases z
        · exact z)
      refine ⟨?_, fr, xs, M, t5, m2, fun i => by rw [m3 i, chs_n mt i]⟩
      show v - (if false = true then 1 else 0) = _
      rw [if_neg (by decide), show v = _ from p1, chc_n mt, Int32.sub_zero]
  · rintro n ⟨v, τ⟩ ⟨_, _, p3, _⟩
    show f_X5_fewest_p43 16 (n + 1) v (nI L.length) τ = _
    rw [f_X5_fewest_p43, p3.1]
    by_cases c : 15 ≤ L.length
    · rw [lI 15, if_pos (nI_le c (by omega))]
    · rw [lI 15, if_neg (nI_ge (by omega) (by decide)), if_pos (nI_le (Nat.le_refl _) (by omega))]
