/-! weights; what the class finds -/
def wtF (T : Tw) (q : Nat → Bool) (z : Int32) (b : Nat) : Nat := if b < tNd T ∧ q b = true then (if z = 0 then 1 else tW T b) else 0
theorem wtF_le {T : Tw} (hw : WT T) (q : Nat → Bool) (z : Int32) (b : Nat) : wtF T q z b ≤ 9 := by
  unfold wtF
  split
  · next h =>
    have := (hw.2.2.2 b h.1).2.2.2.2.2.1
    split <;> omega
  · omega
theorem hasB_lt {σ : Mm} {n : Nat} (h : σ.1 3 1 = nI n) (hn : n ≤ 5) {k : Nat} (hk : k < 100) : f_X8_hasBidder σ (nI k) = some (if k < n then 1 else 0) := by
  rw [hasBidder_eq h]
  exact congrArg some (ifc (propext ⟨fun q => (nI_ltI (by omega) (by omega)).mp q.2, fun q => ⟨nI_pos (by omega), nI_lt q (by omega)⟩⟩))
theorem xWeigh {σ : Mm} {T : Tw} (h : XTw σ T) (hw : WT T) {x1 x2 : Int32} {q : Nat → Bool} (hx : ∀ b, b < 5 → ((jushr x1 (nI b) &&& 1) = 1) = (q b = true)) : ∃ τ, f_X4_weigh x1 x2 σ = some τ ∧ (∀ c, c ≠ 30 → c ≠ 31 → τ.1 c = σ.1 c) ∧ τ.2 = σ.2 ∧ XW τ T (wtF T q x2) := by
  have h5 := hw.2.1
  unfold f_X4_weigh
  rw [gd_t (by decide)]
  show ∃ τ, f_X4_weigh_p9 FU x1 x2 4 (sI σ 31 5 0) = some τ ∧ _
  let wt := wtF T q x2
  have key := itL (fun n i ζ => f_X4_weigh_p9 n x1 x2 (4 - i) ζ) some (fun i ζ => sI (sI ζ 30 (4 - i) (nI (wt (4 - i)))) 31 (4 - i) (ζ.1 31 (4 - i + 1) + nI (wt (4 - i)))) 5 (fun i ζ => (∀ c, c ≠ 30 → c ≠ 31 → ζ.1 c = σ.1 c) ∧ ζ.2 = σ.2 ∧ (∀ b, 5 - i ≤ b → b < 5 → ζ.1 30 b = nI (wt b)) ∧ ∀ b, 5 - i ≤ b → b ≤ 5 → ζ.1 31 b = nI (rs wt (5 - b))) (a := sI σ 31 5 0) ⟨fun c h1 h2 => (sI_ne h2).1, rfl, fun b h1 h2 => by omega, fun b h1 h2 => by rw [show b = 5 by omega, sI_s]; rfl⟩ ?_ ?_ FU (by decide)
  · obtain ⟨k1, k2, k3, k4, k5⟩ := key
    have k1' : f_X4_weigh_p9 FU x1 x2 (4 - nI 0) (sI σ 31 5 0) = _ := k1
    rw [show (4 : Int32) - nI 0 = 4 by decide] at k1'
    exact ⟨_, k1', k2, k3, h.of (fun k h1 h2 => k2 k (by omega) (by omega)) (by rw [k3]), fun b hb => k4 b (by omega) hb, fun b hb => k5 b (by omega) hb⟩
  · intro n i ζ hi hp
    obtain ⟨p1, p2, p3, p4⟩ := hp
    have e4 : (4 : Int32) - nI i = nI (4 - i) := by rw [lI 4, pk_sub (by omega)]
    have e5 : nI (4 - i) + -1 = (4 : Int32) - nI (i + 1) := by
      rw [← e4, show (-1 : Int32) = - nI 1 from rfl, ← nI_add, Int32.sub_eq_add_neg, Int32.sub_eq_add_neg, Int32.neg_add, Int32.sub_eq_add_neg, Int32.add_assoc]
    have hk : 4 - i < 5 := by omega
    refine ⟨?_, fun c h1 h2 => ?_, p2, fun b h1 h2 => ?_, fun b h1 h2 => ?_⟩
    · show f_X4_weigh_p9 (n + 1) x1 x2 (4 - nI i) ζ = _
      have g5 : inB (nI (4 - i)) 5 = true := inB_t hk (by decide)
      have p71 : f_X4_weigh_p71 (f_X4_weigh_p9 n) x1 x2 (nI (4 - i)) (nI (wt (4 - i))) (nI (4 - i)) ζ = f_X4_weigh_p9 n x1 x2 (4 - nI (i + 1)) (sI (sI ζ 30 (4 - i) (nI (wt (4 - i)))) 31 (4 - i) (ζ.1 31 (4 - i + 1) + nI (wt (4 - i)))) := by
        unfold f_X4_weigh_p71
        rw [gd_t g5, lI 1, nI_add, gd_t (inB_t (by omega) (by decide)), gd_t g5, gd_t (inB_t (by omega) (by decide)), bnd_eq, cl_nI (by omega), cl_nI (by omega), sI_n (show ¬ (31 = 30 ∧ 4 - i + 1 = 4 - i) by omega), sI_s, ← lI 1, e5]
      have h31 : ζ.1 3 1 = nI (tNd T) := by rw [p1 3 (by decide) (by decide)]; exact h.2.1
      rw [f_X4_weigh_p9, e4, if_neg (nI_pos (by omega)), hasB_lt h31 h5 (by omega), b1_some]
      by_cases c1 : 4 - i < tNd T
      · rw [if_pos c1, if_neg n10]
        by_cases c2 : q (4 - i) = true
        · have e11 : ζ.1 11 (4 - i) = nI (tW T (4 - i)) := by rw [p1 11 (by decide) (by decide)]; exact (h.2.2.2.1 (4 - i) c1).2.2.2.2.2
          rw [if_pos (by rw [hx _ hk]; exact c2), ← p71]
          unfold f_X4_weigh_p38
          rw [if_neg n10]
          by_cases c3 : x2 = 0
          · have ew : wt (4 - i) = 1 := by show wtF T q x2 (4 - i) = 1; unfold wtF; rw [if_pos ⟨c1, c2⟩, if_pos c3]
            rw [if_pos c3, ew, lI 1]
          · have ew : wt (4 - i) = tW T (4 - i) := by show wtF T q x2 (4 - i) = _; unfold wtF; rw [if_pos ⟨c1, c2⟩, if_neg c3]
            rw [if_neg c3, gd_t g5, cl_nI (by omega), e11, ew]
        · have ew : wt (4 - i) = 0 := by show wtF T q x2 (4 - i) = 0; unfold wtF; rw [if_neg (fun z => c2 z.2)]
          rw [if_neg (by rw [hx _ hk]; exact c2), ← p71]
          unfold f_X4_weigh_p37 f_X4_weigh_p38
          rw [if_pos rfl, ew, nI0]
      · have ew : wt (4 - i) = 0 := by show wtF T q x2 (4 - i) = 0; unfold wtF; rw [if_neg (fun z => c1 z.1)]
        rw [if_neg c1, if_pos rfl, ← p71]
        unfold f_X4_weigh_p37 f_X4_weigh_p38
        rw [if_pos rfl, ew, nI0]
    · rw [(sI_ne h2).1, (sI_ne h1).1]; exact p1 c h1 h2
    · by_cases z : b = 4 - i
      · rw [sI_n (by omega), z, sI_s]
      · rw [sI_n (by omega), sI_n (by omega)]; exact p3 b (by omega) h2
    · by_cases z : b = 4 - i
      · rw [z, sI_s, p4 (4 - i + 1) (by omega) (by omega), nI_add, show 5 - (4 - i + 1) = i by omega, show 5 - (4 - i) = i + 1 by omega]
        rfl
      · rw [sI_n (by omega), sI_n (by omega)]; exact p4 b (by omega) h2
  · intro n ζ _
    show f_X4_weigh_p9 (n + 1) x1 x2 (4 - nI 5) ζ = _
    rw [f_X4_weigh_p9, if_pos (by decide)]
theorem xSearch {σ : Mm} {T : Tw} (hw : WT T) {wt : Nat → Nat} (hwt : ∀ b, wt b ≤ 9) (hx : XW σ T wt) {t0 r0 w0 : Nat} (ht0 : t0 < 2 ^ 36) (hr0 : r0 < 2 ^ 30) (hw0 : w0 < 2 ^ 30) : ∃ τ M F, f_X4_search (lN t0) (nI r0) (nI w0) σ = some (nI M, τ) ∧ WFr σ τ ∧ M < 2 ^ 20 ∧ (∀ b, b < 5 → τ.1 35 b = nI (F b)) ∧ bsL (fun D => wS wt D 5) none (en (pX T wt t0 r0 w0) 5 0 (fun _ => 0)) = some (M, F) := by
  have gf : WFr σ (sI σ 29 5 (-9)) := ⟨fun c h1 _ _ => (sI_ne h1).1, fun j hj => sI_n (by omega), rfl⟩
  have hW := xWalk hw hwt ht0 hr0 hw0 5 0 (fun _ => 0) (sI σ 29 5 (-9)) none 40 (by omega) (by omega) (hx.of gf) (fun o ho => by omega) (fun _ _ => rfl) sI_s
  have hne : en (pX T wt t0 r0 w0) 5 0 (fun _ => 0) ≠ [] := List.ne_nil_of_mem (en_0 (m := 5) (pX_loc T wt t0 r0 w0) (fun j _ => rfl))
  obtain ⟨M, F, b1', b2', b3', b4'⟩ := bsL_ne (w := fun D => wS wt D 5) hne
  have e1 : (t0 ||| tkE T (fun _ => 0) 0) = t0 := Nat.or_zero _
  have e2 : (r0 ||| rgE T (fun _ => 0) 0) = r0 := Nat.or_zero _
  have e3 : (w0 ||| wnE T (fun _ => 0) 0) = w0 := Nat.or_zero _
  have e4 : wS wt (fun _ => 0) 0 = 0 := rfl
  rw [b1', e1, e2, e3, e4, nI0] at hW
  obtain ⟨τ, t1, t2, t3, r1, r2, r3⟩ := hW
  refine ⟨τ, M, F, ?_, gf.tr t2, r1, r3, b1'⟩
  unfold f_X4_search
  rw [t1, b1_some, r2]
theorem and_or0 (a b c : Nat) : (a &&& (b ||| c) = 0) ↔ (a &&& b = 0 ∧ a &&& c = 0) := by
  constructor
  · intro h
    have g : ∀ j, ¬ (a.testBit j = true ∧ (b.testBit j = true ∨ c.testBit j = true)) := fun j z => (and_nz a (b ||| c)).mpr ⟨j, z.1, by rw [Nat.testBit_or, Bool.or_eq_true]; exact z.2⟩ h
    exact ⟨Decidable.byContradiction fun z => by obtain ⟨j, h1, h2⟩ := (and_nz a b).mp z; exact g j ⟨h1, Or.inl h2⟩, Decidable.byContradiction fun z => by obtain ⟨j, h1, h2⟩ := (and_nz a c).mp z; exact g j ⟨h1, Or.inr h2⟩⟩
  · rintro ⟨h1, h2⟩
    refine Decidable.byContradiction fun z => ?_
    obtain ⟨j, g1, g2⟩ := (and_nz a (b ||| c)).mp z
    rw [Nat.testBit_or, Bool.or_eq_true] at g2
    rcases g2 with g2 | g2
    · exact (and_nz a b).mpr ⟨j, g1, g2⟩ h1
    · exact (and_nz a c).mpr ⟨j, g1, g2⟩ h2
theorem and_orN0 (a : Nat) (f : Nat → Nat) : ∀ n, (a &&& orN f n = 0) ↔ ∀ i, i < n → a &&& f i = 0
  | 0 => by simp [orN]
  | n + 1 => by
    rw [orN, and_or0, and_orN0 a f n]
    constructor
    · rintro ⟨h1, h2⟩ i hi
      rcases Nat.lt_or_ge i n with q | q
      · exact h1 i q
      · rw [show i = n by omega]; exact h2
    · intro h
      exact ⟨fun i hi => h i (by omega), h n (by omega)⟩
theorem mask_iff {T : Tw} (hw : WT T) {E : Dy} {b s : Nat} (hb : b < tNd T) (hm : may T b s = true) (hE : ∀ o, o < b → E o ≠ 0 → may T o (E o - 1) = true) : (takeX T b s &&& tkE T E b = 0 ∧ ringX T b s &&& wnE T E b = 0 ∧ wantX T b &&& rgE T E b = 0) ↔ ∀ o, o < b → E o ≠ 0 → cla T b s o (E o - 1) = false := by
  unfold tkE wnE rgE
  rw [and_orN0, and_orN0, and_orN0]
  constructor
  · rintro ⟨h1, h2, h3⟩ o ho h0
    have a1 := h1 o ho
    have a2 := h2 o ho
    have a3 := h3 o ho
    rw [if_neg h0] at a1 a2 a3
    rw [Nat.and_comm] at a3
    refine Bool.eq_false_iff.mpr (fun z => ?_)
    rcases (claX hw hb (by omega) hm (hE o ho h0)).mpr z with y | y | y
    · exact y a1
    · exact y a2
    · exact y a3
  · intro h
    have key : ∀ o, o < b → E o ≠ 0 → takeX T b s &&& takeX T o (E o - 1) = 0 ∧ ringX T b s &&& wantX T o = 0 ∧ ringX T o (E o - 1) &&& wantX T b = 0 := fun o ho h0 => by
      have hc := h o ho h0
      have hx := claX hw hb (show o < tNd T by omega) hm (hE o ho h0)
      refine ⟨Decidable.byContradiction fun z => ?_, Decidable.byContradiction fun z => ?_, Decidable.byContradiction fun z => ?_⟩
      · rw [hx.mp (Or.inl z)] at hc; cases hc
      · rw [hx.mp (Or.inr (Or.inl z))] at hc; cases hc
      · rw [hx.mp (Or.inr (Or.inr z))] at hc; cases hc
    refine ⟨fun o ho => ?_, fun o ho => ?_, fun o ho => ?_⟩
    · by_cases c : E o = 0
      · rw [if_pos c, Nat.and_zero]
      · rw [if_neg c]; exact (key o ho c).1
    · by_cases c : E o = 0
      · rw [if_pos c, Nat.and_zero]
      · rw [if_neg c]; exact (key o ho c).2.1
    · by_cases c : E o = 0
      · rw [if_pos c, Nat.and_zero]
      · rw [if_neg c, Nat.and_comm]; exact (key o ho c).2.2
theorem pX_iff {T : Tw} {wt : Nat → Nat} {t0 r0 w0 : Nat} {E : Dy} {b v : Nat} (hv : v ≠ 0) : pX T wt t0 r0 w0 E b v = true ↔ wt b ≠ 0 ∧ (begX T b).testBit (v - 1) = true ∧ (takeX T b (v - 1) &&& t0 = 0 ∧ ringX T b (v - 1) &&& w0 = 0 ∧ wantX T b &&& r0 = 0) ∧ (takeX T b (v - 1) &&& tkE T E b = 0 ∧ ringX T b (v - 1) &&& wnE T E b = 0 ∧ wantX T b &&& rgE T E b = 0) := by
  unfold pX
  rw [decide_eq_false hv, Bool.false_or, Bool.and_eq_true, Bool.and_eq_true, Bool.and_eq_true, Bool.and_eq_true, decide_eq_true_eq, decide_eq_true_eq, decide_eq_true_eq, decide_eq_true_eq, and_or0, and_or0, and_or0]
  constructor
  · rintro ⟨a, b, ⟨c1, c2⟩, ⟨d1, d2⟩, e1, e2⟩
    exact ⟨a, b, ⟨c1, d1, e1⟩, c2, d2, e2⟩
  · rintro ⟨a, b, ⟨c1, d1, e1⟩, c2, d2, e2⟩
    exact ⟨a, b, ⟨c1, c2⟩, ⟨d1, d2⟩, e1, e2⟩
theorem pR_iff {T : Tw} {N : Dy} {st : Bool} {E : Dy} {b v : Nat} : pR T N st E b v = true ↔ (st = true → N b ≠ 0 → v = N b) ∧ (v ≠ 0 → may T b (v - 1) = true ∧ ∀ o, o < b → E o ≠ 0 → cla T b (v - 1) o (E o - 1) = false) := by
  unfold pR
  rw [Bool.and_eq_true, Bool.or_eq_true, Bool.or_eq_true, Bool.or_eq_true, decide_eq_true_eq, decide_eq_true_eq, decide_eq_true_eq, Bool.and_eq_true, allN_iff]
  have ef : (∀ i, i < b → fr1 T E b v i = true) ↔ ∀ o, o < b → E o ≠ 0 → cla T b (v - 1) o (E o - 1) = false := by
    refine forall_congr' fun o => forall_congr' fun _ => ?_
    unfold fr1
    rw [Bool.or_eq_true, decide_eq_true_eq, Bool.not_eq_true']
    constructor
    · rintro (h | h) h0
      · exact absurd h h0
      · exact h
    · intro h
      by_cases c : E o = 0
      · exact Or.inl c
      · exact Or.inr (h c)
  rw [ef]
  constructor
  · rintro ⟨h1, h2⟩
    refine ⟨fun hs hn => ?_, fun hv => ?_⟩
    · rcases h1 with h1 | h1 | h1
      · rw [hs] at h1; cases h1
      · exact absurd h1 hn
      · exact h1
    · rcases h2 with h2 | h2
      · exact absurd h2 hv
      · exact h2
  · rintro ⟨h1, h2⟩
    refine ⟨?_, ?_⟩
    · cases st with
      | false => exact Or.inl rfl
      | true =>
        by_cases c : N b = 0
        · exact Or.inr (Or.inl c)
        · exact Or.inr (Or.inr (h1 rfl c))
    · by_cases c : v = 0
      · exact Or.inl c
      · exact Or.inr (h2 c)
/-- the days that the reference goes through are the days that can be -/
theorem mem_pR {T : Tw} (hw : WT T) {N : Dy} (hN : OD T N) {st : Bool} {D : Dy} : D ∈ en (pR T N st) (tNd T) 0 (fun _ => 0) ↔ VD T D ∧ (st = true → ∀ k, N k ≠ 0 → D k = N k) := by
  rw [mem_en (pR_loc T N st)]
  constructor
  · rintro ⟨h1, h2⟩
    have hp : ∀ j, j < tNd T → D j ≤ 10 ∧ _ := fun j hj => ⟨(h2 j (Nat.zero_le _) (by omega)).1, pR_iff.mp (h2 j (Nat.zero_le _) (by omega)).2⟩
    have hlt : ∀ k, D k ≠ 0 → k < tNd T := fun k hk => by
      rcases Nat.lt_or_ge k (tNd T) with q | q
      · exact q
      · exact absurd (h1 k (by omega)) hk
    refine ⟨⟨fun k hk => ⟨hlt k hk, (hp k (hlt k hk)).1, ((hp k (hlt k hk)).2.2 hk).1⟩, fun k o hk ho hko => ?_⟩, fun hs k hk => (hp k (hN k hk).1).2.1 hs hk⟩
    rcases Nat.lt_or_gt_of_ne hko with q | q
    · rw [cla_sym]; exact ((hp o (hlt o ho)).2.2 ho).2 k q hk
    · exact ((hp k (hlt k hk)).2.2 hk).2 o q ho
  · rintro ⟨⟨h1, h2⟩, h3⟩
    refine ⟨fun j hj => ?_, fun j _ hj => ⟨?_, pR_iff.mpr ⟨fun hs hn => h3 hs j hn, fun hv => ⟨(h1 j hv).2.2, fun o ho h0 => h2 j o hv h0 (by omega)⟩⟩⟩⟩
    · refine Decidable.byContradiction fun z => ?_
      have := (h1 j z).1
      omega
    · by_cases c : D j = 0
      · omega
      · exact (h1 j c).2.1
/-- and so are the class's, of those that weigh, beside what is laid already -/
theorem mem_pX {T : Tw} (hw : WT T) {wt : Nat → Nat} {t0 r0 w0 : Nat} {D : Dy} : D ∈ en (pX T wt t0 r0 w0) 5 0 (fun _ => 0) ↔ VD T D ∧ ∀ k, D k ≠ 0 → wt k ≠ 0 ∧ takeX T k (D k - 1) &&& t0 = 0 ∧ ringX T k (D k - 1) &&& w0 = 0 ∧ wantX T k &&& r0 = 0 := by
  have h5 := hw.2.1
  rw [mem_en (pX_loc T wt t0 r0 w0)]
  constructor
  · rintro ⟨h1, h2⟩
    have hlt5 : ∀ k, D k ≠ 0 → k < 5 := fun k hk => by
      rcases Nat.lt_or_ge k 5 with q | q
      · exact q
      · exact absurd (h1 k (by omega)) hk
    have hp := fun k (hk : D k ≠ 0) => (pX_iff hk).mp (h2 k (Nat.zero_le _) (by have := hlt5 k hk; omega)).2
    have h10 : ∀ k, D k ≠ 0 → D k ≤ 10 := fun k hk => (h2 k (Nat.zero_le _) (by have := hlt5 k hk; omega)).1
    have hlt : ∀ k, D k ≠ 0 → k < tNd T := fun k hk => by
      refine Decidable.byContradiction fun z => ?_
      have := (hp k hk).2.1
      rw [begX_no z] at this
      simp at this
    have hmay : ∀ k, D k ≠ 0 → may T k (D k - 1) = true := fun k hk => by
      have h3 := h10 k hk
      have := (hp k hk).2.1
      rw [begX_tb (hlt k hk) (by omega)] at this
      exact this
    have hcl := fun k (hk : D k ≠ 0) => (mask_iff hw (hlt k hk) (hmay k hk) (fun o _ h0 => hmay o h0)).mp (hp k hk).2.2.2
    refine ⟨⟨fun k hk => ⟨hlt k hk, h10 k hk, hmay k hk⟩, fun k o hk ho hko => ?_⟩, fun k hk => ⟨(hp k hk).1, (hp k hk).2.2.1⟩⟩
    rcases Nat.lt_or_gt_of_ne hko with q | q
    · rw [cla_sym]; exact hcl o ho k q hk
    · exact hcl k hk o q ho
  · rintro ⟨⟨h1, h2⟩, h3⟩
    refine ⟨fun j hj => ?_, fun j _ hj => ?_⟩
    · refine Decidable.byContradiction fun z => ?_
      have := (h1 j z).1
      omega
    · by_cases c : D j = 0
      · rw [c]; exact ⟨Nat.zero_le _, rfl⟩
      · obtain ⟨a1, a2, a3⟩ := h1 j c
        refine ⟨a2, (pX_iff c).mpr ⟨(h3 j c).1, by rw [begX_tb a1 (by omega)]; exact a3, (h3 j c).2, (mask_iff hw a1 a3 (fun o _ h0 => (h1 o h0).2.2)).mpr (fun o ho h0 => h2 j o c h0 (by omega))⟩⟩
theorem en_cong2 {p q : Dy → Nat → Nat → Bool} {nd : Nat} (I : Dy → Nat → Prop) (hI : ∀ E b v, I E b → b < nd → p E b v = true → v < 11 → I (upD E b v) (b + 1)) (hpq : ∀ E b v, I E b → b < nd → v < 11 → p E b v = q E b v) : ∀ (m b : Nat) (E : Dy), b + m ≤ nd → I E b → en p m b E = en q m b E
  | 0, _, _, _, _ => rfl
  | m + 1, b, E, hb, h => by
    rw [en, en]
    refine catN_cong (fun v hv => ?_)
    rw [← hpq E b v h (by omega) hv]
    by_cases c : p E b v = true
    · rw [if_pos c, if_pos c, en_cong2 I hI hpq m (b + 1) (upD E b v) (by omega) (hI E b v h (by omega) c hv)]
    · rw [if_neg c, if_neg c]
/-- all weigh: class and reference go the same way -/
theorem en_same {T : Tw} (hw : WT T) {wt : Nat → Nat} (h1 : ∀ b, b < tNd T → wt b ≠ 0) (h2 : ∀ b, tNd T ≤ b → wt b = 0) (N : Dy) : en (pX T wt 0 0 0) 5 0 (fun _ => 0) = en (pR T N false) (tNd T) 0 (fun _ => 0) := by
  have h5 := hw.2.1
  have e := en_ext (p := pX T wt 0 0 0) (nd := tNd T) (fun E b v hb => by
    unfold pX
    rw [h2 b hb]
    simp) (tNd T) (5 - tNd T) 0 (fun _ => 0) (by omega) (fun _ _ => rfl)
  rw [show tNd T + (5 - tNd T) = 5 by omega] at e
  rw [e]
  refine en_cong2 (nd := tNd T) (fun E b => ∀ o, o < b → E o ≠ 0 → may T o (E o - 1) = true) (fun E b v hI hb hp hv o ho h0 => ?_) (fun E b v hI hb hv => ?_) (tNd T) 0 (fun _ => 0) (by omega) (fun o ho => by omega)
  · by_cases q : o = b
    · subst q
      have ev : upD E o v o = v := if_pos rfl
      rw [ev] at h0 ⊢
      have := ((pX_iff h0).mp hp).2.1
      rw [begX_tb hb (by omega)] at this
      exact this
    · have ev : upD E b v o = E o := if_neg q
      rw [ev] at h0 ⊢
      exact hI o (by omega) h0
  · apply bool_iff
    by_cases c : v = 0
    · subst c
      exact ⟨fun _ => pR_iff.mpr ⟨fun z => absurd z (by decide), fun z => absurd rfl z⟩, fun _ => rfl⟩
    · rw [pX_iff c, pR_iff]
      constructor
      · rintro ⟨_, a2, _, a4⟩
        rw [begX_tb hb (by omega)] at a2
        exact ⟨fun z => absurd z (by decide), fun _ => ⟨a2, (mask_iff hw hb a2 hI).mp a4⟩⟩
      · rintro ⟨_, a2⟩
        obtain ⟨a2, a3⟩ := a2 c
        exact ⟨h1 b hb, by rw [begX_tb hb (by omega)]; exact a2, ⟨Nat.and_zero _, Nat.and_zero _, Nat.and_zero _⟩, (mask_iff hw hb a2 hI).mpr a3⟩
