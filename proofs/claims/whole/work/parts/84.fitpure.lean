/-! days that fit: bell by bell, beside the quiets -/
theorem nd_flat {α β : Type} {l : List α} {f : α → List β} (g : β → α) (hl : l.Nodup) (hf : ∀ a, a ∈ l → (f a).Nodup) (hg : ∀ a, a ∈ l → ∀ x, x ∈ f a → g x = a) : (l.flatMap f).Nodup :=
  List.pairwise_flatMap.mpr ⟨hf, List.Pairwise.imp_of_mem (fun {a b} ha hb hab x hx y hy e => hab ((hg a ha x hx).symm.trans ((congrArg g e).trans (hg b hb y hy)))) hl⟩
theorem catN_flat {α : Type} (f : Nat → List α) : ∀ n, catN f n = (List.range n).flatMap f
  | 0 => rfl
  | n + 1 => by rw [catN, catN_flat f n, List.range_succ, List.flatMap_append]; simp
theorem flat_su {α : Type} (f : Nat → List α) : ∀ n, ((List.range n).flatMap f).length = suN (fun i => (f i).length) n
  | 0 => rfl
  | n + 1 => by rw [← catN_flat, catN, List.length_append, catN_flat, flat_su f n]; rfl
theorem flat_c {α β : Type} {f : α → List β} {c : Nat} : ∀ {l : List α}, (∀ a, a ∈ l → (f a).length = c) → (l.flatMap f).length = l.length * c
  | [], _ => by simp
  | a :: l, h => by
    rw [List.flatMap_cons, List.length_append, flat_c (fun b hb => h b (List.mem_cons_of_mem _ hb)), h a (List.mem_cons_self ..), List.length_cons, Nat.succ_mul, Nat.add_comm]
theorem en_nd {p : Dy → Nat → Nat → Bool} (hp : Loc p) : ∀ (m b : Nat) (E : Dy), (en p m b E).Nodup
  | 0, b, E => by rw [en]; exact List.nodup_cons.mpr ⟨by simp, List.Pairwise.nil⟩
  | m + 1, b, E => by
    rw [en, catN_flat]
    refine nd_flat (fun D => D b) List.nodup_range (fun v _ => ?_) (fun v _ D hD => ?_)
    · by_cases c : p E b v = true
      · rw [if_pos c]; exact en_nd hp m (b + 1) _
      · rw [if_neg c]; exact List.Pairwise.nil
    · by_cases c : p E b v = true
      · rw [if_pos c] at hD
        have := ((mem_en hp).mp hD).1 b (by omega)
        show D b = v
        rw [this]; exact upD_s
      · rw [if_neg c] at hD; cases hD
theorem en_len {p : Dy → Nat → Nat → Bool} : ∀ (m b : Nat) (E : Dy), (en p m b E).length ≤ 11 ^ m
  | 0, b, E => Nat.le_refl _
  | m + 1, b, E => by
    rw [en, catN_flat, flat_su]
    have := suN_le (f := fun v => (if p E b v = true then en p m (b + 1) (upD E b v) else []).length) (c := 11 ^ m) (n := 11) (fun v _ => by
      show (if p E b v = true then en p m (b + 1) (upD E b v) else []).length ≤ 11 ^ m
      by_cases c : p E b v = true
      · rw [if_pos c]; exact en_len m (b + 1) _
      · rw [if_neg c]; exact Nat.zero_le _)
    rw [Nat.pow_succ]
    omega
theorem suN_ge {f : Nat → Nat} {i : Nat} : ∀ {n : Nat}, i < n → f i ≤ suN f n
  | 0, h => by omega
  | n + 1, h => by
    rw [suN]
    by_cases c : i = n
    · rw [c]; omega
    · have := suN_ge (f := f) (i := i) (n := n) (by omega)
      omega
theorem and_z {a m : Nat} : (a &&& m = 0) ↔ ∀ x, a.testBit x = true → m.testBit x = true → False := by
  constructor
  · intro h x h1 h2
    exact (and_nz a m).mpr ⟨x, h1, h2⟩ h
  · intro h
    refine Decidable.byContradiction fun z => ?_
    obtain ⟨x, h1, h2⟩ := (and_nz a m).mp z
    exact h x h1 h2
theorem sub_tb {a m : Nat} : (a &&& m = m) ↔ ∀ x, m.testBit x = true → a.testBit x = true := by
  constructor
  · intro h x hx
    rw [← h, Nat.testBit_and, Bool.and_eq_true] at hx
    exact hx.1
  · intro h
    apply Nat.eq_of_testBit_eq
    intro x
    apply bool_iff
    rw [Nat.testBit_and, Bool.and_eq_true]
    exact ⟨fun z => z.2, fun z => ⟨h x z, z⟩⟩
/-- what must ring, or must not, by what is heard -/
def muM (T : Tw) (H : Hd) (r : Bool) : Nat := orN (fun i => orN (fun b => if (H.2 i).2.testBit b = r then 2 ^ (10 * b + (H.2 i).1) else 0) (tNb T)) H.1
theorem muM_tb {T : Tw} {H : Hd} {r : Bool} {x : Nat} : (muM T H r).testBit x = true ↔ ∃ i, i < H.1 ∧ ∃ b, b < tNb T ∧ (H.2 i).2.testBit b = r ∧ 10 * b + (H.2 i).1 = x := by
  unfold muM
  rw [orN_tb]
  refine exists_congr fun i => and_congr_right fun _ => ?_
  rw [orN_tb]
  refine exists_congr fun b => and_congr_right fun _ => ?_
  by_cases c : (H.2 i).2.testBit b = r
  · rw [if_pos c, pow_tb, decide_eq_true_eq]; exact ⟨fun z => ⟨c, z⟩, fun z => z.2⟩
  · rw [if_neg c]; exact ⟨fun z => by simp at z, fun z => absurd z.1 c⟩
def HB (H : Hd) : Prop := H.1 ≤ 6 ∧ ∀ i, i < H.1 → (H.2 i).1 < 10 ∧ (H.2 i).2 < 8
theorem muM_lt {T : Tw} (hw : WT T) {H : Hd} (hH : HB H) (r : Bool) : muM T H r < 2 ^ 30 := orN_lt fun i hi => orN_lt fun b hb => by
  have h1 := hw.1
  have h2 := (hH.2 i hi).1
  split
  · exact pow_lt (by omega)
  · decide
def mB (mu β : Nat) : Nat := mu &&& 1023 * 2 ^ (10 * β)
theorem mB_tb {mu β x : Nat} : (mB mu β).testBit x = true ↔ mu.testBit x = true ∧ 10 * β ≤ x ∧ x < 10 * β + 10 := by
  unfold mB
  rw [Nat.testBit_and, Bool.and_eq_true, mul_tb, show (1023 : Nat) = 2 ^ 10 - 1 from rfl, Nat.testBit_two_pow_sub_one, Bool.and_eq_true, decide_eq_true_eq, decide_eq_true_eq]
  refine and_congr_right fun _ => ?_
  omega
theorem bx {T : Tw} (hw : WT T) {D : Dy} (hD : OD T D) {b s : Nat} (hs : s < 10) : (rgE T D 5).testBit (10 * b + s) = true ↔ (beM T D b).testBit s = true := by
  unfold beM
  rw [rpM_tb]
  exact rxM_tb hw hD hs
def supp (T : Tw) (β : Nat) (D : Dy) : Prop := ∀ k, D k ≠ 0 → tN T k ≠ 0 ∧ tB T k = β
/-- a bell is heard as it rings -/
def hIs (T : Tw) (H : Hd) (b : Nat) (E : Dy) : Prop := b < tNb T → ∀ i, i < H.1 → (beM T E b).testBit (H.2 i).1 = (H.2 i).2.testBit b
theorem heard_iff {T : Tw} (hw : WT T) {H : Hd} (hH : HB H) {β : Nat} {D : Dy} (hD : OD T D) (hs : supp T β D) : ((∀ k, D k ≠ 0 → ringX T k (D k - 1) &&& muM T H false = 0) ∧ (rgE T D 5 &&& mB (muM T H true) β = mB (muM T H true) β)) ↔ hIs T H β D := by
  have h5 := hw.2.1
  have e1 : (∀ k, D k ≠ 0 → ringX T k (D k - 1) &&& muM T H false = 0) ↔ (rgE T D 5 &&& muM T H false = 0) := by
    rw [Nat.and_comm]
    unfold rgE
    rw [and_orN0]
    constructor
    · intro h k hk
      by_cases c : D k = 0
      · rw [if_pos c, Nat.and_zero]
      · rw [if_neg c, Nat.and_comm]; exact h k c
    · intro h k hk
      have := h k (by have := (hD k hk).1; omega)
      rw [if_neg hk, Nat.and_comm] at this
      exact this
  rw [e1, and_z, sub_tb]
  constructor
  · rintro ⟨h1, h2⟩ hb i hi
    have s10 := (hH.2 i hi).1
    apply bool_iff
    rw [← bx hw hD s10]
    constructor
    · intro z
      cases e : (H.2 i).2.testBit β with
      | true => rfl
      | false => exact (h1 _ z (muM_tb.mpr ⟨i, hi, β, hb, e, rfl⟩)).elim
    · intro z
      exact h2 _ (mB_tb.mpr ⟨muM_tb.mpr ⟨i, hi, β, hb, z, rfl⟩, by omega, by omega⟩)
  · intro h
    refine ⟨fun x hx hm => ?_, fun x hx => ?_⟩
    · obtain ⟨i, hi, b, hb, e, rfl⟩ := muM_tb.mp hm
      have s10 := (hH.2 i hi).1
      obtain ⟨k, k1, k2, k3, k4, _⟩ := (rxM_tb hw hD s10).mp hx
      have eb : b = β := by rw [← k4]; exact (hs k k2).2
      subst eb
      have := h hb i hi
      rw [e] at this
      rw [bx hw hD s10, this] at hx
      cases hx
    · obtain ⟨hm, x1, x2⟩ := mB_tb.mp hx
      obtain ⟨i, hi, b, hb, e, rfl⟩ := muM_tb.mp hm
      have s10 := (hH.2 i hi).1
      have eb : b = β := by omega
      subst eb
      rw [bx hw hD s10, h hb i hi]
      exact e
/-- the class's way through the days of one bell -/
def pF (T : Tw) (β w : Nat) (E : Dy) (b v : Nat) : Bool := decide (v = 0) || (decide (b < tNd T ∧ tN T b ≠ 0 ∧ tB T b = β) && ((begX T b).testBit (v - 1) && (decide (takeX T b (v - 1) &&& tkE T E b = 0) && decide (ringX T b (v - 1) &&& w = 0))))
theorem pF_loc (T : Tw) (β w : Nat) : Loc (pF T β w) := fun E F b v h => by
  unfold pF
  have e1 : tkE T E b = tkE T F b := orN_cong (fun o ho => by rw [h o ho])
  rw [e1]
theorem pF_iff {T : Tw} {β w : Nat} {E : Dy} {b v : Nat} (hv : v ≠ 0) : pF T β w E b v = true ↔ (b < tNd T ∧ tN T b ≠ 0 ∧ tB T b = β) ∧ (begX T b).testBit (v - 1) = true ∧ takeX T b (v - 1) &&& tkE T E b = 0 ∧ ringX T b (v - 1) &&& w = 0 := by
  unfold pF
  rw [decide_eq_false hv, Bool.false_or, Bool.and_eq_true, Bool.and_eq_true, Bool.and_eq_true, decide_eq_true_eq, decide_eq_true_eq, decide_eq_true_eq]
theorem mem_pF {T : Tw} (hw : WT T) {β w : Nat} {D : Dy} : D ∈ en (pF T β w) 5 0 (fun _ => 0) ↔ VD T D ∧ ∀ k, D k ≠ 0 → tN T k ≠ 0 ∧ tB T k = β ∧ ringX T k (D k - 1) &&& w = 0 := by
  have h5 := hw.2.1
  rw [mem_en (pF_loc T β w)]
  constructor
  · rintro ⟨h1, h2⟩
    have hlt5 : ∀ k, D k ≠ 0 → k < 5 := fun k hk => by
      rcases Nat.lt_or_ge k 5 with q | q
      · exact q
      · exact absurd (h1 k (by omega)) hk
    have hp := fun k (hk : D k ≠ 0) => (pF_iff hk).mp (h2 k (Nat.zero_le _) (by have := hlt5 k hk; omega)).2
    have h10 : ∀ k, D k ≠ 0 → D k ≤ 10 := fun k hk => (h2 k (Nat.zero_le _) (by have := hlt5 k hk; omega)).1
    have hlt : ∀ k, D k ≠ 0 → k < tNd T := fun k hk => (hp k hk).1.1
    have hmay : ∀ k, D k ≠ 0 → may T k (D k - 1) = true := fun k hk => by
      have h3 := h10 k hk
      have := (hp k hk).2.1
      rw [begX_tb (hlt k hk) (by omega)] at this
      exact this
    have hcl : ∀ k o, D k ≠ 0 → D o ≠ 0 → o < k → cla T k (D k - 1) o (D o - 1) = false := fun k o hk ho hok => by
      have a := (hp k hk).2.2.1
      unfold tkE at a
      rw [and_orN0] at a
      have b := a o hok
      rw [if_neg ho] at b
      refine Bool.eq_false_iff.mpr (fun z => ?_)
      rcases (claX hw (hlt k hk) (hlt o ho) (hmay k hk) (hmay o ho)).mpr z with y | y | y
      · exact y b
      · rw [wantX_p (hp o ho).1.2.1, Nat.and_zero] at y; exact y rfl
      · rw [wantX_p (hp k hk).1.2.1, Nat.and_zero] at y; exact y rfl
    refine ⟨⟨fun k hk => ⟨hlt k hk, h10 k hk, hmay k hk⟩, fun k o hk ho hko => ?_⟩, fun k hk => ⟨(hp k hk).1.2.1, (hp k hk).1.2.2, (hp k hk).2.2.2⟩⟩
    rcases Nat.lt_or_gt_of_ne hko with q | q
    · rw [cla_sym]; exact hcl o k ho hk q
    · exact hcl k o hk ho q
  · rintro ⟨⟨h1, h2⟩, h3⟩
    refine ⟨fun j hj => ?_, fun j _ hj => ?_⟩
    · refine Decidable.byContradiction fun z => ?_
      have := (h1 j z).1
      omega
    · by_cases c : D j = 0
      · rw [c]; exact ⟨Nat.zero_le _, rfl⟩
      · obtain ⟨a1, a2, a3⟩ := h1 j c
        obtain ⟨b1, b2, b3⟩ := h3 j c
        refine ⟨a2, (pF_iff c).mpr ⟨⟨a1, b1, b2⟩, by rw [begX_tb a1 (by omega)]; exact a3, ?_, b3⟩⟩
        unfold tkE
        rw [and_orN0]
        intro o ho
        by_cases d : D o = 0
        · rw [if_pos d, Nat.and_zero]
        · rw [if_neg d]
          refine Decidable.byContradiction fun z => ?_
          have := (claX hw a1 (h1 o d).1 a3 (h1 o d).2.2).mp (Or.inl z)
          rw [h2 j o c d (by omega)] at this
          cases this
def wqM (T : Tw) (H : Hd) (Q : Nat) : Nat := muM T H false ||| orN (fun k => if Q.testBit k = true then wantX T k else 0) 5
def okB (T : Tw) (H : Hd) (β : Nat) (D : Dy) : Bool := decide (rgE T D 5 &&& mB (muM T H true) β = mB (muM T H true) β)
/-- days of one bell beside those quiets, as it was heard -/
def FB (T : Tw) (H : Hd) (Q β : Nat) : List Dy := (en (pF T β (wqM T H Q)) 5 0 (fun _ => 0)).filter (okB T H β)
theorem FB_nd (T : Tw) (H : Hd) (Q β : Nat) : (FB T H Q β).Nodup := List.Pairwise.filter _ (en_nd (pF_loc T β _) 5 0 _)
theorem FB_mem {T : Tw} (hw : WT T) {H : Hd} (hH : HB H) {Q β : Nat} {D : Dy} : D ∈ FB T H Q β ↔ VD T D ∧ supp T β D ∧ (∀ k, D k ≠ 0 → ∀ o, o < 5 → Q.testBit o = true → ringX T k (D k - 1) &&& wantX T o = 0) ∧ hIs T H β D := by
  unfold FB okB wqM
  rw [List.mem_filter, mem_pF hw, decide_eq_true_eq]
  have e : ∀ a, (a &&& (muM T H false ||| orN (fun k => if Q.testBit k = true then wantX T k else 0) 5) = 0) ↔ (a &&& muM T H false = 0) ∧ ∀ o, o < 5 → Q.testBit o = true → a &&& wantX T o = 0 := fun a => by
    rw [and_or0, and_orN0]
    refine and_congr_right fun _ => ?_
    constructor
    · intro h o ho hq
      have := h o ho
      rw [if_pos hq] at this
      exact this
    · intro h o ho
      by_cases c : Q.testBit o = true
      · rw [if_pos c]; exact h o ho c
      · rw [if_neg c, Nat.and_zero]
  constructor
  · rintro ⟨⟨h1, h2⟩, h3⟩
    have hs : supp T β D := fun k hk => ⟨(h2 k hk).1, (h2 k hk).2.1⟩
    exact ⟨h1, hs, fun k hk => ((e _).mp (h2 k hk).2.2).2, (heard_iff hw hH h1.od hs).mp ⟨fun k hk => ((e _).mp (h2 k hk).2.2).1, h3⟩⟩
  · rintro ⟨h1, hs, h2, h3⟩
    obtain ⟨g1, g2⟩ := (heard_iff hw hH h1.od hs).mpr h3
    exact ⟨⟨h1, fun k hk => ⟨(hs k hk).1, (hs k hk).2, (e _).mpr ⟨g1 k hk, h2 k hk⟩⟩⟩, g2⟩
def aQ (T : Tw) (Q : Nat) : Bool := allN (fun k => !Q.testBit k || (decide (k < tNd T) && decide (tN T k = 0))) 5
theorem aQ_iff {T : Tw} {Q : Nat} : aQ T Q = true ↔ ∀ k, k < 5 → Q.testBit k = true → k < tNd T ∧ tN T k = 0 := by
  unfold aQ
  rw [allN_iff]
  refine forall_congr' fun k => forall_congr' fun _ => ?_
  cases Q.testBit k <;> simp
def oQ (T : Tw) (H : Hd) (Q : Nat) : Bool := aQ T Q && decide (wqM T H Q &&& muM T H true = 0)
def cmb (T : Tw) (Q : Nat) (Ds : Nat → Dy) : Dy := fun k => if tN T k = 0 then (if Q.testBit k = true then tF T k + 1 else 0) else Ds (tB T k) k
def sel (D0 D1 D2 : Dy) (β : Nat) : Dy := if β = 0 then D0 else if β = 1 then D1 else D2
def rB (T : Tw) (β : Nat) (D : Dy) : Dy := fun k => if tN T k ≠ 0 ∧ tB T k = β then D k else 0
def qM (T : Tw) (D : Dy) : Nat := orN (fun k => if D k ≠ 0 ∧ tN T k = 0 then 2 ^ k else 0) 5
theorem qM_tb {T : Tw} {D : Dy} {k : Nat} : (qM T D).testBit k = true ↔ k < 5 ∧ D k ≠ 0 ∧ tN T k = 0 := by
  unfold qM
  rw [orN_tb]
  constructor
  · rintro ⟨i, hi, h⟩
    split at h
    · next c =>
      rw [pow_tb, decide_eq_true_eq] at h
      rw [← h]; exact ⟨hi, c⟩
    · simp at h
  · rintro ⟨h1, h2⟩
    exact ⟨k, h1, by rw [if_pos h2, pow_tb]; simp⟩
theorem qM_lt (T : Tw) (D : Dy) : qM T D < 2 ^ 5 := orN_lt fun i hi => by
  split
  · exact pow_lt hi
  · decide
theorem be_cong {T : Tw} {D E : Dy} {b : Nat} (h : ∀ k, tN T k ≠ 0 → tB T k = b → D k = E k) : beM T D b = beM T E b := by
  unfold beM rpM
  refine orN_cong fun k _ => ?_
  by_cases c : tN T k ≠ 0 ∧ tB T k = b
  · rw [h k c.1 c.2]
  · rw [if_neg (fun z => c z.2), if_neg (fun z => c z.2)]
theorem VD.sub {T : Tw} {D E : Dy} (h : VD T D) (g : ∀ k, E k ≠ 0 → E k = D k) : VD T E := by
  refine ⟨fun k hk => ?_, fun k o hk ho hko => ?_⟩
  · have e := g k hk
    rw [e] at hk ⊢
    exact h.1 k hk
  · have e := g k hk
    have f := g o ho
    rw [e] at hk ⊢
    rw [f] at ho ⊢
    exact h.2 k o hk ho hko
theorem sel_t {D0 D1 D2 : Dy} {p : Nat → Dy → Prop} (h0 : p 0 D0) (h1 : p 1 D1) (h2 : p 2 D2) : ∀ β, β < 3 → p β (sel D0 D1 D2 β) := fun β hβ => by
  rcases (show β = 0 ∨ β = 1 ∨ β = 2 by omega) with rfl | rfl | rfl
  · exact h0
  · exact h1
  · exact h2
theorem sel_g {D0 D1 D2 : Dy} {β : Nat} (h : 3 ≤ β) : sel D0 D1 D2 β = sel D0 D1 D2 2 := by
  unfold sel
  rw [if_neg (by omega), if_neg (by omega)]; rfl
/-- what is put together -/
theorem cmb_all {T : Tw} (hw : WT T) {H : Hd} (hH : HB H) {Q : Nat} (hQ : Q < 2 ^ 5) (ha : aQ T Q = true) {D0 D1 D2 : Dy} (hF : ∀ β, β < 3 → sel D0 D1 D2 β ∈ FB T H Q β) :
    (∀ β, β < 3 → rB T β (cmb T Q (sel D0 D1 D2)) = sel D0 D1 D2 β) ∧ qM T (cmb T Q (sel D0 D1 D2)) = Q ∧ VD T (cmb T Q (sel D0 D1 D2)) ∧ hdB T H (cmb T Q (sel D0 D1 D2)) = true := by
  have h5 := hw.2.1
  have h3 := hw.1
  have q5 : ∀ k, Q.testBit k = true → k < 5 := fun k hk => lt_tb hQ hk
  have aq := aQ_iff.mp ha
  have mF := fun β (h : β < 3) => (FB_mem hw hH).mp (hF β h)
  have cq : ∀ k, tN T k = 0 → cmb T Q (sel D0 D1 D2) k = if Q.testBit k = true then tF T k + 1 else 0 := fun k hk => if_pos hk
  have cp : ∀ k, tN T k ≠ 0 → cmb T Q (sel D0 D1 D2) k = sel D0 D1 D2 (tB T k) k := fun k hk => if_neg hk
  have l3 : ∀ k, sel D0 D1 D2 (tB T k) k ≠ 0 → tB T k < 3 := fun k hk => by
    refine Decidable.byContradiction fun z => ?_
    rw [sel_g (by omega)] at hk
    have := ((mF 2 (by decide)).2.1 k hk).2
    omega
  have rb : ∀ β, β < 3 → rB T β (cmb T Q (sel D0 D1 D2)) = sel D0 D1 D2 β := fun β hβ => by
    funext k
    show (if tN T k ≠ 0 ∧ tB T k = β then cmb T Q (sel D0 D1 D2) k else 0) = _
    by_cases c : tN T k ≠ 0 ∧ tB T k = β
    · rw [if_pos c, cp k c.1, c.2]
    · rw [if_neg c]
      exact (Decidable.byContradiction fun z => c ((mF β hβ).2.1 k z)).symm
  have vq : ∀ k, tN T k = 0 → cmb T Q (sel D0 D1 D2) k ≠ 0 → Q.testBit k = true ∧ cmb T Q (sel D0 D1 D2) k = tF T k + 1 := fun k h0 hk => by
    rw [cq k h0] at hk ⊢
    by_cases c : Q.testBit k = true
    · rw [if_pos c]; exact ⟨c, rfl⟩
    · rw [if_neg c] at hk; exact absurd rfl hk
  have v1 : ∀ k, cmb T Q (sel D0 D1 D2) k ≠ 0 → k < tNd T ∧ cmb T Q (sel D0 D1 D2) k ≤ 10 ∧ may T k (cmb T Q (sel D0 D1 D2) k - 1) = true := fun k hk => by
    by_cases q : tN T k = 0
    · obtain ⟨a, b⟩ := vq k q hk
      have kn := (aq k (q5 k a) a).1
      have wk := hw.2.2.2 k kn
      rw [b]
      exact ⟨kn, by omega, (may_q q).mpr rfl⟩
    · rw [cp k q] at hk ⊢
      exact (mF _ (l3 k hk)).1.1 k hk
  have pq : ∀ k o, cmb T Q (sel D0 D1 D2) k ≠ 0 → cmb T Q (sel D0 D1 D2) o ≠ 0 → tN T k ≠ 0 → tN T o = 0 → cla T k (cmb T Q (sel D0 D1 D2) k - 1) o (cmb T Q (sel D0 D1 D2) o - 1) = false := fun k o hk ho q r => by
    obtain ⟨a, _⟩ := vq o r ho
    refine Bool.eq_false_iff.mpr (fun z => ?_)
    rcases (claX hw (v1 k hk).1 (v1 o ho).1 (v1 k hk).2.2 (v1 o ho).2.2).mpr z with y | y | y
    · rw [takeX_q r, Nat.and_zero] at y; exact y rfl
    · rw [cp k q] at hk y
      exact y ((mF _ (l3 k hk)).2.2.1 k hk o (q5 o a) a)
    · rw [ringX_q r, Nat.zero_and] at y; exact y rfl
  refine ⟨rb, ?_, ⟨v1, fun k o hk ho hko => ?_⟩, ?_⟩
  · apply Nat.eq_of_testBit_eq
    intro k
    apply bool_iff
    rw [qM_tb]
    constructor
    · rintro ⟨_, b, c⟩
      exact (vq k c b).1
    · intro h
      have c := (aq k (q5 k h) h).2
      exact ⟨q5 k h, by rw [cq k c, if_pos h]; omega, c⟩
  · by_cases q : tN T k = 0 <;> by_cases r : tN T o = 0
    · unfold cla; rw [if_pos ⟨q, r⟩]
    · rw [cla_sym]; exact pq o k ho hk r q
    · exact pq k o hk ho q r
    · by_cases s : tB T k = tB T o
      · rw [cp k q] at hk ⊢
        rw [cp o r, ← s] at ho ⊢
        exact (mF _ (l3 k hk)).1.2 k o hk ho hko
      · unfold cla
        rw [if_neg (fun z => q z.1), if_pos ⟨q, r⟩]
        exact decide_eq_false (fun z => s z.1)
  · unfold hdB
    rw [allN_iff]
    intro i hi
    rw [allN_iff]
    intro b hb
    unfold hd1
    have e : beM T (cmb T Q (sel D0 D1 D2)) b = beM T (sel D0 D1 D2 b) b := be_cong (fun k h1 h2 => by rw [cp k h1, h2])
    rw [e, (mF b (by omega)).2.2.2 hb i hi]
    simp
theorem rB_of {T : Tw} {β k : Nat} {D : Dy} (h : rB T β D k ≠ 0) : tN T k ≠ 0 ∧ tB T k = β ∧ rB T β D k = D k := by
  unfold rB at h ⊢
  by_cases c : tN T k ≠ 0 ∧ tB T k = β
  · rw [if_pos c]; exact ⟨c.1, c.2, rfl⟩
  · rw [if_neg c] at h; exact absurd rfl h
/-- what is taken apart -/
theorem cmb_of {T : Tw} (hw : WT T) {H : Hd} (hH : HB H) {D : Dy} (hD : VD T D) (hh : hdB T H D = true) : oQ T H (qM T D) = true ∧ cmb T (qM T D) (sel (rB T 0 D) (rB T 1 D) (rB T 2 D)) = D ∧ ∀ β, β < 3 → rB T β D ∈ FB T H (qM T D) β := by
  have h5 := hw.2.1
  have hd : ∀ i, i < H.1 → ∀ b, b < tNb T → (beM T D b).testBit (H.2 i).1 = (H.2 i).2.testBit b := fun i hi b hb => by
    unfold hdB at hh
    rw [allN_iff] at hh
    have := hh i hi
    rw [allN_iff] at this
    have := this b hb
    unfold hd1 at this
    exact eq_of_beq this
  have noc : ∀ k o, D k ≠ 0 → D o ≠ 0 → k ≠ o → ringX T k (D k - 1) &&& wantX T o = 0 := fun k o hk ho hko => by
    refine Decidable.byContradiction fun z => ?_
    have := (claX hw (hD.1 k hk).1 (hD.1 o ho).1 (hD.1 k hk).2.2 (hD.1 o ho).2.2).mp (Or.inr (Or.inl z))
    rw [hD.2 k o hk ho hko] at this
    cases this
  refine ⟨?_, ?_, fun β hβ => ?_⟩
  · unfold oQ
    rw [Bool.and_eq_true, decide_eq_true_eq, aQ_iff]
    refine ⟨fun k hk hq => ?_, ?_⟩
    · obtain ⟨_, b, c⟩ := qM_tb.mp hq
      exact ⟨(hD.1 k b).1, c⟩
    · rw [and_z]
      intro x h1 h2
      obtain ⟨i, hi, b, hb, e, rfl⟩ := muM_tb.mp h2
      have s10 := (hH.2 i hi).1
      have hb1 := hd i hi b hb
      rw [e] at hb1
      unfold wqM at h1
      rw [Nat.testBit_or, Bool.or_eq_true] at h1
      rcases h1 with h1 | h1
      · obtain ⟨j, hj, c, hc, f, ex⟩ := muM_tb.mp h1
        have t10 := (hH.2 j hj).1
        have e1 : c = b := by omega
        have e2 : (H.2 j).1 = (H.2 i).1 := by omega
        have := hd j hj c hc
        rw [f, e1, e2, hb1] at this
        cases this
      · obtain ⟨o, ho, h1⟩ := orN_tb.mp h1
        by_cases c : (qM T D).testBit o = true
        · rw [if_pos c] at h1
          obtain ⟨_, d1, d2⟩ := qM_tb.mp c
          rw [← bx hw hD.od s10] at hb1
          unfold rgE at hb1
          obtain ⟨k, hk, hb2⟩ := orN_tb.mp hb1
          by_cases d : D k = 0
          · rw [if_pos d] at hb2; simp at hb2
          · rw [if_neg d] at hb2
            by_cases ko : k = o
            · rw [ko, ringX_q d2] at hb2; simp at hb2
            · exact and_z.mp (noc k o d d1 ko) _ hb2 h1
        · rw [if_neg c] at h1; simp at h1
  · funext k
    show (if tN T k = 0 then (if (qM T D).testBit k = true then tF T k + 1 else 0) else sel (rB T 0 D) (rB T 1 D) (rB T 2 D) (tB T k) k) = D k
    by_cases q : tN T k = 0
    · rw [if_pos q]
      by_cases c : D k = 0
      · rw [if_neg (fun z => (qM_tb.mp z).2.1 c), c]
      · obtain ⟨d1, d2, d3⟩ := hD.1 k c
        have := (may_q q).mp d3
        rw [if_pos (qM_tb.mpr ⟨by omega, c, q⟩)]
        omega
    · rw [if_neg q]
      by_cases s : tB T k < 3
      · have : sel (rB T 0 D) (rB T 1 D) (rB T 2 D) (tB T k) = rB T (tB T k) D := sel_t (p := fun β E => E = rB T β D) rfl rfl rfl _ s
        rw [this]
        exact if_pos ⟨q, rfl⟩
      · rw [sel_g (by omega)]
        have z : D k = 0 := Decidable.byContradiction fun c => s (tB_lt hw (hD.1 k c).1 q)
        rw [z]
        exact if_neg (fun y => by omega)
  · refine (FB_mem hw hH).mpr ⟨hD.sub (fun k hk => (rB_of hk).2.2), fun k hk => ⟨(rB_of hk).1, (rB_of hk).2.1⟩, fun k hk o ho hq => ?_, fun hb i hi => ?_⟩
    · obtain ⟨a, _, e⟩ := rB_of hk
      obtain ⟨_, d1, d2⟩ := qM_tb.mp hq
      rw [e] at hk ⊢
      exact noc k o hk d1 (fun z => a (by rw [z]; exact d2))
    · have eb : beM T (rB T β D) β = beM T D β := be_cong (fun k h1 h2 => if_pos ⟨h1, h2⟩)
      rw [eb]
      exact hd i hi β hb
def ALL (T : Tw) (H : Hd) (e : Dy → Bool) : List Dy := (List.range 32).flatMap (fun Q => if oQ T H Q = true then ((FB T H Q 0).filter e).flatMap (fun D0 => ((FB T H Q 1).filter e).flatMap (fun D1 => ((FB T H Q 2).filter e).flatMap (fun D2 => [cmb T Q (sel D0 D1 D2)]))) else [])
def nQ (T : Tw) (H : Hd) (e : Dy → Bool) (Q : Nat) : Nat := (FB T H Q 0).countP e * (FB T H Q 1).countP e * (FB T H Q 2).countP e
theorem ALL_len (T : Tw) (H : Hd) (e : Dy → Bool) : (ALL T H e).length = suN (fun Q => if oQ T H Q = true then nQ T H e Q else 0) 32 := by
  unfold ALL
  rw [flat_su]
  refine suN_cong fun Q _ => ?_
  by_cases c : oQ T H Q = true
  · rw [if_pos c, if_pos c, flat_c (c := ((FB T H Q 1).filter e).length * (((FB T H Q 2).filter e).length * 1)) (fun D0 _ => flat_c (fun D1 _ => flat_c (fun D2 _ => rfl)))]
    unfold nQ
    rw [List.countP_eq_length_filter, List.countP_eq_length_filter, List.countP_eq_length_filter, Nat.mul_one, Nat.mul_assoc]
  · rw [if_neg c, if_neg c]; rfl
theorem ALL_iff {T : Tw} {H : Hd} {e : Dy → Bool} {x : Dy} : x ∈ ALL T H e ↔ ∃ Q, Q < 2 ^ 5 ∧ oQ T H Q = true ∧ ∃ D0 D1 D2, (∀ β, β < 3 → sel D0 D1 D2 β ∈ FB T H Q β ∧ e (sel D0 D1 D2 β) = true) ∧ x = cmb T Q (sel D0 D1 D2) := by
  unfold ALL
  rw [List.mem_flatMap]
  constructor
  · rintro ⟨Q, hQ, h⟩
    by_cases c : oQ T H Q = true
    · rw [if_pos c, List.mem_flatMap] at h
      obtain ⟨D0, h0, h⟩ := h
      rw [List.mem_flatMap] at h
      obtain ⟨D1, h1, h⟩ := h
      rw [List.mem_flatMap] at h
      obtain ⟨D2, h2, h⟩ := h
      exact ⟨Q, List.mem_range.mp hQ, c, D0, D1, D2, sel_t (p := fun β E => E ∈ FB T H Q β ∧ e E = true) (List.mem_filter.mp h0) (List.mem_filter.mp h1) (List.mem_filter.mp h2), List.mem_singleton.mp h⟩
    · rw [if_neg c] at h; cases h
  · rintro ⟨Q, hQ, c, D0, D1, D2, h, rfl⟩
    refine ⟨Q, List.mem_range.mpr hQ, ?_⟩
    rw [if_pos c]
    exact List.mem_flatMap.mpr ⟨D0, List.mem_filter.mpr (h 0 (by decide)), List.mem_flatMap.mpr ⟨D1, List.mem_filter.mpr (h 1 (by decide)), List.mem_flatMap.mpr ⟨D2, List.mem_filter.mpr (h 2 (by decide)), List.mem_singleton.mpr rfl⟩⟩⟩
theorem oQ_a {T : Tw} {H : Hd} {Q : Nat} (h : oQ T H Q = true) : aQ T Q = true := by
  unfold oQ at h
  rw [Bool.and_eq_true] at h
  exact h.1
theorem ALL_mem {T : Tw} (hw : WT T) {H : Hd} (hH : HB H) {e : Dy → Bool} {D : Dy} : D ∈ ALL T H e ↔ VD T D ∧ hdB T H D = true ∧ ∀ β, β < 3 → e (rB T β D) = true := by
  rw [ALL_iff]
  constructor
  · rintro ⟨Q, hQ, c, D0, D1, D2, h, rfl⟩
    obtain ⟨a1, a2, a3, a4⟩ := cmb_all hw hH hQ (oQ_a c) (fun β hβ => (h β hβ).1)
    exact ⟨a3, a4, fun β hβ => by rw [a1 β hβ]; exact (h β hβ).2⟩
  · rintro ⟨h1, h2, h3⟩
    obtain ⟨a1, a2, a3⟩ := cmb_of hw hH h1 h2
    exact ⟨qM T D, qM_lt T D, a1, _, _, _, sel_t (p := fun β E => E ∈ FB T H (qM T D) β ∧ e E = true) ⟨a3 0 (by decide), h3 0 (by decide)⟩ ⟨a3 1 (by decide), h3 1 (by decide)⟩ ⟨a3 2 (by decide), h3 2 (by decide)⟩, a2.symm⟩
theorem ALL_nd {T : Tw} (hw : WT T) {H : Hd} (hH : HB H) (e : Dy → Bool) : (ALL T H e).Nodup := by
  have nf : ∀ Q β, ((FB T H Q β).filter e).Nodup := fun Q β => List.Pairwise.filter e (FB_nd T H Q β)
  have sl : ∀ {Q : Nat} {D0 D1 D2 : Dy}, D0 ∈ (FB T H Q 0).filter e → D1 ∈ (FB T H Q 1).filter e → D2 ∈ (FB T H Q 2).filter e → ∀ β, β < 3 → sel D0 D1 D2 β ∈ FB T H Q β := fun h0 h1 h2 => sel_t (p := fun β E => E ∈ FB T H _ β) (List.mem_filter.mp h0).1 (List.mem_filter.mp h1).1 (List.mem_filter.mp h2).1
  unfold ALL
  refine nd_flat (qM T) List.nodup_range (fun Q hQ => ?_) (fun Q hQ x hx => ?_)
  · by_cases c : oQ T H Q = true
    · rw [if_pos c]
      have hQ' := List.mem_range.mp hQ
      refine nd_flat (rB T 0) (nf Q 0) (fun D0 h0 => ?_) (fun D0 h0 x hx => ?_)
      · refine nd_flat (rB T 1) (nf Q 1) (fun D1 h1 => ?_) (fun D1 h1 x hx => ?_)
        · refine nd_flat (rB T 2) (nf Q 2) (fun D2 h2 => List.nodup_cons.mpr ⟨by simp, List.Pairwise.nil⟩) (fun D2 h2 x hx => ?_)
          rw [List.mem_singleton.mp hx]
          exact (cmb_all hw hH hQ' (oQ_a c) (sl h0 h1 h2)).1 2 (by decide)
        · obtain ⟨D2, h2, hx⟩ := List.mem_flatMap.mp hx
          rw [List.mem_singleton.mp hx]
          exact (cmb_all hw hH hQ' (oQ_a c) (sl h0 h1 h2)).1 1 (by decide)
      · obtain ⟨D1, h1, hx⟩ := List.mem_flatMap.mp hx
        obtain ⟨D2, h2, hx⟩ := List.mem_flatMap.mp hx
        rw [List.mem_singleton.mp hx]
        exact (cmb_all hw hH hQ' (oQ_a c) (sl h0 h1 h2)).1 0 (by decide)
    · rw [if_neg c]; exact List.Pairwise.nil
  · by_cases c : oQ T H Q = true
    · rw [if_pos c] at hx
      obtain ⟨D0, h0, hx⟩ := List.mem_flatMap.mp hx
      obtain ⟨D1, h1, hx⟩ := List.mem_flatMap.mp hx
      obtain ⟨D2, h2, hx⟩ := List.mem_flatMap.mp hx
      rw [List.mem_singleton.mp hx]
      exact (cmb_all hw hH (List.mem_range.mp hQ) (oQ_a c) (sl h0 h1 h2)).2.1
    · rw [if_neg c] at hx; cases hx
/-- the reference's list of days that fit -/
def LH (T : Tw) (H : Hd) (N : Dy) : List Dy := hl T H (en (pR T N false) (tNd T) 0 (fun _ => 0))
theorem LH_mem {T : Tw} (hw : WT T) {H : Hd} {N : Dy} (hN : OD T N) {D : Dy} : D ∈ LH T H N ↔ VD T D ∧ hdB T H D = true := by
  unfold LH hl
  rw [List.mem_filter, mem_pR hw hN]
  exact ⟨fun z => ⟨z.1.1, z.2⟩, fun z => ⟨⟨z.1, fun y => absurd y (by decide)⟩, z.2⟩⟩
theorem LH_nd (T : Tw) (H : Hd) (N : Dy) : (LH T H N).Nodup := List.Pairwise.filter _ (en_nd (pR_loc T N false) _ 0 _)
theorem LH_len {T : Tw} (hw : WT T) (H : Hd) (N : Dy) : (LH T H N).length ≤ 161051 := by
  unfold LH hl
  have h1 := List.length_filter_le (hdB T H) (en (pR T N false) (tNd T) 0 (fun _ => 0))
  have h2 := en_len (p := pR T N false) (tNd T) 0 (fun _ => 0)
  have h3 : 11 ^ tNd T ≤ 11 ^ 5 := Nat.pow_le_pow_right (by decide) hw.2.1
  omega
/-- as many on one side as on the other -/
theorem cnt_eq {T : Tw} (hw : WT T) {H : Hd} (hH : HB H) {N : Dy} (hN : OD T N) (e : Dy → Bool) : suN (fun Q => if oQ T H Q = true then nQ T H e Q else 0) 32 = (LH T H N).countP (fun D => e (rB T 0 D) && (e (rB T 1 D) && e (rB T 2 D))) := by
  rw [← ALL_len, List.countP_eq_length_filter]
  have hm : ∀ D, D ∈ ALL T H e ↔ D ∈ (LH T H N).filter (fun D => e (rB T 0 D) && (e (rB T 1 D) && e (rB T 2 D))) := fun D => by
    rw [ALL_mem hw hH, List.mem_filter, LH_mem hw hN, Bool.and_eq_true, Bool.and_eq_true, and_assoc]
    refine and_congr_right fun _ => and_congr_right fun _ => ?_
    constructor
    · intro h
      exact ⟨h 0 (by decide), h 1 (by decide), h 2 (by decide)⟩
    · rintro ⟨a, b, c⟩ β hβ
      rcases (show β = 0 ∨ β = 1 ∨ β = 2 by omega) with rfl | rfl | rfl
      · exact a
      · exact b
      · exact c
  exact Nat.le_antisymm (List.Nodup.length_le_of_subset (ALL_nd hw hH e) (fun D h => (hm D).mp h)) (List.Nodup.length_le_of_subset (List.Pairwise.filter _ (LH_nd T H N)) (fun D h => (hm D).mpr h))
