/-! fit, likely -/
theorem suQ_tb {T : Tw} {H : Hd} {Q k : Nat} : (suQ T H Q).testBit k = true ↔ Q.testBit k = true ∨ ∃ β, β < 3 ∧ k < 5 ∧ ∀ D, D ∈ FB T H Q β → D k ≠ 0 := by
  unfold suQ
  rw [Nat.testBit_or, Bool.or_eq_true, orN_tb]
  refine or_congr Iff.rfl (exists_congr fun β => and_congr_right fun _ => ?_)
  rw [foldA_tb, show (31 : Nat) = 2 ^ 5 - 1 from rfl, Nat.testBit_two_pow_sub_one, decide_eq_true_eq]
  refine and_congr_right fun hk => forall_congr' fun D => forall_congr' fun _ => ?_
  rw [letM_tb]
  exact ⟨fun z => z.2, fun z => ⟨hk, z⟩⟩
theorem peQ_tb {T : Tw} {H : Hd} {Q k : Nat} : (peQ T H Q).testBit k = true ↔ Q.testBit k = true ∨ ∃ β, β < 3 ∧ ∃ D, D ∈ FB T H Q β ∧ k < 5 ∧ D k ≠ 0 := by
  unfold peQ
  rw [Nat.testBit_or, Bool.or_eq_true, orN_tb]
  refine or_congr Iff.rfl (exists_congr fun β => and_congr_right fun _ => ?_)
  rw [foldO_tb, z_tb]
  constructor
  · rintro (z | ⟨D, hD, z⟩)
    · cases z
    · exact ⟨D, hD, letM_tb.mp z⟩
  · rintro ⟨D, hD, z⟩
    exact Or.inr ⟨D, hD, letM_tb.mpr z⟩
theorem LH_all {T : Tw} (hw : WT T) {H : Hd} (hH : HB H) {N : Dy} (hN : OD T N) {D : Dy} : D ∈ LH T H N ↔ ∃ Q, Q < 2 ^ 5 ∧ oQ T H Q = true ∧ ∃ D0 D1 D2, (∀ β, β < 3 → sel D0 D1 D2 β ∈ FB T H Q β) ∧ D = cmb T Q (sel D0 D1 D2) := by
  have e : D ∈ LH T H N ↔ D ∈ ALL T H tt := by
    rw [LH_mem hw hN, ALL_mem hw hH]
    exact ⟨fun z => ⟨z.1, z.2, fun _ _ => rfl⟩, fun z => ⟨z.1, z.2.1⟩⟩
  rw [e, ALL_iff]
  constructor
  · rintro ⟨Q, h1, h2, D0, D1, D2, h3, h4⟩
    exact ⟨Q, h1, h2, D0, D1, D2, fun β hβ => (h3 β hβ).1, h4⟩
  · rintro ⟨Q, h1, h2, D0, D1, D2, h3, h4⟩
    exact ⟨Q, h1, h2, D0, D1, D2, fun β hβ => ⟨h3 β hβ, rfl⟩, h4⟩
theorem nQ_ne {T : Tw} {H : Hd} {Q : Nat} : nQ T H tt Q ≠ 0 ↔ ∀ β, β < 3 → ∃ E, E ∈ FB T H Q β := by
  have h : ∀ β, (FB T H Q β).countP tt ≠ 0 ↔ ∃ E, E ∈ FB T H Q β := fun β => by
    rw [tt_len]
    constructor
    · intro z
      exact List.exists_mem_of_ne_nil _ (fun y => z (by rw [y]; rfl))
    · rintro ⟨E, hE⟩ z
      rw [List.length_eq_zero_iff.mp z] at hE
      cases hE
  unfold nQ
  constructor
  · intro z β hβ
    rw [← h β]
    intro y
    refine z ?_
    rcases (show β = 0 ∨ β = 1 ∨ β = 2 by omega) with rfl | rfl | rfl
    · rw [y, Nat.zero_mul, Nat.zero_mul]
    · rw [y, Nat.mul_zero, Nat.zero_mul]
    · rw [y, Nat.mul_zero]
  · intro z
    have a := (h 0).mpr (z 0 (by decide))
    have b := (h 1).mpr (z 1 (by decide))
    have c := (h 2).mpr (z 2 (by decide))
    exact Nat.mul_ne_zero (Nat.mul_ne_zero a b) c
theorem cmb_q {T : Tw} {Q k : Nat} {Ds : Nat → Dy} (h : tN T k = 0) : cmb T Q Ds k ≠ 0 ↔ Q.testBit k = true := by
  unfold cmb
  rw [if_pos h]
  by_cases c : Q.testBit k = true
  · rw [if_pos c]; exact ⟨fun _ => c, fun _ => by omega⟩
  · rw [if_neg c]; exact ⟨fun z => absurd rfl z, fun z => absurd z c⟩
theorem cmb_p {T : Tw} {Q k : Nat} {Ds : Nat → Dy} (h : tN T k ≠ 0) : cmb T Q Ds k = Ds (tB T k) k := if_neg h
/-- beside the others any day of one bell may stand -/
theorem rep {T : Tw} (hw : WT T) {H : Hd} (hH : HB H) {N : Dy} (hN : OD T N) {Q : Nat} (hQ : Q < 2 ^ 5) (ho : oQ T H Q = true) (hF : ∀ β, β < 3 → ∃ E, E ∈ FB T H Q β) {β : Nat} (hβ : β < 3) {D' : Dy} (hD : D' ∈ FB T H Q β) : ∃ D, D ∈ LH T H N ∧ (∀ k, tN T k = 0 → (D k ≠ 0 ↔ Q.testBit k = true)) ∧ ∀ k, tN T k ≠ 0 → tB T k = β → D k = D' k := by
  obtain ⟨E0, e0⟩ := hF 0 (by decide)
  obtain ⟨E1, e1⟩ := hF 1 (by decide)
  obtain ⟨E2, e2⟩ := hF 2 (by decide)
  have go : ∀ D0 D1 D2, (∀ γ, γ < 3 → sel D0 D1 D2 γ ∈ FB T H Q γ) → sel D0 D1 D2 β = D' → ∃ D, D ∈ LH T H N ∧ (∀ k, tN T k = 0 → (D k ≠ 0 ↔ Q.testBit k = true)) ∧ ∀ k, tN T k ≠ 0 → tB T k = β → D k = D' k := fun D0 D1 D2 h e => ⟨cmb T Q (sel D0 D1 D2), (LH_all hw hH hN).mpr ⟨Q, hQ, ho, D0, D1, D2, h, rfl⟩, fun k hk => cmb_q hk, fun k h1 h2 => by rw [cmb_p h1, h2, e]⟩
  rcases (show β = 0 ∨ β = 1 ∨ β = 2 by omega) with rfl | rfl | rfl
  · exact go D' E1 E2 (sel_t (p := fun γ E => E ∈ FB T H Q γ) hD e1 e2) rfl
  · exact go E0 D' E2 (sel_t (p := fun γ E => E ∈ FB T H Q γ) e0 hD e2) rfl
  · exact go E0 E1 D' (sel_t (p := fun γ E => E ∈ FB T H Q γ) e0 e1 hD) rfl
theorem inA {T : Tw} (hw : WT T) {H : Hd} (hH : HB H) {N : Dy} (hN : OD T N) (hne : LH T H N ≠ []) {A : Nat} (hA : ∀ k, A.testBit k = true ↔ k < 5 ∧ ∀ Q, Q < 32 → oQ T H Q = true → nQ T H tt Q ≠ 0 → (suQ T H Q).testBit k = true) : A = (LH T H N).foldl (fun a D => a &&& letM D) (2 ^ tNd T - 1) := by
  have h5 := hw.2.1
  apply Nat.eq_of_testBit_eq
  intro k
  apply bool_iff
  rw [hA k, foldA_tb, Nat.testBit_two_pow_sub_one, decide_eq_true_eq]
  constructor
  · rintro ⟨h1, h2⟩
    have key : ∀ D, D ∈ LH T H N → D k ≠ 0 := fun D hD => by
      obtain ⟨Q, q1, q2, D0, D1, D2, q3, rfl⟩ := (LH_all hw hH hN).mp hD
      rcases suQ_tb.mp (h2 Q q1 q2 (nQ_ne.mpr (fun β hβ => ⟨_, q3 β hβ⟩))) with z | ⟨β, hβ, _, z⟩
      · exact (cmb_q (aQ_iff.mp (oQ_a q2) k h1 z).2).mpr z
      · have y := z _ (q3 β hβ)
        obtain ⟨s1, s2⟩ := ((FB_mem hw hH).mp (q3 β hβ)).2.1 k y
        rw [cmb_p s1, s2]
        exact y
    obtain ⟨D, hD⟩ := List.exists_mem_of_ne_nil _ hne
    exact ⟨(((LH_mem hw hN).mp hD).1.1 k (key D hD)).1, fun D hD => letM_tb.mpr ⟨h1, key D hD⟩⟩
  · rintro ⟨h1, h2⟩
    refine ⟨by omega, fun Q q1 q2 q3 => suQ_tb.mpr ?_⟩
    have hF := nQ_ne.mp q3
    by_cases c : tN T k = 0
    · obtain ⟨E, hE⟩ := hF 0 (by decide)
      obtain ⟨D, d1, d2, _⟩ := rep hw hH hN q1 q2 hF (by decide) hE
      exact Or.inl ((d2 k c).mp (letM_tb.mp (h2 D d1)).2)
    · have hb := tB_lt hw h1 c
      refine Or.inr ⟨tB T k, hb, by omega, fun D' hD' => ?_⟩
      obtain ⟨D, d1, _, d3⟩ := rep hw hH hN q1 q2 hF hb hD'
      rw [← d3 k c rfl]
      exact (letM_tb.mp (h2 D d1)).2
theorem inO {T : Tw} (hw : WT T) {H : Hd} (hH : HB H) {N : Dy} (hN : OD T N) {O : Nat} (hO : ∀ k, O.testBit k = true ↔ ∃ Q, Q < 32 ∧ oQ T H Q = true ∧ nQ T H tt Q ≠ 0 ∧ (peQ T H Q).testBit k = true) : O = (LH T H N).foldl (fun a D => a ||| letM D) 0 := by
  have h5 := hw.2.1
  apply Nat.eq_of_testBit_eq
  intro k
  apply bool_iff
  rw [hO k, foldO_tb, z_tb]
  constructor
  · rintro ⟨Q, q1, q2, q3, q4⟩
    have hF := nQ_ne.mp q3
    refine Or.inr ?_
    rcases peQ_tb.mp q4 with z | ⟨β, hβ, D', hD', k5, z⟩
    · have k5 : k < 5 := lt_tb (show Q < 2 ^ 5 from q1) z
      obtain ⟨E, hE⟩ := hF 0 (by decide)
      obtain ⟨D, d1, d2, _⟩ := rep hw hH hN q1 q2 hF (by decide) hE
      exact ⟨D, d1, letM_tb.mpr ⟨k5, (d2 k (aQ_iff.mp (oQ_a q2) k k5 z).2).mpr z⟩⟩
    · obtain ⟨s1, s2⟩ := ((FB_mem hw hH).mp hD').2.1 k z
      obtain ⟨D, d1, _, d3⟩ := rep hw hH hN q1 q2 hF hβ hD'
      exact ⟨D, d1, letM_tb.mpr ⟨k5, by rw [d3 k s1 s2]; exact z⟩⟩
  · rintro (z | ⟨D, hD, z⟩)
    · cases z
    · obtain ⟨k5, dk⟩ := letM_tb.mp z
      have kn := (((LH_mem hw hN).mp hD).1.1 k dk).1
      obtain ⟨Q, q1, q2, D0, D1, D2, q3, rfl⟩ := (LH_all hw hH hN).mp hD
      refine ⟨Q, q1, q2, nQ_ne.mpr (fun β hβ => ⟨_, q3 β hβ⟩), peQ_tb.mpr ?_⟩
      by_cases c : tN T k = 0
      · exact Or.inl ((cmb_q c).mp dk)
      · rw [cmb_p c] at dk
        exact Or.inr ⟨tB T k, tB_lt hw kn c, _, q3 _ (tB_lt hw kn c), k5, dk⟩
/-- nothing rings in that second -/
theorem ask_tb {s x : Nat} (hs : s < 10) : (1049601 * 2 ^ s).testBit x = true ↔ ∃ b, b < 3 ∧ x = 10 * b + s := by
  rw [Nat.mul_comm, eb_tb (pow_lt hs)]
  by_cases c : x < 10
  · rw [if_pos c, pow_tb, decide_eq_true_eq]
    exact ⟨fun z => ⟨0, by decide, by omega⟩, fun ⟨b, _, z⟩ => by omega⟩
  · rw [if_neg c]
    by_cases d : x < 20
    · rw [if_pos d, pow_tb, decide_eq_true_eq]
      exact ⟨fun z => ⟨1, by decide, by omega⟩, fun ⟨b, _, z⟩ => by omega⟩
    · rw [if_neg d, pow_tb, decide_eq_true_eq]
      exact ⟨fun z => ⟨2, by decide, by omega⟩, fun ⟨b, _, z⟩ => by omega⟩
theorem sil_iff {T : Tw} (hw : WT T) {E : Dy} (hE : OD T E) {s : Nat} (hs : s < 10) : silD T (1049601 * 2 ^ s) E = true ↔ ∀ b, b < 3 → (beM T E b).testBit s = false := by
  unfold silD
  rw [decide_eq_true_eq, and_z]
  constructor
  · intro h b hb
    refine Bool.eq_false_iff.mpr fun z => ?_
    rw [← bx hw hE hs] at z
    exact h _ z ((ask_tb hs).mpr ⟨b, hb, rfl⟩)
  · intro h x h1 h2
    obtain ⟨b, hb, rfl⟩ := (ask_tb hs).mp h2
    rw [bx hw hE hs, h b hb] at h1
    cases h1
theorem sil_all {T : Tw} (hw : WT T) {D : Dy} (hD : VD T D) {s : Nat} (hs : s < 10) : (silD T (1049601 * 2 ^ s) (rB T 0 D) && (silD T (1049601 * 2 ^ s) (rB T 1 D) && silD T (1049601 * 2 ^ s) (rB T 2 D))) = !(raM T D).testBit s := by
  have od : ∀ β, OD T (rB T β D) := fun β => (hD.sub (fun k hk => (rB_of hk).2.2)).od
  have one : ∀ β, β < 3 → (silD T (1049601 * 2 ^ s) (rB T β D) = true ↔ (beM T D β).testBit s = false) := fun β hβ => by
    have eb : beM T (rB T β D) β = beM T D β := be_cong (fun k h1 h2 => if_pos ⟨h1, h2⟩)
    rw [sil_iff hw (od β) hs]
    constructor
    · intro h
      have := h β hβ
      rw [eb] at this
      exact this
    · intro h b hb
      by_cases c : b = β
      · rw [c, eb]; exact h
      · refine Bool.eq_false_iff.mpr fun z => ?_
        unfold beM at z
        obtain ⟨k, _, k2, _, k4, _⟩ := rpM_tb.mp z
        exact c (k4.symm.trans (rB_of k2).2.1)
  apply bool_iff
  rw [Bool.and_eq_true, Bool.and_eq_true, one 0 (by decide), one 1 (by decide), one 2 (by decide), ← be_any hw hD.od, Nat.testBit_or, Nat.testBit_or]
  cases (beM T D 0).testBit s <;> cases (beM T D 1).testBit s <;> cases (beM T D 2).testBit s <;> decide
theorem sum_tt {T : Tw} (hw : WT T) {H : Hd} (hH : HB H) {N : Dy} (hN : OD T N) : suN (fun Q => if oQ T H Q = true then nQ T H tt Q else 0) 32 = (LH T H N).length := by
  rw [cnt_eq hw hH hN tt, ← tt_len]
  rfl
theorem nQ_bd {T : Tw} (hw : WT T) {H : Hd} (hH : HB H) {N : Dy} (hN : OD T N) : ∀ Q, Q < 32 → oQ T H Q = true → nQ T H tt Q < 2 ^ 31 := fun Q hQ ho => by
  have h1 := suN_ge (f := fun Q => if oQ T H Q = true then nQ T H tt Q else 0) hQ
  rw [sum_tt hw hH hN] at h1
  have h2 : (if oQ T H Q = true then nQ T H tt Q else 0) ≤ (LH T H N).length := h1
  rw [if_pos ho] at h2
  have h3 := LH_len hw H N
  omega
/-- class and reference alike -/
theorem both {σ : Mm} {S : Sp} (hw : WF S) (hX : XI σ S) (hM : MI σ S) {ask : Nat} (hask : ask < 2 ^ 30) : ∃ τ ρ A O, f_X2_tally (nI ask) σ = some τ ∧ f_X10_goThrough 0 τ = some ρ ∧ INV ρ ∧ INV τ ∧ τ.1 3 1 = nI (tNd S.2.1) ∧ ρ.1 46 1 = nI (tNd S.2.1) ∧ τ.1 39 1 = nI (LH S.2.1 S.2.2.2.2.1 S.2.2.1).length ∧ ρ.1 46 21 = nI (LH S.2.1 S.2.2.2.2.1 S.2.2.1).length ∧ τ.1 39 2 = nI ((LH S.2.1 S.2.2.2.2.1 S.2.2.1).countP (fun D => silD S.2.1 ask (rB S.2.1 0 D) && (silD S.2.1 ask (rB S.2.1 1 D) && silD S.2.1 ask (rB S.2.1 2 D)))) ∧ (∀ s, s < 10 → ρ.1 58 s = nI ((LH S.2.1 S.2.2.2.2.1 S.2.2.1).countP (fun D => (raM S.2.1 D).testBit s))) ∧ τ.1 39 3 = nI A ∧ (LH S.2.1 S.2.2.2.2.1 S.2.2.1 ≠ [] → ρ.1 46 22 = nI A) ∧ τ.1 39 4 = nI O ∧ ρ.1 46 23 = nI O := by
  have wT := hw.2.1
  have hH : HB S.2.2.2.2.1 := hw.2.2.2.2.1
  have hN := hw.2.2.1.od
  obtain ⟨τ, t1, t2, t3, l1, l2, A, O, l3, l4, l5, l6, l7, l8⟩ := xTally hX.2.1 wT hX.2.2.2.2.1 hH hask (nQ_bd wT hH hN)
  have hXt : XI τ S := hX.of ⟨fun k h1 h2 => t2 k (by omega), fun k h1 h2 => t2 k (by omega), fun k h1 h2 => t2 k (by omega), by rw [t3], by rw [t3]⟩
  have hHi : Hi σ τ := fun k hk => ⟨t2 k (by omega), by rw [t3]⟩
  have hMτ := hM.hi hHi
  obtain ⟨ρ, r1, r2, r3, r4⟩ := mGo hw hMτ false
  have hMρ := hMτ.of r2
  obtain ⟨q1, q2, q3, q4, q5, q6⟩ := r4
  have hA := inA wT hH hN (A := A) (N := S.2.2.1)
  rw [inO wT hH hN l8] at l4
  rw [sum_tt wT hH hN] at l1
  rw [cnt_eq wT hH hN] at l2
  exact ⟨τ, ρ, A, _, t1, r1, ⟨S, hw, hXt.of r3.X, hMρ⟩, ⟨S, hw, hXt, hMτ⟩, hXt.2.1.2.1, hMρ.2.1.2.1, l1, q3, l2, q6, l3, fun z => by rw [hA z l7]; exact q4, l4, q5⟩
theorem op_fit {σ : Mm} (hI : INV σ) : ∀ a : Int32, ∃ v τ ρ, f_X9_fit a σ = some (v, τ) ∧ f_X10_fit a τ = some (v, ρ) ∧ INV ρ := by
  intro a
  obtain ⟨S, hw, hX, hM⟩ := id hI
  have wT := hw.2.1
  have h5 := wT.2.1
  unfold f_X9_fit f_X10_fit
  by_cases h1 : ¬ a < 0 ∧ ¬ nI 2 < a
  · obtain ⟨τ, ρ, A, O, t1, r1, hIρ, hIτ, n1, n2, d1, d2, _, _, a1, a2, o1, o2⟩ := both hw hX hM (ask := 0) (by decide)
    have hl := LH_len wT S.2.2.2.2.1 S.2.2.1
    have t1' : f_X2_tally 0 σ = some τ := t1
    have hin : f_X10_in τ a.toInt64 0 2 = some 1 := by rw [lL 2, in_ok τ a 2 (by decide), if_pos h1]
    rw [if_neg h1.1, if_pos (show a ≤ 2 by rw [lI 2, gt_iff]; exact h1.2), t1', b1_some]
    by_cases c0 : a = 0
    · refine ⟨τ.1 39 1, τ, ρ, by rw [if_pos c0], ?_, hIρ⟩
      rw [hin, b1_some, if_neg n10, r1, b1_some, if_pos c0, d1, d2]
    · by_cases c1 : LH S.2.1 S.2.2.2.2.1 S.2.2.1 = []
      · have z : nI (LH S.2.1 S.2.2.2.2.1 S.2.2.1).length = 0 := by rw [c1]; rfl
        refine ⟨-9, τ, ρ, by rw [if_neg c0, d1, if_pos z], ?_, hIρ⟩
        rw [hin, b1_some, if_neg n10, r1, b1_some, if_neg c0, d2, if_pos z]
      · have z : ¬ nI (LH S.2.1 S.2.2.2.2.1 S.2.2.1).length = 0 := by
          rw [nI_0iff (by omega)]
          exact fun y => c1 (List.length_eq_zero_iff.mp y)
        by_cases c2 : a = 1
        · refine ⟨nI A, τ, ρ, by rw [if_neg c0, d1, if_neg z, if_pos c2, a1], ?_, hIρ⟩
          rw [hin, b1_some, if_neg n10, r1, b1_some, if_neg c0, d2, if_neg z, if_pos c2, a2 c1]
        · refine ⟨(jshl 1 (nI (tNd S.2.1)) - 1) &&& (nI O ^^^ -1), τ, ρ, ?_, ?_, hIρ⟩
          · rw [if_neg c0, d1, if_neg z, if_neg c2]
            unfold f_X8_everyone
            rw [n1, b1_some, o1]
          · rw [hin, b1_some, if_neg n10, r1, b1_some, if_neg c0, d2, if_neg z, if_neg c2, n2, o2]
  · refine ⟨-2, σ, σ, ?_, ?_, hI⟩
    · by_cases h2 : a < 0
      · rw [if_pos h2]
      · rw [if_neg h2, if_neg (show ¬ a ≤ 2 by rw [lI 2, gt_iff]; intro h3; exact h1 ⟨h2, h3⟩)]
    · have hin : f_X10_in σ a.toInt64 0 2 = some 0 := by rw [lL 2, in_ok σ a 2 (by decide), if_neg h1]
      rw [hin, b1_some, if_pos rfl]
theorem gcd_st {a b : Nat} : Nat.gcd a b = Nat.gcd b (a % b) := by
  rw [Nat.gcd_comm a b, Nat.gcd_rec b a, Nat.gcd_comm]
theorem mod_half {b r : Nat} (h0 : 0 < r) (h : r ≤ b) : 2 * (b % r) < b := by
  have h1 := Nat.mod_lt b h0
  have h2 : b % r ≤ b - r := by rw [Nat.mod_eq_sub_mod h]; exact Nat.mod_le _ _
  omega
theorem xGcd (σ : Mm) : ∀ (j a b t fuel : Nat), b < 2 ^ j → a < 2 ^ 31 → b < 2 ^ 31 → t + 2 * j < 64 → 2 * j < fuel → f_X9_commonDivisor_p7 σ fuel (nI a) (nI b) (nI t) = some (nI (Nat.gcd a b)) := by
  have z : ∀ a t fuel, t < 64 → f_X9_commonDivisor_p7 σ (fuel + 1) (nI a) (nI 0) (nI t) = some (nI (Nat.gcd a 0)) := fun a t fuel ht => by
    rw [f_X9_commonDivisor_p7, lI 64, if_neg (nI_ge ht (by decide)), if_pos nI0, Nat.gcd_zero_right]
  have st : ∀ a b t fuel, t < 64 → b ≠ 0 → a < 2 ^ 31 → b < 2 ^ 31 → f_X9_commonDivisor_p7 σ (fuel + 1) (nI a) (nI b) (nI t) = f_X9_commonDivisor_p7 σ fuel (nI b) (nI (a % b)) (nI (t + 1)) := fun a b t fuel ht hb ha hbl => by
    have hz : ¬ nI b = 0 := by rw [nI_0iff hbl]; exact hb
    rw [f_X9_commonDivisor_p7, lI 64, if_neg (nI_ge ht (by decide)), if_neg hz, gd_t (decide_eq_true hz), jrem_nI ha (by omega) hbl, lI 1, nI_add]
  intro j
  induction j with
  | zero =>
    intro a b t fuel hb ha _ ht hf
    obtain ⟨fuel, rfl⟩ : ∃ f, fuel = f + 1 := ⟨fuel - 1, by omega⟩
    have e : b = 0 := by omega
    subst e
    exact z a t fuel (by omega)
  | succ j ih =>
    intro a b t fuel hb ha hbl ht hf
    obtain ⟨fuel, rfl⟩ : ∃ f, fuel = f + 2 := ⟨fuel - 2, by omega⟩
    by_cases c : b = 0
    · subst c
      exact z a t (fuel + 1) (by omega)
    · have r1 := Nat.mod_lt a (show 0 < b by omega)
      rw [show fuel + 2 = fuel + 1 + 1 from rfl, st a b t (fuel + 1) (by omega) c ha hbl, gcd_st (a := a)]
      by_cases d : a % b = 0
      · rw [d]
        exact z b (t + 1) fuel (by omega)
      · rw [st b (a % b) (t + 1) fuel (by omega) d hbl (by omega), gcd_st (a := b)]
        have r2 := mod_half (show 0 < a % b by omega) (show a % b ≤ b by omega)
        exact ih (a % b) (b % (a % b)) (t + 1 + 1) fuel (by rw [Nat.pow_succ] at hb; omega) (by omega) (by omega) (by omega) (by omega)
theorem mGcd (σ : Mm) : ∀ (j a b fuel : Nat), b < 2 ^ j → a < 2 ^ 31 → b < 2 ^ 31 → 2 * j < fuel → f_X10_common_p4 σ fuel (nI a) (nI b) = some (nI (Nat.gcd a b)) := by
  have z : ∀ a fuel, f_X10_common_p4 σ (fuel + 1) (nI a) (nI 0) = some (nI (Nat.gcd a 0)) := fun a fuel => by
    rw [f_X10_common_p4, if_pos nI0, Nat.gcd_zero_right]
  have st : ∀ a b fuel, b ≠ 0 → a < 2 ^ 31 → b < 2 ^ 31 → f_X10_common_p4 σ (fuel + 1) (nI a) (nI b) = f_X10_common_p4 σ fuel (nI b) (nI (a % b)) := fun a b fuel hb ha hbl => by
    have hz : ¬ nI b = 0 := by rw [nI_0iff hbl]; exact hb
    rw [f_X10_common_p4, if_neg hz, gd_t (decide_eq_true hz), jrem_nI ha (by omega) hbl]
  intro j
  induction j with
  | zero =>
    intro a b fuel hb ha _ hf
    obtain ⟨fuel, rfl⟩ : ∃ f, fuel = f + 1 := ⟨fuel - 1, by omega⟩
    have e : b = 0 := by omega
    subst e
    exact z a fuel
  | succ j ih =>
    intro a b fuel hb ha hbl hf
    obtain ⟨fuel, rfl⟩ : ∃ f, fuel = f + 2 := ⟨fuel - 2, by omega⟩
    by_cases c : b = 0
    · subst c
      exact z a (fuel + 1)
    · have r1 := Nat.mod_lt a (show 0 < b by omega)
      rw [show fuel + 2 = fuel + 1 + 1 from rfl, st a b (fuel + 1) c ha hbl, gcd_st (a := a)]
      by_cases d : a % b = 0
      · rw [d]
        exact z b fuel
      · rw [st b (a % b) fuel d hbl (by omega), gcd_st (a := b)]
        have r2 := mod_half (show 0 < a % b by omega) (show a % b ≤ b by omega)
        exact ih (a % b) (b % (a % b)) fuel (by rw [Nat.pow_succ] at hb; omega) (by omega) (by omega) (by omega)
theorem op_likely {σ : Mm} (hI : INV σ) : ∀ a q : Int32, (q = 0 ∨ q = 1) → ∃ v τ ρ, f_X9_likely a q σ = some (v, τ) ∧ f_X10_likely a q τ = some (v, ρ) ∧ INV ρ := by
  intro a q _
  obtain ⟨S, hw, hX, hM⟩ := id hI
  have wT := hw.2.1
  have h5 := wT.2.1
  have hN := hw.2.2.1.od
  unfold f_X9_likely f_X10_likely
  rw [isSecond_eq]
  by_cases h1 : ¬ a < 0 ∧ a < nI 10
  · obtain ⟨s, hs, rfl⟩ := okx (by decide) h1
    have p10 := pow_lt hs
    obtain ⟨τ, ρ, A, O, t1, r1, hIρ, hIτ, n1, n2, d1, d2, s1, s2, a1, a2, o1, o2⟩ := both hw hX hM (ask := 1049601 * 2 ^ s) (by omega)
    have hl := LH_len wT S.2.2.2.2.1 S.2.2.1
    obtain ⟨F, hF⟩ : ∃ F, F = LH S.2.1 S.2.2.2.2.1 S.2.2.1 := ⟨_, rfl⟩
    have e2 : F.countP (fun D => silD S.2.1 (1049601 * 2 ^ s) (rB S.2.1 0 D) && (silD S.2.1 (1049601 * 2 ^ s) (rB S.2.1 1 D) && silD S.2.1 (1049601 * 2 ^ s) (rB S.2.1 2 D))) = F.countP (fun D => !(raM S.2.1 D).testBit s) := by
      refine List.countP_congr fun D hD => ?_
      rw [hF] at hD
      rw [sil_all wT ((LH_mem wT hN).mp hD).1 hs]
    have e3 := List.length_eq_countP_add_countP (fun D => (raM S.2.1 D).testBit s) (l := F)
    have e4 : F.countP (fun D => decide ¬ (raM S.2.1 D).testBit s = true) = F.countP (fun D => !(raM S.2.1 D).testBit s) := List.countP_congr fun D _ => by cases (raM S.2.1 D).testBit s <;> simp
    rw [← hF] at d1 d2 s1 hl
    have s2' := s2 s hs
    rw [← hF] at s2'
    rw [e2] at s1
    have e3' : F.length = F.countP (fun D => (raM S.2.1 D).testBit s) + F.countP (fun D => !(raM S.2.1 D).testBit s) := by rw [← e4]; exact e3
    generalize F.countP (fun D => (raM S.2.1 D).testBit s) = x at s2' e3'
    generalize F.countP (fun D => !(raM S.2.1 D).testBit s) = y at s1 e3'
    generalize F.length = n at d1 d2 hl e3'
    have hin : f_X10_in τ (nI s).toInt64 0 9 = some 1 := by rw [in_sec, if_pos h1]
    rw [if_pos h1, b1_some, if_neg n10, lI 1049601, shl_nI 1049601 (by omega), t1, b1_some, d1, s1]
    by_cases c0 : n = 0
    · refine ⟨-3, τ, ρ, by rw [if_pos (by rw [c0]; rfl)], ?_, hIρ⟩
      rw [hin, b1_some, if_neg n10, r1, b1_some, d2, if_pos (by rw [c0]; rfl)]
    · have hz : ¬ nI n = 0 := by rw [nI_0iff (by omega)]; exact c0
      have hg := Nat.gcd_pos_of_pos_left x (show 0 < n by omega)
      have hgl := Nat.gcd_le_left x (show 0 < n by omega)
      have g1 : f_X9_commonDivisor τ (nI n) (nI n - nI y) = some (nI (Nat.gcd n x)) := by
        unfold f_X9_commonDivisor
        rw [pk_sub (by omega), show n - y = x by omega]
        exact xGcd τ 18 n x 0 FU (by omega) (by omega) (by omega) (by omega) (by decide)
      have g2 : f_X10_common ρ (nI x) (nI n) = some (nI (Nat.gcd n x)) := by
        unfold f_X10_common
        rw [Nat.gcd_comm]
        exact mGcd ρ 18 x n FU (by omega) (by omega) (by omega) (by decide)
      have gz : ¬ nI (Nat.gcd n x) = 0 := by rw [nI_0iff (by omega)]; omega
      have gi : inB (nI s) 10 = true := inB_t hs (by decide)
      refine ⟨if q = 0 then nI n / nI (Nat.gcd n x) else nI x / nI (Nat.gcd n x), τ, ρ, ?_, ?_, hIρ⟩
      · rw [if_neg hz, g1, b1_some, lI 1, if_pos (nI_le (by omega) (by omega)), gd_t (decide_eq_true gz), gd_t (decide_eq_true gz), pk_sub (by omega), show n - y = x by omega]
        split <;> rfl
      · rw [hin, b1_some, if_neg n10, r1, b1_some, d2, if_neg hz, gd_t gi, cl_nI (by omega), s2', g2, b1_some, gd_t gi, gd_t (decide_eq_true gz), gd_t (decide_eq_true gz)]
        split <;> rfl
  · refine ⟨-2, σ, σ, ?_, ?_, hI⟩
    · rw [if_neg h1, b1_some, if_pos rfl]
    · rw [in_sec, if_neg h1, b1_some, if_pos rfl]
