/-! day, sealed -/
theorem lush_b (x : Int64) : ∃ m, m < 2 ^ 31 ∧ jlushr x 33 = lN m := by
  refine ⟨x.toBitVec.toNat / 2 ^ 33, ?_, ?_⟩
  · have := x.toBitVec.isLt
    omega
  · unfold jlushr
    apply Int64.toBitVec_inj.1
    show (x.toUInt64 >>> ((33 : Int32).toInt64.toUInt64 &&& Int64.toUInt64 63)).toBitVec = BitVec.ofNat 64 (x.toBitVec.toNat / 2 ^ 33)
    rw [UInt64.toBitVec_shiftRight]
    apply BitVec.eq_of_toNat_eq
    have e : (((33 : Int32).toInt64.toUInt64 &&& Int64.toUInt64 63).toBitVec % 64) = (33 : BitVec 64) := by decide
    rw [e, BitVec.toNat_ofNat]
    show (x.toBitVec >>> (33 : BitVec 64)).toNat = _
    rw [BitVec.ushiftRight_eq', BitVec.toNat_ushiftRight]
    show x.toBitVec.toNat >>> 33 = _
    rw [Nat.shiftRight_eq_div_pow]
    have := x.toBitVec.isLt
    rw [Nat.mod_eq_of_lt (by omega)]
theorem drw_ex (w : Int64) : ∃ v, v < 50 ∧ (jlrem (jlushr w 33) 50).toInt32 = nI v := by
  obtain ⟨m, hm, e⟩ := lush_b w
  refine ⟨m % 50, Nat.mod_lt _ (by decide), ?_⟩
  unfold jlrem
  rw [e, lL 50, pk_lRem (by omega) (by decide) (by decide), lN_i]
def drw (w : Int64) : Nat := ((jlrem (jlushr w 33) 50).toInt32).toNatClampNeg
theorem drw_eq (w : Int64) : drw w < 50 ∧ (jlrem (jlushr w 33) 50).toInt32 = nI (drw w) := by
  obtain ⟨v, hv, e⟩ := drw_ex w
  unfold drw
  rw [e, cl_nI (by omega)]
  exact ⟨hv, rfl⟩
/-- m times drawn -/
def dr (T : Tw) (nx : Int64 → Int64) (dw : Int64 → Nat) : Nat → Int64 → Dy → Int64 × Dy
  | 0, w, E => (w, E)
  | m + 1, w, E => dr T nx dw m (nx w) (stS T E (dw (nx w)))
theorem dr_s (T : Tw) (nx : Int64 → Int64) (dw : Int64 → Nat) (m : Nat) (w : Int64) (E : Dy) : dr T nx dw (m + 1) w E = dr T nx dw m (nx w) (stS T E (dw (nx w))) := by rw [dr]
theorem dr_0 (T : Tw) (nx : Int64 → Int64) (dw : Int64 → Nat) (w : Int64) (E : Dy) : dr T nx dw 0 w E = (w, E) := by rw [dr]
theorem sJ_s {σ : Mm} {k j : Nat} {v : Int64} : (sJ σ k j v).2 k j = v := by rw [sJ_2, if_pos ⟨rfl, rfl⟩]
theorem xDay {T : Tw} (hw : WT T) {n : Nat} (hn : n < 100) {nx : Int64 → Int64} {dw : Int64 → Nat} (hnx : ∀ w : Int64, w * 6364136223846793005 + 1442695040888963407 = nx w) (hdw : ∀ w, dw w < 50 ∧ (jlrem (jlushr w 33) 50).toInt32 = nI (dw w)) : ∀ (m i fu : Nat) (E : Dy) (τ : Mm), i + m = n → m < fu → XTw τ T → XD τ 19 E → VD T E → ∃ τ', f_X9_day_p27 fu (nI n) (nI i) τ = some (nI (worM T (letM (dr T nx dw m (τ.2 0 12) E).2)), τ') ∧ (∀ c, c ≠ 19 → τ'.1 c = τ.1 c) ∧ (∀ c, c ≠ 0 → τ'.2 c = τ.2 c) ∧ τ'.2 0 12 = (dr T nx dw m (τ.2 0 12) E).1
  | 0, i, fu, E, τ, hi, hf, hT, hd, hE => by
    obtain ⟨fu, rfl⟩ : ∃ f, fu = f + 1 := ⟨fu - 1, by omega⟩
    refine ⟨τ, ?_, fun _ _ => rfl, fun _ _ => rfl, by rw [dr_0]⟩
    rw [f_X9_day_p27, if_pos (nI_le (by omega) (by omega)), xWorth hT hw (K := 18) hd hE.od, b1_some, dr_0]
  | m + 1, i, fu, E, τ, hi, hf, hT, hd, hE => by
    obtain ⟨fu, rfl⟩ : ∃ f, fu = f + 1 := ⟨fu - 1, by omega⟩
    rw [dr_s]
    obtain ⟨w, hwe⟩ : ∃ w, w = nx (τ.2 0 12) := ⟨_, rfl⟩
    rw [← hwe]
    let τ1 : Mm := sJ τ 0 12 w
    have hv := hdw w
    obtain ⟨τ', e1, e2, e3, e4⟩ := xStep (τ := τ1) (hT.of (fun _ _ _ => rfl) (sJ_ne (by decide)).2) hw hd hE (show dw w < 100 by omega)
    have ew : τ1.2 0 12 = w := sJ_s
    have ew' : τ'.2 0 12 = w := by rw [e4]; exact ew
    obtain ⟨ζ, z1, z2, z3, z4⟩ := xDay hw hn hnx hdw m (i + 1) fu (stS T E (dw w)) τ' (by omega) (by omega) (hT.of (fun k h1 h2 => (e3 k (by omega)).trans rfl) (by rw [e4]; exact (sJ_ne (by decide)).2)) e2 (stS_VD hw hE _)
    rw [ew'] at z1 z4
    refine ⟨ζ, ?_, fun c hc => (z2 c hc).trans (e3 c hc), fun c hc => (z3 c hc).trans (by rw [e4]; exact (sJ_ne hc).2), z4⟩
    rw [f_X9_day_p27, if_neg (nI_ge (by omega) (by omega)), bnd_eq, bnd_eq, hnx, ← hwe]
    show b2 (f_X1_letIfCan 18 ((jlrem (jlushr (τ1.2 0 12) 33) 50).toInt32 / 10) (jrem (jlrem (jlushr (τ1.2 0 12) 33) 50).toInt32 10) τ1) _ = _
    rw [ew, hv.2, lI 10, div_nI (by omega) (by decide) (by decide), jrem_nI (by omega) (by decide) (by decide), e1, b2_some, lI 1, nI_add, z1]
theorem mDay {T : Tw} (hw : WT T) {n : Nat} (hn : n < 100) {nx : Int64 → Int64} {dw : Int64 → Nat} (hnx : ∀ w : Int64, w * 6364136223846793005 + 1442695040888963407 = nx w) (hdw : ∀ w, dw w < 50 ∧ (jlrem (jlushr w 33) 50).toInt32 = nI (dw w)) : ∀ (m i fu : Nat) (E : Dy) (τ : Mm), i + m = n → m < fu → MTw τ T → MD τ E → VD T E → ∃ τ', f_X10_day_p22 fu (nI n) (nI i) τ = b1 (f_X10_hold 1 τ') (fun z => some (nI (worM T (letM (dr T nx dw m (τ.2 46 41) E).2)), z)) ∧ (∀ c, c ≠ 52 → τ'.1 c = τ.1 c) ∧ (∀ j, 5 ≤ j → τ'.1 52 j = τ.1 52 j) ∧ (∀ c, c ≠ 46 → τ'.2 c = τ.2 c) ∧ τ'.2 46 41 = (dr T nx dw m (τ.2 46 41) E).1
  | 0, i, fu, E, τ, hi, hf, hT, hd, hE => by
    obtain ⟨fu, rfl⟩ : ∃ f, fu = f + 1 := ⟨fu - 1, by omega⟩
    refine ⟨τ, ?_, fun _ _ => rfl, fun _ _ => rfl, fun _ _ => rfl, by rw [dr_0]⟩
    rw [f_X10_day_p22, if_pos (nI_le (by omega) (by omega)), mLets hT hw hd hE.od, b1_some, mCoins hT hw (letM_31 _), b1_some, dr_0]
  | m + 1, i, fu, E, τ, hi, hf, hT, hd, hE => by
    obtain ⟨fu, rfl⟩ : ∃ f, fu = f + 1 := ⟨fu - 1, by omega⟩
    have h5 := hw.2.1
    rw [dr_s]
    obtain ⟨w, hwe⟩ : ∃ w, w = nx (τ.2 46 41) := ⟨_, rfl⟩
    rw [← hwe]
    let τ1 : Mm := sJ τ 46 41 w
    obtain ⟨v, hve⟩ : ∃ v, v = dw w := ⟨_, rfl⟩
    have hv := hdw w
    rw [← hve] at hv ⊢
    have hT1 : MTw τ1 T := hT.of rfl rfl rfl rfl rfl
    have hd1 : MD τ1 E := hd.of rfl
    have ew : τ1.2 46 41 = w := sJ_s
    have fin : ∀ τ2 : Mm, MD τ2 (stS T E v) → (∀ c, c ≠ 52 → τ2.1 c = τ.1 c) → (∀ j, 5 ≤ j → τ2.1 52 j = τ.1 52 j) → τ2.2 = τ1.2 → ∃ τ', f_X10_day_p22 fu (nI n) (nI (i + 1)) τ2 = b1 (f_X10_hold 1 τ') (fun z => some (nI (worM T (letM (dr T nx dw m w (stS T E v)).2)), z)) ∧ (∀ c, c ≠ 52 → τ'.1 c = τ.1 c) ∧ (∀ j, 5 ≤ j → τ'.1 52 j = τ.1 52 j) ∧ (∀ c, c ≠ 46 → τ'.2 c = τ.2 c) ∧ τ'.2 46 41 = (dr T nx dw m w (stS T E v)).1 := by
      intro τ2 d2 s2 s3 s4
      have ew2 : τ2.2 46 41 = w := by rw [s4]; exact ew
      obtain ⟨ζ, z1, z2, z3, z4, z5⟩ := mDay hw hn hnx hdw m (i + 1) fu (stS T E v) τ2 (by omega) (by omega) (hT.of (by rw [s2 46 (by decide)]) (by rw [s2 46 (by decide)]) (s2 47 (by decide)) (s2 48 (by decide)) (s2 49 (by decide))) d2 (stS_VD hw hE _)
      rw [ew2] at z1 z5
      refine ⟨ζ, ?_, fun c hc => (z2 c hc).trans (s2 c hc), fun j hj => (z3 j hj).trans (s3 j hj), fun c hc => (z4 c hc).trans (by rw [s4]; exact (sJ_ne hc).2), ?_⟩
      · exact z1
      · exact z5
    have step : f_X10_day_p22 (fu + 1) (nI n) (nI i) τ = f_X10_day_p22 fu (nI n) (nI (i + 1)) (if okS T E v = true then sI τ1 52 (v / 10) (nI (v % 10)) else τ1) := by
      rw [f_X10_day_p22, if_neg (nI_ge (by omega) (by omega)), bnd_eq, bnd_eq, hnx, ← hwe]
      show b1 (f_X10_isBidder τ1 ((jlrem (jlushr (τ1.2 46 41) 33) 50).toInt32 / 10)) (fun r12 => if r12 = 0 then f_X10_day_p22 fu (nI n) (nI i + 1) τ1 else gd (inB ((jlrem (jlushr (τ1.2 46 41) 33) 50).toInt32 / 10) 5) (if τ1.1 52 ((jlrem (jlushr (τ1.2 46 41) 33) 50).toInt32 / 10).toNatClampNeg = -9 then b1 (f_X10_canBe τ1 ((jlrem (jlushr (τ1.2 46 41) 33) 50).toInt32 / 10) (jrem (jlrem (jlushr (τ1.2 46 41) 33) 50).toInt32 10)) (fun r15 => if r15 = 0 then f_X10_day_p22 fu (nI n) (nI i + 1) τ1 else gd (inB ((jlrem (jlushr (τ1.2 46 41) 33) 50).toInt32 / 10) 5) (f_X10_day_p22 fu (nI n) (nI i + 1) (sI τ1 52 ((jlrem (jlushr (τ1.2 46 41) 33) 50).toInt32 / 10).toNatClampNeg (jrem (jlrem (jlushr (τ1.2 46 41) 33) 50).toInt32 10)))) else f_X10_day_p22 fu (nI n) (nI i + 1) τ1)) = _
      have g5 : inB (nI (v / 10)) 5 = true := inB_t (by omega) (by decide)
      rw [ew, hv.2, lI 10, div_nI (by omega) (by decide) (by decide), jrem_nI (by omega) (by decide) (by decide), isB_lt hT1 hw (by omega), b1_some, lI 1, nI_add]
      by_cases c1 : v / 10 < tNd T
      · rw [if_pos c1, if_neg (by decide), gd_t g5, cl_nI (by omega), hd1 _ (by omega)]
        have hle := hE.od.le (v / 10)
        by_cases c2 : E (v / 10) = 0
        · rw [if_pos (show eD (E (v / 10)) = -9 by rw [eD_0 hle]; exact c2), mCan hT1 hw hd1 hE.od c1 (by omega), b1_some]
          by_cases c3 : can T E (v / 10) (v % 10) = true
          · rw [if_pos c3, if_neg (by decide), gd_t g5, if_pos (okS_iff.mpr ⟨c1, c2, c3⟩)]
          · rw [if_neg c3, if_pos rfl, if_neg (fun q => c3 (okS_iff.mp q).2.2)]
        · rw [if_neg (show ¬ eD (E (v / 10)) = -9 by rw [eD_0 hle]; exact c2), if_neg (fun q => c2 (okS_iff.mp q).2.1)]
      · rw [if_neg c1, if_pos rfl, if_neg (fun q => c1 (okS_iff.mp q).1)]
    rw [step]
    by_cases ok : okS T E v = true
    · rw [if_pos ok]
      refine fin _ (by unfold stS; rw [if_pos ok]; exact hd1.up) (fun c hc => (sI_ne hc).1) (fun j hj => sI_n (by omega)) rfl
    · rw [if_neg ok]
      exact fin _ (by unfold stS; rw [if_neg ok]; exact hd1) (fun _ _ => rfl) (fun _ _ => rfl) rfl
theorem op_day {σ : Mm} (hI : INV σ) : ∀ a : Int32, ∃ v τ ρ, f_X9_day a σ = some (v, τ) ∧ f_X10_day a τ = some (v, ρ) ∧ INV ρ := by
  intro a
  obtain ⟨S, hw, hX, hM⟩ := id hI
  have wT := hw.2.1
  obtain ⟨nx, hnx⟩ : ∃ nx : Int64 → Int64, ∀ w : Int64, w * 6364136223846793005 + 1442695040888963407 = nx w := ⟨fun w => w * 6364136223846793005 + 1442695040888963407, fun _ => rfl⟩
  obtain ⟨dw, hdw⟩ : ∃ dw : Int64 → Nat, ∀ w, dw w < 50 ∧ (jlrem (jlushr w 33) 50).toInt32 = nI (dw w) := ⟨drw, drw_eq⟩
  by_cases h1 : ¬ a < 1 ∧ ¬ nI 20 < a
  · obtain ⟨n, hn1, hn, rfl⟩ := n1_of (by decide) h1
    let τ0 : Mm := putR σ 19 0 5 (σ.1 17)
    have hd0 : XD τ0 19 S.2.2.1 := fun j hj => by
      have := putR_at (σ := σ) (c := 19) (base := 0) (f := σ.1 17) hj
      rw [Nat.zero_add] at this
      exact this.trans (hX.2.2.1 j hj)
    obtain ⟨τ, t1, t2, t3, t4⟩ := xDay wT (show n < 100 by omega) hnx hdw n 0 FU S.2.2.1 τ0 (by omega) (by have : FU = 1000000000 := rfl; omega) (hX.2.1.of (fun k h1 h2 => putR_ne (by omega)) rfl) hd0 hw.2.2.1
    have ew : τ0.2 0 12 = S.2.2.2.2.2.1 := hX.2.2.2.2.2.1
    rw [ew] at t1 t4
    let R := dr S.2.1 nx dw n S.2.2.2.2.2.1 S.2.2.1
    have hHi : Hi σ τ := fun k hk => ⟨by rw [t2 k (by omega)]; exact putR_ne (by omega), t3 k (by omega)⟩
    have hMτ := hM.hi hHi
    let S' : Sp := (S.1, S.2.1, S.2.2.1, S.2.2.2.1, S.2.2.2.2.1, R.1, S.2.2.2.2.2.2)
    have hXτ : XI τ S' := by
      obtain ⟨a1, a2, a3, a4, a5, a6, a7, a8⟩ := hX
      have g : ∀ c, c ≠ 19 → τ.1 c = σ.1 c := fun c hc => by rw [t2 c hc]; exact putR_ne hc
      exact ⟨a1.of (g 1 (by decide)) (g 2 (by decide)), a2.of (fun k h1 h2 => g k (by omega)) (t3 14 (by decide)), a3.of (g 17 (by decide)), a4.of (g 26 (by decide)) (g 27 (by decide)) (g 28 (by decide)), a5.of (g 36 (by decide)) (g 37 (by decide)) (g 38 (by decide)), t4, a7.of (g 20 (by decide)) (g 22 (by decide)), a8.of (g 23 (by decide)) (g 25 (by decide))⟩
    let ρ0 : Mm := putR τ 70 0 5 (τ.1 52)
    have e46 : ρ0.1 46 = τ.1 46 := putR_ne (by decide)
    obtain ⟨ρ1, m1, m2, m3, m4, m5⟩ := mDay wT (show n < 100 by omega) hnx hdw n 0 FU S.2.2.1 ρ0 (by omega) (by have : FU = 1000000000 := rfl; omega) (hMτ.2.1.of (by rw [e46]) (by rw [e46]) (putR_ne (by decide)) (putR_ne (by decide)) (putR_ne (by decide))) (hMτ.2.2.1.of (putR_ne (by decide))) hw.2.2.1
    have ew2 : ρ0.2 46 41 = S.2.2.2.2.2.1 := hMτ.2.2.2.2.2.1
    rw [ew2] at m1 m5
    obtain ⟨b1', _⟩ := hold_back (σ := τ) (ρ := (ρ1.1, τ.2)) ⟨m2, m3, rfl⟩
    have b1'' : ∀ c, c ≠ 70 → (putR ρ1 52 0 5 (ρ1.1 70)).1 c = τ.1 c := b1'
    refine ⟨nI (worM S.2.1 (letM R.2)), τ, putR ρ1 52 0 5 (ρ1.1 70), ?_, ?_, S', ?_, hXτ.of (Lo.X (fun k hk => ⟨b1'' k (by omega), m4 k (by omega)⟩)), ?_⟩
    · unfold f_X9_day
      rw [if_neg h1.1, lI 20, if_pos (by rw [gt_iff]; exact h1.2), copy_eq (by decide), b1_some]
      exact t1
    · unfold f_X10_day
      rw [lL 20, in_n τ _ 20 (by decide), b1_some, if_pos h1, if_neg n10, hold0_eq, b1_some]
      show f_X10_day_p22 FU (nI n) (nI 0) ρ0 = _
      rw [m1, hold1_eq, b1_some]
    · obtain ⟨w1, w2, w3, w4, w5, w6⟩ := hw
      exact ⟨w1, w2, w3, w4, w5, w6⟩
    · obtain ⟨a1, a2, a3, a4, a5, a6, a7, a8⟩ := hMτ
      have c := b1'' 46 (by decide)
      exact ⟨a1.of (by rw [c]) (b1'' 53 (by decide)), a2.of (by rw [c]) (by rw [c]) (b1'' 47 (by decide)) (b1'' 48 (by decide)) (b1'' 49 (by decide)), a3.of (b1'' 52 (by decide)), a4.of (by rw [c]) (by rw [c]) (b1'' 54 (by decide)), a5.of (by rw [c]) (b1'' 71 (by decide)) (b1'' 72 (by decide)), m5, a7.of (b1'' 73 (by decide)) (b1'' 74 (by decide)), a8.of (b1'' 73 (by decide)) (b1'' 74 (by decide))⟩
  · refine ⟨-2, σ, σ, ?_, ?_, hI⟩
    · unfold f_X9_day
      by_cases q : a < 1
      · rw [if_pos q]
      · rw [if_neg q, lI 20, if_neg (by rw [gt_iff]; exact fun z => h1 ⟨q, z⟩)]
    · unfold f_X10_day
      rw [lL 20, in_n σ _ 20 (by decide), b1_some, if_neg h1, if_pos rfl]
