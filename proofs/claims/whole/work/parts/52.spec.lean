/-! THE STATE in plain numbers: text, tower, day, acts, what is heard, seed, slots; how class (X..) and reference (M..) hold it -/
abbrev Tw : Type := Nat × (Nat → Nat) × (Nat → Nat) × Nat × (Nat → Nat) × (Nat → Nat) × (Nat → Nat) × (Nat → Nat) × (Nat → Nat) × (Nat → Nat)
def tNb (T : Tw) : Nat := T.1
def tR (T : Tw) (b : Nat) : Nat := T.2.1 b
def tM (T : Tw) (b : Nat) : Nat := T.2.2.1 b
def tNd (T : Tw) : Nat := T.2.2.2.1
def tB (T : Tw) (k : Nat) : Nat := T.2.2.2.2.1 k
def tN (T : Tw) (k : Nat) : Nat := T.2.2.2.2.2.1 k
def tG (T : Tw) (k : Nat) : Nat := T.2.2.2.2.2.2.1 k
def tF (T : Tw) (k : Nat) : Nat := T.2.2.2.2.2.2.2.1 k
def tU (T : Tw) (k : Nat) : Nat := T.2.2.2.2.2.2.2.2.1 k
def tW (T : Tw) (k : Nat) : Nat := T.2.2.2.2.2.2.2.2.2 k
def WT (T : Tw) : Prop := tNb T ≤ 3 ∧ tNd T ≤ 5 ∧ (∀ b, b < tNb T → 1 ≤ tR T b ∧ tR T b ≤ 3 ∧ tM T b ≤ 2) ∧
  ∀ k, k < tNd T → tN T k ≤ 3 ∧ tG T k ≤ 3 ∧ tF T k ≤ tU T k ∧ tU T k ≤ 9 ∧ 1 ≤ tW T k ∧ tW T k ≤ 9 ∧ (tN T k ≠ 0 → tB T k < tNb T) ∧ (tN T k = 0 → tG T k = 0)
/-- how a bell, a second, is told: none is -9 -/
def eB (T : Tw) (k : Nat) : Int32 := if tN T k = 0 then -9 else nI (tB T k)
def eD (v : Nat) : Int32 := if v = 0 then -9 else nI (v - 1)
def spN (a m : Nat) : Nat := (2 ^ m - 1) * 2 ^ a
/-- ring and damp of a bidder's bell -/
def kR (T : Tw) (k : Nat) : Nat := tR T (tB T k)
def kM (T : Tw) (k : Nat) : Nat := tM T (tB T k)
def stA (T : Tw) (k s i : Nat) : Nat := s + i * (kR T k + tG T k)
def ringS (T : Tw) (k s : Nat) : Nat := orN (fun i => spN (stA T k s i) (kR T k)) (tN T k)
def takeS (T : Tw) (k s : Nat) : Nat := orN (fun i => spN (stA T k s i) (kR T k + kM T k)) (tN T k)
def wantS (T : Tw) (k : Nat) : Nat := spN (tF T k) (tU T k + 1 - tF T k)
def secS (T : Tw) (k s : Nat) : Nat := if tN T k = 0 then wantS T k else ringS T k s
def may (T : Tw) (k s : Nat) : Bool := if tN T k = 0 then decide (s = tF T k) else decide (¬ (1 < tN T k ∧ tG T k < kM T k) ∧ tF T k ≤ s ∧ stA T k s (tN T k - 1) + kR T k ≤ tU T k + 1)
def cla (T : Tw) (k s o u : Nat) : Bool :=
  if tN T k = 0 ∧ tN T o = 0 then false else if tN T k ≠ 0 ∧ tN T o ≠ 0 then decide (tB T k = tB T o ∧ takeS T k s &&& takeS T o u ≠ 0) else decide (secS T k s &&& secS T o u ≠ 0)
/-- the class's tables -/
def begX (T : Tw) (k : Nat) : Nat := if k < tNd T then orN (fun s => if may T k s then 2 ^ s else 0) 10 else 0
def wantX (T : Tw) (k : Nat) : Nat := if k < tNd T ∧ tN T k = 0 then wantS T k * 1049601 else 0
def ringX (T : Tw) (k s : Nat) : Nat := if k < tNd T ∧ tN T k ≠ 0 ∧ may T k s = true then ringS T k s * 2 ^ (10 * tB T k) else 0
def takeX (T : Tw) (k s : Nat) : Nat := if k < tNd T ∧ tN T k ≠ 0 ∧ may T k s = true then takeS T k s * 2 ^ (12 * tB T k) else 0
/-- a day: 0, or the second and 1 -/
abbrev Dy : Type := Nat → Nat
def VD (T : Tw) (D : Dy) : Prop := (∀ k, D k ≠ 0 → k < tNd T ∧ D k ≤ 10 ∧ may T k (D k - 1) = true) ∧ ∀ k o, D k ≠ 0 → D o ≠ 0 → k ≠ o → cla T k (D k - 1) o (D o - 1) = false
def letM (D : Dy) : Nat := orN (fun k => if D k = 0 then 0 else 2 ^ k) 5
def worM (T : Tw) (m : Nat) : Nat := suN (fun k => if m.testBit k then tW T k else 0) (tNd T)
def claM (T : Tw) (D : Dy) (k s : Nat) : Nat := orN (fun o => if o ≠ k ∧ D o ≠ 0 ∧ cla T k s o (D o - 1) = true then 2 ^ o else 0) 5
def can (T : Tw) (D : Dy) (k s : Nat) : Bool := may T k s && decide (claM T D k s = 0)
def upD (D : Dy) (k v : Nat) : Dy := fun j => if j = k then v else D j
abbrev Ac_ : Type := Nat × (Nat → Nat × Nat)
def unD (A : Nat → Nat × Nat) : Nat → Dy → Dy
  | 0, D => D
  | i + 1, D => upD (unD A i D) (A i).1 (A i).2
abbrev Tx : Type := Nat × (Nat → Int32)
abbrev Hd : Type := Nat × (Nat → Nat × Nat)
abbrev Ks : Type := Nat → Option Dy
def XTx (σ : Mm) (t : Tx) : Prop := σ.1 1 1 = nI t.1 ∧ ∀ i, i < t.1 → σ.1 2 i = t.2 i
def XTw (σ : Mm) (T : Tw) : Prop := σ.1 3 0 = nI (tNb T) ∧ σ.1 3 1 = nI (tNd T) ∧ (∀ b, b < tNb T → σ.1 4 b = nI (tR T b) ∧ σ.1 5 b = nI (tM T b)) ∧
  (∀ k, k < tNd T → σ.1 6 k = eB T k ∧ σ.1 7 k = nI (tN T k) ∧ σ.1 8 k = nI (tG T k) ∧ σ.1 9 k = nI (tF T k) ∧ σ.1 10 k = nI (tU T k) ∧ σ.1 11 k = nI (tW T k)) ∧
  ∀ k, k < 5 → σ.1 12 k = nI (begX T k) ∧ σ.1 13 k = nI (wantX T k) ∧ ∀ s, s < 10 → σ.1 15 (10 * k + s) = nI (ringX T k s) ∧ σ.2 14 (10 * k + s) = lN (takeX T k s)
def XD (σ : Mm) (c : Nat) (D : Dy) : Prop := ∀ k, k < 5 → σ.1 c k = nI (D k)
def XA (σ : Mm) (A : Ac_) : Prop := σ.1 26 2 = nI A.1 ∧ ∀ i, i < A.1 → σ.1 27 (A.1 - 1 - i) = nI (A.2 i).1 ∧ σ.1 28 (A.1 - 1 - i) = nI (A.2 i).2
def XH (σ : Mm) (h : Hd) : Prop := σ.1 36 2 = nI h.1 ∧ ∀ i, i < h.1 → σ.1 37 i = nI (h.2 i).1 ∧ σ.1 38 i = nI (h.2 i).2
def XK1 (σ : Mm) (c e : Nat) (o : Option Dy) : Prop := match o with
  | none => σ.1 c 1 = 0
  | some E => σ.1 c 1 = 1 ∧ XD σ e E
def XK (σ : Mm) (K : Ks) : Prop := XK1 σ 20 22 (K 0) ∧ XK1 σ 23 25 (K 1)
def MTx (σ : Mm) (t : Tx) : Prop := σ.1 46 9 = nI t.1 ∧ ∀ i, i < t.1 → σ.1 53 i = t.2 i
def MTw (σ : Mm) (T : Tw) : Prop := σ.1 46 0 = nI (tNb T) ∧ σ.1 46 1 = nI (tNd T) ∧ (∀ b, b < tNb T → σ.1 47 b = nI (tR T b) ∧ σ.1 48 b = nI (tM T b)) ∧
  ∀ k, k < tNd T → σ.1 49 (6 * k) = eB T k ∧ σ.1 49 (6 * k + 1) = nI (tN T k) ∧ σ.1 49 (6 * k + 2) = nI (tG T k) ∧ σ.1 49 (6 * k + 3) = nI (tF T k) ∧ σ.1 49 (6 * k + 4) = nI (tU T k) ∧ σ.1 49 (6 * k + 5) = nI (tW T k)
def MD (σ : Mm) (D : Dy) : Prop := ∀ k, k < 5 → σ.1 52 k = eD (D k)
def MA (σ : Mm) (A : Ac_) (D : Dy) : Prop := σ.1 46 14 = nI A.1 ∧ ∃ x, x < 16 ∧ σ.1 46 15 = nI x ∧ ∀ i, i < A.1 → ∀ k, k < 5 → σ.1 54 (5 * ((x + 15 - i) % 16) + k) = eD (unD A.2 (i + 1) D k)
def MH (σ : Mm) (h : Hd) : Prop := σ.1 46 38 = nI h.1 ∧ ∀ i, i < h.1 → σ.1 71 i = nI (h.2 i).1 ∧ σ.1 72 i = nI (h.2 i).2
def MK1 (σ : Mm) (s : Nat) (o : Option Dy) : Prop := match o with
  | none => σ.1 73 s = 0
  | some E => σ.1 73 s = 1 ∧ ∀ k, k < 5 → σ.1 74 (5 * s + k) = eD (E k)
def MK (σ : Mm) (K : Ks) : Prop := MK1 σ 0 (K 0) ∧ MK1 σ 1 (K 1)
abbrev Sp : Type := Tx × Tw × Dy × Ac_ × Hd × Int64 × Ks
def XI (σ : Mm) (S : Sp) : Prop := XTx σ S.1 ∧ XTw σ S.2.1 ∧ XD σ 17 S.2.2.1 ∧ XA σ S.2.2.2.1 ∧ XH σ S.2.2.2.2.1 ∧ σ.2 0 12 = S.2.2.2.2.2.1 ∧ XK σ S.2.2.2.2.2.2
def MI (σ : Mm) (S : Sp) : Prop := MTx σ S.1 ∧ MTw σ S.2.1 ∧ MD σ S.2.2.1 ∧ MA σ S.2.2.2.1 S.2.2.1 ∧ MH σ S.2.2.2.2.1 ∧ σ.2 46 41 = S.2.2.2.2.2.1 ∧ MK σ S.2.2.2.2.2.2
def WF (S : Sp) : Prop := S.1.1 ≤ 48 ∧ WT S.2.1 ∧ VD S.2.1 S.2.2.1 ∧
  (S.2.2.2.1.1 ≤ 16 ∧ (∀ i, i < S.2.2.2.1.1 → (S.2.2.2.1.2 i).1 < tNd S.2.1) ∧ ∀ i, i ≤ S.2.2.2.1.1 → VD S.2.1 (unD S.2.2.2.1.2 i S.2.2.1)) ∧
  (S.2.2.2.2.1.1 ≤ 6 ∧ ∀ i, i < S.2.2.2.2.1.1 → (S.2.2.2.2.1.2 i).1 < 10 ∧ (S.2.2.2.2.1.2 i).2 < 8) ∧ ∀ s E, S.2.2.2.2.2.2 s = some E → VD S.2.1 E
def INV (σ : Mm) : Prop := ∃ S, WF S ∧ XI σ S ∧ MI σ S
/-- which cells stay -/
def Hi (σ τ : Mm) : Prop := ∀ k, 46 ≤ k → τ.1 k = σ.1 k ∧ τ.2 k = σ.2 k
def Lo (σ τ : Mm) : Prop := ∀ k, k < 46 → τ.1 k = σ.1 k ∧ τ.2 k = σ.2 k
theorem Hi.rf (σ : Mm) : Hi σ σ := fun _ _ => ⟨rfl, rfl⟩
theorem Lo.rf (σ : Mm) : Lo σ σ := fun _ _ => ⟨rfl, rfl⟩
theorem Hi.tr {σ τ ρ : Mm} (h : Hi σ τ) (g : Hi τ ρ) : Hi σ ρ := fun k hk => ⟨(g k hk).1.trans (h k hk).1, (g k hk).2.trans (h k hk).2⟩
theorem Lo.tr {σ τ ρ : Mm} (h : Lo σ τ) (g : Lo τ ρ) : Lo σ ρ := fun k hk => ⟨(g k hk).1.trans (h k hk).1, (g k hk).2.trans (h k hk).2⟩
theorem Hi.sI {σ τ : Mm} {k j : Nat} {v : Int32} (h : Hi σ τ) (hk : k < 46) : Hi σ (sI τ k j v) := fun i hi => ⟨(sI_ne (by omega)).1.trans (h i hi).1, (sI_ne (by omega)).2.trans (h i hi).2⟩
theorem Hi.sJ {σ τ : Mm} {k j : Nat} {v : Int64} (h : Hi σ τ) (hk : k < 46) : Hi σ (sJ τ k j v) := fun i hi => ⟨(sJ_ne (by omega)).1.trans (h i hi).1, (sJ_ne (by omega)).2.trans (h i hi).2⟩
theorem Lo.sI {σ τ : Mm} {k j : Nat} {v : Int32} (h : Lo σ τ) (hk : 46 ≤ k) : Lo σ (sI τ k j v) := fun i hi => ⟨(sI_ne (by omega)).1.trans (h i hi).1, (sI_ne (by omega)).2.trans (h i hi).2⟩
theorem Lo.sJ {σ τ : Mm} {k j : Nat} {v : Int64} (h : Lo σ τ) (hk : 46 ≤ k) : Lo σ (sJ τ k j v) := fun i hi => ⟨(sJ_ne (by omega)).1.trans (h i hi).1, (sJ_ne (by omega)).2.trans (h i hi).2⟩
/-- what a block looks at -/
theorem XTx.of {σ τ : Mm} {t : Tx} (h : XTx σ t) (h1 : τ.1 1 = σ.1 1) (h2 : τ.1 2 = σ.1 2) : XTx τ t := by unfold XTx; rw [h1, h2]; exact h
theorem XTw.of {σ τ : Mm} {T : Tw} (h : XTw σ T) (hk : ∀ k, 3 ≤ k → k ≤ 15 → τ.1 k = σ.1 k) (h2 : τ.2 14 = σ.2 14) : XTw τ T := by
  unfold XTw
  rw [hk 3 (by decide) (by decide), hk 4 (by decide) (by decide), hk 5 (by decide) (by decide), hk 6 (by decide) (by decide), hk 7 (by decide) (by decide), hk 8 (by decide) (by decide), hk 9 (by decide) (by decide), hk 10 (by decide) (by decide), hk 11 (by decide) (by decide), hk 12 (by decide) (by decide), hk 13 (by decide) (by decide), hk 15 (by decide) (by decide), h2]
  exact h
theorem XD.of {σ τ : Mm} {c : Nat} {D : Dy} (h : XD σ c D) (h1 : τ.1 c = σ.1 c) : XD τ c D := by unfold XD; rw [h1]; exact h
theorem XA.of {σ τ : Mm} {A : Ac_} (h : XA σ A) (h1 : τ.1 26 = σ.1 26) (h2 : τ.1 27 = σ.1 27) (h3 : τ.1 28 = σ.1 28) : XA τ A := by unfold XA; rw [h1, h2, h3]; exact h
theorem XH.of {σ τ : Mm} {A : Hd} (h : XH σ A) (h1 : τ.1 36 = σ.1 36) (h2 : τ.1 37 = σ.1 37) (h3 : τ.1 38 = σ.1 38) : XH τ A := by unfold XH; rw [h1, h2, h3]; exact h
theorem XK1.of {σ τ : Mm} {c e : Nat} {o : Option Dy} (h : XK1 σ c e o) (h1 : τ.1 c = σ.1 c) (h2 : τ.1 e = σ.1 e) : XK1 τ c e o := by
  cases o with
  | none => show τ.1 c 1 = 0; rw [h1]; exact h
  | some E => exact ⟨by rw [h1]; exact h.1, h.2.of h2⟩
theorem MTx.of {σ τ : Mm} {t : Tx} (h : MTx σ t) (h1 : τ.1 46 9 = σ.1 46 9) (h2 : τ.1 53 = σ.1 53) : MTx τ t := by unfold MTx; rw [h1, h2]; exact h
theorem MTw.of {σ τ : Mm} {T : Tw} (h : MTw σ T) (h1 : τ.1 46 0 = σ.1 46 0) (h2 : τ.1 46 1 = σ.1 46 1) (h3 : τ.1 47 = σ.1 47) (h4 : τ.1 48 = σ.1 48) (h5 : τ.1 49 = σ.1 49) : MTw τ T := by unfold MTw; rw [h1, h2, h3, h4, h5]; exact h
theorem MD.of {σ τ : Mm} {D : Dy} (h : MD σ D) (h1 : τ.1 52 = σ.1 52) : MD τ D := by unfold MD; rw [h1]; exact h
theorem MA.of {σ τ : Mm} {A : Ac_} {D : Dy} (h : MA σ A D) (h1 : τ.1 46 14 = σ.1 46 14) (h2 : τ.1 46 15 = σ.1 46 15) (h3 : τ.1 54 = σ.1 54) : MA τ A D := by unfold MA; rw [h1, h2, h3]; exact h
theorem MH.of {σ τ : Mm} {A : Hd} (h : MH σ A) (h1 : τ.1 46 38 = σ.1 46 38) (h2 : τ.1 71 = σ.1 71) (h3 : τ.1 72 = σ.1 72) : MH τ A := by unfold MH; rw [h1, h2, h3]; exact h
theorem MK1.of {σ τ : Mm} {s : Nat} {o : Option Dy} (h : MK1 σ s o) (h1 : τ.1 73 = σ.1 73) (h2 : τ.1 74 = σ.1 74) : MK1 τ s o := by
  cases o with
  | none => show τ.1 73 s = 0; rw [h1]; exact h
  | some E => exact ⟨by rw [h1]; exact h.1, fun k hk => by rw [h2]; exact h.2 k hk⟩
/-- the class's state where only cells change that it does not speak of -/
def XSame (σ τ : Mm) : Prop := (∀ k, k ≤ 17 → k ≠ 16 → τ.1 k = σ.1 k) ∧ (∀ k, 20 ≤ k → k ≤ 28 → τ.1 k = σ.1 k) ∧ (∀ k, 36 ≤ k → k ≤ 38 → τ.1 k = σ.1 k) ∧ τ.2 14 = σ.2 14 ∧ τ.2 0 12 = σ.2 0 12
theorem XI.of {σ τ : Mm} {S : Sp} (h : XI σ S) (g : XSame σ τ) : XI τ S := by
  obtain ⟨a1, a2, a3, a4, a5, a6, a7, a8⟩ := h
  obtain ⟨g1, g2, g3, g4, g5⟩ := g
  exact ⟨a1.of (g1 1 (by decide) (by decide)) (g1 2 (by decide) (by decide)), a2.of (fun k h1 h2 => g1 k (by omega) (by omega)) g4, a3.of (g1 17 (by decide) (by decide)), a4.of (g2 26 (by decide) (by decide)) (g2 27 (by decide) (by decide)) (g2 28 (by decide) (by decide)), a5.of (g3 36 (by decide) (by decide)) (g3 37 (by decide) (by decide)) (g3 38 (by decide) (by decide)), g5.trans a6, a7.of (g2 20 (by decide) (by decide)) (g2 22 (by decide) (by decide)), a8.of (g2 23 (by decide) (by decide)) (g2 25 (by decide) (by decide))⟩
theorem Lo.X {σ τ : Mm} (h : Lo σ τ) : XSame σ τ := ⟨fun k h1 _ => (h k (by omega)).1, fun k h1 h2 => (h k (by omega)).1, fun k h1 h2 => (h k (by omega)).1, (h 14 (by decide)).2, by rw [(h 0 (by decide)).2]⟩
theorem MI.hi {σ τ : Mm} {S : Sp} (h : MI σ S) (g : Hi σ τ) : MI τ S := by
  obtain ⟨a1, a2, a3, a4, a5, a6, a7, a8⟩ := h
  have e : ∀ k, 46 ≤ k → τ.1 k = σ.1 k := fun k hk => (g k hk).1
  have c := e 46 (by decide)
  exact ⟨a1.of (by rw [c]) (e 53 (by decide)), a2.of (by rw [c]) (by rw [c]) (e 47 (by decide)) (e 48 (by decide)) (e 49 (by decide)), a3.of (e 52 (by decide)), a4.of (by rw [c]) (by rw [c]) (e 54 (by decide)), a5.of (by rw [c]) (e 71 (by decide)) (e 72 (by decide)), by rw [(g 46 (by decide)).2]; exact a6, a7.of (e 73 (by decide)) (e 74 (by decide)), a8.of (e 73 (by decide)) (e 74 (by decide))⟩
/-- two sides, one step -/
theorem INV.step {σ τ ρ : Mm} {S S' : Sp} (hM : MI σ S) (h1 : Hi σ τ) (hX : XI τ S') (h2 : MI τ S → MI ρ S') (h3 : Lo τ ρ) (hw : WF S') : INV ρ := ⟨S', hw, hX.of h3.X, h2 (hM.hi h1)⟩
