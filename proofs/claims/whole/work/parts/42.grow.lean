def PUTS : List (Nat × Nat) := [(1, 0), (0, 0), (3, 2), (3, 3), (3, 4), (3, 5), (3, 6), (3, 7), (3, 8), (3, 9), (3, 10), (3, 11), (3, 12), (3, 13), (0, 1), (16, 1), (16, 0), (0, 2), (18, 1), (18, 0), (0, 3), (21, 1), (21, 0), (20, 0), (0, 4), (24, 1), (24, 0), (23, 0), (0, 5), (26, 0), (26, 1), (0, 6), (29, 3), (29, 4), (29, 0), (32, 1), (32, 0), (29, 1), (34, 1), (34, 0), (29, 2), (0, 7), (36, 0), (36, 1), (0, 8), (39, 0), (0, 9), (40, 1), (40, 2), (40, 3), (40, 4), (40, 0), (0, 10), (0, 11), (46, 2), (46, 3), (46, 4), (46, 5), (46, 6), (46, 7), (46, 8), (46, 16), (46, 17), (46, 18), (46, 19), (46, 24), (46, 25), (46, 26), (46, 27), (46, 28), (46, 30), (46, 31), (46, 32), (46, 33), (46, 34), (46, 35), (46, 36), (46, 37), (46, 39), (46, 40), (46, 42), (46, 43)]
/-! CONSTRUCTORS: the world while it grows: n cells are made, p references are laid -/
def z0 : Mm := (fun _ _ => 0, fun _ _ => 0)
def rh (p k j : Nat) : Option Nat := if (k, j) ∈ PUTS.take p then some (cRef k j) else none
def cvo (G : Gg) (o : Option Nat) : Value := match o with
  | none => .null
  | some q => .ref (G.2.1 q)
def cFc (G : Gg) (f : Nat → Int32) (g : Nat → Int64) (p k : Nat) : List Value := (fk (cTag k)).mapIdx fun j t => if t = 0 then .int (f j) else if t = 1 then .long (g j) else cvo G (rh p k j)
def cEc (G : Gg) (f : Nat → Int32) (g : Nat → Int64) (p k : Nat) : va_E := if cTag k = 20 then .inl (G.2.2.1, cLen k, .inl f) else if cTag k = 21 then .inl (G.2.2.2.1, cLen k, .inr (.inl g)) else if cTag k = 22 then .inl (G.2.2.2.2, cLen k, .inl f) else .inr (cTag k, cFc G f g p k)
def Wc (G : Gg) (σ : Mm) (n p : Nat) : va_W := (List.range n).map fun k => (G.2.1 k, cEc G (σ.1 k) (σ.2 k) p k)
def CK (G : Gg) (σ : Mm) (n p : Nat) (H : Heap) : Prop := n ≤ KK ∧ va_P G.1 vwCl (Wc G σ n p) H ∧ H.size = G.2.1 0 + n
theorem Wc_len (G : Gg) (σ : Mm) (n p : Nat) : (Wc G σ n p).length = n := by simp [Wc]
theorem Wc_at {G : Gg} {σ : Mm} {n p k : Nat} (h : k < n) : (Wc G σ n p)[k]? = some (G.2.1 k, cEc G (σ.1 k) (σ.2 k) p k) := by
  rw [Wc, List.getElem?_map, List.getElem?_range h]; rfl
theorem Wc_of {G : Gg} {σ : Mm} {n p k : Nat} {q : Nat × va_E} (h : (Wc G σ n p)[k]? = some q) : k < n ∧ q = (G.2.1 k, cEc G (σ.1 k) (σ.2 k) p k) := by
  have hk : k < n := by have := (List.getElem?_eq_some_iff.mp h).1; rw [Wc_len] at this; exact this
  rw [Wc_at hk] at h
  exact ⟨hk, (Option.some.inj h).symm⟩
theorem Wc_D {G : Gg} {σ : Mm} {n p : Nat} (hG : GOK G) (hn : n ≤ KK) : va_D (Ac G) (Wc G σ n p) := by
  refine ⟨fun i j p q hi hj hpq => ?_, fun k q hk => ?_⟩
  · obtain ⟨a1, rfl⟩ := Wc_of hi
    obtain ⟨a2, rfl⟩ := Wc_of hj
    have e1 := hG i (by omega)
    have e2 := hG j (by omega)
    have e3 : G.2.1 i = G.2.1 j := hpq
    omega
  · obtain ⟨a1, rfl⟩ := Wc_of hk
    have := hG k (by omega)
    show G.2.1 0 ≤ G.2.1 k
    omega
theorem Wc_succ (G : Gg) (σ : Mm) (n p : Nat) : Wc G σ (n + 1) p = Wc G σ n p ++ [(G.2.1 n, cEc G (σ.1 n) (σ.2 n) p n)] := by
  rw [Wc, Wc, List.range_succ, List.map_append]; rfl
theorem Wc_put {G : Gg} {σ τ : Mm} {n p p' k : Nat} {e : va_E} (hk : k < n) (ho : ∀ i, i ≠ k → τ.1 i = σ.1 i ∧ τ.2 i = σ.2 i ∧ ∀ j, rh p' i j = rh p i j) (he : cEc G (τ.1 k) (τ.2 k) p' k = e) : (Wc G σ n p).set k (G.2.1 k, e) = Wc G τ n p' := by
  refine List.ext_getElem? (fun i => ?_)
  by_cases hi : i = k
  · subst hi
    rw [List.getElem?_set_self (by rw [Wc_len]; exact hk), Wc_at hk, he]
  · rw [List.getElem?_set_ne (Ne.symm hi)]
    by_cases hl : i < n
    · obtain ⟨h1, h2, h3⟩ := ho i hi
      have e2 : cFc G (σ.1 i) (σ.2 i) p' i = cFc G (σ.1 i) (σ.2 i) p i := by
        unfold cFc
        congr 1
        funext j t
        rw [h3 j]
      rw [Wc_at hl, Wc_at hl, h1, h2, cEc, cEc, e2]
    · rw [List.getElem?_eq_none (by rw [Wc_len]; omega), List.getElem?_eq_none (by rw [Wc_len]; omega)]
theorem cEc_O {G : Gg} {f : Nat → Int32} {g : Nat → Int64} {p k ci : Nat} (h : cTag k = ci) (hc : ci < 20) : cEc G f g p k = .inr (ci, cFc G f g p k) := by rw [cEc, if_neg (by omega), if_neg (by omega), if_neg (by omega), h]
theorem cEc_I {G : Gg} {f : Nat → Int32} {g : Nat → Int64} {p k : Nat} (h : cTag k = 20) : cEc G f g p k = .inl (G.2.2.1, cLen k, .inl f) := by rw [cEc, if_pos h]
theorem cEc_J {G : Gg} {f : Nat → Int32} {g : Nat → Int64} {p k : Nat} (h : cTag k = 21) : cEc G f g p k = .inl (G.2.2.2.1, cLen k, .inr (.inl g)) := by rw [cEc, if_neg (by omega), if_pos h]
theorem cEc_Z {G : Gg} {f : Nat → Int32} {g : Nat → Int64} {p k : Nat} (h : cTag k = 22) : cEc G f g p k = .inl (G.2.2.2.2, cLen k, .inl f) := by rw [cEc, if_neg (by omega), if_neg (by omega), if_pos h]
theorem cFc_at {G : Gg} {f : Nat → Int32} {g : Nat → Int64} {p k ci j t : Nat} (h : cTag k = ci) (hj : (fk ci)[j]? = some t) : (cFc G f g p k)[j]? = some (if t = 0 then .int (f j) else if t = 1 then .long (g j) else cvo G (rh p k j)) := by
  rw [cFc, h, List.getElem?_mapIdx, hj]; rfl
theorem cFc_len {G : Gg} {f : Nat → Int32} {g : Nat → Int64} {p k ci : Nat} (h : cTag k = ci) : (cFc G f g p k).length = (fk ci).length := by rw [cFc, h, List.length_mapIdx]
theorem rh_succ {p b j : Nat} (hp : PUTS[p]? = some (b, j)) (k i : Nat) : rh (p + 1) k i = if (k, i) = (b, j) then some (cRef k i) else rh p k i := by
  unfold rh
  rw [List.take_add_one, hp]
  by_cases h : (k, i) = (b, j)
  · rw [if_pos h, if_pos (by rw [h]; simp)]
  · rw [if_neg h]
    by_cases h2 : (k, i) ∈ PUTS.take p
    · rw [if_pos h2, if_pos (List.mem_append_left _ h2)]
    · rw [if_neg h2, if_neg]
      intro h3
      rcases List.mem_append.mp h3 with q | q
      · exact h2 q
      · simp at q
        exact h (by rw [q.1, q.2])
theorem cFc_setR {G : Gg} {f : Nat → Int32} {g : Nat → Int64} {p k ci j z : Nat} (h : cTag k = ci) (hj : (fk ci)[j]? = some 2) (hp : PUTS[p]? = some (k, j)) (hz : cRef k j = z) : (cFc G f g p k).set j (.ref (G.2.1 z)) = cFc G f g (p + 1) k := by
  have hl : j < (fk ci).length := (List.getElem?_eq_some_iff.mp hj).1
  refine List.ext_getElem? (fun i => ?_)
  by_cases hi : i = j
  · subst hi
    rw [List.getElem?_set_self (by rw [cFc_len h]; exact hl), cFc_at h hj, rh_succ hp, if_pos rfl, hz]
    rfl
  · rw [List.getElem?_set_ne (Ne.symm hi), cFc, cFc, List.getElem?_mapIdx, List.getElem?_mapIdx, rh_succ hp, if_neg (fun e => hi (by injection e))]
theorem cFc_set0 {G : Gg} {f : Nat → Int32} {g : Nat → Int64} {p k ci j : Nat} {v : Int32} (h : cTag k = ci) (hj : (fk ci)[j]? = some 0) (hv : f j = v) : (cFc G f g p k).set j (.int v) = cFc G f g p k := by
  refine List.ext_getElem? (fun i => ?_)
  by_cases hi : i = j
  · subst hi
    rw [List.getElem?_set_self (by rw [cFc_len h]; exact (List.getElem?_eq_some_iff.mp hj).1), cFc_at h hj, ← hv]; rfl
  · rw [List.getElem?_set_ne (Ne.symm hi)]
theorem cFc_setL {G : Gg} {f : Nat → Int32} {g : Nat → Int64} {p k ci j : Nat} {v : Int64} (h : cTag k = ci) (hj : (fk ci)[j]? = some 1) (hv : g j = v) : (cFc G f g p k).set j (.long v) = cFc G f g p k := by
  refine List.ext_getElem? (fun i => ?_)
  by_cases hi : i = j
  · subst hi
    rw [List.getElem?_set_self (by rw [cFc_len h]; exact (List.getElem?_eq_some_iff.mp hj).1), cFc_at h hj, ← hv]; rfl
  · rw [List.getElem?_set_ne (Ne.symm hi)]
def cF0 (ci : Nat) : List Value := (fk ci).map fun t => if t = 0 then .int 0 else if t = 1 then .long 0 else .null
theorem cFc_0 {G : Gg} {p k ci : Nat} (h : cTag k = ci) (hf : ∀ j, rh p k j = none) : cFc G (fun _ => 0) (fun _ => 0) p k = cF0 ci := by
  refine List.ext_getElem? (fun i => ?_)
  rw [cFc, cF0, h, List.getElem?_mapIdx, List.getElem?_map, hf i]
  cases (fk ci)[i]? with
  | none => rfl
  | some t => simp [cvo]
theorem rh_fresh {p k : Nat} (h : (PUTS.take p).all (fun q => !(q.1 == k)) = true) (j : Nat) : rh p k j = none := by
  unfold rh
  rw [if_neg]
  intro hm
  have := List.all_eq_true.mp h _ hm
  simp at this
def LNW (own : String) (idx ci N : Nat) : Prop := ∃ (C : String) (T : u_T) (ty : Nat → FieldType), vwCl[ci]? = some (C, T, N) ∧ (∀ w ∈ u_ws C T N, w ∈ lwt) ∧ (∀ k, k < N → parseFieldDescriptor (T k).2.2.1 = some (ty k)) ∧ Cond.classLink own idx C ∈ lwt ∧ Cond.instantiable C N ∈ lwt ∧ Cond.initialized C ∈ lwt ∧ ∀ j, j < N → defaultValue (ty j) = vp_V (cF0 ci) j
def isRefT (ty : FieldType) : Prop := (∃ n, ty = .object n) ∨ ∃ t, ty = .array t
def LPF (own : String) (idx ci j : Nat) : Prop := ∃ (C : String) (T : u_T) (N : Nat) (ty0 : Nat → FieldType) (ty : FieldType), vwCl[ci]? = some (C, T, N) ∧ j < N ∧ (∀ w ∈ u_ws C T N, w ∈ lwt) ∧ Cond.fieldLink own idx (T j).1 (T j).2.1 (T j).2.2.1 ∈ lwt ∧ (∀ k, k < N → parseFieldDescriptor (T k).2.2.1 = some (ty0 k)) ∧ (∀ a, a < N → ∀ b, b < N → a ≠ b → (T a).2.1 ≠ (T b).2.1) ∧ (T j).2.2.2 = true ∧ (T j).1 = own ∧ parseFieldDescriptor (T j).2.2.1 = some ty ∧ isRefT ty
def LMI (own : String) (idx : Nat) (M : Mth) (n : Nat) : Prop := LMb M n ∧ (Cond.methodLink own idx M.1 ∈ lwt ∨ ∃ host, Cond.methodLinkNest own idx M.1 host ∈ nwt) ∧ Cond.instanceMethod M.1 ∈ lwt ∧ M.1.name = "<init>" ∧ M.2.2.2 = none
def rmC (d mc ms : Nat) : Room := { frames := d, cells := mc, slots := ms, locals := 64 * d }
def PcC (G : Gg) (as : List Value) (σ : Mm) (n p : Nat) : Array Value → State → Prop := fun v U => v = (as.map (cv G.2.1)).toArray ∧ GOK G ∧ CK G σ n p U.heap ∧ va_K G.1 vwCl (cTys G) U ∧ NW U
def QcC (G : Gg) (σ : Mm) (n p : Nat) : Array Value → State → Outcome → State → Prop := fun _ st oc t => oc = .returned none ∧ CK G σ n p t.heap ∧ va_F (Ac G) st t
def MC (l : Launch) (G : Gg) (d : Nat) (M : Mth) (as : List Value) (σ : Mm) (n p : Nat) (σ' : Mm) (n' p' mc ms : Nat) : Prop := Met l M.1 (mWs M) (rmC d mc ms) (PcC G as σ n p) (QcC G σ' n' p') mc ms (Ac G)
abbrev CW (l : Launch) (G : Gg) (d : Nat) (M : Mth) (σ' : Mm) (n' p' mc ms cl sl pc : Nat) (L : List (Nat × Value)) (st : List Value) (σ : Mm) (n p : Nat) : Prop :=
  AWh l G (Ac G) (fun _ _ => True) (rmC d mc ms) (fun below args s => MQ below (QcC G σ' n' p') args s mc ms (Ac G)) M cl sl pc L st (CK G σ n p)
theorem MC.of {l : Launch} {G : Gg} {d : Nat} {M : Mth} {as : List Value} {σ σ' : Mm} {n p n' p' mc ms : Nat} (hy : plainName M.1.cls = true) (hn : (lg_sl as).length ≤ M.2.2.1) (h : CW l G d M σ' n' p' mc ms 0 0 0 (lv_args 0 as) [] σ n p) : MC l G d M as σ n p σ' n' p' mc ms := by
  refine Met.ofW (cc := M.2.1) (maxL := M.2.2.1) (ret := M.2.2.2) hy rfl ?_
  intro p e s m args below meth c s₁ B hml hv
  obtain ⟨rfl, hG, hP, hK, hN⟩ := hv
  have hts := atoms_spec (ws := mWs M) B.pre
  have hl := lv_entry (as.map (cv G.2.1)) (n := M.2.2.1) (by rw [lg_len]; exact hn)
  rw [lg_entry_eq]
  rw [LL_args] at hl
  exact h p e s m _ below meth c s.heap [] _ ⟨B.exec, B.bytes, hml, findClass_of_methodNamed B.named, fun w hw => hts w (List.mem_cons_of_mem _ hw), B.notSynchronized, B.returns, hK, hG, hN, fun h => (name_of_methodNamed B.named B.method).1.trans h⟩ trivial hP va_S.rf hl
theorem PcC_blind (G : Gg) (as : List Value) (σ : Mm) (n p : Nat) : FrameBlind (PcC G as σ n p) := fun a U g mk q => ⟨q.1, q.2.1, q.2.2.1, va_K.moved (u := U) (U := U.calling g mk a) (Vm.Alike.refl U.vm) q.2.2.2.1, NW.same (u := U) (U := U.calling g mk a) rfl q.2.2.2.2⟩
section CWR
variable {l : Launch} {G : Gg} {E : State → Array Value → Prop} {R : Room} {Z : List Frame → Array Value → State → State → Prop} {M : Mth} {cl sl pc : Nat} {L : List (Nat × Value)} {st : List Value} {σ : Mm} {n p : Nat}
theorem AWh.widen {A : Nat → Prop} {κ : Heap → Prop} {cl' sl' : Nat} (h1 : cl ≤ cl') (h2 : sl ≤ sl') (k : AWh l G A E R Z M cl' sl' pc L st κ) : AWh l G A E R Z M cl sl pc L st κ := by
  intro p e s m args below meth c H locs ls hC hE hP hS hl
  exact W.widen h1 h2 (k p e s m args below meth c H locs ls hC hE hP hS hl)
theorem AWh.conv {A : Nat → Prop} {κ κ' : Heap → Prop} (h : ∀ H, GOK G → κ H → κ' H) (k : AWh l G A E R Z M cl sl pc L st κ') : AWh l G A E R Z M cl sl pc L st κ := by
  intro p e s m args below meth c H locs ls hC hE hP hS hl
  exact k p e s m args below meth c H locs ls hC hE (h H hC.2.2.2.2.2.2.2.2.1 hP) hS hl
theorem CW.new {idx ci N : Nat} (ln : LNW M.1.cls idx ci N) (hn : n < KK) (ht : cTag n = ci) (hci : ci < 20) (hz1 : σ.1 n = fun _ => 0) (hz2 : σ.2 n = fun _ => 0) (hf : (PUTS.take p).all (fun q => !(q.1 == n)) = true) (hcells : cl + 1 ≤ R.cells) (hslots : sl + N ≤ R.slots) (hd : decode M.2.1 pc = .ok (.new idx, 3)) {q : Nat} (hq : pc + 3 = q) {cl' sl' n' : Nat} (h1 : cl + 1 = cl') (h2 : sl + N = sl') (h3 : n + 1 = n') (k : AWh l G (Ac G) E R Z M cl' sl' q L (.ref n :: st) (CK G σ n' p)) : AWh l G (Ac G) E R Z M cl sl pc L st (CK G σ n p) := by
  intro pp e s m args below meth c H locs ls hC hE hP hS hl
  subst hq; subst h1; subst h2; subst h3
  obtain ⟨hx, hb, hml, hown, hts, hlk, hrt, hK, hG, hN, hnm⟩ := id hC
  obtain ⟨C, T, ty, hc, hin, hty, l1, l2, l3, hfs⟩ := ln
  obtain ⟨hnk, hPw, hsz⟩ := hP
  have had : H.size = G.2.1 n := by rw [hsz, hG n hn]
  have hKn := hK.1 ci _ hc
  refine W.newcK hx hb hown (hts _ l1) (hts _ l2) (hts _ l3) rfl hd hcells hslots hKn.2.1 had fun H1 kC hkC e1 z1 o1 => ?_
  have hk : ∀ (k : Nat) (x : Nat × va_E), (Wc G σ n p)[k]? = some x → H1[x.1]? = H[x.1]? := fun k x hx => o1 x.1 (by have := (hPw k x hx).lt; omega)
  refine k pp e s m args below meth c H1 locs ls hC hE ⟨hn, ?_, by rw [z1, ← had, hsz]; omega⟩ ⟨Nat.le_trans hS.1 (by omega), fun x h1 h2 => (o1 x (by have := hS.1; omega)).trans (hS.2.1 x h1 h2), hS.2.2⟩ hl
  rw [Wc_succ]
  refine (hPw.kept hk).app (fun k x hx => ?_)
  have hz : k < 1 := (List.getElem?_eq_some_iff.mp hx).1
  rw [show k = 0 by omega] at hx
  cases hx
  show va_at G.1 vwCl (G.2.1 n, cEc G (σ.1 n) (σ.2 n) p n) H1
  rw [cEc_O ht hci, hz1, hz2, cFc_0 ht (rh_fresh hf)]
  exact ⟨_, hc, (u_born ty hts hin hKn hkC e1 hty).to hfs⟩
theorem CW.ref {A : Nat → Prop} {κ : Heap → Prop} {idx : Nat} {v : Value} (hl1 : Cond.methodLink M.1.cls idx Lib.objectInit ∈ lwt) (hl2 : Cond.instanceMethod Lib.objectInit ∈ lwt) (hl3 : Cond.code Lib.objectInit ⟨#[0xb1]⟩ 1 none ∈ lwt) {b : Nat} (hv : v = .ref b) (hr : (st.map fun v => v.category).sum + 12 ≤ R.locals) (hfr : 1 ≤ R.frames) (hd : decode M.2.1 pc = .ok (.invokespecial idx, 3)) {q : Nat} (hq : pc + 3 = q) (k : AWh l G A E R Z M cl sl q L st κ) : AWh l G A E R Z M cl sl pc L (v :: st) κ := by
  intro pp e s m args below meth c H locs ls hC hE hP hS hl
  subst hq; subst hv
  obtain ⟨hx, hb, hml, hown, hts, hlk, hrt, hK, hG, hN, hnm⟩ := id hC
  have hr2 : ((st.map (cv G.2.1)).map fun v => v.category).sum + 12 ≤ R.locals := by
    rw [show (st.map (cv G.2.1)).map (fun v => v.category) = st.map (fun v => v.category) from by rw [List.map_map]; exact List.map_congr_left (fun v _ => cv_cat _ v)]
    exact hr
  refine W.objInit hx hb hown (hts _ hl1) (hts _ hl2) (hts _ hl3) rfl (by rw [hml]; exact hl.1) (a := G.2.1 b) (rest := st.map (cv G.2.1)) rfl hd hfr (by show 2 * 0 + _ + 12 ≤ _; omega) ?_
  exact k pp e s m args below meth c H locs ls hC hE hP hS hl
theorem CW.putR {idx ci j b z : Nat} (lp : LPF M.1.cls idx ci j) (hin : M.1.name = "<init>") (hb : b < n) (hk : cTag b = ci) (hf : (fk ci)[j]? = some 2) (hci : ci < 20) (hp : PUTS[p]? = some (b, j)) (hz : cRef b j = z) (hd : decode M.2.1 pc = .ok (.putfield idx, 3)) {q p' : Nat} (hq : pc + 3 = q) (hpp : p + 1 = p') (k : AWh l G (Ac G) E R Z M cl sl q L st (CK G σ n p')) : AWh l G (Ac G) E R Z M cl sl pc L (.ref z :: .ref b :: st) (CK G σ n p) := by
  intro pp e s m args below meth c H locs ls hC hE hP hS hl
  subst hq; subst hpp
  obtain ⟨hx, hbt, hml, hown, hts, hlk, hrt, hK, hG, hN, hnm⟩ := id hC
  obtain ⟨C, T, N, ty0, ty, hcl, hj, hinw, hw, hty, hnms, hfin, hdecl, hpd, href⟩ := lp
  obtain ⟨hnk, hPw, hsz⟩ := hP
  have he : (Wc G σ n p)[b]? = some (G.2.1 b, .inr (ci, cFc G (σ.1 b) (σ.2 b) p b)) := by rw [Wc_at hb, cEc_O hk hci]
  have hlen : j < (cFc G (σ.1 b) (σ.2 b) p b).length := by rw [cFc_len hk]; exact (List.getElem?_eq_some_iff.mp hf).1
  have ew : (Wc G σ n p).set b (G.2.1 b, .inr (ci, (cFc G (σ.1 b) (σ.2 b) p b).set j (.ref (G.2.1 z)))) = Wc G σ n (p + 1) := Wc_put hb (fun i hi => ⟨rfl, rfl, fun j' => by rw [rh_succ hp, if_neg (fun e => hi (by injection e))]⟩) (by rw [cEc_O hk hci, cFc_setR hk hf hp hz])
  have hap := va_apart (own := M.1.cls) hts hinw ty0 hty hnms hK hcl
  obtain ⟨r, h1, cell, q1, q2, q3, q4⟩ := hPw b _ he
  have hr : r = (C, T, N) := Option.some.inj (h1.symm.trans hcl)
  subst hr
  obtain ⟨hSl, hfc, kC, hkC, hkind⟩ := hK.1 ci _ hcl
  obtain ⟨cf, kf, fi, f, hi, hsl⟩ := hSl j hj
  have hlay := hts _ (hinw _ (u_in_lay hj))
  unfold u_lay at hlay
  rw [if_pos hfin] at hlay
  have hcf : m.cls = cf := by
    obtain ⟨_, _, c', _, _, _, -, -, hf', -, -, -, hown2, -⟩ := Cond.laysFinal_spec hlay
    have e1 : c' = cf := by have := hi.symm.trans hf'; simp at this; exact this.1.symm
    rw [hdecl] at hown2
    rw [← e1]; exact Option.some.inj (hown.symm.trans hown2)
  have hfit := u_fits (v := .ref (G.2.1 z)) hfc hkC hkind (Or.inr hlay) hi hpd (by rcases href with ⟨_, rfl⟩ | ⟨_, rfl⟩ <;> rfl) (by rcases href with ⟨_, rfl⟩ | ⟨_, rfl⟩ <;> rfl)
  refine W.putFinK (v := .ref (G.2.1 z)) hx hbt hown (hts _ hw) hi (u_facts hfc hkC (u_lays hts hinw hj) hi).1 hcf (hnm hin) (by rw [q2]; exact hfit) q1 q3 (by rw [hsl]; exact k2_hasslot (q4 j hj)) rfl rfl hd fun H' e1 e2 e3 => ?_
  rw [hsl] at e1
  refine k pp e s m args below meth c H' _ ls hC hE ⟨hnk, ?_, by rw [e2]; exact hsz⟩ (hS.put e2 e3 ((Wc_D hG hnk).2 b _ he)) hl
  rw [← ew]
  exact hPw.set (Wc_D hG hnk) he ⟨_, hcl, t_OB.to (V := updV (vp_V (cFc G (σ.1 b) (σ.2 b) p b)) j (.ref (G.2.1 z))) ⟨_, e1, q2, q3, t_set q4 hap hj _⟩ (fun i _ => vp_updV_set hlen _ i)⟩ e3
theorem CW.putI0 {idx ci j b : Nat} (lp : LPt M.1.cls idx ci j .int) (lf : ∃ (C : String) (T : u_T) (N : Nat), vwCl[ci]? = some (C, T, N) ∧ Cond.fieldLink M.1.cls idx (T j).1 (T j).2.1 (T j).2.2.1 ∈ lwt) (hb : b < n) (hk : cTag b = ci) (hf : (fk ci)[j]? = some 0) (hci : ci < 20) (hv : σ.1 b j = 0) (hd : decode M.2.1 pc = .ok (.putfield idx, 3)) {q : Nat} (hq : pc + 3 = q) (k : AWh l G (Ac G) E R Z M cl sl q L st (CK G σ n p)) : AWh l G (Ac G) E R Z M cl sl pc L (.int 0 :: .ref b :: st) (CK G σ n p) := by
  intro pp e s m args below meth c H locs ls hC hE hP hS hl
  subst hq
  obtain ⟨hx, hbt, hml, hown, hts, hlk, hrt, hK, hG, hN, hnm⟩ := id hC
  obtain ⟨C, T, N, ty0, hcl, hj, hinw, -, hty, hnms, hfin, hpd⟩ := lp
  obtain ⟨C2, T2, N2, hcl2, hw⟩ := lf
  have e0 := Option.some.inj (hcl.symm.trans hcl2)
  have eT : T = T2 := congrArg (fun x : vw_C => x.2.1) e0
  subst eT
  obtain ⟨hnk, hPw, hsz⟩ := hP
  have he : (Wc G σ n p)[b]? = some (G.2.1 b, .inr (ci, cFc G (σ.1 b) (σ.2 b) p b)) := by rw [Wc_at hb, cEc_O hk hci]
  have hlen : j < (cFc G (σ.1 b) (σ.2 b) p b).length := by rw [cFc_len hk]; exact (List.getElem?_eq_some_iff.mp hf).1
  have ew : (Wc G σ n p).set b (G.2.1 b, .inr (ci, (cFc G (σ.1 b) (σ.2 b) p b).set j (.int 0))) = Wc G σ n p := Wc_put hb (fun i hi => ⟨rfl, rfl, fun j' => rfl⟩) (by rw [cEc_O hk hci, cFc_set0 hk hf hv])
  have hap := va_apart (own := M.1.cls) hts hinw ty0 hty hnms hK hcl
  obtain ⟨r, h1, cell, q1, q2, q3, q4⟩ := hPw b _ he
  have hr : r = (C, T, N) := Option.some.inj (h1.symm.trans hcl)
  subst hr
  obtain ⟨hSl, hfc, kC, hkC, hkind⟩ := hK.1 ci _ hcl
  obtain ⟨cf, kf, fi, f, hi, hsl⟩ := hSl j hj
  have hlay := hts _ (hinw _ (u_in_lay hj))
  unfold u_lay at hlay
  rw [if_neg (by rw [hfin]; decide)] at hlay
  have h6 := u_store (v := .int 0) hfc hkC hkind hlay hi hpd rfl rfl
  refine W.putK (v := .int 0) hx hbt (f := f) ⟨hown, hts _ hw, ⟨_, _, _, hi⟩, (u_facts hfc hkC (u_lays hts hinw hj) hi).1⟩ (by rw [q2]; exact h6) q1 q3 (by rw [hsl]; exact k2_hasslot (q4 j hj)) rfl rfl hd fun H' e1 e2 e3 => ?_
  rw [hsl] at e1
  refine k pp e s m args below meth c H' _ ls hC hE ⟨hnk, ?_, by rw [e2]; exact hsz⟩ (hS.put e2 e3 ((Wc_D hG hnk).2 b _ he)) hl
  rw [← ew]
  exact hPw.set (Wc_D hG hnk) he ⟨_, hcl, t_OB.to (V := updV (vp_V (cFc G (σ.1 b) (σ.2 b) p b)) j (.int 0)) ⟨_, e1, q2, q3, t_set q4 hap hj _⟩ (fun i _ => vp_updV_set hlen _ i)⟩ e3
theorem CW.putZ0 {idx ci j b : Nat} (lp : LPt M.1.cls idx ci j .boolean) (lf : ∃ (C : String) (T : u_T) (N : Nat), vwCl[ci]? = some (C, T, N) ∧ Cond.fieldLink M.1.cls idx (T j).1 (T j).2.1 (T j).2.2.1 ∈ lwt) (hb : b < n) (hk : cTag b = ci) (hf : (fk ci)[j]? = some 0) (hci : ci < 20) (hv : σ.1 b j = 0) (hd : decode M.2.1 pc = .ok (.putfield idx, 3)) {q : Nat} (hq : pc + 3 = q) (k : AWh l G (Ac G) E R Z M cl sl q L st (CK G σ n p)) : AWh l G (Ac G) E R Z M cl sl pc L (.int 0 :: .ref b :: st) (CK G σ n p) := by
  intro pp e s m args below meth c H locs ls hC hE hP hS hl
  subst hq
  obtain ⟨hx, hbt, hml, hown, hts, hlk, hrt, hK, hG, hN, hnm⟩ := id hC
  obtain ⟨C, T, N, ty0, hcl, hj, hinw, -, hty, hnms, hfin, hpd⟩ := lp
  obtain ⟨C2, T2, N2, hcl2, hw⟩ := lf
  have e0 := Option.some.inj (hcl.symm.trans hcl2)
  have eT : T = T2 := congrArg (fun x : vw_C => x.2.1) e0
  subst eT
  obtain ⟨hnk, hPw, hsz⟩ := hP
  have he : (Wc G σ n p)[b]? = some (G.2.1 b, .inr (ci, cFc G (σ.1 b) (σ.2 b) p b)) := by rw [Wc_at hb, cEc_O hk hci]
  have hlen : j < (cFc G (σ.1 b) (σ.2 b) p b).length := by rw [cFc_len hk]; exact (List.getElem?_eq_some_iff.mp hf).1
  have ew : (Wc G σ n p).set b (G.2.1 b, .inr (ci, (cFc G (σ.1 b) (σ.2 b) p b).set j (.int 0))) = Wc G σ n p := Wc_put hb (fun i hi => ⟨rfl, rfl, fun j' => rfl⟩) (by rw [cEc_O hk hci, cFc_set0 hk hf hv])
  have hap := va_apart (own := M.1.cls) hts hinw ty0 hty hnms hK hcl
  obtain ⟨r, h1, cell, q1, q2, q3, q4⟩ := hPw b _ he
  have hr : r = (C, T, N) := Option.some.inj (h1.symm.trans hcl)
  subst hr
  obtain ⟨hSl, hfc, kC, hkC, hkind⟩ := hK.1 ci _ hcl
  obtain ⟨cf, kf, fi, f, hi, hsl⟩ := hSl j hj
  have hlay := hts _ (hinw _ (u_in_lay hj))
  unfold u_lay at hlay
  rw [if_neg (by rw [hfin]; decide)] at hlay
  have h6 := u_store (v := .int 0) hfc hkC hkind hlay hi hpd rfl rfl
  refine W.putK (v := .int 0) hx hbt (f := f) ⟨hown, hts _ hw, ⟨_, _, _, hi⟩, (u_facts hfc hkC (u_lays hts hinw hj) hi).1⟩ (by rw [q2]; exact h6) q1 q3 (by rw [hsl]; exact k2_hasslot (q4 j hj)) rfl rfl hd fun H' e1 e2 e3 => ?_
  rw [hsl] at e1
  refine k pp e s m args below meth c H' _ ls hC hE ⟨hnk, ?_, by rw [e2]; exact hsz⟩ (hS.put e2 e3 ((Wc_D hG hnk).2 b _ he)) hl
  rw [← ew]
  exact hPw.set (Wc_D hG hnk) he ⟨_, hcl, t_OB.to (V := updV (vp_V (cFc G (σ.1 b) (σ.2 b) p b)) j (.int 0)) ⟨_, e1, q2, q3, t_set q4 hap hj _⟩ (fun i _ => vp_updV_set hlen _ i)⟩ e3
theorem CW.putJ0 {idx ci j b : Nat} (lp : LPt M.1.cls idx ci j .long) (lf : ∃ (C : String) (T : u_T) (N : Nat), vwCl[ci]? = some (C, T, N) ∧ Cond.fieldLink M.1.cls idx (T j).1 (T j).2.1 (T j).2.2.1 ∈ lwt) (hb : b < n) (hk : cTag b = ci) (hf : (fk ci)[j]? = some 1) (hci : ci < 20) (hv : σ.2 b j = 0) (hd : decode M.2.1 pc = .ok (.putfield idx, 3)) {q : Nat} (hq : pc + 3 = q) (k : AWh l G (Ac G) E R Z M cl sl q L st (CK G σ n p)) : AWh l G (Ac G) E R Z M cl sl pc L (.long 0 :: .ref b :: st) (CK G σ n p) := by
  intro pp e s m args below meth c H locs ls hC hE hP hS hl
  subst hq
  obtain ⟨hx, hbt, hml, hown, hts, hlk, hrt, hK, hG, hN, hnm⟩ := id hC
  obtain ⟨C, T, N, ty0, hcl, hj, hinw, -, hty, hnms, hfin, hpd⟩ := lp
  obtain ⟨C2, T2, N2, hcl2, hw⟩ := lf
  have e0 := Option.some.inj (hcl.symm.trans hcl2)
  have eT : T = T2 := congrArg (fun x : vw_C => x.2.1) e0
  subst eT
  obtain ⟨hnk, hPw, hsz⟩ := hP
  have he : (Wc G σ n p)[b]? = some (G.2.1 b, .inr (ci, cFc G (σ.1 b) (σ.2 b) p b)) := by rw [Wc_at hb, cEc_O hk hci]
  have hlen : j < (cFc G (σ.1 b) (σ.2 b) p b).length := by rw [cFc_len hk]; exact (List.getElem?_eq_some_iff.mp hf).1
  have ew : (Wc G σ n p).set b (G.2.1 b, .inr (ci, (cFc G (σ.1 b) (σ.2 b) p b).set j (.long 0))) = Wc G σ n p := Wc_put hb (fun i hi => ⟨rfl, rfl, fun j' => rfl⟩) (by rw [cEc_O hk hci, cFc_setL hk hf hv])
  have hap := va_apart (own := M.1.cls) hts hinw ty0 hty hnms hK hcl
  obtain ⟨r, h1, cell, q1, q2, q3, q4⟩ := hPw b _ he
  have hr : r = (C, T, N) := Option.some.inj (h1.symm.trans hcl)
  subst hr
  obtain ⟨hSl, hfc, kC, hkC, hkind⟩ := hK.1 ci _ hcl
  obtain ⟨cf, kf, fi, f, hi, hsl⟩ := hSl j hj
  have hlay := hts _ (hinw _ (u_in_lay hj))
  unfold u_lay at hlay
  rw [if_neg (by rw [hfin]; decide)] at hlay
  have h6 := u_store (v := .long 0) hfc hkC hkind hlay hi hpd rfl rfl
  refine W.putK (v := .long 0) hx hbt (f := f) ⟨hown, hts _ hw, ⟨_, _, _, hi⟩, (u_facts hfc hkC (u_lays hts hinw hj) hi).1⟩ (by rw [q2]; exact h6) q1 q3 (by rw [hsl]; exact k2_hasslot (q4 j hj)) rfl rfl hd fun H' e1 e2 e3 => ?_
  rw [hsl] at e1
  refine k pp e s m args below meth c H' _ ls hC hE ⟨hnk, ?_, by rw [e2]; exact hsz⟩ (hS.put e2 e3 ((Wc_D hG hnk).2 b _ he)) hl
  rw [← ew]
  exact hPw.set (Wc_D hG hnk) he ⟨_, hcl, t_OB.to (V := updV (vp_V (cFc G (σ.1 b) (σ.2 b) p b)) j (.long 0)) ⟨_, e1, q2, q3, t_set q4 hap hj _⟩ (fun i _ => vp_updV_set hlen _ i)⟩ e3
theorem CW.newI {v : Int32} {N : Nat} (la : Cond.arrayClass .int ∈ lwt) (hn : n < KK) (ht : cTag n = 20) (hcl : cLen n = N) (hz : σ.1 n = fun _ => 0) (hn0 : ¬ v < 0) (hN : v.toNatClampNeg = N) (hby : N * componentBytes .int ≤ 536870912) (hcells : cl + 1 ≤ R.cells) (hslots : sl + N ≤ R.slots) (hd : decode M.2.1 pc = .ok (.newarray .int, 2)) {q : Nat} (hq : pc + 2 = q) {cl' sl' n' : Nat} (h1 : cl + 1 = cl') (h2 : sl + N = sl') (h3 : n + 1 = n') (k : AWh l G (Ac G) E R Z M cl' sl' q L (.ref n :: st) (CK G σ n' p)) : AWh l G (Ac G) E R Z M cl sl pc L (.int v :: st) (CK G σ n p) := by
  intro pp e s m args below meth c H locs ls hC hE hP hS hl
  subst hq; subst h1; subst h2; subst h3
  obtain ⟨hx, hb, hml, hown, hts, hlk, hrt, hK, hG, hN2, hnm⟩ := id hC
  obtain ⟨hnk, hPw, hsz⟩ := hP
  have had : H.size = G.2.1 n := by rw [hsz, hG n hn]
  refine va_newaK (atype := .int) hx hb (hts _ la) rfl hd rfl hn0 hN hby hcells hslots had fun H1 cA e1 z1 o1 hAr hNm => ?_
  have hcA : cA = G.2.2.1 := by
    have h7 := (hK.2 0 (G.2.2.1, .int) rfl).2
    exact Option.some.inj (hNm.symm.trans h7)
  have hk : ∀ (k : Nat) (x : Nat × va_E), (Wc G σ n p)[k]? = some x → H1[x.1]? = H[x.1]? := fun k x hx => o1 x.1 (by have := (hPw k x hx).lt; omega)
  refine k pp e s m args below meth c H1 locs ls hC hE ⟨hn, ?_, by rw [z1, ← had, hsz]; omega⟩ ⟨Nat.le_trans hS.1 (by omega), fun x h1 h2 => (o1 x (by have := hS.1; omega)).trans (hS.2.1 x h1 h2), hS.2.2⟩ hl
  rw [Wc_succ]
  refine (hPw.kept hk).app (fun k x hx => ?_)
  have hz9 : k < 1 := (List.getElem?_eq_some_iff.mp hx).1
  rw [show k = 0 by omega] at hx
  cases hx
  show va_at G.1 vwCl (G.2.1 n, cEc G (σ.1 n) (σ.2 n) p n) H1
  rw [cEc_I ht, hz, hcl, ← hcA]
  exact e1
theorem CW.newJ {v : Int32} {N : Nat} (la : Cond.arrayClass .long ∈ lwt) (hn : n < KK) (ht : cTag n = 21) (hcl : cLen n = N) (hz : σ.2 n = fun _ => 0) (hn0 : ¬ v < 0) (hN : v.toNatClampNeg = N) (hby : N * componentBytes .long ≤ 536870912) (hcells : cl + 1 ≤ R.cells) (hslots : sl + N ≤ R.slots) (hd : decode M.2.1 pc = .ok (.newarray .long, 2)) {q : Nat} (hq : pc + 2 = q) {cl' sl' n' : Nat} (h1 : cl + 1 = cl') (h2 : sl + N = sl') (h3 : n + 1 = n') (k : AWh l G (Ac G) E R Z M cl' sl' q L (.ref n :: st) (CK G σ n' p)) : AWh l G (Ac G) E R Z M cl sl pc L (.int v :: st) (CK G σ n p) := by
  intro pp e s m args below meth c H locs ls hC hE hP hS hl
  subst hq; subst h1; subst h2; subst h3
  obtain ⟨hx, hb, hml, hown, hts, hlk, hrt, hK, hG, hN2, hnm⟩ := id hC
  obtain ⟨hnk, hPw, hsz⟩ := hP
  have had : H.size = G.2.1 n := by rw [hsz, hG n hn]
  refine va_newaK (atype := .long) hx hb (hts _ la) rfl hd rfl hn0 hN hby hcells hslots had fun H1 cA e1 z1 o1 hAr hNm => ?_
  have hcA : cA = G.2.2.2.1 := by
    have h7 := (hK.2 1 (G.2.2.2.1, .long) rfl).2
    exact Option.some.inj (hNm.symm.trans h7)
  have hk : ∀ (k : Nat) (x : Nat × va_E), (Wc G σ n p)[k]? = some x → H1[x.1]? = H[x.1]? := fun k x hx => o1 x.1 (by have := (hPw k x hx).lt; omega)
  refine k pp e s m args below meth c H1 locs ls hC hE ⟨hn, ?_, by rw [z1, ← had, hsz]; omega⟩ ⟨Nat.le_trans hS.1 (by omega), fun x h1 h2 => (o1 x (by have := hS.1; omega)).trans (hS.2.1 x h1 h2), hS.2.2⟩ hl
  rw [Wc_succ]
  refine (hPw.kept hk).app (fun k x hx => ?_)
  have hz9 : k < 1 := (List.getElem?_eq_some_iff.mp hx).1
  rw [show k = 0 by omega] at hx
  cases hx
  show va_at G.1 vwCl (G.2.1 n, cEc G (σ.1 n) (σ.2 n) p n) H1
  rw [cEc_J ht, hz, hcl, ← hcA]
  exact e1
theorem CW.newZ {v : Int32} {N : Nat} (la : Cond.arrayClass .boolean ∈ lwt) (hn : n < KK) (ht : cTag n = 22) (hcl : cLen n = N) (hz : σ.1 n = fun _ => 0) (hn0 : ¬ v < 0) (hN : v.toNatClampNeg = N) (hby : N * componentBytes .boolean ≤ 536870912) (hcells : cl + 1 ≤ R.cells) (hslots : sl + N ≤ R.slots) (hd : decode M.2.1 pc = .ok (.newarray .boolean, 2)) {q : Nat} (hq : pc + 2 = q) {cl' sl' n' : Nat} (h1 : cl + 1 = cl') (h2 : sl + N = sl') (h3 : n + 1 = n') (k : AWh l G (Ac G) E R Z M cl' sl' q L (.ref n :: st) (CK G σ n' p)) : AWh l G (Ac G) E R Z M cl sl pc L (.int v :: st) (CK G σ n p) := by
  intro pp e s m args below meth c H locs ls hC hE hP hS hl
  subst hq; subst h1; subst h2; subst h3
  obtain ⟨hx, hb, hml, hown, hts, hlk, hrt, hK, hG, hN2, hnm⟩ := id hC
  obtain ⟨hnk, hPw, hsz⟩ := hP
  have had : H.size = G.2.1 n := by rw [hsz, hG n hn]
  refine va_newaK (atype := .boolean) hx hb (hts _ la) rfl hd rfl hn0 hN hby hcells hslots had fun H1 cA e1 z1 o1 hAr hNm => ?_
  have hcA : cA = G.2.2.2.2 := by
    have h7 := (hK.2 2 (G.2.2.2.2, .boolean) rfl).2
    exact Option.some.inj (hNm.symm.trans h7)
  have hk : ∀ (k : Nat) (x : Nat × va_E), (Wc G σ n p)[k]? = some x → H1[x.1]? = H[x.1]? := fun k x hx => o1 x.1 (by have := (hPw k x hx).lt; omega)
  refine k pp e s m args below meth c H1 locs ls hC hE ⟨hn, ?_, by rw [z1, ← had, hsz]; omega⟩ ⟨Nat.le_trans hS.1 (by omega), fun x h1 h2 => (o1 x (by have := hS.1; omega)).trans (hS.2.1 x h1 h2), hS.2.2⟩ hl
  rw [Wc_succ]
  refine (hPw.kept hk).app (fun k x hx => ?_)
  have hz9 : k < 1 := (List.getElem?_eq_some_iff.mp hx).1
  rw [show k = 0 by omega] at hx
  cases hx
  show va_at G.1 vwCl (G.2.1 n, cEc G (σ.1 n) (σ.2 n) p n) H1
  rw [cEc_Z ht, hz, hcl, ← hcA]
  exact e1
theorem CW.getR {idx ci j b z : Nat} (lk : LK M.1.cls idx ci j) (hb : b < n) (hk : cTag b = ci) (hf : (fk ci)[j]? = some 2) (hci : ci < 20) (hr : rh p b j = some z) (hd : decode M.2.1 pc = .ok (.getfield idx, 3)) {q : Nat} (hq : pc + 3 = q) (k : AWh l G (Ac G) E R Z M cl sl q L (.ref z :: st) (CK G σ n p)) : AWh l G (Ac G) E R Z M cl sl pc L (.ref b :: st) (CK G σ n p) := by
  intro pp e s m args below meth c H locs ls hC hE hP hS hl
  subst hq
  obtain ⟨hx, hbt, hml, hown, hts, hlk, hrt, hK, hG, hN, hnm⟩ := id hC
  obtain ⟨C, T, N, hcl, hj, hin, hw⟩ := lk
  obtain ⟨hnk, hPw, hsz⟩ := id hP
  have he : (Wc G σ n p)[b]? = some (G.2.1 b, .inr (ci, cFc G (σ.1 b) (σ.2 b) p b)) := by rw [Wc_at hb, cEc_O hk hci]
  have hv : (cFc G (σ.1 b) (σ.2 b) p b)[j]? = some (.ref (G.2.1 z)) := by rw [cFc_at hk hf, hr]; rfl
  rcases hw with hw | ⟨host, hw⟩
  · exact va_get hx hbt hts hin hown hK hPw b he hcl j hj (hts _ hw) (fun _ h => h) hv hd (k pp e s m args below meth c H locs ls hC hE hP hS hl)
  · exact va_getN hx hbt hts hin hown hK hPw b he hcl j hj (va_Nw.use rfl (hN _ hw)) (fun _ h => h) hv hd (k pp e s m args below meth c H locs ls hC hE hP hS hl)
theorem CW.iastore {b : Nat} {i v : Int32} (hb : b < n) (hk : cTag b = 20) (hin : inB i (cLen b) = true) (hd : decode M.2.1 pc = .ok (.iastore, 1)) {q : Nat} (hq : pc + 1 = q) {τ : Mm} (hτ : sI σ b i.toNatClampNeg v = τ) (k : AWh l G (Ac G) E R Z M cl sl q L st (CK G τ n p)) : AWh l G (Ac G) E R Z M cl sl pc L (.int v :: .int i :: .ref b :: st) (CK G σ n p) := by
  intro pp e s m args below meth c H locs ls hC hE hP hS hl
  subst hq; subst hτ
  obtain ⟨hx, hbt, hml, hown, hts, hlk, hrt, hK, hG, hN, hnm⟩ := id hC
  obtain ⟨hnk, hPw, hsz⟩ := hP
  have he : (Wc G σ n p)[b]? = some (G.2.1 b, .inl (G.2.2.1, cLen b, .inl (σ.1 b))) := by rw [Wc_at hb, cEc_I hk]
  have hlt : i.toNatClampNeg < cLen b := Nat.not_le.mp fun q => inB_in hin (Or.inr q)
  refine W.iast hx hbt (hPw b _ he) ((hK.2 0 _ rfl).1 (cLen b) (fun j => .int (σ.1 b j))) (fun q => by cases q) (by show ¬ (i < 0 ∨ (arrV _ _ _).slots.size ≤ _); rw [arrV_size]; exact inB_in hin) rfl rfl hd fun H1 e1 z1 oq => ?_
  refine k pp e s m args below meth c H1 _ ls hC hE ⟨hnk, ?_, by rw [z1]; exact hsz⟩ (hS.put z1 oq ((Wc_D hG hnk).2 b _ he)) hl
  have ew : (Wc G σ n p).set b (G.2.1 b, .inl (G.2.2.1, cLen b, .inl (upd (σ.1 b) i.toNatClampNeg v))) = Wc G (sI σ b i.toNatClampNeg v) n p := Wc_put hb (fun j hj => ⟨(sI_ne hj).1, (sI_ne hj).2, fun _ => rfl⟩) (by rw [cEc_I hk, sI_at])
  rw [← ew]
  refine hPw.set (Wc_D hG hnk) he ?_ oq
  show H1[G.2.1 b]? = some (vp_cell _ _)
  rw [e1]
  rw [vp_cell_i, vp_cell_i, arrV_store]
  congr 2
  funext q
  by_cases hq : q = i.toNatClampNeg
  · subst hq
    simp [updV, upd]
  · simp [updV, upd, hq]
theorem CW.callI {M' : Mth} {nn idx b d' : Nat} {As rest : List Value} {σ' : Mm} {n' p' mc ms : Nat} (lm : LMI M.1.cls idx M' nn) (hM : MC l G d' M' (.ref b :: As) σ n p σ' n' p' mc ms) (hfr : d' + 1 ≤ R.frames) (hlo : 8 + (M'.2.2.1 + 11) + 64 * d' ≤ R.locals) (hcl : cl + mc ≤ R.cells ∧ sl + ms ≤ R.slots) (hn : As.length = nn) (hst : st = As.reverse ++ .ref b :: rest) (hr : (rest.map fun v => v.category).sum ≤ 8) (hd : decode M.2.1 pc = .ok (.invokespecial idx, 3)) {q : Nat} (hq : pc + 3 = q) {cl' sl' : Nat} (h1 : cl + mc = cl') (h2 : sl + ms = sl') (k : AWh l G (Ac G) E R Z M cl' sl' q L rest (CK G σ' n' p')) : AWh l G (Ac G) E R Z M cl sl pc L st (CK G σ n p) := by
  intro pp e s m args below meth c H locs ls hC hE hP hS hl
  obtain ⟨hx, hbt, hml, hown, hts, hlk, hrt, hK, hG, hN, hnm⟩ := id hC
  subst hst; subst hq; subst h1; subst h2
  obtain ⟨lb, l1, l2, l3, l4⟩ := lm
  have hR : (rmC d' mc ms).frames + 1 ≤ R.frames ∧ 8 + (M'.2.2.1 + 11) + (rmC d' mc ms).locals ≤ R.locals := ⟨hfr, hlo⟩
  have hroom : 2 * (F0 m pc ls (rest.map (cv G.2.1))).monitorRoom + ((rest.map (cv G.2.1)).map fun v => v.category).sum ≤ 8 := lv_room (by rw [show (rest.map (cv G.2.1)).map (fun v => v.category) = rest.map (fun v => v.category) from by rw [List.map_map]; exact List.map_congr_left (fun v _ => cv_cat _ v)]; exact hr)
  have hpre : PreS s H (PcC G (.ref b :: As) σ n p) (.ref (G.2.1 b) :: As.map (cv G.2.1)) := ⟨PcC_blind G _ σ n p, fun U hU hW => ⟨rfl, hG, by rw [hU]; exact hP, va_K.moved hW.alike hK, NW.warm hW hN⟩⟩
  have hstk : (F0 m pc ls ((As.reverse ++ Value.ref b :: rest).map (cv G.2.1))).stack = (As.map (cv G.2.1)).reverse ++ .ref (G.2.1 b) :: rest.map (cv G.2.1) := by
    show (As.reverse ++ Value.ref b :: rest).map (cv G.2.1) = _
    rw [List.map_append, List.map_reverse]; rfl
  have run : va_Run pp l e R s m args below meth c H locs cl sl mc ms (F0 m pc ls ((As.reverse ++ Value.ref b :: rest).map (cv G.2.1))) (rest.map (cv G.2.1)) (QcC G σ' n' p' (Value.ref (G.2.1 b) :: As.map (cv G.2.1)).toArray) (Ac G) := by
    have hM2 := hM
    unfold MC at hM2
    rcases l1 with l1 | ⟨host, l1⟩
    · exact va_runI (p := pp) (b := G.2.1 b) (As := As.map (cv G.2.1)) (rest := rest.map (cv G.2.1)) (Ts := lwt) ⟨hx, hbt, hml, hown, hts⟩ hM2 ⟨callB_of nn hts (mWs_good lb) (by rw [mWs, l4]) rfl rfl (hts _ lb.2.1) (hts _ l1) lb.2.2 hR, l3, hts _ l2⟩ hpre rfl (by rw [List.length_map]; exact hn) hl.1 hstk hroom hd hcl
    · exact va_runIN (p := pp) (b := G.2.1 b) (As := As.map (cv G.2.1)) (rest := rest.map (cv G.2.1)) (Ts := lwt) ⟨hx, hbt, hml, hown, hts⟩ hM2 ⟨va_cnB nn hts (mWs_good lb) (by rw [mWs, l4]) rfl rfl (hN _ l1) (hts _ lb.2.1) lb.2.2 hR, l3, hts _ l2⟩ hpre rfl (by rw [List.length_map]; exact hn) hl.1 hstk hroom hd hcl
  intro T hT X
  obtain ⟨v, st0, t, T', Lc, h0, X', hL, e1, e2, ⟨hv, hPt, hz, hkp⟩, go⟩ := run T hT X
  have hv' : v = none := by injection hv
  subst hv'
  rw [h0] at hz hkp
  obtain ⟨t2, a1, b1⟩ := k pp e s m args below meth c T'.heap (locs ++ Lc) ls hC hE (by rw [e1]; exact hPt)
    ⟨Nat.le_trans hS.1 (by rw [e1]; exact hz), fun q h1 h2 => by rw [e1, hkp q (Nat.lt_of_lt_of_le h1 hS.1) h2]; exact hS.2.1 q h1 h2, fun q hq => by
      rcases List.mem_append.mp hq with h | h
      · exact hS.2.2 q h
      · exact hL q h⟩ hl T' rfl X'
  exact ⟨t2, go t2 a1, b1⟩
theorem CW.ret {d : Nat} {mc ms : Nat} (hr : M.2.2.2 = none) (hd : decode M.2.1 pc = .ok (.return_, 1)) : CW l G d M σ n p mc ms mc ms pc L [] σ n p := by
  intro pp e s m args below meth c H locs ls hC hE hP hS hl
  exact W.vret hC.1 hC.2.1 (hC.2.2.2.2.2.2.1.trans hr) (fun t ht hW => ⟨rfl, by rw [ht]; exact hP, hS.F ht⟩) hS.2.2 hd hC.2.2.2.2.2.1
end CWR

theorem lo_i : Cond.instanceMethod Lib.objectInit ∈ lwt := lw_in 19 (by decide +kernel)
theorem lo_c : Cond.code Lib.objectInit ⟨#[0xb1]⟩ 1 none ∈ lwt := lw_in 20 (by decide +kernel)
