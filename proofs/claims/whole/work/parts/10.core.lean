/-! THE QUIET MACHINE: a memory of ints and longs over the fixed cells, and a judgement that walks a method over it -/
abbrev Mm : Type := (Nat → Nat → Int32) × (Nat → Nat → Int64)
def sI (σ : Mm) (k j : Nat) (v : Int32) : Mm := (fun a b => if a = k ∧ b = j then v else σ.1 a b, σ.2)
def sJ (σ : Mm) (k j : Nat) (v : Int64) : Mm := (σ.1, fun a b => if a = k ∧ b = j then v else σ.2 a b)
abbrev Gg : Type := va_G × (Nat → Nat) × ClassId × ClassId × ClassId
def cv (ad : Nat → Nat) (v : Value) : Value := match v with
  | .ref a => .ref (ad a)
  | x => x
theorem cv_cat (ad : Nat → Nat) (v : Value) : (cv ad v).category = v.category := by cases v <;> rfl
def cFs (G : Gg) (f : Nat → Int32) (g : Nat → Int64) (k : Nat) : List Value := (fk (cTag k)).mapIdx fun j t => if t = 0 then .int (f j) else if t = 1 then .long (g j) else .ref (G.2.1 (cRef k j))
def cEl (G : Gg) (f : Nat → Int32) (g : Nat → Int64) (k : Nat) : va_E := if cTag k = 20 then .inl (G.2.2.1, cLen k, .inl f) else if cTag k = 21 then .inl (G.2.2.2.1, cLen k, .inr (.inl g)) else if cTag k = 22 then .inl (G.2.2.2.2, cLen k, .inl f) else .inr (cTag k, cFs G f g k)
def cCell (G : Gg) (σ : Mm) (k : Nat) : Nat × va_E := (G.2.1 k, cEl G (σ.1 k) (σ.2 k) k)
def Wd (G : Gg) (σ : Mm) : va_W := (List.range KK).map (cCell G σ)
theorem Wd_len (G : Gg) (σ : Mm) : (Wd G σ).length = KK := by simp [Wd]
theorem Wd_at {G : Gg} {σ : Mm} {k : Nat} (h : k < KK) : (Wd G σ)[k]? = some (cCell G σ k) := by
  rw [Wd, List.getElem?_map, List.getElem?_range h]; rfl
theorem Wd_of {G : Gg} {σ : Mm} {k : Nat} {q : Nat × va_E} (h : (Wd G σ)[k]? = some q) : k < KK ∧ q = cCell G σ k := by
  have hk : k < KK := by have := (List.getElem?_eq_some_iff.mp h).1; rw [Wd_len] at this; exact this
  rw [Wd_at hk] at h
  exact ⟨hk, (Option.some.inj h).symm⟩
def GOK (G : Gg) : Prop := ∀ k, k < KK → G.2.1 k = G.2.1 0 + k
def Ab (G : Gg) : Nat → Prop := fun q => ∃ k, k < KK ∧ q = G.2.1 k
theorem Wd_D {G : Gg} {σ : Mm} (hG : GOK G) : va_D (Ab G) (Wd G σ) := by
  refine ⟨fun i j p q hi hj hpq => ?_, fun k q hk => ?_⟩
  · obtain ⟨a1, rfl⟩ := Wd_of hi
    obtain ⟨a2, rfl⟩ := Wd_of hj
    have e1 := hG i a1
    have e2 := hG j a2
    have e3 : G.2.1 i = G.2.1 j := hpq
    omega
  · obtain ⟨a1, rfl⟩ := Wd_of hk
    exact ⟨k, a1, rfl⟩
theorem Wd_put {G : Gg} {σ τ : Mm} {k : Nat} {e : va_E} (hk : k < KK) (ho : ∀ i, i ≠ k → τ.1 i = σ.1 i ∧ τ.2 i = σ.2 i) (he : cEl G (τ.1 k) (τ.2 k) k = e) : (Wd G σ).set k (G.2.1 k, e) = Wd G τ := by
  refine List.ext_getElem? (fun i => ?_)
  by_cases hi : i = k
  · subst hi
    rw [List.getElem?_set_self (by rw [Wd_len]; exact hk), Wd_at hk, cCell, he]
  · rw [List.getElem?_set_ne (Ne.symm hi)]
    by_cases hl : i < KK
    · rw [Wd_at hl, Wd_at hl, cCell, cCell, (ho i hi).1, (ho i hi).2]
    · rw [List.getElem?_eq_none (by rw [Wd_len]; omega), List.getElem?_eq_none (by rw [Wd_len]; omega)]
theorem sI_ne {σ : Mm} {k j i : Nat} {v : Int32} (h : i ≠ k) : (sI σ k j v).1 i = σ.1 i ∧ (sI σ k j v).2 i = σ.2 i := ⟨by funext b; simp [sI, h], rfl⟩
theorem sJ_ne {σ : Mm} {k j i : Nat} {v : Int64} (h : i ≠ k) : (sJ σ k j v).1 i = σ.1 i ∧ (sJ σ k j v).2 i = σ.2 i := ⟨rfl, by funext b; simp [sJ, h]⟩
theorem sI_at {σ : Mm} {k j : Nat} {v : Int32} : (sI σ k j v).1 k = upd (σ.1 k) j v := by funext b; simp [sI, upd]
theorem sJ_at {σ : Mm} {k j : Nat} {v : Int64} : (sJ σ k j v).2 k = vp_updL (σ.2 k) j v := by funext b; simp [sJ, vp_updL]
theorem cEl_I {G : Gg} {f : Nat → Int32} {g : Nat → Int64} {k : Nat} (h : cTag k = 20) : cEl G f g k = .inl (G.2.2.1, cLen k, .inl f) := by rw [cEl, if_pos h]
theorem cEl_J {G : Gg} {f : Nat → Int32} {g : Nat → Int64} {k : Nat} (h : cTag k = 21) : cEl G f g k = .inl (G.2.2.2.1, cLen k, .inr (.inl g)) := by rw [cEl, if_neg (by omega), if_pos h]
theorem cEl_Z {G : Gg} {f : Nat → Int32} {g : Nat → Int64} {k : Nat} (h : cTag k = 22) : cEl G f g k = .inl (G.2.2.2.2, cLen k, .inl f) := by rw [cEl, if_neg (by omega), if_neg (by omega), if_pos h]
theorem cEl_O {G : Gg} {f : Nat → Int32} {g : Nat → Int64} {k ci : Nat} (h : cTag k = ci) (hc : ci < 20) : cEl G f g k = .inr (ci, cFs G f g k) := by rw [cEl, if_neg (by omega), if_neg (by omega), if_neg (by omega), h]
theorem cFs_at {G : Gg} {f : Nat → Int32} {g : Nat → Int64} {k ci j t : Nat} (h : cTag k = ci) (hj : (fk ci)[j]? = some t) : (cFs G f g k)[j]? = some (if t = 0 then .int (f j) else if t = 1 then .long (g j) else .ref (G.2.1 (cRef k j))) := by
  rw [cFs, h, List.getElem?_mapIdx, hj]; rfl
theorem cFs_len {G : Gg} {f : Nat → Int32} {g : Nat → Int64} {k ci : Nat} (h : cTag k = ci) : (cFs G f g k).length = (fk ci).length := by rw [cFs, h, List.length_mapIdx]
theorem cFs_setI {G : Gg} {f : Nat → Int32} {g : Nat → Int64} {k ci j : Nat} {v : Int32} (h : cTag k = ci) (hj : (fk ci)[j]? = some 0) : (cFs G f g k).set j (.int v) = cFs G (upd f j v) g k := by
  have hl : j < (fk ci).length := (List.getElem?_eq_some_iff.mp hj).1
  refine List.ext_getElem? (fun i => ?_)
  by_cases hi : i = j
  · subst hi
    rw [List.getElem?_set_self (by rw [cFs_len h]; exact hl), cFs_at h hj]
    simp [upd]
  · rw [List.getElem?_set_ne (Ne.symm hi), cFs, cFs, List.getElem?_mapIdx, List.getElem?_mapIdx]
    cases (fk (cTag k))[i]? with
    | none => rfl
    | some t => simp [upd, hi]
theorem cFs_setJ {G : Gg} {f : Nat → Int32} {g : Nat → Int64} {k ci j : Nat} {v : Int64} (h : cTag k = ci) (hj : (fk ci)[j]? = some 1) : (cFs G f g k).set j (.long v) = cFs G f (vp_updL g j v) k := by
  have hl : j < (fk ci).length := (List.getElem?_eq_some_iff.mp hj).1
  refine List.ext_getElem? (fun i => ?_)
  by_cases hi : i = j
  · subst hi
    rw [List.getElem?_set_self (by rw [cFs_len h]; exact hl), cFs_at h hj]
    simp [vp_updL]
  · rw [List.getElem?_set_ne (Ne.symm hi), cFs, cFs, List.getElem?_mapIdx, List.getElem?_mapIdx]
    cases (fk (cTag k))[i]? with
    | none => rfl
    | some t => simp [vp_updL, hi]
def cTys (G : Gg) : List (ClassId × FieldType) := [(G.2.2.1, .int), (G.2.2.2.1, .long), (G.2.2.2.2, .boolean)]
def mWs (M : Mth) : List Cond := .code M.1 M.2.1 M.2.2.1 M.2.2.2 :: lwt
def rmD (d : Nat) : Room := { frames := d, cells := 0, slots := 0, locals := 64 * d }
def NW (U : State) : Prop := ∀ w ∈ nwt, va_Nw w U
theorem NW.warm {s U : State} (hW : s.WarmedH U.vm) (h : NW s) : NW U := by
  intro w hw
  have h1 := h w hw
  have h2 := (List.mem_filter.mp hw).2
  cases w <;> first | (simp [isNest] at h2; done) | exact va_Nw.warmF hW h1 | exact va_Nw.warmM hW h1
theorem NW.same {u U : State} (hv : u.vm = U.vm) (h : NW u) : NW U := by
  intro w hw
  have h1 := h w hw
  have h2 := (List.mem_filter.mp hw).2
  cases w <;> first | (simp [isNest] at h2; done) | exact va_Nw.same rfl hv h1
def Pq (G : Gg) (as : List Value) (σ : Mm) : Array Value → State → Prop := fun v U => v = (as.map (cv G.2.1)).toArray ∧ GOK G ∧ va_P G.1 vwCl (Wd G σ) U.heap ∧ va_K G.1 vwCl (cTys G) U ∧ NW U
def Qq (G : Gg) (r : Option Value) (τ : Mm) : Array Value → State → Outcome → State → Prop := fun _ st oc t => oc = .returned (r.map (cv G.2.1)) ∧ va_P G.1 vwCl (Wd G τ) t.heap ∧ va_F (Ab G) st t
/-- the method M, called with these values in this memory, returns r and leaves the memory τ -/
def MR (l : Launch) (G : Gg) (d : Nat) (M : Mth) (as : List Value) (σ : Mm) (r : Option Value) (τ : Mm) : Prop := Met l M.1 (mWs M) (rmD d) (Pq G as σ) (Qq G r τ) 0 0 (Ab G)
def LL (G : Gg) (L : List (Nat × Value)) : List (Nat × Value) := L.map fun q => (q.1, cv G.2.1 q.2)
def Cx (G : Gg) (M : Mth) (p : Program) (s : State) (m : MethodId) (args : Array Value) (meth : Method) (c : Code) : Prop :=
  p.tables.exec = Jvm.exec ∧ c.code = M.2.1 ∧ c.maxLocals = M.2.2.1 ∧ s.vm.findClass M.1.cls = some m.cls ∧ (∀ w ∈ lwt, w.before args s = true) ∧ meth.locks = false ∧ meth.sig.returnType = M.2.2.2 ∧ va_K G.1 vwCl (cTys G) s ∧ GOK G ∧ NW s ∧ (M.1.name = "<init>" → meth.name = "<init>")
def WK (G : Gg) (σ : Mm) (H : Heap) : Prop := va_P G.1 vwCl (Wd G σ) H
/-- from this place of the method M, with these locals and this stack and a heap of the kind κ, it comes to its end Z -/
def AWh (l : Launch) (G : Gg) (A : Nat → Prop) (E : State → Array Value → Prop) (R : Room) (Z : List Frame → Array Value → State → State → Prop) (M : Mth) (cl sl pc : Nat) (L : List (Nat × Value)) (st : List Value) (κ : Heap → Prop) : Prop :=
  ∀ (p : Program) (e : Env) (s : State) (m : MethodId) (args : Array Value) (below : List Frame) (meth : Method) (c : Code) (H : Heap) (locs : List Loc) (ls : Array Slot),
    Cx G M p s m args meth c → E s args → κ H → va_S A s.heap H locs → lv_has ls M.2.2.1 (LL G L) →
    W p l e R s m args below meth c H locs cl sl (Z below args s) (F0 m pc ls (st.map (cv G.2.1)))
/-- from this place of the method M, with these locals, this stack and this memory, it returns r and leaves τ -/
abbrev AW (l : Launch) (G : Gg) (d : Nat) (M : Mth) (r : Option Value) (τ : Mm) (pc : Nat) (L : List (Nat × Value)) (st : List Value) (σ : Mm) : Prop :=
  AWh l G (Ab G) (fun _ _ => True) (rmD d) (fun below args s => MQ below (Qq G r τ) args s 0 0 (Ab G)) M 0 0 pc L st (WK G σ)
theorem lvm {L : List (Nat × Value)} (n : Nat) {q : Nat × Value} (h : L[n]? = some q) : q ∈ L := List.mem_of_getElem? h
theorem LL_mem {G : Gg} {L : List (Nat × Value)} {ls : Array Slot} {n i : Nat} {v : Value} (hl : lv_has ls n (LL G L)) (h : (i, v) ∈ L) : ls[i]? = some (.val (cv G.2.1 v)) :=
  hl.2.2 (i, cv G.2.1 v) (List.mem_map.mpr ⟨(i, v), h, rfl⟩)
def stF (L : List (Nat × Value)) (i : Nat) : List (Nat × Value) := L.filter (fun q => !(q.1 == i) && !(q.1 + 1 == i && q.2.category == 2))
def stG (L : List (Nat × Value)) (i : Nat) : List (Nat × Value) := L.filter (fun q => !(q.1 == i) && (!(q.1 == i + 1) && !(q.1 + 1 == i && q.2.category == 2)))
theorem LL_stF (G : Gg) (L : List (Nat × Value)) (i : Nat) : (LL G L).filter (fun q => !(q.1 == i) && !(q.1 + 1 == i && q.2.category == 2)) = LL G (stF L i) := by
  unfold LL stF
  rw [List.filter_map]
  congr 1
  refine List.filter_congr (fun q _ => ?_)
  simp only [Function.comp, cv_cat]
theorem LL_stG (G : Gg) (L : List (Nat × Value)) (i : Nat) : (LL G L).filter (fun q => !(q.1 == i) && (!(q.1 == i + 1) && !(q.1 + 1 == i && q.2.category == 2))) = LL G (stG L i) := by
  unfold LL stG
  rw [List.filter_map]
  congr 1
  refine List.filter_congr (fun q _ => ?_)
  simp only [Function.comp, cv_cat]
theorem LL_args (G : Gg) : ∀ (vs : List Value) (i : Nat), lv_args i (vs.map (cv G.2.1)) = LL G (lv_args i vs)
  | [], _ => rfl
  | v :: vs, i => by
    show (i, cv G.2.1 v) :: lv_args (if (cv G.2.1 v).category = 2 then i + 2 else i + 1) (vs.map (cv G.2.1)) = (i, cv G.2.1 v) :: LL G (lv_args (if v.category = 2 then i + 2 else i + 1) vs)
    rw [cv_cat, LL_args G vs]
theorem lg_len (G : Gg) : ∀ vs : List Value, (lg_sl (vs.map (cv G.2.1))).length = (lg_sl vs).length
  | [] => rfl
  | v :: vs => by
    have ih := lg_len G vs
    have e1 : lg_sl ((v :: vs).map (cv G.2.1)) = (if (cv G.2.1 v).category = 2 then [.val (cv G.2.1 v), .second] else [.val (cv G.2.1 v)]) ++ lg_sl (vs.map (cv G.2.1)) := rfl
    have e2 : lg_sl (v :: vs) = (if v.category = 2 then [.val v, .second] else [.val v]) ++ lg_sl vs := rfl
    rw [e1, e2, List.length_append, List.length_append, ih, cv_cat]
    split <;> rfl
theorem MR.of {l : Launch} {G : Gg} {d : Nat} {M : Mth} {as : List Value} {σ τ : Mm} {r : Option Value} (hy : plainName M.1.cls = true) (hn : (lg_sl as).length ≤ M.2.2.1) (h : AW l G d M r τ 0 (lv_args 0 as) [] σ) : MR l G d M as σ r τ := by
  refine Met.ofW (cc := M.2.1) (maxL := M.2.2.1) (ret := M.2.2.2) hy rfl ?_
  intro p e s m args below meth c s₁ B hml hv
  obtain ⟨rfl, hG, hP, hK, hN⟩ := hv
  have hts := atoms_spec (ws := mWs M) B.pre
  have hl := lv_entry (as.map (cv G.2.1)) (n := M.2.2.1) (by rw [lg_len]; exact hn)
  rw [lg_entry_eq]
  rw [LL_args] at hl
  exact h p e s m _ below meth c s.heap [] _ ⟨B.exec, B.bytes, hml, findClass_of_methodNamed B.named, fun w hw => hts w (List.mem_cons_of_mem _ hw), B.notSynchronized, B.returns, hK, hG, hN, fun h => (name_of_methodNamed B.named B.method).1.trans h⟩ trivial hP va_S.rf hl
theorem Pq_blind (G : Gg) (as : List Value) (σ : Mm) : FrameBlind (Pq G as σ) := fun a U g mk q => ⟨q.1, q.2.1, q.2.2.1, va_K.moved (u := U) (U := U.calling g mk a) (Vm.Alike.refl U.vm) q.2.2.2.1, NW.same (u := U) (U := U.calling g mk a) rfl q.2.2.2.2⟩
theorem mWs_good {M : Mth} {n : Nat} (h : LMb M n) : GoodIn lwt (mWs M) := by
  intro w hw
  have hm : w ∈ lwt := by
    rcases List.mem_cons.mp hw with rfl | q
    · exact h.1
    · exact q
  exact ⟨hm, good_of_word (lw_good w hm)⟩
