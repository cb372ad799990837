/-! the rules of the judgement, an instruction each -/
def jshl (x y : Int32) : Int32 := x <<< (y &&& 31)
def jshr (x y : Int32) : Int32 := x >>> (y &&& 31)
def jushr (x y : Int32) : Int32 := (x.toUInt32 >>> (y.toUInt32 &&& Int32.toUInt32 31)).toInt32
def jrem (x y : Int32) : Int32 := x - x / y * y
def jlshl (x : Int64) (y : Int32) : Int64 := x <<< (y.toInt64 &&& 63)
def jlushr (x : Int64) (y : Int32) : Int64 := (x.toUInt64 >>> (y.toInt64.toUInt64 &&& Int64.toUInt64 63)).toInt64
def jlrem (x y : Int64) : Int64 := x - x / y * y
def jabs (x : Int32) : Int32 := if 0 ≤ x then x else 0 - x
def inB (i : Int32) (n : Nat) : Bool := decide (¬ (i < 0 ∨ n ≤ i.toNatClampNeg))
theorem inB_in {i : Int32} {n : Nat} (h : inB i n = true) : vp_in i n := of_decide_eq_true (p := ¬ (i < 0 ∨ n ≤ i.toNatClampNeg)) h
def gd {α : Type} (b : Bool) (x : Option α) : Option α := if b = true then x else none
theorem gd_s {α : Type} {b : Bool} {x : Option α} {y : α} (h : gd b x = some y) : b = true ∧ x = some y := by
  unfold gd at h
  split at h
  · exact ⟨by assumption, h⟩
  · cases h
theorem bind_s {α β : Type} {a : Option α} {f : α → Option β} {y : β} (h : a.bind f = some y) : ∃ x, a = some x ∧ f x = some y := by
  cases a with
  | none => cases h
  | some x => exact ⟨x, rfl, h⟩
abbrev FU : Nat := 1000000000
section AWR
variable {l : Launch} {G : Gg} {A : Nat → Prop} {E : State → Array Value → Prop} {R : Room} {Z : List Frame → Array Value → State → State → Prop} {cl sl : Nat} {κ : Heap → Prop} {d : Nat} {M : Mth} {r : Option Value} {τ : Mm} {pc : Nat} {L : List (Nat × Value)} {st : List Value} {σ : Mm}
theorem AW.sub (ks : List Nat) {L' : List (Nat × Value)} (h : ks.filterMap (fun k => L[k]?) = L') (k : AWh l G A E R Z M cl sl pc L' st κ) : AWh l G A E R Z M cl sl pc L st κ := by
  intro p e s m args below meth c H locs ls hC hE hP hS hl
  refine k p e s m args below meth c H locs ls hC hE hP hS ⟨hl.1, hl.2.1, fun q hq => ?_⟩
  obtain ⟨q0, hq0, rfl⟩ := List.mem_map.mp hq
  rw [← h] at hq0
  obtain ⟨i, -, hi⟩ := List.mem_filterMap.mp hq0
  exact hl.2.2 _ (List.mem_map.mpr ⟨q0, List.mem_of_getElem? hi, rfl⟩)
theorem AW.iadd {x y : Int32} (hd : decode M.2.1 pc = .ok (.iadd, 1)) {q : Nat} (hq : pc + 1 = q) (k : AWh l G A E R Z M cl sl q L (.int (x + y) :: st) κ) : AWh l G A E R Z M cl sl pc L (.int y :: .int x :: st) κ := by
  intro p e s m args below meth c H locs ls hC hE hP hS hl
  subst hq
  exact lv_iadd hC.1 hC.2.1 hd (k p e s m args below meth c H locs ls hC hE hP hS hl)
theorem AW.isub {x y : Int32} (hd : decode M.2.1 pc = .ok (.isub, 1)) {q : Nat} (hq : pc + 1 = q) (k : AWh l G A E R Z M cl sl q L (.int (x - y) :: st) κ) : AWh l G A E R Z M cl sl pc L (.int y :: .int x :: st) κ := by
  intro p e s m args below meth c H locs ls hC hE hP hS hl
  subst hq
  exact lv_isub hC.1 hC.2.1 hd (k p e s m args below meth c H locs ls hC hE hP hS hl)
theorem AW.imul {x y : Int32} (hd : decode M.2.1 pc = .ok (.imul, 1)) {q : Nat} (hq : pc + 1 = q) (k : AWh l G A E R Z M cl sl q L (.int (x * y) :: st) κ) : AWh l G A E R Z M cl sl pc L (.int y :: .int x :: st) κ := by
  intro p e s m args below meth c H locs ls hC hE hP hS hl
  subst hq
  exact lv_imul hC.1 hC.2.1 hd (k p e s m args below meth c H locs ls hC hE hP hS hl)
theorem AW.iand {x y : Int32} (hd : decode M.2.1 pc = .ok (.iand, 1)) {q : Nat} (hq : pc + 1 = q) (k : AWh l G A E R Z M cl sl q L (.int (x &&& y) :: st) κ) : AWh l G A E R Z M cl sl pc L (.int y :: .int x :: st) κ := by
  intro p e s m args below meth c H locs ls hC hE hP hS hl
  subst hq
  exact lv_iand hC.1 hC.2.1 hd (k p e s m args below meth c H locs ls hC hE hP hS hl)
theorem AW.ior {x y : Int32} (hd : decode M.2.1 pc = .ok (.ior, 1)) {q : Nat} (hq : pc + 1 = q) (k : AWh l G A E R Z M cl sl q L (.int (x ||| y) :: st) κ) : AWh l G A E R Z M cl sl pc L (.int y :: .int x :: st) κ := by
  intro p e s m args below meth c H locs ls hC hE hP hS hl
  subst hq
  exact lv_ior hC.1 hC.2.1 hd (k p e s m args below meth c H locs ls hC hE hP hS hl)
theorem AW.ixor {x y : Int32} (hd : decode M.2.1 pc = .ok (.ixor, 1)) {q : Nat} (hq : pc + 1 = q) (k : AWh l G A E R Z M cl sl q L (.int (x ^^^ y) :: st) κ) : AWh l G A E R Z M cl sl pc L (.int y :: .int x :: st) κ := by
  intro p e s m args below meth c H locs ls hC hE hP hS hl
  subst hq
  exact lv_ixor hC.1 hC.2.1 hd (k p e s m args below meth c H locs ls hC hE hP hS hl)
theorem AW.ladd {x y : Int64} (hd : decode M.2.1 pc = .ok (.ladd, 1)) {q : Nat} (hq : pc + 1 = q) (k : AWh l G A E R Z M cl sl q L (.long (x + y) :: st) κ) : AWh l G A E R Z M cl sl pc L (.long y :: .long x :: st) κ := by
  intro p e s m args below meth c H locs ls hC hE hP hS hl
  subst hq
  exact lv_ladd hC.1 hC.2.1 hd (k p e s m args below meth c H locs ls hC hE hP hS hl)
theorem AW.lsub {x y : Int64} (hd : decode M.2.1 pc = .ok (.lsub, 1)) {q : Nat} (hq : pc + 1 = q) (k : AWh l G A E R Z M cl sl q L (.long (x - y) :: st) κ) : AWh l G A E R Z M cl sl pc L (.long y :: .long x :: st) κ := by
  intro p e s m args below meth c H locs ls hC hE hP hS hl
  subst hq
  exact lv_lsub hC.1 hC.2.1 hd (k p e s m args below meth c H locs ls hC hE hP hS hl)
theorem AW.lmul {x y : Int64} (hd : decode M.2.1 pc = .ok (.lmul, 1)) {q : Nat} (hq : pc + 1 = q) (k : AWh l G A E R Z M cl sl q L (.long (x * y) :: st) κ) : AWh l G A E R Z M cl sl pc L (.long y :: .long x :: st) κ := by
  intro p e s m args below meth c H locs ls hC hE hP hS hl
  subst hq
  exact lv_lmul hC.1 hC.2.1 hd (k p e s m args below meth c H locs ls hC hE hP hS hl)
theorem AW.land {x y : Int64} (hd : decode M.2.1 pc = .ok (.land, 1)) {q : Nat} (hq : pc + 1 = q) (k : AWh l G A E R Z M cl sl q L (.long (x &&& y) :: st) κ) : AWh l G A E R Z M cl sl pc L (.long y :: .long x :: st) κ := by
  intro p e s m args below meth c H locs ls hC hE hP hS hl
  subst hq
  exact lv_land hC.1 hC.2.1 hd (k p e s m args below meth c H locs ls hC hE hP hS hl)
theorem AW.lor {x y : Int64} (hd : decode M.2.1 pc = .ok (.lor, 1)) {q : Nat} (hq : pc + 1 = q) (k : AWh l G A E R Z M cl sl q L (.long (x ||| y) :: st) κ) : AWh l G A E R Z M cl sl pc L (.long y :: .long x :: st) κ := by
  intro p e s m args below meth c H locs ls hC hE hP hS hl
  subst hq
  exact lv_lor hC.1 hC.2.1 hd (k p e s m args below meth c H locs ls hC hE hP hS hl)
theorem AW.idiv {x y : Int32} (hd : decode M.2.1 pc = .ok (.idiv, 1)) {q : Nat} (hq : pc + 1 = q) (hne : ¬ y = 0) (k : AWh l G A E R Z M cl sl q L (.int (x / y) :: st) κ) : AWh l G A E R Z M cl sl pc L (.int y :: .int x :: st) κ := by
  intro p e s m args below meth c H locs ls hC hE hP hS hl
  subst hq
  exact lv_idiv hC.1 hC.2.1 hd hne (k p e s m args below meth c H locs ls hC hE hP hS hl)
theorem AW.irem {x y : Int32} (hd : decode M.2.1 pc = .ok (.irem, 1)) {q : Nat} (hq : pc + 1 = q) (hne : ¬ y = 0) (k : AWh l G A E R Z M cl sl q L (.int (jrem x y) :: st) κ) : AWh l G A E R Z M cl sl pc L (.int y :: .int x :: st) κ := by
  intro p e s m args below meth c H locs ls hC hE hP hS hl
  subst hq
  exact lv_irem hC.1 hC.2.1 hd hne (k p e s m args below meth c H locs ls hC hE hP hS hl)
theorem AW.ldiv {x y : Int64} (hd : decode M.2.1 pc = .ok (.ldiv, 1)) {q : Nat} (hq : pc + 1 = q) (hne : ¬ y = 0) (k : AWh l G A E R Z M cl sl q L (.long (x / y) :: st) κ) : AWh l G A E R Z M cl sl pc L (.long y :: .long x :: st) κ := by
  intro p e s m args below meth c H locs ls hC hE hP hS hl
  subst hq
  exact lv_ldiv hC.1 hC.2.1 hd hne (k p e s m args below meth c H locs ls hC hE hP hS hl)
theorem AW.lrem {x y : Int64} (hd : decode M.2.1 pc = .ok (.lrem, 1)) {q : Nat} (hq : pc + 1 = q) (hne : ¬ y = 0) (k : AWh l G A E R Z M cl sl q L (.long (jlrem x y) :: st) κ) : AWh l G A E R Z M cl sl pc L (.long y :: .long x :: st) κ := by
  intro p e s m args below meth c H locs ls hC hE hP hS hl
  subst hq
  exact lv_lrem hC.1 hC.2.1 hd hne (k p e s m args below meth c H locs ls hC hE hP hS hl)
theorem AW.ishl {x y : Int32} (hd : decode M.2.1 pc = .ok (.ishl, 1)) {q : Nat} (hq : pc + 1 = q) (k : AWh l G A E R Z M cl sl q L (.int (jshl x y) :: st) κ) : AWh l G A E R Z M cl sl pc L (.int y :: .int x :: st) κ := by
  intro p e s m args below meth c H locs ls hC hE hP hS hl
  subst hq
  exact lv_ishl hC.1 hC.2.1 hd (k p e s m args below meth c H locs ls hC hE hP hS hl)
theorem AW.ishr {x y : Int32} (hd : decode M.2.1 pc = .ok (.ishr, 1)) {q : Nat} (hq : pc + 1 = q) (k : AWh l G A E R Z M cl sl q L (.int (jshr x y) :: st) κ) : AWh l G A E R Z M cl sl pc L (.int y :: .int x :: st) κ := by
  intro p e s m args below meth c H locs ls hC hE hP hS hl
  subst hq
  exact lv_ishr hC.1 hC.2.1 hd (k p e s m args below meth c H locs ls hC hE hP hS hl)
theorem AW.iushr {x y : Int32} (hd : decode M.2.1 pc = .ok (.iushr, 1)) {q : Nat} (hq : pc + 1 = q) (k : AWh l G A E R Z M cl sl q L (.int (jushr x y) :: st) κ) : AWh l G A E R Z M cl sl pc L (.int y :: .int x :: st) κ := by
  intro p e s m args below meth c H locs ls hC hE hP hS hl
  subst hq
  exact lv_iushr hC.1 hC.2.1 hd rfl (k p e s m args below meth c H locs ls hC hE hP hS hl)
theorem AW.lshl {x : Int64} {y : Int32} (hd : decode M.2.1 pc = .ok (.lshl, 1)) {q : Nat} (hq : pc + 1 = q) (k : AWh l G A E R Z M cl sl q L (.long (jlshl x y) :: st) κ) : AWh l G A E R Z M cl sl pc L (.int y :: .long x :: st) κ := by
  intro p e s m args below meth c H locs ls hC hE hP hS hl
  subst hq
  exact lv_lshl hC.1 hC.2.1 hd rfl (k p e s m args below meth c H locs ls hC hE hP hS hl)
theorem AW.lushr {x : Int64} {y : Int32} (hd : decode M.2.1 pc = .ok (.lushr, 1)) {q : Nat} (hq : pc + 1 = q) (k : AWh l G A E R Z M cl sl q L (.long (jlushr x y) :: st) κ) : AWh l G A E R Z M cl sl pc L (.int y :: .long x :: st) κ := by
  intro p e s m args below meth c H locs ls hC hE hP hS hl
  subst hq
  exact lv_lushr hC.1 hC.2.1 hd rfl (k p e s m args below meth c H locs ls hC hE hP hS hl)
theorem AW.ineg {x : Int32} (hd : decode M.2.1 pc = .ok (.ineg, 1)) {q : Nat} (hq : pc + 1 = q) (k : AWh l G A E R Z M cl sl q L (.int (-x) :: st) κ) : AWh l G A E R Z M cl sl pc L (.int x :: st) κ := by
  intro p e s m args below meth c H locs ls hC hE hP hS hl
  subst hq
  exact lv_ineg hC.1 hC.2.1 hd (k p e s m args below meth c H locs ls hC hE hP hS hl)
theorem AW.i2l {x : Int32} (hd : decode M.2.1 pc = .ok (.i2l, 1)) {q : Nat} (hq : pc + 1 = q) (k : AWh l G A E R Z M cl sl q L (.long x.toInt64 :: st) κ) : AWh l G A E R Z M cl sl pc L (.int x :: st) κ := by
  intro p e s m args below meth c H locs ls hC hE hP hS hl
  subst hq
  exact lv_i2l hC.1 hC.2.1 hd rfl (k p e s m args below meth c H locs ls hC hE hP hS hl)
theorem AW.l2i {x : Int64} (hd : decode M.2.1 pc = .ok (.l2i, 1)) {q : Nat} (hq : pc + 1 = q) (k : AWh l G A E R Z M cl sl q L (.int x.toInt32 :: st) κ) : AWh l G A E R Z M cl sl pc L (.long x :: st) κ := by
  intro p e s m args below meth c H locs ls hC hE hP hS hl
  subst hq
  exact lv_l2i hC.1 hC.2.1 hd rfl (k p e s m args below meth c H locs ls hC hE hP hS hl)
theorem AW.lcmp {x y : Int64} (hd : decode M.2.1 pc = .ok (.lcmp, 1)) {q : Nat} (hq : pc + 1 = q) (k : AWh l G A E R Z M cl sl q L (.int (lg_cmp x y) :: st) κ) : AWh l G A E R Z M cl sl pc L (.long y :: .long x :: st) κ := by
  intro p e s m args below meth c H locs ls hC hE hP hS hl
  subst hq
  exact W.lcmp hC.1 hC.2.1 hd (k p e s m args below meth c H locs ls hC hE hP hS hl)
theorem AW.iconst {n : Int} {v : Int32} (hd : decode M.2.1 pc = .ok (.iconst n, 1)) {q : Nat} (hq : pc + 1 = q) (hv : Int32.ofInt n = v) (k : AWh l G A E R Z M cl sl q L (.int v :: st) κ) : AWh l G A E R Z M cl sl pc L (st) κ := by
  intro p e s m args below meth c H locs ls hC hE hP hS hl
  subst hq
  exact lv_iconst hC.1 hC.2.1 hd hv (k p e s m args below meth c H locs ls hC hE hP hS hl)
theorem AW.bipush {n : Int} {v : Int32} (hd : decode M.2.1 pc = .ok (.bipush n, 2)) {q : Nat} (hq : pc + 2 = q) (hv : (Int8.ofInt n).toInt32 = v) (k : AWh l G A E R Z M cl sl q L (.int v :: st) κ) : AWh l G A E R Z M cl sl pc L (st) κ := by
  intro p e s m args below meth c H locs ls hC hE hP hS hl
  subst hq
  exact lv_bipush hC.1 hC.2.1 hd hv (k p e s m args below meth c H locs ls hC hE hP hS hl)
theorem AW.sipush {n : Int} {v : Int32} (hd : decode M.2.1 pc = .ok (.sipush n, 3)) {q : Nat} (hq : pc + 3 = q) (hv : (Int16.ofInt n).toInt32 = v) (k : AWh l G A E R Z M cl sl q L (.int v :: st) κ) : AWh l G A E R Z M cl sl pc L (st) κ := by
  intro p e s m args below meth c H locs ls hC hE hP hS hl
  subst hq
  exact lv_sipush hC.1 hC.2.1 hd hv (k p e s m args below meth c H locs ls hC hE hP hS hl)
theorem AW.lconst {n : Fin 2} {v : Int64} (hd : decode M.2.1 pc = .ok (.lconst n, 1)) {q : Nat} (hq : pc + 1 = q) (hv : Int64.ofNat (n : Nat) = v) (k : AWh l G A E R Z M cl sl q L (.long v :: st) κ) : AWh l G A E R Z M cl sl pc L (st) κ := by
  intro p e s m args below meth c H locs ls hC hE hP hS hl
  subst hq
  exact lv_lconst hC.1 hC.2.1 hd hv (k p e s m args below meth c H locs ls hC hE hP hS hl)
theorem AW.null  (hd : decode M.2.1 pc = .ok (.aconst_null, 1)) {q : Nat} (hq : pc + 1 = q) (k : AWh l G A E R Z M cl sl q L (.null :: st) κ) : AWh l G A E R Z M cl sl pc L (st) κ := by
  intro p e s m args below meth c H locs ls hC hE hP hS hl
  subst hq
  exact lv_null hC.1 hC.2.1 hd (k p e s m args below meth c H locs ls hC hE hP hS hl)
theorem AW.dup {v : Value} (hd : decode M.2.1 pc = .ok (.dup, 1)) {q : Nat} (hq : pc + 1 = q) (hv : v.category = 1) (k : AWh l G A E R Z M cl sl q L (v :: v :: st) κ) : AWh l G A E R Z M cl sl pc L (v :: st) κ := by
  intro p e s m args below meth c H locs ls hC hE hP hS hl
  subst hq
  exact lv_dup hC.1 hC.2.1 hd (by rw [cv_cat]; exact hv) (k p e s m args below meth c H locs ls hC hE hP hS hl)
theorem AW.pop {v : Value} (hd : decode M.2.1 pc = .ok (.pop, 1)) {q : Nat} (hq : pc + 1 = q) (hv : v.category = 1) (k : AWh l G A E R Z M cl sl q L (st) κ) : AWh l G A E R Z M cl sl pc L (v :: st) κ := by
  intro p e s m args below meth c H locs ls hC hE hP hS hl
  subst hq
  exact lv_pop hC.1 hC.2.1 hd (by rw [cv_cat]; exact hv) (k p e s m args below meth c H locs ls hC hE hP hS hl)
theorem AW.dup2 {v u : Value} (hd : decode M.2.1 pc = .ok (.dup2, 1)) {q : Nat} (hq : pc + 1 = q) (hv : v.category = 1) (hu : u.category = 1) (k : AWh l G A E R Z M cl sl q L (v :: u :: v :: u :: st) κ) : AWh l G A E R Z M cl sl pc L (v :: u :: st) κ := by
  intro p e s m args below meth c H locs ls hC hE hP hS hl
  subst hq
  exact lv_dup2_11 hC.1 hC.2.1 hd (by rw [cv_cat]; exact hv) (by rw [cv_cat]; exact hu) (k p e s m args below meth c H locs ls hC hE hP hS hl)
theorem AW.iload_n {f : Fin 4} {x : Int32} (hd : decode M.2.1 pc = .ok (.iload_n f, 1)) {q : Nat} (hq : pc + 1 = q) (n : Nat) (hL : L[n]? = some ((f : Nat), Value.int x)) (k : AWh l G A E R Z M cl sl q L (.int x :: st) κ) : AWh l G A E R Z M cl sl pc L st κ := by
  intro p e s m args below meth c H locs ls hC hE hP hS hl
  subst hq
  exact lv_iload_n hC.1 hC.2.1 hd rfl (LL_mem hl (lvm n hL)) (k p e s m args below meth c H locs ls hC hE hP hS hl)
theorem AW.iload {i : Nat} {x : Int32} (hd : decode M.2.1 pc = .ok (.iload i, 2)) {q : Nat} (hq : pc + 2 = q) (n : Nat) (hL : L[n]? = some (i, Value.int x)) (k : AWh l G A E R Z M cl sl q L (.int x :: st) κ) : AWh l G A E R Z M cl sl pc L st κ := by
  intro p e s m args below meth c H locs ls hC hE hP hS hl
  subst hq
  exact lv_iload hC.1 hC.2.1 hd (LL_mem hl (lvm n hL)) (k p e s m args below meth c H locs ls hC hE hP hS hl)
theorem AW.istore_n {f : Fin 4} {x : Int32} {L' : List (Nat × Value)} (hd : decode M.2.1 pc = .ok (.istore_n f, 1)) {q : Nat} (hq : pc + 1 = q) (hn : (f : Nat) < M.2.2.1) (hL : ((f : Nat), Value.int x) :: stF L (f : Nat) = L') (k : AWh l G A E R Z M cl sl q L' st κ) : AWh l G A E R Z M cl sl pc L (.int x :: st) κ := by
  intro p e s m args below meth c H locs ls hC hE hP hS hl
  subst hq
  refine lv_istore_n (lv' := LL G L') hC.1 hC.2.1 hd rfl hl hn ?_ (fun ls' hl' => k p e s m args below meth c H locs ls' hC hE hP hS hl')
  rw [LL_stF, ← hL]; rfl
theorem AW.istore {i : Nat} {x : Int32} {L' : List (Nat × Value)} (hd : decode M.2.1 pc = .ok (.istore i, 2)) {q : Nat} (hq : pc + 2 = q) (hn : i < M.2.2.1) (hL : (i, Value.int x) :: stF L i = L') (k : AWh l G A E R Z M cl sl q L' st κ) : AWh l G A E R Z M cl sl pc L (.int x :: st) κ := by
  intro p e s m args below meth c H locs ls hC hE hP hS hl
  subst hq
  refine lv_istore (lv' := LL G L') hC.1 hC.2.1 hd hl hn ?_ (fun ls' hl' => k p e s m args below meth c H locs ls' hC hE hP hS hl')
  rw [LL_stF, ← hL]; rfl
theorem AW.lload_n {f : Fin 4} {x : Int64} (hd : decode M.2.1 pc = .ok (.lload_n f, 1)) {q : Nat} (hq : pc + 1 = q) (n : Nat) (hL : L[n]? = some ((f : Nat), Value.long x)) (k : AWh l G A E R Z M cl sl q L (.long x :: st) κ) : AWh l G A E R Z M cl sl pc L st κ := by
  intro p e s m args below meth c H locs ls hC hE hP hS hl
  subst hq
  exact lv_lload_n hC.1 hC.2.1 hd rfl (LL_mem hl (lvm n hL)) (k p e s m args below meth c H locs ls hC hE hP hS hl)
theorem AW.lload {i : Nat} {x : Int64} (hd : decode M.2.1 pc = .ok (.lload i, 2)) {q : Nat} (hq : pc + 2 = q) (n : Nat) (hL : L[n]? = some (i, Value.long x)) (k : AWh l G A E R Z M cl sl q L (.long x :: st) κ) : AWh l G A E R Z M cl sl pc L st κ := by
  intro p e s m args below meth c H locs ls hC hE hP hS hl
  subst hq
  exact lv_lload hC.1 hC.2.1 hd (LL_mem hl (lvm n hL)) (k p e s m args below meth c H locs ls hC hE hP hS hl)
theorem AW.lstore_n {f : Fin 4} {x : Int64} {L' : List (Nat × Value)} (hd : decode M.2.1 pc = .ok (.lstore_n f, 1)) {q : Nat} (hq : pc + 1 = q) (hn : (f : Nat) + 1 < M.2.2.1) (hL : ((f : Nat), Value.long x) :: stG L (f : Nat) = L') (k : AWh l G A E R Z M cl sl q L' st κ) : AWh l G A E R Z M cl sl pc L (.long x :: st) κ := by
  intro p e s m args below meth c H locs ls hC hE hP hS hl
  subst hq
  refine lv_lstore_n (lv' := LL G L') hC.1 hC.2.1 hd rfl hl hn ?_ (fun ls' hl' => k p e s m args below meth c H locs ls' hC hE hP hS hl')
  rw [LL_stG, ← hL]; rfl
theorem AW.lstore {i : Nat} {x : Int64} {L' : List (Nat × Value)} (hd : decode M.2.1 pc = .ok (.lstore i, 2)) {q : Nat} (hq : pc + 2 = q) (hn : i + 1 < M.2.2.1) (hL : (i, Value.long x) :: stG L i = L') (k : AWh l G A E R Z M cl sl q L' st κ) : AWh l G A E R Z M cl sl pc L (.long x :: st) κ := by
  intro p e s m args below meth c H locs ls hC hE hP hS hl
  subst hq
  refine lv_lstore (lv' := LL G L') hC.1 hC.2.1 hd hl hn ?_ (fun ls' hl' => k p e s m args below meth c H locs ls' hC hE hP hS hl')
  rw [LL_stG, ← hL]; rfl
theorem AW.aload_n {f : Fin 4} {x : Nat} (hd : decode M.2.1 pc = .ok (.aload_n f, 1)) {q : Nat} (hq : pc + 1 = q) (n : Nat) (hL : L[n]? = some ((f : Nat), Value.ref x)) (k : AWh l G A E R Z M cl sl q L (.ref x :: st) κ) : AWh l G A E R Z M cl sl pc L st κ := by
  intro p e s m args below meth c H locs ls hC hE hP hS hl
  subst hq
  exact lv_aload_n hC.1 hC.2.1 hd rfl (LL_mem hl (lvm n hL)) (k p e s m args below meth c H locs ls hC hE hP hS hl)
theorem AW.aload {i : Nat} {x : Nat} (hd : decode M.2.1 pc = .ok (.aload i, 2)) {q : Nat} (hq : pc + 2 = q) (n : Nat) (hL : L[n]? = some (i, Value.ref x)) (k : AWh l G A E R Z M cl sl q L (.ref x :: st) κ) : AWh l G A E R Z M cl sl pc L st κ := by
  intro p e s m args below meth c H locs ls hC hE hP hS hl
  subst hq
  exact lv_aload hC.1 hC.2.1 hd (LL_mem hl (lvm n hL)) (k p e s m args below meth c H locs ls hC hE hP hS hl)
theorem AW.astore_n {f : Fin 4} {x : Nat} {L' : List (Nat × Value)} (hd : decode M.2.1 pc = .ok (.astore_n f, 1)) {q : Nat} (hq : pc + 1 = q) (hn : (f : Nat) < M.2.2.1) (hL : ((f : Nat), Value.ref x) :: stF L (f : Nat) = L') (k : AWh l G A E R Z M cl sl q L' st κ) : AWh l G A E R Z M cl sl pc L (.ref x :: st) κ := by
  intro p e s m args below meth c H locs ls hC hE hP hS hl
  subst hq
  refine lv_astore_n (lv' := LL G L') hC.1 hC.2.1 hd rfl hl hn ?_ (fun ls' hl' => k p e s m args below meth c H locs ls' hC hE hP hS hl')
  rw [LL_stF, ← hL]; rfl
theorem AW.astore {i : Nat} {x : Nat} {L' : List (Nat × Value)} (hd : decode M.2.1 pc = .ok (.astore i, 2)) {q : Nat} (hq : pc + 2 = q) (hn : i < M.2.2.1) (hL : (i, Value.ref x) :: stF L i = L') (k : AWh l G A E R Z M cl sl q L' st κ) : AWh l G A E R Z M cl sl pc L (.ref x :: st) κ := by
  intro p e s m args below meth c H locs ls hC hE hP hS hl
  subst hq
  refine lv_astore (lv' := LL G L') hC.1 hC.2.1 hd hl hn ?_ (fun ls' hl' => k p e s m args below meth c H locs ls' hC hE hP hS hl')
  rw [LL_stF, ← hL]; rfl
theorem AW.iinc {i : Nat} {n : Int} {x v : Int32} {L' : List (Nat × Value)} (hd : decode M.2.1 pc = .ok (.iinc i n, 3)) {q : Nat} (hq : pc + 3 = q) (a : Nat) (ha : L[a]? = some (i, Value.int x)) (hv : x + Int32.ofInt n = v) (hn : i < M.2.2.1) (hL : (i, Value.int v) :: stF L i = L') (k : AWh l G A E R Z M cl sl q L' st κ) : AWh l G A E R Z M cl sl pc L st κ := by
  intro p e s m args below meth c H locs ls hC hE hP hS hl
  subst hq
  refine lv_iinc (k := a) (x := x) (v := v) (lv' := LL G L') hC.1 hC.2.1 hd hl (by rw [LL, List.getElem?_map, ha]; rfl) hv hn ?_ (fun ls' hl' => k p e s m args below meth c H locs ls' hC hE hP hS hl')
  rw [LL_stF, ← hL]; rfl
theorem AW.icmp_eq {x y : Int32} {off : Int} {tgt : Nat} (hd : decode M.2.1 pc = .ok (.if_icmp .eq off, 3)) (ht : (pc : Int) + off = (tgt : Int)) (kt : x = y → AWh l G A E R Z M cl sl tgt L st κ) (kf : ¬ x = y → AWh l G A E R Z M cl sl (pc + 3) L st κ) : AWh l G A E R Z M cl sl pc L (.int y :: .int x :: st) κ := by
  intro p e s m args below meth c H locs ls hC hE hP hS hl
  exact lv_icmp_eq hC.1 hC.2.1 hd ht (fun q => kt q p e s m args below meth c H locs ls hC hE hP hS hl) (fun q => kf q p e s m args below meth c H locs ls hC hE hP hS hl)
theorem AW.if_eq {x : Int32} {off : Int} {tgt : Nat} (hd : decode M.2.1 pc = .ok (.ifCond .eq off, 3)) (ht : (pc : Int) + off = (tgt : Int)) (kt : x = 0 → AWh l G A E R Z M cl sl tgt L st κ) (kf : ¬ x = 0 → AWh l G A E R Z M cl sl (pc + 3) L st κ) : AWh l G A E R Z M cl sl pc L (.int x :: st) κ := by
  intro p e s m args below meth c H locs ls hC hE hP hS hl
  exact lv_if_eq hC.1 hC.2.1 hd ht (fun q => kt q p e s m args below meth c H locs ls hC hE hP hS hl) (fun q => kf q p e s m args below meth c H locs ls hC hE hP hS hl)
theorem AW.icmp_ne {x y : Int32} {off : Int} {tgt : Nat} (hd : decode M.2.1 pc = .ok (.if_icmp .ne off, 3)) (ht : (pc : Int) + off = (tgt : Int)) (kt : ¬ x = y → AWh l G A E R Z M cl sl tgt L st κ) (kf : x = y → AWh l G A E R Z M cl sl (pc + 3) L st κ) : AWh l G A E R Z M cl sl pc L (.int y :: .int x :: st) κ := by
  intro p e s m args below meth c H locs ls hC hE hP hS hl
  exact lv_icmp_ne hC.1 hC.2.1 hd ht (fun q => kt q p e s m args below meth c H locs ls hC hE hP hS hl) (fun q => kf q p e s m args below meth c H locs ls hC hE hP hS hl)
theorem AW.if_ne {x : Int32} {off : Int} {tgt : Nat} (hd : decode M.2.1 pc = .ok (.ifCond .ne off, 3)) (ht : (pc : Int) + off = (tgt : Int)) (kt : ¬ x = 0 → AWh l G A E R Z M cl sl tgt L st κ) (kf : x = 0 → AWh l G A E R Z M cl sl (pc + 3) L st κ) : AWh l G A E R Z M cl sl pc L (.int x :: st) κ := by
  intro p e s m args below meth c H locs ls hC hE hP hS hl
  exact lv_if_ne hC.1 hC.2.1 hd ht (fun q => kt q p e s m args below meth c H locs ls hC hE hP hS hl) (fun q => kf q p e s m args below meth c H locs ls hC hE hP hS hl)
theorem AW.icmp_lt {x y : Int32} {off : Int} {tgt : Nat} (hd : decode M.2.1 pc = .ok (.if_icmp .lt off, 3)) (ht : (pc : Int) + off = (tgt : Int)) (kt : x < y → AWh l G A E R Z M cl sl tgt L st κ) (kf : ¬ x < y → AWh l G A E R Z M cl sl (pc + 3) L st κ) : AWh l G A E R Z M cl sl pc L (.int y :: .int x :: st) κ := by
  intro p e s m args below meth c H locs ls hC hE hP hS hl
  exact lv_icmp_lt hC.1 hC.2.1 hd ht (fun q => kt q p e s m args below meth c H locs ls hC hE hP hS hl) (fun q => kf q p e s m args below meth c H locs ls hC hE hP hS hl)
theorem AW.if_lt {x : Int32} {off : Int} {tgt : Nat} (hd : decode M.2.1 pc = .ok (.ifCond .lt off, 3)) (ht : (pc : Int) + off = (tgt : Int)) (kt : x < 0 → AWh l G A E R Z M cl sl tgt L st κ) (kf : ¬ x < 0 → AWh l G A E R Z M cl sl (pc + 3) L st κ) : AWh l G A E R Z M cl sl pc L (.int x :: st) κ := by
  intro p e s m args below meth c H locs ls hC hE hP hS hl
  exact lv_if_lt hC.1 hC.2.1 hd ht (fun q => kt q p e s m args below meth c H locs ls hC hE hP hS hl) (fun q => kf q p e s m args below meth c H locs ls hC hE hP hS hl)
theorem AW.icmp_ge {x y : Int32} {off : Int} {tgt : Nat} (hd : decode M.2.1 pc = .ok (.if_icmp .ge off, 3)) (ht : (pc : Int) + off = (tgt : Int)) (kt : y ≤ x → AWh l G A E R Z M cl sl tgt L st κ) (kf : ¬ y ≤ x → AWh l G A E R Z M cl sl (pc + 3) L st κ) : AWh l G A E R Z M cl sl pc L (.int y :: .int x :: st) κ := by
  intro p e s m args below meth c H locs ls hC hE hP hS hl
  exact lv_icmp_ge hC.1 hC.2.1 hd ht (fun q => kt q p e s m args below meth c H locs ls hC hE hP hS hl) (fun q => kf q p e s m args below meth c H locs ls hC hE hP hS hl)
theorem AW.if_ge {x : Int32} {off : Int} {tgt : Nat} (hd : decode M.2.1 pc = .ok (.ifCond .ge off, 3)) (ht : (pc : Int) + off = (tgt : Int)) (kt : 0 ≤ x → AWh l G A E R Z M cl sl tgt L st κ) (kf : ¬ 0 ≤ x → AWh l G A E R Z M cl sl (pc + 3) L st κ) : AWh l G A E R Z M cl sl pc L (.int x :: st) κ := by
  intro p e s m args below meth c H locs ls hC hE hP hS hl
  exact lv_if_ge hC.1 hC.2.1 hd ht (fun q => kt q p e s m args below meth c H locs ls hC hE hP hS hl) (fun q => kf q p e s m args below meth c H locs ls hC hE hP hS hl)
theorem AW.icmp_gt {x y : Int32} {off : Int} {tgt : Nat} (hd : decode M.2.1 pc = .ok (.if_icmp .gt off, 3)) (ht : (pc : Int) + off = (tgt : Int)) (kt : y < x → AWh l G A E R Z M cl sl tgt L st κ) (kf : ¬ y < x → AWh l G A E R Z M cl sl (pc + 3) L st κ) : AWh l G A E R Z M cl sl pc L (.int y :: .int x :: st) κ := by
  intro p e s m args below meth c H locs ls hC hE hP hS hl
  exact lv_icmp_gt hC.1 hC.2.1 hd ht (fun q => kt q p e s m args below meth c H locs ls hC hE hP hS hl) (fun q => kf q p e s m args below meth c H locs ls hC hE hP hS hl)
theorem AW.if_gt {x : Int32} {off : Int} {tgt : Nat} (hd : decode M.2.1 pc = .ok (.ifCond .gt off, 3)) (ht : (pc : Int) + off = (tgt : Int)) (kt : 0 < x → AWh l G A E R Z M cl sl tgt L st κ) (kf : ¬ 0 < x → AWh l G A E R Z M cl sl (pc + 3) L st κ) : AWh l G A E R Z M cl sl pc L (.int x :: st) κ := by
  intro p e s m args below meth c H locs ls hC hE hP hS hl
  exact lv_if_gt hC.1 hC.2.1 hd ht (fun q => kt q p e s m args below meth c H locs ls hC hE hP hS hl) (fun q => kf q p e s m args below meth c H locs ls hC hE hP hS hl)
theorem AW.icmp_le {x y : Int32} {off : Int} {tgt : Nat} (hd : decode M.2.1 pc = .ok (.if_icmp .le off, 3)) (ht : (pc : Int) + off = (tgt : Int)) (kt : x ≤ y → AWh l G A E R Z M cl sl tgt L st κ) (kf : ¬ x ≤ y → AWh l G A E R Z M cl sl (pc + 3) L st κ) : AWh l G A E R Z M cl sl pc L (.int y :: .int x :: st) κ := by
  intro p e s m args below meth c H locs ls hC hE hP hS hl
  exact lv_icmp_le hC.1 hC.2.1 hd ht (fun q => kt q p e s m args below meth c H locs ls hC hE hP hS hl) (fun q => kf q p e s m args below meth c H locs ls hC hE hP hS hl)
theorem AW.if_le {x : Int32} {off : Int} {tgt : Nat} (hd : decode M.2.1 pc = .ok (.ifCond .le off, 3)) (ht : (pc : Int) + off = (tgt : Int)) (kt : x ≤ 0 → AWh l G A E R Z M cl sl tgt L st κ) (kf : ¬ x ≤ 0 → AWh l G A E R Z M cl sl (pc + 3) L st κ) : AWh l G A E R Z M cl sl pc L (.int x :: st) κ := by
  intro p e s m args below meth c H locs ls hC hE hP hS hl
  exact lv_if_le hC.1 hC.2.1 hd ht (fun q => kt q p e s m args below meth c H locs ls hC hE hP hS hl) (fun q => kf q p e s m args below meth c H locs ls hC hE hP hS hl)
theorem AW.astore_nN {f : Fin 4} {L' : List (Nat × Value)} (hd : decode M.2.1 pc = .ok (.astore_n f, 1)) {q : Nat} (hq : pc + 1 = q) (hn : (f : Nat) < M.2.2.1) (hL : ((f : Nat), Value.null) :: stF L (f : Nat) = L') (k : AWh l G A E R Z M cl sl q L' st κ) : AWh l G A E R Z M cl sl pc L (.null :: st) κ := by
  intro p e s m args below meth c H locs ls hC hE hP hS hl
  subst hq
  refine lv_astore_nN (lv' := LL G L') hC.1 hC.2.1 hd rfl hl hn ?_ (fun ls' hl' => k p e s m args below meth c H locs ls' hC hE hP hS hl')
  rw [LL_stF, ← hL]; rfl
theorem AW.aload_nN {f : Fin 4} (hd : decode M.2.1 pc = .ok (.aload_n f, 1)) {q : Nat} (hq : pc + 1 = q) (n : Nat) (hL : L[n]? = some ((f : Nat), Value.null)) (k : AWh l G A E R Z M cl sl q L (.null :: st) κ) : AWh l G A E R Z M cl sl pc L st κ := by
  intro p e s m args below meth c H locs ls hC hE hP hS hl
  subst hq
  exact lv_aload_nN hC.1 hC.2.1 hd rfl (LL_mem hl (lvm n hL)) (k p e s m args below meth c H locs ls hC hE hP hS hl)
theorem AW.goto {off : Int} {tgt : Nat} (hd : decode M.2.1 pc = .ok (.goto off, 3)) (ht : (pc : Int) + off = (tgt : Int)) (k : AWh l G A E R Z M cl sl tgt L st κ) : AWh l G A E R Z M cl sl pc L st κ := by
  intro p e s m args below meth c H locs ls hC hE hP hS hl
  exact lv_goto hC.1 hC.2.1 hd ht (k p e s m args below meth c H locs ls hC hE hP hS hl)
theorem AW.ifnonnull {x : Nat} {off : Int} {tgt : Nat} (hd : decode M.2.1 pc = .ok (.ifnonnull off, 3)) (ht : (pc : Int) + off = (tgt : Int)) (k : AWh l G A E R Z M cl sl tgt L st κ) : AWh l G A E R Z M cl sl pc L (.ref x :: st) κ := by
  intro p e s m args below meth c H locs ls hC hE hP hS hl
  exact lv_ifnonnull hC.1 hC.2.1 hd ht (k p e s m args below meth c H locs ls hC hE hP hS hl)
theorem AW.ifnonnullN {off : Int} (hd : decode M.2.1 pc = .ok (.ifnonnull off, 3)) (k : AWh l G A E R Z M cl sl (pc + 3) L st κ) : AWh l G A E R Z M cl sl pc L (.null :: st) κ := by
  intro p e s m args below meth c H locs ls hC hE hP hS hl
  exact lv_ifnonnullN hC.1 hC.2.1 hd (k p e s m args below meth c H locs ls hC hE hP hS hl)
theorem AW.tabIn {dflt lo hi : Int} {offs : Array Int} {len : Nat} {x v : Int32} {off : Int} {tgt : Nat} (hd : decode M.2.1 pc = .ok (.tableswitch dflt lo hi offs, len)) (hv : x = v) (h1 : ¬ v.toInt < lo) (h2 : ¬ hi < v.toInt) (ho : offs[(v.toInt - lo).toNat]? = some off) (ht : (pc : Int) + off = (tgt : Int)) (k : AWh l G A E R Z M cl sl tgt L st κ) : AWh l G A E R Z M cl sl pc L (.int x :: st) κ := by
  intro p e s m args below meth c H locs ls hC hE hP hS hl
  subst hv
  exact lv_tableIn hC.1 hC.2.1 hd h1 h2 ho ht (k p e s m args below meth c H locs ls hC hE hP hS hl)
theorem AW.tabOut {dflt lo hi : Int} {offs : Array Int} {len : Nat} {x : Int32} {tgt : Nat} (hd : decode M.2.1 pc = .ok (.tableswitch dflt lo hi offs, len)) (h : x.toInt < lo ∨ hi < x.toInt) (ht : (pc : Int) + dflt = (tgt : Int)) (k : AWh l G A E R Z M cl sl tgt L st κ) : AWh l G A E R Z M cl sl pc L (.int x :: st) κ := by
  intro p e s m args below meth c H locs ls hC hE hP hS hl
  exact lv_tableOut hC.1 hC.2.1 hd h ht (k p e s m args below meth c H locs ls hC hE hP hS hl)
theorem AW.look {dflt : Int} {ps : Array (Int × Int)} {len : Nat} {x : Int32} {off : Int} {tgt : Nat} (hd : decode M.2.1 pc = .ok (.lookupswitch dflt ps, len)) (hp : (ps.toList.zip (ps.toList.drop 1)).all (fun (a, next) => a.1 < next.1) = true) (ho : Op.lookupswitch.offset ps.toList dflt x.toInt = off) (ht : (pc : Int) + off = (tgt : Int)) (k : AWh l G A E R Z M cl sl tgt L st κ) : AWh l G A E R Z M cl sl pc L (.int x :: st) κ := by
  intro p e s m args below meth c H locs ls hC hE hP hS hl
  exact lv_lookup hC.1 hC.2.1 hd hp ho ht (k p e s m args below meth c H locs ls hC hE hP hS hl)
theorem AW.ldc {idx : Nat} {v : Int32} (lc : LC M.1.cls idx v) (hd : decode M.2.1 pc = .ok (.ldc idx, 2)) {q : Nat} (hq : pc + 2 = q) (k : AWh l G A E R Z M cl sl q L (.int v :: st) κ) : AWh l G A E R Z M cl sl pc L st κ := by
  intro p e s m args below meth c H locs ls hC hE hP hS hl
  subst hq
  exact W.ldc hC.1 hC.2.1 hC.2.2.2.1 (hC.2.2.2.2.1 _ lc) rfl hd (k p e s m args below meth c H locs ls hC hE hP hS hl)
theorem AW.ldc_w {idx : Nat} {v : Int32} (lc : LC M.1.cls idx v) (hd : decode M.2.1 pc = .ok (.ldc_w idx, 3)) {q : Nat} (hq : pc + 3 = q) (k : AWh l G A E R Z M cl sl q L (.int v :: st) κ) : AWh l G A E R Z M cl sl pc L st κ := by
  intro p e s m args below meth c H locs ls hC hE hP hS hl
  subst hq
  exact lv_ldcw hC.1 hC.2.1 hC.2.2.2.1 (hC.2.2.2.2.1 _ lc) hd (k p e s m args below meth c H locs ls hC hE hP hS hl)
theorem AW.ldc2_w {idx : Nat} {v : Int64} (lc : LCL M.1.cls idx v) (hd : decode M.2.1 pc = .ok (.ldc2_w idx, 3)) {q : Nat} (hq : pc + 3 = q) (k : AWh l G A E R Z M cl sl q L (.long v :: st) κ) : AWh l G A E R Z M cl sl pc L st κ := by
  intro p e s m args below meth c H locs ls hC hE hP hS hl
  subst hq
  exact lv_ldc2 hC.1 hC.2.1 hC.2.2.2.1 (hC.2.2.2.2.1 _ lc) hd (k p e s m args below meth c H locs ls hC hE hP hS hl)
theorem AW.getI {idx ci j b : Nat} (lk : LK M.1.cls idx ci j) (hk : cTag b = ci) (hf : (fk ci)[j]? = some 0) (hci : ci < 20) (hd : decode M.2.1 pc = .ok (.getfield idx, 3)) {q : Nat} (hq : pc + 3 = q) (k : AW l G d M r τ q L (.int (σ.1 b j) :: st) σ) : AW l G d M r τ pc L (.ref b :: st) σ := by
  intro p e s m args below meth c H locs ls hC hE hP hS hl
  obtain ⟨hx, hb, hml, hown, hts, hlk, hrt, hK, hG, hN, hnm⟩ := id hC
  subst hq
  obtain ⟨C, T, N, hcl, hj, hin, hw⟩ := lk
  have he : (Wd G σ)[b]? = some (G.2.1 b, .inr (ci, cFs G (σ.1 b) (σ.2 b) b)) := by rw [Wd_at (cTag_lt hk (by omega)), cCell, cEl_O hk hci]
  have hv : (cFs G (σ.1 b) (σ.2 b) b)[j]? = some (.int (σ.1 b j)) := by exact cFs_at hk hf
  rcases hw with hw | ⟨host, hw⟩
  · exact va_get hx hb hts hin hown hK hP b he hcl j hj (hts _ hw) (fun _ h => h) hv hd (k p e s m args below meth c H locs ls hC hE hP hS hl)
  · exact va_getN hx hb hts hin hown hK hP b he hcl j hj (va_Nw.use rfl (hN _ hw)) (fun _ h => h) hv hd (k p e s m args below meth c H locs ls hC hE hP hS hl)
theorem AW.getJ {idx ci j b : Nat} (lk : LK M.1.cls idx ci j) (hk : cTag b = ci) (hf : (fk ci)[j]? = some 1) (hci : ci < 20) (hd : decode M.2.1 pc = .ok (.getfield idx, 3)) {q : Nat} (hq : pc + 3 = q) (k : AW l G d M r τ q L (.long (σ.2 b j) :: st) σ) : AW l G d M r τ pc L (.ref b :: st) σ := by
  intro p e s m args below meth c H locs ls hC hE hP hS hl
  obtain ⟨hx, hb, hml, hown, hts, hlk, hrt, hK, hG, hN, hnm⟩ := id hC
  subst hq
  obtain ⟨C, T, N, hcl, hj, hin, hw⟩ := lk
  have he : (Wd G σ)[b]? = some (G.2.1 b, .inr (ci, cFs G (σ.1 b) (σ.2 b) b)) := by rw [Wd_at (cTag_lt hk (by omega)), cCell, cEl_O hk hci]
  have hv : (cFs G (σ.1 b) (σ.2 b) b)[j]? = some (.long (σ.2 b j)) := by exact cFs_at hk hf
  rcases hw with hw | ⟨host, hw⟩
  · exact va_get hx hb hts hin hown hK hP b he hcl j hj (hts _ hw) (fun _ h => h) hv hd (k p e s m args below meth c H locs ls hC hE hP hS hl)
  · exact va_getN hx hb hts hin hown hK hP b he hcl j hj (va_Nw.use rfl (hN _ hw)) (fun _ h => h) hv hd (k p e s m args below meth c H locs ls hC hE hP hS hl)
theorem AW.getR {idx ci j b : Nat} {z : Nat} (lk : LK M.1.cls idx ci j) (hk : cTag b = ci) (hf : (fk ci)[j]? = some 2) (hci : ci < 20) (hr : cRef b j = z) (hd : decode M.2.1 pc = .ok (.getfield idx, 3)) {q : Nat} (hq : pc + 3 = q) (k : AW l G d M r τ q L (.ref z :: st) σ) : AW l G d M r τ pc L (.ref b :: st) σ := by
  intro p e s m args below meth c H locs ls hC hE hP hS hl
  obtain ⟨hx, hb, hml, hown, hts, hlk, hrt, hK, hG, hN, hnm⟩ := id hC
  subst hq
  obtain ⟨C, T, N, hcl, hj, hin, hw⟩ := lk
  have he : (Wd G σ)[b]? = some (G.2.1 b, .inr (ci, cFs G (σ.1 b) (σ.2 b) b)) := by rw [Wd_at (cTag_lt hk (by omega)), cCell, cEl_O hk hci]
  have hv : (cFs G (σ.1 b) (σ.2 b) b)[j]? = some (.ref (G.2.1 z)) := by rw [← hr]; exact cFs_at hk hf
  rcases hw with hw | ⟨host, hw⟩
  · exact va_get hx hb hts hin hown hK hP b he hcl j hj (hts _ hw) (fun _ h => h) hv hd (k p e s m args below meth c H locs ls hC hE hP hS hl)
  · exact va_getN hx hb hts hin hown hK hP b he hcl j hj (va_Nw.use rfl (hN _ hw)) (fun _ h => h) hv hd (k p e s m args below meth c H locs ls hC hE hP hS hl)
theorem AW.putI {idx ci j b : Nat} {v : Int32} (lp : LPt M.1.cls idx ci j .int) (hk : cTag b = ci) (hf : (fk ci)[j]? = some 0) (hci : ci < 20) (hd : decode M.2.1 pc = .ok (.putfield idx, 3)) {q : Nat} (hq : pc + 3 = q) (k : AW l G d M r τ q L st (sI σ b j v)) : AW l G d M r τ pc L (.int v :: .ref b :: st) σ := by
  intro p e s m args below meth c H locs ls hC hE hP hS hl
  obtain ⟨hx, hb, hml, hown, hts, hlk, hrt, hK, hG, hN, hnm⟩ := id hC
  subst hq
  obtain ⟨C, T, N, ty0, hcl, hj, hin, hw, hty, hnm, hfin, hpd⟩ := lp
  have hbk := cTag_lt hk (by omega : ci < 99)
  have he : (Wd G σ)[b]? = some (G.2.1 b, .inr (ci, cFs G (σ.1 b) (σ.2 b) b)) := by rw [Wd_at hbk, cCell, cEl_O hk hci]
  have hlen : j < (cFs G (σ.1 b) (σ.2 b) b).length := by rw [cFs_len hk]; exact (List.getElem?_eq_some_iff.mp hf).1
  have ew : (Wd G σ).set b (G.2.1 b, .inr (ci, (cFs G (σ.1 b) (σ.2 b) b).set j (.int v))) = Wd G (sI σ b j v) := Wd_put hbk (fun i hi => sI_ne hi) (by rw [cEl_O hk hci, cFs_setI hk hf, sI_at]; rfl)
  have kk : ∀ (H1 : Heap) (locs1 : List Loc), va_P G.1 vwCl ((Wd G σ).set b (G.2.1 b, .inr (ci, (cFs G (σ.1 b) (σ.2 b) b).set j (.int v)))) H1 → va_D (Ab G) ((Wd G σ).set b (G.2.1 b, .inr (ci, (cFs G (σ.1 b) (σ.2 b) b).set j (.int v)))) → va_S (Ab G) s.heap H1 locs1 → W p l e (rmD d) s m args below meth c H1 locs1 0 0 (MQ below (Qq G r τ) args s 0 0 (Ab G)) (F0 m (pc + 3) ls (st.map (cv G.2.1))) := fun H1 locs1 hP1 _ hS1 => k p e s m args below meth c H1 locs1 ls hC hE (by show va_P G.1 vwCl _ H1; rw [← ew]; exact hP1) hS1 hl
  rcases hw with hw | ⟨host, hw⟩
  · exact va_put hx hb hts hin ty0 hty hnm hown hK hP (Wd_D hG) hS b he hcl j hj (hts _ hw) (fun _ h => h) hfin hpd rfl rfl hlen hd kk
  · exact va_putN hx hb hts hin ty0 hty hnm hown hK hP (Wd_D hG) hS b he hcl j hj (va_Nw.use rfl (hN _ hw)) (fun _ h => h) hfin hpd rfl rfl hlen hd kk
theorem AW.putJ {idx ci j b : Nat} {v : Int64} (lp : LPt M.1.cls idx ci j .long) (hk : cTag b = ci) (hf : (fk ci)[j]? = some 1) (hci : ci < 20) (hd : decode M.2.1 pc = .ok (.putfield idx, 3)) {q : Nat} (hq : pc + 3 = q) (k : AW l G d M r τ q L st (sJ σ b j v)) : AW l G d M r τ pc L (.long v :: .ref b :: st) σ := by
  intro p e s m args below meth c H locs ls hC hE hP hS hl
  obtain ⟨hx, hb, hml, hown, hts, hlk, hrt, hK, hG, hN, hnm⟩ := id hC
  subst hq
  obtain ⟨C, T, N, ty0, hcl, hj, hin, hw, hty, hnm, hfin, hpd⟩ := lp
  have hbk := cTag_lt hk (by omega : ci < 99)
  have he : (Wd G σ)[b]? = some (G.2.1 b, .inr (ci, cFs G (σ.1 b) (σ.2 b) b)) := by rw [Wd_at hbk, cCell, cEl_O hk hci]
  have hlen : j < (cFs G (σ.1 b) (σ.2 b) b).length := by rw [cFs_len hk]; exact (List.getElem?_eq_some_iff.mp hf).1
  have ew : (Wd G σ).set b (G.2.1 b, .inr (ci, (cFs G (σ.1 b) (σ.2 b) b).set j (.long v))) = Wd G (sJ σ b j v) := Wd_put hbk (fun i hi => sJ_ne hi) (by rw [cEl_O hk hci, cFs_setJ hk hf, sJ_at]; rfl)
  have kk : ∀ (H1 : Heap) (locs1 : List Loc), va_P G.1 vwCl ((Wd G σ).set b (G.2.1 b, .inr (ci, (cFs G (σ.1 b) (σ.2 b) b).set j (.long v)))) H1 → va_D (Ab G) ((Wd G σ).set b (G.2.1 b, .inr (ci, (cFs G (σ.1 b) (σ.2 b) b).set j (.long v)))) → va_S (Ab G) s.heap H1 locs1 → W p l e (rmD d) s m args below meth c H1 locs1 0 0 (MQ below (Qq G r τ) args s 0 0 (Ab G)) (F0 m (pc + 3) ls (st.map (cv G.2.1))) := fun H1 locs1 hP1 _ hS1 => k p e s m args below meth c H1 locs1 ls hC hE (by show va_P G.1 vwCl _ H1; rw [← ew]; exact hP1) hS1 hl
  rcases hw with hw | ⟨host, hw⟩
  · exact va_put hx hb hts hin ty0 hty hnm hown hK hP (Wd_D hG) hS b he hcl j hj (hts _ hw) (fun _ h => h) hfin hpd rfl rfl hlen hd kk
  · exact va_putN hx hb hts hin ty0 hty hnm hown hK hP (Wd_D hG) hS b he hcl j hj (va_Nw.use rfl (hN _ hw)) (fun _ h => h) hfin hpd rfl rfl hlen hd kk
theorem AW.putZ {idx ci j b : Nat} {v : Int32} (lp : LPt M.1.cls idx ci j .boolean) (hk : cTag b = ci) (hf : (fk ci)[j]? = some 0) (hci : ci < 20) (hz : v = 0 ∨ v = 1) (hd : decode M.2.1 pc = .ok (.putfield idx, 3)) {q : Nat} (hq : pc + 3 = q) (k : AW l G d M r τ q L st (sI σ b j v)) : AW l G d M r τ pc L (.int v :: .ref b :: st) σ := by
  intro p e s m args below meth c H locs ls hC hE hP hS hl
  obtain ⟨hx, hb, hml, hown, hts, hlk, hrt, hK, hG, hN, hnm⟩ := id hC
  subst hq
  obtain ⟨C, T, N, ty0, hcl, hj, hin, hw, hty, hnm, hfin, hpd⟩ := lp
  have hbk := cTag_lt hk (by omega : ci < 99)
  have he : (Wd G σ)[b]? = some (G.2.1 b, .inr (ci, cFs G (σ.1 b) (σ.2 b) b)) := by rw [Wd_at hbk, cCell, cEl_O hk hci]
  have hlen : j < (cFs G (σ.1 b) (σ.2 b) b).length := by rw [cFs_len hk]; exact (List.getElem?_eq_some_iff.mp hf).1
  have ew : (Wd G σ).set b (G.2.1 b, .inr (ci, (cFs G (σ.1 b) (σ.2 b) b).set j (.int v))) = Wd G (sI σ b j v) := Wd_put hbk (fun i hi => sI_ne hi) (by rw [cEl_O hk hci, cFs_setI hk hf, sI_at]; rfl)
  have kk : ∀ (H1 : Heap) (locs1 : List Loc), va_P G.1 vwCl ((Wd G σ).set b (G.2.1 b, .inr (ci, (cFs G (σ.1 b) (σ.2 b) b).set j (.int v)))) H1 → va_D (Ab G) ((Wd G σ).set b (G.2.1 b, .inr (ci, (cFs G (σ.1 b) (σ.2 b) b).set j (.int v)))) → va_S (Ab G) s.heap H1 locs1 → W p l e (rmD d) s m args below meth c H1 locs1 0 0 (MQ below (Qq G r τ) args s 0 0 (Ab G)) (F0 m (pc + 3) ls (st.map (cv G.2.1))) := fun H1 locs1 hP1 _ hS1 => k p e s m args below meth c H1 locs1 ls hC hE (by show va_P G.1 vwCl _ H1; rw [← ew]; exact hP1) hS1 hl
  rcases hw with hw | ⟨host, hw⟩
  · exact va_put hx hb hts hin ty0 hty hnm hown hK hP (Wd_D hG) hS b he hcl j hj (hts _ hw) (fun _ h => h) hfin hpd (by rcases hz with rfl | rfl <;> rfl) (by rcases hz with rfl | rfl <;> rfl) hlen hd kk
  · exact va_putN hx hb hts hin ty0 hty hnm hown hK hP (Wd_D hG) hS b he hcl j hj (va_Nw.use rfl (hN _ hw)) (fun _ h => h) hfin hpd (by rcases hz with rfl | rfl <;> rfl) (by rcases hz with rfl | rfl <;> rfl) hlen hd kk
theorem AW.iaload {b : Nat} {i : Int32} (hk : cTag b = 20) (hin : inB i (cLen b) = true) (hd : decode M.2.1 pc = .ok (.iaload, 1)) {q : Nat} (hq : pc + 1 = q) (k : AW l G d M r τ q L (.int (σ.1 b i.toNatClampNeg) :: st) σ) : AW l G d M r τ pc L (.int i :: .ref b :: st) σ := by
  intro p e s m args below meth c H locs ls hC hE hP hS hl
  obtain ⟨hx, hb, hml, hown, hts, hlk, hrt, hK, hG, hN, hnm⟩ := id hC
  subst hq
  exact va_iald hx hb hK hP b 0 (by rw [Wd_at (cTag_lt hk (by omega)), cCell, cEl_I hk]) rfl (inB_in hin) hd (k p e s m args below meth c H locs ls hC hE hP hS hl)
theorem AW.laload {b : Nat} {i : Int32} (hk : cTag b = 21) (hin : inB i (cLen b) = true) (hd : decode M.2.1 pc = .ok (.laload, 1)) {q : Nat} (hq : pc + 1 = q) (k : AW l G d M r τ q L (.long (σ.2 b i.toNatClampNeg) :: st) σ) : AW l G d M r τ pc L (.int i :: .ref b :: st) σ := by
  intro p e s m args below meth c H locs ls hC hE hP hS hl
  obtain ⟨hx, hb, hml, hown, hts, hlk, hrt, hK, hG, hN, hnm⟩ := id hC
  subst hq
  exact va_lald hx hb hK hP b 1 (by rw [Wd_at (cTag_lt hk (by omega)), cCell, cEl_J hk]) rfl (inB_in hin) hd (k p e s m args below meth c H locs ls hC hE hP hS hl)
theorem AW.baload {b : Nat} {i : Int32} (hk : cTag b = 22) (hin : inB i (cLen b) = true) (hd : decode M.2.1 pc = .ok (.baload, 1)) {q : Nat} (hq : pc + 1 = q) (k : AW l G d M r τ q L (.int (σ.1 b i.toNatClampNeg) :: st) σ) : AW l G d M r τ pc L (.int i :: .ref b :: st) σ := by
  intro p e s m args below meth c H locs ls hC hE hP hS hl
  obtain ⟨hx, hb, hml, hown, hts, hlk, hrt, hK, hG, hN, hnm⟩ := id hC
  subst hq
  exact va_zald hx hb hK hP b 2 (by rw [Wd_at (cTag_lt hk (by omega)), cCell, cEl_Z hk]) rfl (inB_in hin) hd (k p e s m args below meth c H locs ls hC hE hP hS hl)
theorem AW.iastore {b : Nat} {i : Int32} {v : Int32} (hk : cTag b = 20) (hin : inB i (cLen b) = true) (hd : decode M.2.1 pc = .ok (.iastore, 1)) {q : Nat} (hq : pc + 1 = q) (k : AW l G d M r τ q L st (sI σ b i.toNatClampNeg v)) : AW l G d M r τ pc L (.int v :: .int i :: .ref b :: st) σ := by
  intro p e s m args below meth c H locs ls hC hE hP hS hl
  obtain ⟨hx, hb, hml, hown, hts, hlk, hrt, hK, hG, hN, hnm⟩ := id hC
  have hbk := cTag_lt hk (by omega : 20 < 99)
  subst hq
  refine va_iast hx hb hK hP (Wd_D hG) hS b 0 (by rw [Wd_at hbk, cCell, cEl_I hk]) rfl (inB_in hin) hd (fun H1 locs1 hP1 _ hS1 => k p e s m args below meth c H1 locs1 ls hC hE ?_ hS1 hl)
  show va_P G.1 vwCl _ H1
  rw [← Wd_put (σ := σ) (τ := sI σ b i.toNatClampNeg v) hbk (fun i hi => sI_ne hi) (by rw [cEl_I hk, sI_at])]
  exact hP1
theorem AW.lastore {b : Nat} {i : Int32} {v : Int64} (hk : cTag b = 21) (hin : inB i (cLen b) = true) (hd : decode M.2.1 pc = .ok (.lastore, 1)) {q : Nat} (hq : pc + 1 = q) (k : AW l G d M r τ q L st (sJ σ b i.toNatClampNeg v)) : AW l G d M r τ pc L (.long v :: .int i :: .ref b :: st) σ := by
  intro p e s m args below meth c H locs ls hC hE hP hS hl
  obtain ⟨hx, hb, hml, hown, hts, hlk, hrt, hK, hG, hN, hnm⟩ := id hC
  have hbk := cTag_lt hk (by omega : 21 < 99)
  subst hq
  refine va_last hx hb hK hP (Wd_D hG) hS b 1 (by rw [Wd_at hbk, cCell, cEl_J hk]) rfl (inB_in hin) hd (fun H1 locs1 hP1 _ hS1 => k p e s m args below meth c H1 locs1 ls hC hE ?_ hS1 hl)
  show va_P G.1 vwCl _ H1
  rw [← Wd_put (σ := σ) (τ := sJ σ b i.toNatClampNeg v) hbk (fun i hi => sJ_ne hi) (by rw [cEl_J hk, sJ_at])]
  exact hP1
theorem AW.bastore {b : Nat} {i : Int32} {v : Int32} (hk : cTag b = 22) (hin : inB i (cLen b) = true) (hd : decode M.2.1 pc = .ok (.bastore, 1)) {q : Nat} (hq : pc + 1 = q) (k : AW l G d M r τ q L st (sI σ b i.toNatClampNeg (v &&& 1))) : AW l G d M r τ pc L (.int v :: .int i :: .ref b :: st) σ := by
  intro p e s m args below meth c H locs ls hC hE hP hS hl
  obtain ⟨hx, hb, hml, hown, hts, hlk, hrt, hK, hG, hN, hnm⟩ := id hC
  have hbk := cTag_lt hk (by omega : 22 < 99)
  subst hq
  refine va_zast hx hb hK hP (Wd_D hG) hS b 2 (by rw [Wd_at hbk, cCell, cEl_Z hk]) rfl (inB_in hin) hd (fun H1 locs1 hP1 _ hS1 => k p e s m args below meth c H1 locs1 ls hC hE ?_ hS1 hl)
  show va_P G.1 vwCl _ H1
  rw [← Wd_put (σ := σ) (τ := sI σ b i.toNatClampNeg (v &&& 1)) hbk (fun i hi => sI_ne hi) (by rw [cEl_Z hk, sI_at])]
  exact hP1
theorem AW.alen {b : Nat} {v : Int32} (hk : cTag b = 20) (hv : Int32.ofNat (cLen b) = v) (hd : decode M.2.1 pc = .ok (.arraylength, 1)) {q : Nat} (hq : pc + 1 = q) (k : AW l G d M r τ q L (.int v :: st) σ) : AW l G d M r τ pc L (.ref b :: st) σ := by
  intro p e s m args below meth c H locs ls hC hE hP hS hl
  obtain ⟨hx, hb, hml, hown, hts, hlk, hrt, hK, hG, hN, hnm⟩ := id hC
  subst hq
  exact va_alen hx hb hK hP b 0 (by rw [Wd_at (cTag_lt hk (by omega)), cCell, cEl_I hk]) rfl hv hd (k p e s m args below meth c H locs ls hC hE hP hS hl)
theorem AWh.callV {M' : Mth} {n idx b ci N d' : Nat} {T : u_T} {As rest : List Value} {r' : Option Value} {σ' : Mm} (lm : LMV M.1.cls idx M' n) (hM : MR l G d' M' (.ref b :: As) σ r' σ') (hAb : ∀ q, Ab G q → A q) (hfr : d' + 1 ≤ R.frames) (hlo : 8 + (M'.2.2.1 + 11) + 64 * d' ≤ R.locals) (hcl : cl ≤ R.cells ∧ sl ≤ R.slots) (hb : cTag b = ci) (hc : vwCl[ci]? = some (M'.1.cls, T, N)) (hci : ci < 20) (hn : As.length = n) (hst : st = As.reverse ++ .ref b :: rest) (hr : (rest.map fun v => v.category).sum ≤ 8) (hd : decode M.2.1 pc = .ok (.invokevirtual idx, 3)) {q : Nat} (hq : pc + 3 = q) {st' : List Value} (hs : r'.toList ++ rest = st') (k : AWh l G A E R Z M cl sl q L st' (WK G σ')) : AWh l G A E R Z M cl sl pc L st (WK G σ) := by
  intro p e s m args below meth c H locs ls hC hE hP hS hl
  obtain ⟨hx, hbt, hml, hown, hts, hlk, hrt, hK, hG, hN, hnm⟩ := id hC
  subst hst
  subst hq
  subst hs
  have he : (Wd G σ)[b]? = some (G.2.1 b, .inr (ci, cFs G (σ.1 b) (σ.2 b) b)) := by rw [Wd_at (cTag_lt hb (by omega)), cCell, cEl_O hb hci]
  obtain ⟨lb, l1, l2, l3⟩ := lm
  have run := va_runV (p := p) (l := l) (e := e) (R := R) (s := s) (m := m) (args := args) (below := below) (meth := meth) (c := c) (H := H) (locs := locs) (cells := cl) (slots := sl) (C := M'.1.cls) (b := G.2.1 b) (As := As.map (cv G.2.1)) (rest := rest.map (cv G.2.1)) (g := F0 m pc ls ((As.reverse ++ Value.ref b :: rest).map (cv G.2.1))) (Ts := lwt) ⟨hx, hbt, hml, hown, hts⟩ hM
    ⟨callB_of n hts (mWs_good lb) rfl rfl rfl (hts _ lb.2.1) (hts _ l1) lb.2.2 ⟨hfr, hlo⟩, hts _ l2, hts _ l3⟩
    ⟨Pq_blind G _ σ, va_recv hK hP hc he, fun U hU hW => ⟨rfl, hG, by rw [hU]; exact hP, va_K.moved hW.alike hK, NW.warm hW hN⟩⟩ rfl (by rw [List.length_map]; exact hn) hl.1 (by show (As.reverse ++ Value.ref b :: rest).map (cv G.2.1) = _; rw [List.map_append, List.map_reverse]; rfl) (lv_room (by rw [show (rest.map (cv G.2.1)).map (fun v => v.category) = rest.map (fun v => v.category) from by rw [List.map_map]; exact List.map_congr_left (fun v _ => cv_cat _ v)]; exact hr)) hd hcl
  intro T hT X
  obtain ⟨v, st0, t, T', Lc, h0, X', hL, e1, e2, ⟨hv, hPt, hz, hkp⟩, go⟩ := run T hT X
  have hv' : v = r'.map (cv G.2.1) := by injection hv
  subst hv'
  rw [h0] at hz hkp
  obtain ⟨t2, a1, b1⟩ := k p e s m args below meth c T'.heap (locs ++ Lc) ls hC hE (by show va_P G.1 vwCl _ _; rw [e1]; exact hPt)
    ⟨Nat.le_trans hS.1 (by rw [e1]; exact hz), fun q h1 h2 => by rw [e1, hkp q (Nat.lt_of_lt_of_le h1 hS.1) (fun z => h2 (hAb q z))]; exact hS.2.1 q h1 h2, fun q hq => by
      rcases List.mem_append.mp hq with h | h
      · exact hS.2.2 q h
      · exact hAb _ (hL q h)⟩ hl T' rfl X'
  refine ⟨t2, go t2 ?_, b1⟩
  have es : (r'.map (cv G.2.1)).toList ++ rest.map (cv G.2.1) = (r'.toList ++ rest).map (cv G.2.1) := by cases r' <;> rfl
  rw [es]
  exact a1
theorem AWh.callS {M' : Mth} {n idx d' : Nat} {As rest : List Value} {r' : Option Value} {σ' : Mm} (lm : LMS M.1.cls idx M' n) (hM : MR l G d' M' As σ r' σ') (hAb : ∀ q, Ab G q → A q) (hfr : d' + 1 ≤ R.frames) (hlo : 8 + (M'.2.2.1 + 11) + 64 * d' ≤ R.locals) (hcl : cl ≤ R.cells ∧ sl ≤ R.slots) (hn : As.length = n) (hst : st = As.reverse ++ rest) (hr : (rest.map fun v => v.category).sum ≤ 8) (hd : decode M.2.1 pc = .ok (.invokestatic idx, 3)) {q : Nat} (hq : pc + 3 = q) {st' : List Value} (hs : r'.toList ++ rest = st') (k : AWh l G A E R Z M cl sl q L st' (WK G σ')) : AWh l G A E R Z M cl sl pc L st (WK G σ) := by
  intro p e s m args below meth c H locs ls hC hE hP hS hl
  obtain ⟨hx, hbt, hml, hown, hts, hlk, hrt, hK, hG, hN, hnm⟩ := id hC
  subst hst
  subst hq
  subst hs
  obtain ⟨lb, l1, l2⟩ := lm
  have hrm : (rmD d').frames + 1 ≤ R.frames ∧ 8 + (M'.2.2.1 + 11) + (rmD d').locals ≤ R.locals := ⟨hfr, hlo⟩
  have run := va_runS (p := p) (l := l) (e := e) (R := R) (s := s) (m := m) (args := args) (below := below) (meth := meth) (c := c) (H := H) (locs := locs) (cells := cl) (slots := sl) (As := As.map (cv G.2.1)) (rest := rest.map (cv G.2.1)) (g := F0 m pc ls ((As.reverse ++ rest).map (cv G.2.1))) (Ts := lwt) ⟨hx, hbt, hml, hown, hts⟩ hM
    ⟨callB_of n hts (mWs_good lb) rfl rfl rfl (hts _ lb.2.1) (hts _ l1) lb.2.2 hrm, hts _ l2⟩
    ⟨Pq_blind G _ σ, fun U hU hW => ⟨rfl, hG, by rw [hU]; exact hP, va_K.moved hW.alike hK, NW.warm hW hN⟩⟩ rfl (by rw [List.length_map]; exact hn) hl.1 (by show (As.reverse ++ rest).map (cv G.2.1) = _; rw [List.map_append, List.map_reverse]) (lv_room (by rw [show (rest.map (cv G.2.1)).map (fun v => v.category) = rest.map (fun v => v.category) from by rw [List.map_map]; exact List.map_congr_left (fun v _ => cv_cat _ v)]; exact hr)) hd hcl
  intro T hT X
  obtain ⟨v, st0, t, T', Lc, h0, X', hL, e1, e2, ⟨hv, hPt, hz, hkp⟩, go⟩ := run T hT X
  have hv' : v = r'.map (cv G.2.1) := by injection hv
  subst hv'
  rw [h0] at hz hkp
  obtain ⟨t2, a1, b1⟩ := k p e s m args below meth c T'.heap (locs ++ Lc) ls hC hE (by show va_P G.1 vwCl _ _; rw [e1]; exact hPt)
    ⟨Nat.le_trans hS.1 (by rw [e1]; exact hz), fun q h1 h2 => by rw [e1, hkp q (Nat.lt_of_lt_of_le h1 hS.1) (fun z => h2 (hAb q z))]; exact hS.2.1 q h1 h2, fun q hq => by
      rcases List.mem_append.mp hq with h | h
      · exact hS.2.2 q h
      · exact hAb _ (hL q h)⟩ hl T' rfl X'
  refine ⟨t2, go t2 ?_, b1⟩
  have es : (r'.map (cv G.2.1)).toList ++ rest.map (cv G.2.1) = (r'.toList ++ rest).map (cv G.2.1) := by cases r' <;> rfl
  rw [es]
  exact a1
theorem AWh.callN {M' : Mth} {n idx d' : Nat} {As rest : List Value} {r' : Option Value} {σ' : Mm} (lm : LMN M.1.cls idx M' n) (hM : MR l G d' M' As σ r' σ') (hAb : ∀ q, Ab G q → A q) (hfr : d' + 1 ≤ R.frames) (hlo : 8 + (M'.2.2.1 + 11) + 64 * d' ≤ R.locals) (hcl : cl ≤ R.cells ∧ sl ≤ R.slots) (hn : As.length = n) (hst : st = As.reverse ++ rest) (hr : (rest.map fun v => v.category).sum ≤ 8) (hd : decode M.2.1 pc = .ok (.invokestatic idx, 3)) {q : Nat} (hq : pc + 3 = q) {st' : List Value} (hs : r'.toList ++ rest = st') (k : AWh l G A E R Z M cl sl q L st' (WK G σ')) : AWh l G A E R Z M cl sl pc L st (WK G σ) := by
  intro p e s m args below meth c H locs ls hC hE hP hS hl
  obtain ⟨hx, hbt, hml, hown, hts, hlk, hrt, hK, hG, hN, hnm⟩ := id hC
  subst hst
  subst hq
  subst hs
  obtain ⟨lb, ⟨host, l1⟩, l2⟩ := lm
  have hrm : (rmD d').frames + 1 ≤ R.frames ∧ 8 + (M'.2.2.1 + 11) + (rmD d').locals ≤ R.locals := ⟨hfr, hlo⟩
  have run := va_runSN (p := p) (l := l) (e := e) (R := R) (s := s) (m := m) (args := args) (below := below) (meth := meth) (c := c) (H := H) (locs := locs) (cells := cl) (slots := sl) (As := As.map (cv G.2.1)) (rest := rest.map (cv G.2.1)) (g := F0 m pc ls ((As.reverse ++ rest).map (cv G.2.1))) (Ts := lwt) ⟨hx, hbt, hml, hown, hts⟩ hM
    ⟨va_cnB n hts (mWs_good lb) rfl rfl rfl (hN _ l1) (hts _ lb.2.1) lb.2.2 hrm, hts _ l2, trivial⟩
    ⟨Pq_blind G _ σ, fun U hU hW => ⟨rfl, hG, by rw [hU]; exact hP, va_K.moved hW.alike hK, NW.warm hW hN⟩⟩ rfl (by rw [List.length_map]; exact hn) hl.1 (by show (As.reverse ++ rest).map (cv G.2.1) = _; rw [List.map_append, List.map_reverse]) (lv_room (by rw [show (rest.map (cv G.2.1)).map (fun v => v.category) = rest.map (fun v => v.category) from by rw [List.map_map]; exact List.map_congr_left (fun v _ => cv_cat _ v)]; exact hr)) hd hcl
  intro T hT X
  obtain ⟨v, st0, t, T', Lc, h0, X', hL, e1, e2, ⟨hv, hPt, hz, hkp⟩, go⟩ := run T hT X
  have hv' : v = r'.map (cv G.2.1) := by injection hv
  subst hv'
  rw [h0] at hz hkp
  obtain ⟨t2, a1, b1⟩ := k p e s m args below meth c T'.heap (locs ++ Lc) ls hC hE (by show va_P G.1 vwCl _ _; rw [e1]; exact hPt)
    ⟨Nat.le_trans hS.1 (by rw [e1]; exact hz), fun q h1 h2 => by rw [e1, hkp q (Nat.lt_of_lt_of_le h1 hS.1) (fun z => h2 (hAb q z))]; exact hS.2.1 q h1 h2, fun q hq => by
      rcases List.mem_append.mp hq with h | h
      · exact hS.2.2 q h
      · exact hAb _ (hL q h)⟩ hl T' rfl X'
  refine ⟨t2, go t2 ?_, b1⟩
  have es : (r'.map (cv G.2.1)).toList ++ rest.map (cv G.2.1) = (r'.toList ++ rest).map (cv G.2.1) := by cases r' <;> rfl
  rw [es]
  exact a1
theorem AW.callV {M' : Mth} {n idx b ci N d' : Nat} {T : u_T} {As rest : List Value} {r' : Option Value} {σ' : Mm} (lm : LMV M.1.cls idx M' n) (hM : MR l G d' M' (.ref b :: As) σ r' σ') (hdd : d' + 1 ≤ d) (h45 : M'.2.2.1 ≤ 45) (hb : cTag b = ci) (hc : vwCl[ci]? = some (M'.1.cls, T, N)) (hci : ci < 20) (hn : As.length = n) (hst : st = As.reverse ++ .ref b :: rest) (hr : (rest.map fun v => v.category).sum ≤ 8) (hd : decode M.2.1 pc = .ok (.invokevirtual idx, 3)) {q : Nat} (hq : pc + 3 = q) {st' : List Value} (hs : r'.toList ++ rest = st') (k : AW l G d M r τ q L st' σ') : AW l G d M r τ pc L st σ :=
  AWh.callV lm hM (fun _ h => h) (by show d' + 1 ≤ d; exact hdd) (by show _ ≤ 64 * d; omega) ⟨Nat.zero_le _, Nat.zero_le _⟩ hb hc hci hn hst hr hd hq hs k
theorem AW.callS {M' : Mth} {n idx d' : Nat} {As rest : List Value} {r' : Option Value} {σ' : Mm} (lm : LMS M.1.cls idx M' n) (hM : MR l G d' M' As σ r' σ') (hdd : d' + 1 ≤ d) (h45 : M'.2.2.1 ≤ 45) (hn : As.length = n) (hst : st = As.reverse ++ rest) (hr : (rest.map fun v => v.category).sum ≤ 8) (hd : decode M.2.1 pc = .ok (.invokestatic idx, 3)) {q : Nat} (hq : pc + 3 = q) {st' : List Value} (hs : r'.toList ++ rest = st') (k : AW l G d M r τ q L st' σ') : AW l G d M r τ pc L st σ :=
  AWh.callS lm hM (fun _ h => h) (by show d' + 1 ≤ d; exact hdd) (by show _ ≤ 64 * d; omega) ⟨Nat.zero_le _, Nat.zero_le _⟩ hn hst hr hd hq hs k
theorem AW.callN {M' : Mth} {n idx d' : Nat} {As rest : List Value} {r' : Option Value} {σ' : Mm} (lm : LMN M.1.cls idx M' n) (hM : MR l G d' M' As σ r' σ') (hdd : d' + 1 ≤ d) (h45 : M'.2.2.1 ≤ 45) (hn : As.length = n) (hst : st = As.reverse ++ rest) (hr : (rest.map fun v => v.category).sum ≤ 8) (hd : decode M.2.1 pc = .ok (.invokestatic idx, 3)) {q : Nat} (hq : pc + 3 = q) {st' : List Value} (hs : r'.toList ++ rest = st') (k : AW l G d M r τ q L st' σ') : AW l G d M r τ pc L st σ :=
  AWh.callN lm hM (fun _ h => h) (by show d' + 1 ≤ d; exact hdd) (by show _ ≤ 64 * d; omega) ⟨Nat.zero_le _, Nat.zero_le _⟩ hn hst hr hd hq hs k
theorem AW.mabs {idx : Nat} {x : Int32} (lm : LMS M.1.cls idx M_J9_abs_0f7a4 1) (hdd : 1 ≤ d) (hr : (st.map fun v => v.category).sum ≤ 8) (hd : decode M.2.1 pc = .ok (.invokestatic idx, 3)) {q : Nat} (hq : pc + 3 = q) (k : AW l G d M r τ q L (.int (jabs x) :: st) σ) : AW l G d M r τ pc L (.int x :: st) σ := by
  intro p e s m args below meth c H locs ls hC hE hP hS hl
  subst hq
  obtain ⟨hx, hbt, hml, hown, hts, hlk, hrt, hK, hG, hN, hnm⟩ := id hC
  obtain ⟨lb, l1, l2⟩ := lm
  have hr2 : ((st.map (cv G.2.1)).map fun v => v.category).sum ≤ 8 := by
    rw [show (st.map (cv G.2.1)).map (fun v => v.category) = st.map (fun v => v.category) from by rw [List.map_map]; exact List.map_congr_left (fun v _ => cv_cat _ v)]
    exact hr
  exact va_mabs hx hbt (hml.trans hl.1.symm) hown (hts _ l1) (hts _ l2) (hts _ lb.2.1) (hts _ lb.1) (by show 1 ≤ d; exact hdd) (by show _ + 13 ≤ 64 * d; omega) (Nat.zero_le _) (Nat.zero_le _) hd (k p e s m args below meth c H locs ls hC hE hP hS hl)
theorem AW.ireturn {v : Int32} (hr : M.2.2.2 = some .int) (hd : decode M.2.1 pc = .ok (.ireturn, 1)) : AW l G d M (some (.int v)) σ pc L [.int v] σ := by
  intro p e s m args below meth c H locs ls hC hE hP hS hl
  exact W.iret (v := v) hC.1 hC.2.1 (hC.2.2.2.2.2.2.1.trans hr) (fun t ht hW => ⟨rfl, by rw [ht]; exact hP, hS.F ht⟩) hS.2.2 hd hC.2.2.2.2.2.1
theorem AW.zreturn {v : Int32} (hr : M.2.2.2 = some .boolean) (hv : v &&& 1 = v) (hd : decode M.2.1 pc = .ok (.ireturn, 1)) : AW l G d M (some (.int v)) σ pc L [.int v] σ := by
  intro p e s m args below meth c H locs ls hC hE hP hS hl
  exact W.zret (v := v) hC.1 hC.2.1 (hC.2.2.2.2.2.2.1.trans hr) (by show Value.int (v &&& 1) = _; rw [hv]) (fun t ht hW => ⟨rfl, by rw [ht]; exact hP, hS.F ht⟩) hS.2.2 hd hC.2.2.2.2.2.1
theorem AW.lreturn {v : Int64} (hr : M.2.2.2 = some .long) (hd : decode M.2.1 pc = .ok (.lreturn, 1)) : AW l G d M (some (.long v)) σ pc L [.long v] σ := by
  intro p e s m args below meth c H locs ls hC hE hP hS hl
  exact W.lret (v := v) hC.1 hC.2.1 (hC.2.2.2.2.2.2.1.trans hr) (fun t ht hW => ⟨rfl, by rw [ht]; exact hP, hS.F ht⟩) hS.2.2 hd hC.2.2.2.2.2.1
theorem AW.vreturn (hr : M.2.2.2 = none) (hd : decode M.2.1 pc = .ok (.return_, 1)) : AW l G d M none σ pc L [] σ := by
  intro p e s m args below meth c H locs ls hC hE hP hS hl
  exact W.vret hC.1 hC.2.1 (hC.2.2.2.2.2.2.1.trans hr) (fun t ht hW => ⟨rfl, by rw [ht]; exact hP, hS.F ht⟩) hS.2.2 hd hC.2.2.2.2.2.1
theorem AW.areturn {v : Value} {n : String} (hr : M.2.2.2 = some (.object n)) (hv : v = .null ∨ ∃ a, v = .ref a) (hd : decode M.2.1 pc = .ok (.areturn, 1)) : AW l G d M (some v) σ pc L [v] σ := by
  intro p e s m args below meth c H locs ls hC hE hP hS hl
  exact W.aret (v := cv G.2.1 v) hC.1 hC.2.1 (hC.2.2.2.2.2.2.1.trans hr) (Or.inl ⟨n, rfl⟩) (by rcases hv with rfl | ⟨a, rfl⟩; exact Or.inl rfl; exact Or.inr ⟨_, rfl⟩) (fun t ht hW => ⟨rfl, by rw [ht]; exact hP, hS.F ht⟩) hS.2.2 hd hC.2.2.2.2.2.1
theorem AW.nmI {a x : Int32} (e : x = a) (k : AWh l G A E R Z M cl sl pc L (.int x :: st) κ) : AWh l G A E R Z M cl sl pc L (.int a :: st) κ := by subst e; exact k
theorem AW.nmJ {a x : Int64} (e : x = a) (k : AWh l G A E R Z M cl sl pc L (.long x :: st) κ) : AWh l G A E R Z M cl sl pc L (.long a :: st) κ := by subst e; exact k
theorem AW.nmM {ρ : Mm} (e : ρ = σ) (k : AW l G d M r τ pc L st ρ) : AW l G d M r τ pc L st σ := by subst e; exact k
end AWR
def bnd {α β : Type} (a : α) (f : α → Option β) : Option β := f a
theorem bnd_s {α β : Type} {a : α} {f : α → Option β} {y : β} (h : bnd a f = some y) : ∃ x, x = a ∧ f x = some y := ⟨a, rfl, h⟩
def b1 {α β : Type} (a : Option α) (f : α → Option β) : Option β := match a with
  | none => none
  | some x => f x
def b2 {α β : Type} (a : Option (α × Mm)) (f : α → Mm → Option β) : Option β := match a with
  | none => none
  | some x => f x.1 x.2
theorem b1_s {α β : Type} {a : Option α} {f : α → Option β} {y : β} (h : b1 a f = some y) : ∃ x, a = some x ∧ f x = some y := by
  cases a with
  | none => cases h
  | some x => exact ⟨x, rfl, h⟩
theorem b2_s {α β : Type} {a : Option (α × Mm)} {f : α → Mm → Option β} {y : β} (h : b2 a f = some y) : ∃ x ρ, a = some (x, ρ) ∧ f x ρ = some y := by
  cases a with
  | none => cases h
  | some x => exact ⟨x.1, x.2, rfl, h⟩
theorem ifp {β : Type} {c : Prop} [Decidable c] {A B : Option β} {y : β} (hc : c) (h : (if c then A else B) = some y) : A = some y := by rw [if_pos hc] at h; exact h
theorem ifn {β : Type} {c : Prop} [Decidable c] {A B : Option β} {y : β} (hc : ¬ c) (h : (if c then A else B) = some y) : B = some y := by rw [if_neg hc] at h; exact h
def oc {β : Type} (o : Option Nat) (A : Option β) (B : Nat → Option β) : Option β := match o with
  | none => A
  | some k => B k
def rv (o : Option Nat) : Value := match o with
  | none => .null
  | some k => .ref k
theorem no_some {α : Type} {y : α} {P : Prop} (h : (none : Option α) = some y) : P := by cases h
theorem tab_out (x : Int32) (n : Nat) (h : ∀ i : Nat, i ≤ n → ¬ x = nI i) (hn : n < 1000) : x.toInt < 0 ∨ (n : Int) < x.toInt := by
  by_cases q : x.toInt < 0
  · exact Or.inl q
  · by_cases q2 : (n : Int) < x.toInt
    · exact Or.inr q2
    · exfalso
      refine h x.toInt.toNat (by omega) ?_
      apply Int32.toInt_inj.mp
      rw [nI_toInt (by omega)]
      omega
