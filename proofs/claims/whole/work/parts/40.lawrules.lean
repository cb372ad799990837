/-! the law: its judgement and its own rules -/
def Ac (G : Gg) : Nat → Prop := fun q => G.2.1 0 ≤ q
theorem Ab_Ac {G : Gg} (hG : GOK G) : ∀ q, Ab G q → Ac G q := by
  rintro q ⟨k, hk, rfl⟩
  have := hG k hk
  show G.2.1 0 ≤ G.2.1 k
  omega
def ES (G : Gg) (b Ln : Nat) (xs : Nat → Int32) (s : State) (args : Array Value) : Prop := args = #[Value.ref b] ∧ va_X b Ln xs s s.heap ∧ b < s.heap.size ∧ s.heap.size = G.2.1 0
abbrev M_L_law : Mth := (yL_law, cL_law, 4, ret)
abbrev LW (l : Launch) (G : Gg) (b Ln : Nat) (xs : Nat → Int32) (pc : Nat) (L : List (Nat × Value)) (st : List Value) (σ : Mm) : Prop :=
  AWh l G (Ac G) (ES G b Ln xs) room_1 (fun below args s => lw_Z below args s) M_L_law 600000 7302250 pc L st (WK G σ)
section LWR
variable {l : Launch} {G : Gg} {b Ln : Nat} {xs : Nat → Int32} {pc : Nat} {L : List (Nat × Value)} {st : List Value} {σ : Mm}
theorem LW.sld {i : Int32} (h9 : G.2.1 999 = b) (hin : inB i Ln = true) (hd : decode cL_law pc = .ok (.iaload, 1)) {q : Nat} (hq : pc + 1 = q) (k : LW l G b Ln xs q L (.int (xs i.toNatClampNeg) :: st) σ) : LW l G b Ln xs pc L (.int i :: .ref 999 :: st) σ := by
  intro p e s m args below meth c H locs ls hC hE hP hS hl
  subst hq
  subst h9
  obtain ⟨-, hX, hbl, hbs⟩ := id hE
  exact va_sld hC.1 hC.2.1 hX hbl (by show ¬ G.2.1 0 ≤ G.2.1 999; omega) hS (inB_in hin) hd (k p e s m args below meth c H locs ls hC hE hP hS hl)
theorem LW.slen (h9 : G.2.1 999 = b) (hd : decode cL_law pc = .ok (.arraylength, 1)) {q : Nat} (hq : pc + 1 = q) (k : LW l G b Ln xs q L (.int (Int32.ofNat Ln) :: st) σ) : LW l G b Ln xs pc L (.ref 999 :: st) σ := by
  intro p e s m args below meth c H locs ls hC hE hP hS hl
  subst hq
  subst h9
  obtain ⟨-, hX, hbl, hbs⟩ := id hE
  exact va_slen hC.1 hC.2.1 hX hbl (by show ¬ G.2.1 0 ≤ G.2.1 999; omega) hS hd (k p e s m args below meth c H locs ls hC hE hP hS hl)
theorem LW.ret1 (h9 : G.2.1 999 = b) (hd : decode cL_law pc = .ok (.ireturn, 1)) : LW l G b Ln xs pc L [.int 1] σ := by
  intro p e s m args below meth c H locs ls hC hE hP hS hl
  obtain ⟨rfl, -, -, hbs⟩ := id hE
  refine va_forget (fun q hq => by rw [hbs]; exact hS.2.2 q hq) ?_
  exact lw_ret hC.1 hC.2.1 hC.2.2.2.2.2.2.1 hC.2.2.2.2.2.1 hd
theorem LW.callV {M' : Mth} {n idx o ci N d' : Nat} {T : u_T} {As rest : List Value} {r' : Option Value} {σ' : Mm} (hG : GOK G) (lm : LMV RL idx M' n) (hM : MR l G d' M' (.ref o :: As) σ r' σ') (hdd : d' ≤ 1000) (h45 : M'.2.2.1 ≤ 45) (hb : cTag o = ci) (hc : vwCl[ci]? = some (M'.1.cls, T, N)) (hci : ci < 20) (hn : As.length = n) (hst : st = As.reverse ++ .ref o :: rest) (hr : (rest.map fun v => v.category).sum ≤ 8) (hd : decode cL_law pc = .ok (.invokevirtual idx, 3)) {q : Nat} (hq : pc + 3 = q) {st' : List Value} (hs : r'.toList ++ rest = st') (k : LW l G b Ln xs q L st' σ') : LW l G b Ln xs pc L st σ :=
  AWh.callV lm hM (Ab_Ac hG) (by show d' + 1 ≤ 2048; omega) (by show _ ≤ 84000; omega) ⟨Nat.le_refl _, Nat.le_refl _⟩ hb hc hci hn hst hr hd hq hs k
end LWR
