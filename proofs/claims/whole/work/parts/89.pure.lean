/-! a new object; the law over every script -/
theorem s0_o {c j : Nat} (h : c ≠ 52) : σ0.1 c j = 0 := by
  unfold σ0
  rw [sI_n (by omega), sI_n (by omega), sI_n (by omega), sI_n (by omega), sI_n (by omega)]
  rfl
theorem s0_n : ∀ k, k < 5 → σ0.1 52 k = -9 := by decide
def Tz0 : Tw := (0, fun _ => 0, fun _ => 0, 0, fun _ => 0, fun _ => 0, fun _ => 0, fun _ => 0, fun _ => 0, fun _ => 0)
def Sz0 : Sp := ((0, fun _ => 0), Tz0, fun _ => 0, (0, fun _ => (0, 0)), (0, fun _ => (0, 0)), 0, fun _ => none)
theorem nd0 (k : Nat) : ¬ k < tNd Tz0 := Nat.not_lt_zero k
theorem inv0 : INV σ0 := by
  refine ⟨Sz0, ?_, ?_, ?_⟩
  · refine ⟨Nat.zero_le _, ⟨Nat.zero_le _, Nat.zero_le _, fun b hb => absurd hb (Nat.not_lt_zero b), fun k hk => absurd hk (Nat.not_lt_zero k)⟩, VD_0 Tz0, ⟨Nat.zero_le _, fun i hi => absurd hi (Nat.not_lt_zero i), fun i hi => ?_⟩, ⟨Nat.zero_le _, fun i hi => absurd hi (Nat.not_lt_zero i)⟩, fun s E h => by cases h⟩
    rw [show i = 0 from Nat.le_zero.mp hi]
    exact VD_0 Tz0
  · refine ⟨⟨s0_o (by decide), fun i hi => absurd hi (Nat.not_lt_zero i)⟩, ⟨s0_o (by decide), s0_o (by decide), fun b hb => absurd hb (Nat.not_lt_zero b), fun k hk => absurd hk (Nat.not_lt_zero k), fun k hk => ⟨?_, ?_, fun s hs => ⟨?_, ?_⟩⟩⟩, fun k hk => s0_o (by decide), ⟨s0_o (by decide), fun i hi => absurd hi (Nat.not_lt_zero i)⟩, ⟨s0_o (by decide), fun i hi => absurd hi (Nat.not_lt_zero i)⟩, rfl, s0_o (by decide), s0_o (by decide)⟩
    · rw [s0_o (by decide)]
      show _ = nI (begX Tz0 k)
      rw [begX_no (nd0 k)]; rfl
    · rw [s0_o (by decide)]
      have e : wantX Tz0 k = 0 := by unfold wantX; rw [if_neg (fun z => nd0 k z.1)]
      show _ = nI (wantX Tz0 k)
      rw [e]; rfl
    · rw [s0_o (by decide)]
      have e : ringX Tz0 k s = 0 := by unfold ringX; rw [if_neg (fun z => nd0 k z.1)]
      show _ = nI (ringX Tz0 k s)
      rw [e]; rfl
    · have e : takeX Tz0 k s = 0 := by unfold takeX; rw [if_neg (fun z => nd0 k z.1)]
      show _ = lN (takeX Tz0 k s)
      rw [e]; rfl
  · exact ⟨⟨s0_o (by decide), fun i hi => absurd hi (Nat.not_lt_zero i)⟩, ⟨s0_o (by decide), s0_o (by decide), fun b hb => absurd hb (Nat.not_lt_zero b), fun k hk => absurd hk (Nat.not_lt_zero k)⟩, fun k hk => s0_n k hk, ⟨s0_o (by decide), 0, by decide, s0_o (by decide), fun i hi => absurd hi (Nat.not_lt_zero i)⟩, ⟨s0_o (by decide), fun i hi => absurd hi (Nat.not_lt_zero i)⟩, rfl, s0_o (by decide), s0_o (by decide)⟩
theorem pure_law (xs : Nat → Int32) (Ln : Nat) (h : Ln ≤ 2048) : f_L_law_p18 xs Ln FU 0 σ0 = some () :=
  pure_of INV inv0 (fun _ h => op_write h) (fun _ h => op_wipe h) (fun _ h => op_fault h) (fun _ h => op_tower h) (fun _ h => op_bell h) (fun _ h => op_bidder h) (fun _ h => op_rings h) (fun _ h => op_clashes h) (fun _ h => op_let h) (fun _ h => op_revoke h) (fun _ h => op_move h) (fun _ h => op_undo h) (fun _ h => op_best h) (fun _ h => op_bestOf h) (fun _ h => op_beside h) (fun _ h => op_price h) (fun _ h => op_many h) (fun _ h => op_room h) (fun _ h => op_hands h) (fun _ h => op_judge h) (fun _ h => op_hear h) (fun _ h => op_unhear h) (fun _ h => op_fit h) (fun _ h => op_likely h) (fun _ h => op_unwanted h) (fun _ h => op_sealed h) (fun _ h => op_seed h) (fun _ h => op_day h) (fun _ h => op_keep h) (fun _ h => op_again h) (fun _ h => op_count h) xs Ln h
