theorem rf_1_0 {k : Nat} (h : cTag k = 1) : cRef k 0 = 3 := by
  have q : ∀ k, k < KK → cTag k = 1 → cRef k 0 = 3 := by decide +kernel
  exact q k (cTag_lt h (by decide)) h
theorem tg_1_1 {k : Nat} (h : cTag k = 1) : cTag (cRef k 1) = 20 := by
  have q : ∀ k, k < KK → cTag k = 1 → cTag (cRef k 1) = 20 := by decide +kernel
  exact q k (cTag_lt h (by decide)) h
theorem ln_1_1 {k : Nat} (h : cTag k = 1) : cLen (cRef k 1) = 5 := by
  have q : ∀ k, k < KK → cTag k = 1 → cLen (cRef k 1) = 5 := by decide +kernel
  exact q k (cTag_lt h (by decide)) h
theorem tg_6_0 {k : Nat} (h : cTag k = 6) : cTag (cRef k 0) = 1 := by
  have q : ∀ k, k < KK → cTag k = 6 → cTag (cRef k 0) = 1 := by decide +kernel
  exact q k (cTag_lt h (by decide)) h
theorem ne_ti {x v : Int32} (n : Int) (c : ¬ x = v) (hn : v.toInt = n := by decide) : ¬ (n = x.toInt) := fun e => c (Int32.toInt_inj.mp (e.symm.trans hn.symm))
