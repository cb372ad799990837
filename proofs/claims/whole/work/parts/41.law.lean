def f_L_law_p172 (xs : Nat → Int32) (Ln : Nat) (kh : Int32 → Mm → Option (Unit)) (x3 : Int32) (σ : Mm) : Option (Unit) := gd (inB (x3 + (1 : Int32)) Ln) (b2 (f_X9_write (xs ((x3 + (1 : Int32))).toNatClampNeg) σ) (fun (r3 : Int32) (τ4 : Mm) => gd (inB (x3 + (1 : Int32)) Ln) (b2 (f_X10_write (xs ((x3 + (1 : Int32))).toNatClampNeg) τ4) (fun (r7 : Int32) (τ8 : Mm) => (if r3 = r7 then kh (x3 + (4 : Int32)) τ8 else none)))))
def f_L_law_p195 (xs : Nat → Int32) (Ln : Nat) (kh : Int32 → Mm → Option (Unit)) (x3 : Int32) (σ : Mm) : Option (Unit) := b2 (f_X9_wipe σ) (fun (r2 : Int32) (τ3 : Mm) => b2 (f_X10_wipe τ3) (fun (r5 : Int32) (τ6 : Mm) => (if r2 = r5 then kh (x3 + (4 : Int32)) τ6 else none)))
def f_L_law_p208 (xs : Nat → Int32) (Ln : Nat) (kh : Int32 → Mm → Option (Unit)) (x3 : Int32) (σ : Mm) : Option (Unit) := b1 (f_X9_fault σ) (fun (r2 : Int32) => b2 (f_X10_fault σ) (fun (r4 : Int32) (τ5 : Mm) => (if r2 = r4 then kh (x3 + (4 : Int32)) τ5 else none)))
def f_L_law_p221 (xs : Nat → Int32) (Ln : Nat) (kh : Int32 → Mm → Option (Unit)) (x3 : Int32) (σ : Mm) : Option (Unit) := b2 (f_X9_tower σ) (fun (r2 : Int32) (τ3 : Mm) => b2 (f_X10_tower τ3) (fun (r5 : Int32) (τ6 : Mm) => (if r2 = r5 then kh (x3 + (4 : Int32)) τ6 else none)))
def f_L_law_p234 (xs : Nat → Int32) (Ln : Nat) (kh : Int32 → Mm → Option (Unit)) (x3 : Int32) (σ : Mm) : Option (Unit) := gd (inB (x3 + (1 : Int32)) Ln) (gd (inB (x3 + (2 : Int32)) Ln) (b1 (f_X9_bell σ (xs ((x3 + (1 : Int32))).toNatClampNeg) (xs ((x3 + (2 : Int32))).toNatClampNeg)) (fun (r4 : Int32) => gd (inB (x3 + (1 : Int32)) Ln) (gd (inB (x3 + (2 : Int32)) Ln) (b1 (f_X10_bell σ (xs ((x3 + (1 : Int32))).toNatClampNeg) (xs ((x3 + (2 : Int32))).toNatClampNeg)) (fun (r8 : Int32) => (if r4 = r8 then kh (x3 + (4 : Int32)) σ else none)))))))
def f_L_law_p267 (xs : Nat → Int32) (Ln : Nat) (kh : Int32 → Mm → Option (Unit)) (x3 : Int32) (σ : Mm) : Option (Unit) := gd (inB (x3 + (1 : Int32)) Ln) (gd (inB (x3 + (2 : Int32)) Ln) (b1 (f_X9_bidder σ (xs ((x3 + (1 : Int32))).toNatClampNeg) (xs ((x3 + (2 : Int32))).toNatClampNeg)) (fun (r4 : Int32) => gd (inB (x3 + (1 : Int32)) Ln) (gd (inB (x3 + (2 : Int32)) Ln) (b1 (f_X10_bidder σ (xs ((x3 + (1 : Int32))).toNatClampNeg) (xs ((x3 + (2 : Int32))).toNatClampNeg)) (fun (r8 : Int32) => (if r4 = r8 then kh (x3 + (4 : Int32)) σ else none)))))))
def f_L_law_p300 (xs : Nat → Int32) (Ln : Nat) (kh : Int32 → Mm → Option (Unit)) (x3 : Int32) (σ : Mm) : Option (Unit) := gd (inB (x3 + (1 : Int32)) Ln) (b1 (f_X9_rings σ (xs ((x3 + (1 : Int32))).toNatClampNeg)) (fun (r3 : Int32) => gd (inB (x3 + (1 : Int32)) Ln) (b1 (f_X10_rings σ (xs ((x3 + (1 : Int32))).toNatClampNeg)) (fun (r6 : Int32) => (if r3 = r6 then kh (x3 + (4 : Int32)) σ else none)))))
def f_L_law_p323 (xs : Nat → Int32) (Ln : Nat) (kh : Int32 → Mm → Option (Unit)) (x3 : Int32) (σ : Mm) : Option (Unit) := gd (inB (x3 + (1 : Int32)) Ln) (gd (inB (x3 + (2 : Int32)) Ln) (b1 (f_X9_clashes σ (xs ((x3 + (1 : Int32))).toNatClampNeg) (xs ((x3 + (2 : Int32))).toNatClampNeg)) (fun (r4 : Int32) => gd (inB (x3 + (1 : Int32)) Ln) (gd (inB (x3 + (2 : Int32)) Ln) (b1 (f_X10_clashes σ (xs ((x3 + (1 : Int32))).toNatClampNeg) (xs ((x3 + (2 : Int32))).toNatClampNeg)) (fun (r8 : Int32) => (if r4 = r8 then kh (x3 + (4 : Int32)) σ else none)))))))
def f_L_law_p356 (xs : Nat → Int32) (Ln : Nat) (kh : Int32 → Mm → Option (Unit)) (x3 : Int32) (σ : Mm) : Option (Unit) := gd (inB (x3 + (1 : Int32)) Ln) (gd (inB (x3 + (2 : Int32)) Ln) (b2 (f_X9_let (xs ((x3 + (1 : Int32))).toNatClampNeg) (xs ((x3 + (2 : Int32))).toNatClampNeg) σ) (fun (r4 : Int32) (τ5 : Mm) => gd (inB (x3 + (1 : Int32)) Ln) (gd (inB (x3 + (2 : Int32)) Ln) (b2 (f_X10_let (xs ((x3 + (1 : Int32))).toNatClampNeg) (xs ((x3 + (2 : Int32))).toNatClampNeg) τ5) (fun (r9 : Int32) (τ10 : Mm) => (if r4 = r9 then kh (x3 + (4 : Int32)) τ10 else none)))))))
def f_L_law_p389 (xs : Nat → Int32) (Ln : Nat) (kh : Int32 → Mm → Option (Unit)) (x3 : Int32) (σ : Mm) : Option (Unit) := gd (inB (x3 + (1 : Int32)) Ln) (b2 (f_X9_revoke (xs ((x3 + (1 : Int32))).toNatClampNeg) σ) (fun (r3 : Int32) (τ4 : Mm) => gd (inB (x3 + (1 : Int32)) Ln) (b2 (f_X10_revoke (xs ((x3 + (1 : Int32))).toNatClampNeg) τ4) (fun (r7 : Int32) (τ8 : Mm) => (if r3 = r7 then kh (x3 + (4 : Int32)) τ8 else none)))))
def f_L_law_p412 (xs : Nat → Int32) (Ln : Nat) (kh : Int32 → Mm → Option (Unit)) (x3 : Int32) (σ : Mm) : Option (Unit) := gd (inB (x3 + (1 : Int32)) Ln) (gd (inB (x3 + (2 : Int32)) Ln) (b2 (f_X9_move (xs ((x3 + (1 : Int32))).toNatClampNeg) (xs ((x3 + (2 : Int32))).toNatClampNeg) σ) (fun (r4 : Int32) (τ5 : Mm) => gd (inB (x3 + (1 : Int32)) Ln) (gd (inB (x3 + (2 : Int32)) Ln) (b2 (f_X10_move (xs ((x3 + (1 : Int32))).toNatClampNeg) (xs ((x3 + (2 : Int32))).toNatClampNeg) τ5) (fun (r9 : Int32) (τ10 : Mm) => (if r4 = r9 then kh (x3 + (4 : Int32)) τ10 else none)))))))
def f_L_law_p445 (xs : Nat → Int32) (Ln : Nat) (kh : Int32 → Mm → Option (Unit)) (x3 : Int32) (σ : Mm) : Option (Unit) := b2 (f_X9_undo σ) (fun (r2 : Int32) (τ3 : Mm) => b2 (f_X10_undo τ3) (fun (r5 : Int32) (τ6 : Mm) => (if r2 = r5 then kh (x3 + (4 : Int32)) τ6 else none)))
def f_L_law_p458 (xs : Nat → Int32) (Ln : Nat) (kh : Int32 → Mm → Option (Unit)) (x3 : Int32) (σ : Mm) : Option (Unit) := gd (inB (x3 + (1 : Int32)) Ln) (b2 (f_X9_best (xs ((x3 + (1 : Int32))).toNatClampNeg) σ) (fun (r3 : Int32) (τ4 : Mm) => gd (inB (x3 + (1 : Int32)) Ln) (b2 (f_X10_best (xs ((x3 + (1 : Int32))).toNatClampNeg) τ4) (fun (r7 : Int32) (τ8 : Mm) => (if r3 = r7 then kh (x3 + (4 : Int32)) τ8 else none)))))
def f_L_law_p481 (xs : Nat → Int32) (Ln : Nat) (kh : Int32 → Mm → Option (Unit)) (x3 : Int32) (σ : Mm) : Option (Unit) := gd (inB (x3 + (1 : Int32)) Ln) (b2 (f_X9_bestOf (xs ((x3 + (1 : Int32))).toNatClampNeg) σ) (fun (r3 : Int32) (τ4 : Mm) => gd (inB (x3 + (1 : Int32)) Ln) (b2 (f_X10_bestOf (xs ((x3 + (1 : Int32))).toNatClampNeg) τ4) (fun (r7 : Int32) (τ8 : Mm) => (if r3 = r7 then kh (x3 + (4 : Int32)) τ8 else none)))))
def f_L_law_p504 (xs : Nat → Int32) (Ln : Nat) (kh : Int32 → Mm → Option (Unit)) (x3 : Int32) (σ : Mm) : Option (Unit) := b2 (f_X9_beside σ) (fun (r2 : Int32) (τ3 : Mm) => b2 (f_X10_beside τ3) (fun (r5 : Int32) (τ6 : Mm) => (if r2 = r5 then kh (x3 + (4 : Int32)) τ6 else none)))
def f_L_law_p517 (xs : Nat → Int32) (Ln : Nat) (kh : Int32 → Mm → Option (Unit)) (x3 : Int32) (σ : Mm) : Option (Unit) := gd (inB (x3 + (1 : Int32)) Ln) (b2 (f_X9_price (xs ((x3 + (1 : Int32))).toNatClampNeg) σ) (fun (r3 : Int32) (τ4 : Mm) => gd (inB (x3 + (1 : Int32)) Ln) (b2 (f_X10_price (xs ((x3 + (1 : Int32))).toNatClampNeg) τ4) (fun (r7 : Int32) (τ8 : Mm) => (if r3 = r7 then kh (x3 + (4 : Int32)) τ8 else none)))))
def f_L_law_p540 (xs : Nat → Int32) (Ln : Nat) (kh : Int32 → Mm → Option (Unit)) (x3 : Int32) (σ : Mm) : Option (Unit) := b2 (f_X9_many σ) (fun (r2 : Int32) (τ3 : Mm) => b2 (f_X10_many τ3) (fun (r5 : Int32) (τ6 : Mm) => (if r2 = r5 then kh (x3 + (4 : Int32)) τ6 else none)))
def f_L_law_p553 (xs : Nat → Int32) (Ln : Nat) (kh : Int32 → Mm → Option (Unit)) (x3 : Int32) (σ : Mm) : Option (Unit) := gd (inB (x3 + (1 : Int32)) Ln) (gd (inB (x3 + (2 : Int32)) Ln) (b1 (f_X9_room σ (xs ((x3 + (1 : Int32))).toNatClampNeg) (xs ((x3 + (2 : Int32))).toNatClampNeg)) (fun (r4 : Int32) => gd (inB (x3 + (1 : Int32)) Ln) (gd (inB (x3 + (2 : Int32)) Ln) (b1 (f_X10_room σ (xs ((x3 + (1 : Int32))).toNatClampNeg) (xs ((x3 + (2 : Int32))).toNatClampNeg)) (fun (r8 : Int32) => (if r4 = r8 then kh (x3 + (4 : Int32)) σ else none)))))))
def f_L_law_p586 (xs : Nat → Int32) (Ln : Nat) (kh : Int32 → Mm → Option (Unit)) (x3 : Int32) (σ : Mm) : Option (Unit) := b2 (f_X9_hands σ) (fun (r2 : Int32) (τ3 : Mm) => b2 (f_X10_hands τ3) (fun (r5 : Int32) (τ6 : Mm) => (if r2 = r5 then kh (x3 + (4 : Int32)) τ6 else none)))
def f_L_law_p599 (xs : Nat → Int32) (Ln : Nat) (kh : Int32 → Mm → Option (Unit)) (x3 : Int32) (σ : Mm) : Option (Unit) := gd (inB (x3 + (1 : Int32)) Ln) (gd (inB (x3 + (2 : Int32)) Ln) (gd (inB (x3 + (3 : Int32)) Ln) (b2 (f_X9_judge (xs ((x3 + (1 : Int32))).toNatClampNeg) ((jlshl (xs ((x3 + (2 : Int32))).toNatClampNeg).toInt64 (32 : Int32)) ||| ((xs ((x3 + (3 : Int32))).toNatClampNeg).toInt64 &&& (4294967295 : Int64))) σ) (fun (r5 : Int32) (τ6 : Mm) => gd (inB (x3 + (1 : Int32)) Ln) (gd (inB (x3 + (2 : Int32)) Ln) (gd (inB (x3 + (3 : Int32)) Ln) (b2 (f_X10_judge (xs ((x3 + (1 : Int32))).toNatClampNeg) ((jlshl (xs ((x3 + (2 : Int32))).toNatClampNeg).toInt64 (32 : Int32)) ||| ((xs ((x3 + (3 : Int32))).toNatClampNeg).toInt64 &&& (4294967295 : Int64))) τ6) (fun (r11 : Int32) (τ12 : Mm) => (if r5 = r11 then kh (x3 + (4 : Int32)) τ12 else none)))))))))
def f_L_law_p662 (xs : Nat → Int32) (Ln : Nat) (kh : Int32 → Mm → Option (Unit)) (x3 : Int32) (σ : Mm) : Option (Unit) := gd (inB (x3 + (1 : Int32)) Ln) (gd (inB (x3 + (2 : Int32)) Ln) (b2 (f_X9_hear (xs ((x3 + (1 : Int32))).toNatClampNeg) (xs ((x3 + (2 : Int32))).toNatClampNeg) σ) (fun (r4 : Int32) (τ5 : Mm) => gd (inB (x3 + (1 : Int32)) Ln) (gd (inB (x3 + (2 : Int32)) Ln) (b2 (f_X10_hear (xs ((x3 + (1 : Int32))).toNatClampNeg) (xs ((x3 + (2 : Int32))).toNatClampNeg) τ5) (fun (r9 : Int32) (τ10 : Mm) => (if r4 = r9 then kh (x3 + (4 : Int32)) τ10 else none)))))))
def f_L_law_p695 (xs : Nat → Int32) (Ln : Nat) (kh : Int32 → Mm → Option (Unit)) (x3 : Int32) (σ : Mm) : Option (Unit) := b2 (f_X9_unhear σ) (fun (r2 : Int32) (τ3 : Mm) => b2 (f_X10_unhear τ3) (fun (r5 : Int32) (τ6 : Mm) => (if r2 = r5 then kh (x3 + (4 : Int32)) τ6 else none)))
def f_L_law_p708 (xs : Nat → Int32) (Ln : Nat) (kh : Int32 → Mm → Option (Unit)) (x3 : Int32) (σ : Mm) : Option (Unit) := gd (inB (x3 + (1 : Int32)) Ln) (b2 (f_X9_fit (xs ((x3 + (1 : Int32))).toNatClampNeg) σ) (fun (r3 : Int32) (τ4 : Mm) => gd (inB (x3 + (1 : Int32)) Ln) (b2 (f_X10_fit (xs ((x3 + (1 : Int32))).toNatClampNeg) τ4) (fun (r7 : Int32) (τ8 : Mm) => (if r3 = r7 then kh (x3 + (4 : Int32)) τ8 else none)))))
def f_L_law_p772 (xs : Nat → Int32) (Ln : Nat) (kh : Int32 → Mm → Option (Unit)) (x3 : Int32) (s0 : Int32) (s1 : Int32) (s3 : Int32) (σ : Mm) : Option (Unit) := b2 (f_X10_likely s1 s0 σ) (fun (r2 : Int32) (τ3 : Mm) => (if s3 = r2 then kh (x3 + (4 : Int32)) τ3 else none))
def f_L_law_p750 (xs : Nat → Int32) (Ln : Nat) (kh : Int32 → Mm → Option (Unit)) (x3 : Int32) (s0 : Int32) (s1 : Int32) (σ : Mm) : Option (Unit) := b2 (f_X9_likely s1 s0 σ) (fun (r2 : Int32) (τ3 : Mm) => gd (inB (x3 + (1 : Int32)) Ln) (gd (inB (x3 + (2 : Int32)) Ln) ((if (xs ((x3 + (2 : Int32))).toNatClampNeg) = 0 then (f_L_law_p772 xs Ln kh) x3 (0 : Int32) (xs ((x3 + (1 : Int32))).toNatClampNeg) r2 τ3 else (f_L_law_p772 xs Ln kh) x3 (1 : Int32) (xs ((x3 + (1 : Int32))).toNatClampNeg) r2 τ3))))
def f_L_law_p731 (xs : Nat → Int32) (Ln : Nat) (kh : Int32 → Mm → Option (Unit)) (x3 : Int32) (σ : Mm) : Option (Unit) := gd (inB (x3 + (1 : Int32)) Ln) (gd (inB (x3 + (2 : Int32)) Ln) ((if (xs ((x3 + (2 : Int32))).toNatClampNeg) = 0 then (f_L_law_p750 xs Ln kh) x3 (0 : Int32) (xs ((x3 + (1 : Int32))).toNatClampNeg) σ else (f_L_law_p750 xs Ln kh) x3 (1 : Int32) (xs ((x3 + (1 : Int32))).toNatClampNeg) σ)))
def f_L_law_p780 (xs : Nat → Int32) (Ln : Nat) (kh : Int32 → Mm → Option (Unit)) (x3 : Int32) (σ : Mm) : Option (Unit) := b1 (f_X9_unwanted σ) (fun (r2 : Int32) => b1 (f_X10_unwanted σ) (fun (r4 : Int32) => (if r2 = r4 then kh (x3 + (4 : Int32)) σ else none)))
def f_L_law_p793 (xs : Nat → Int32) (Ln : Nat) (kh : Int32 → Mm → Option (Unit)) (x3 : Int32) (σ : Mm) : Option (Unit) := gd (inB (x3 + (1 : Int32)) Ln) (gd (inB (x3 + (2 : Int32)) Ln) (gd (inB (x3 + (3 : Int32)) Ln) (b1 (f_X9_sealed σ (xs ((x3 + (1 : Int32))).toNatClampNeg) (xs ((x3 + (2 : Int32))).toNatClampNeg) (xs ((x3 + (3 : Int32))).toNatClampNeg)) (fun (r5 : Int32) => gd (inB (x3 + (1 : Int32)) Ln) (gd (inB (x3 + (2 : Int32)) Ln) (gd (inB (x3 + (3 : Int32)) Ln) (b1 (f_X10_sealed σ (xs ((x3 + (1 : Int32))).toNatClampNeg) (xs ((x3 + (2 : Int32))).toNatClampNeg) (xs ((x3 + (3 : Int32))).toNatClampNeg)) (fun (r10 : Int32) => (if r5 = r10 then kh (x3 + (4 : Int32)) σ else none)))))))))
def f_L_law_p836 (xs : Nat → Int32) (Ln : Nat) (kh : Int32 → Mm → Option (Unit)) (x3 : Int32) (σ : Mm) : Option (Unit) := gd (inB (x3 + (1 : Int32)) Ln) (gd (inB (x3 + (2 : Int32)) Ln) (b2 (f_X9_seed ((jlshl (xs ((x3 + (1 : Int32))).toNatClampNeg).toInt64 (32 : Int32)) ||| ((xs ((x3 + (2 : Int32))).toNatClampNeg).toInt64 &&& (4294967295 : Int64))) σ) (fun (r4 : Int64) (τ5 : Mm) => gd (inB (x3 + (1 : Int32)) Ln) (gd (inB (x3 + (2 : Int32)) Ln) (b2 (f_X10_seed ((jlshl (xs ((x3 + (1 : Int32))).toNatClampNeg).toInt64 (32 : Int32)) ||| ((xs ((x3 + (2 : Int32))).toNatClampNeg).toInt64 &&& (4294967295 : Int64))) τ5) (fun (r9 : Int64) (τ10 : Mm) => (if (lg_cmp r4 r9) = 0 then kh (x3 + (4 : Int32)) τ10 else none)))))))
def f_L_law_p890 (xs : Nat → Int32) (Ln : Nat) (kh : Int32 → Mm → Option (Unit)) (x3 : Int32) (σ : Mm) : Option (Unit) := gd (inB (x3 + (1 : Int32)) Ln) (b2 (f_X9_day (xs ((x3 + (1 : Int32))).toNatClampNeg) σ) (fun (r3 : Int32) (τ4 : Mm) => gd (inB (x3 + (1 : Int32)) Ln) (b2 (f_X10_day (xs ((x3 + (1 : Int32))).toNatClampNeg) τ4) (fun (r7 : Int32) (τ8 : Mm) => (if r3 = r7 then kh (x3 + (4 : Int32)) τ8 else none)))))
def f_L_law_p913 (xs : Nat → Int32) (Ln : Nat) (kh : Int32 → Mm → Option (Unit)) (x3 : Int32) (σ : Mm) : Option (Unit) := gd (inB (x3 + (1 : Int32)) Ln) (b2 (f_X9_keep (xs ((x3 + (1 : Int32))).toNatClampNeg) σ) (fun (r3 : Int32) (τ4 : Mm) => gd (inB (x3 + (1 : Int32)) Ln) (b2 (f_X10_keep (xs ((x3 + (1 : Int32))).toNatClampNeg) τ4) (fun (r7 : Int32) (τ8 : Mm) => (if r3 = r7 then kh (x3 + (4 : Int32)) τ8 else none)))))
def f_L_law_p936 (xs : Nat → Int32) (Ln : Nat) (kh : Int32 → Mm → Option (Unit)) (x3 : Int32) (σ : Mm) : Option (Unit) := gd (inB (x3 + (1 : Int32)) Ln) (b2 (f_X9_again (xs ((x3 + (1 : Int32))).toNatClampNeg) σ) (fun (r3 : Int32) (τ4 : Mm) => gd (inB (x3 + (1 : Int32)) Ln) (b2 (f_X10_again (xs ((x3 + (1 : Int32))).toNatClampNeg) τ4) (fun (r7 : Int32) (τ8 : Mm) => (if r3 = r7 then kh (x3 + (4 : Int32)) τ8 else none)))))
def f_L_law_p959 (xs : Nat → Int32) (Ln : Nat) (kh : Int32 → Mm → Option (Unit)) (x3 : Int32) (σ : Mm) : Option (Unit) := gd (inB (x3 + (1 : Int32)) Ln) (b1 (f_X9_count σ (xs ((x3 + (1 : Int32))).toNatClampNeg)) (fun (r3 : Int32) => gd (inB (x3 + (1 : Int32)) Ln) (b1 (f_X10_count σ (xs ((x3 + (1 : Int32))).toNatClampNeg)) (fun (r6 : Int32) => (if r3 = r6 then kh (x3 + (4 : Int32)) σ else none)))))
def f_L_law_p18 (xs : Nat → Int32) (Ln : Nat) : Nat → Int32 → Mm → Option (Unit)
  | 0, _, _ => none
  | n + 1, x3, σ => (if ((Int32.ofNat Ln) - (4 : Int32)) < x3 then some () else gd (inB x3 Ln) ((if ((xs (x3).toNatClampNeg) &&& (31 : Int32)) = (0 : Int32) then (f_L_law_p172 xs Ln (f_L_law_p18 xs Ln n)) x3 σ else (if ((xs (x3).toNatClampNeg) &&& (31 : Int32)) = (1 : Int32) then (f_L_law_p195 xs Ln (f_L_law_p18 xs Ln n)) x3 σ else (if ((xs (x3).toNatClampNeg) &&& (31 : Int32)) = (2 : Int32) then (f_L_law_p208 xs Ln (f_L_law_p18 xs Ln n)) x3 σ else (if ((xs (x3).toNatClampNeg) &&& (31 : Int32)) = (3 : Int32) then (f_L_law_p221 xs Ln (f_L_law_p18 xs Ln n)) x3 σ else (if ((xs (x3).toNatClampNeg) &&& (31 : Int32)) = (4 : Int32) then (f_L_law_p234 xs Ln (f_L_law_p18 xs Ln n)) x3 σ else (if ((xs (x3).toNatClampNeg) &&& (31 : Int32)) = (5 : Int32) then (f_L_law_p267 xs Ln (f_L_law_p18 xs Ln n)) x3 σ else (if ((xs (x3).toNatClampNeg) &&& (31 : Int32)) = (6 : Int32) then (f_L_law_p300 xs Ln (f_L_law_p18 xs Ln n)) x3 σ else (if ((xs (x3).toNatClampNeg) &&& (31 : Int32)) = (7 : Int32) then (f_L_law_p323 xs Ln (f_L_law_p18 xs Ln n)) x3 σ else (if ((xs (x3).toNatClampNeg) &&& (31 : Int32)) = (8 : Int32) then (f_L_law_p356 xs Ln (f_L_law_p18 xs Ln n)) x3 σ else (if ((xs (x3).toNatClampNeg) &&& (31 : Int32)) = (9 : Int32) then (f_L_law_p389 xs Ln (f_L_law_p18 xs Ln n)) x3 σ else (if ((xs (x3).toNatClampNeg) &&& (31 : Int32)) = (10 : Int32) then (f_L_law_p412 xs Ln (f_L_law_p18 xs Ln n)) x3 σ else (if ((xs (x3).toNatClampNeg) &&& (31 : Int32)) = (11 : Int32) then (f_L_law_p445 xs Ln (f_L_law_p18 xs Ln n)) x3 σ else (if ((xs (x3).toNatClampNeg) &&& (31 : Int32)) = (12 : Int32) then (f_L_law_p458 xs Ln (f_L_law_p18 xs Ln n)) x3 σ else (if ((xs (x3).toNatClampNeg) &&& (31 : Int32)) = (13 : Int32) then (f_L_law_p481 xs Ln (f_L_law_p18 xs Ln n)) x3 σ else (if ((xs (x3).toNatClampNeg) &&& (31 : Int32)) = (14 : Int32) then (f_L_law_p504 xs Ln (f_L_law_p18 xs Ln n)) x3 σ else (if ((xs (x3).toNatClampNeg) &&& (31 : Int32)) = (15 : Int32) then (f_L_law_p517 xs Ln (f_L_law_p18 xs Ln n)) x3 σ else (if ((xs (x3).toNatClampNeg) &&& (31 : Int32)) = (16 : Int32) then (f_L_law_p540 xs Ln (f_L_law_p18 xs Ln n)) x3 σ else (if ((xs (x3).toNatClampNeg) &&& (31 : Int32)) = (17 : Int32) then (f_L_law_p553 xs Ln (f_L_law_p18 xs Ln n)) x3 σ else (if ((xs (x3).toNatClampNeg) &&& (31 : Int32)) = (18 : Int32) then (f_L_law_p586 xs Ln (f_L_law_p18 xs Ln n)) x3 σ else (if ((xs (x3).toNatClampNeg) &&& (31 : Int32)) = (19 : Int32) then (f_L_law_p599 xs Ln (f_L_law_p18 xs Ln n)) x3 σ else (if ((xs (x3).toNatClampNeg) &&& (31 : Int32)) = (20 : Int32) then (f_L_law_p662 xs Ln (f_L_law_p18 xs Ln n)) x3 σ else (if ((xs (x3).toNatClampNeg) &&& (31 : Int32)) = (21 : Int32) then (f_L_law_p695 xs Ln (f_L_law_p18 xs Ln n)) x3 σ else (if ((xs (x3).toNatClampNeg) &&& (31 : Int32)) = (22 : Int32) then (f_L_law_p708 xs Ln (f_L_law_p18 xs Ln n)) x3 σ else (if ((xs (x3).toNatClampNeg) &&& (31 : Int32)) = (23 : Int32) then (f_L_law_p731 xs Ln (f_L_law_p18 xs Ln n)) x3 σ else (if ((xs (x3).toNatClampNeg) &&& (31 : Int32)) = (24 : Int32) then (f_L_law_p780 xs Ln (f_L_law_p18 xs Ln n)) x3 σ else (if ((xs (x3).toNatClampNeg) &&& (31 : Int32)) = (25 : Int32) then (f_L_law_p793 xs Ln (f_L_law_p18 xs Ln n)) x3 σ else (if ((xs (x3).toNatClampNeg) &&& (31 : Int32)) = (26 : Int32) then (f_L_law_p836 xs Ln (f_L_law_p18 xs Ln n)) x3 σ else (if ((xs (x3).toNatClampNeg) &&& (31 : Int32)) = (27 : Int32) then (f_L_law_p890 xs Ln (f_L_law_p18 xs Ln n)) x3 σ else (if ((xs (x3).toNatClampNeg) &&& (31 : Int32)) = (28 : Int32) then (f_L_law_p913 xs Ln (f_L_law_p18 xs Ln n)) x3 σ else (if ((xs (x3).toNatClampNeg) &&& (31 : Int32)) = (29 : Int32) then (f_L_law_p936 xs Ln (f_L_law_p18 xs Ln n)) x3 σ else (if ((xs (x3).toNatClampNeg) &&& (31 : Int32)) = (30 : Int32) then (f_L_law_p959 xs Ln (f_L_law_p18 xs Ln n)) x3 σ else (f_L_law_p18 xs Ln n) (x3 + (4 : Int32)) σ)))))))))))))))))))))))))))))))))
set_option maxRecDepth 20000 in
theorem a_L_law_p172 {l : Launch} {G : Gg} {b Ln : Nat} {xs : Nat → Int32} (hG : GOK G) (h9 : G.2.1 999 = b) {kh : Int32 → Mm → Option (Unit)} (hkh : ∀ (x3 : Int32) (σ : Mm), kh x3 σ = some () → LW l G b Ln xs 18 [(0, .ref 999), (1, .ref 0), (2, .ref 46), (3, .int x3)] [] σ) (x3 : Int32) (σ : Mm) (h : f_L_law_p172 xs Ln kh x3 σ = some ()) : LW l G b Ln xs 172 [(0, .ref 999), (1, .ref 0), (2, .ref 46), (3, .int x3)] [] σ := by
  unfold f_L_law_p172 at h
  refine AW.aload_n dL_law_172 (.refl 173) 1 rfl ?_
  refine AW.aload_n dL_law_173 (.refl 174) 0 rfl ?_
  refine AW.iload_n dL_law_174 (.refl 175) 3 rfl ?_
  refine AW.iconst (v := (1 : Int32)) dL_law_175 (.refl 176) (by decide) ?_
  refine AW.iadd dL_law_176 (.refl 177) ?_
  obtain ⟨g1, h⟩ := gd_s h
  refine LW.sld h9 g1 dL_law_177 (.refl 178) ?_
  obtain ⟨r3, τ4, e2, h⟩ := b2_s h
  refine LW.callV (r' := (some (.int r3))) (σ' := τ4) (rest := []) hG lm_L_13 (c_X9_write e2) (by decide) (by decide) rfl rfl (by decide) rfl rfl (Nat.le_of_ble_eq_true rfl) dL_law_178 (.refl 181) (st' := [.int r3]) rfl ?_
  refine AW.aload_n dL_law_181 (.refl 182) 2 rfl ?_
  refine AW.aload_n dL_law_182 (.refl 183) 0 rfl ?_
  refine AW.iload_n dL_law_183 (.refl 184) 3 rfl ?_
  refine AW.iconst (v := (1 : Int32)) dL_law_184 (.refl 185) (by decide) ?_
  refine AW.iadd dL_law_185 (.refl 186) ?_
  obtain ⟨g5, h⟩ := gd_s h
  refine LW.sld h9 g5 dL_law_186 (.refl 187) ?_
  obtain ⟨r7, τ8, e6, h⟩ := b2_s h
  refine LW.callV (r' := (some (.int r7))) (σ' := τ8) (rest := [.int r3]) hG lm_L_17 (c_X10_write e6) (by decide) (by decide) rfl rfl (by decide) rfl rfl (Nat.le_of_ble_eq_true rfl) dL_law_187 (.refl 190) (st' := [.int r7, .int r3]) rfl ?_
  refine AW.icmp_eq (tgt := 982) dL_law_190 (by decide) (fun c9 => ?_) (fun c9 => ?_)
  · have h := ifp c9 h
    refine AW.iinc (v := (x3 + (4 : Int32))) (L' := [(3, .int (x3 + (4 : Int32))), (0, .ref 999), (1, .ref 0), (2, .ref 46)]) dL_law_982 (.refl 985) 3 rfl rfl (by decide) rfl ?_
    refine AW.goto (tgt := 18) dL_law_985 (by decide) ?_
    refine AW.sub (L' := [(0, .ref 999), (1, .ref 0), (2, .ref 46), (3, .int (x3 + (4 : Int32)))]) [1, 2, 3, 0] rfl ?_
    exact hkh (x3 + (4 : Int32)) τ8 h
  · have h := ifn c9 h
    refine AW.iconst (v := (0 : Int32)) dL_law_193 (.refl 194) (by decide) ?_
    exact no_some h
set_option maxRecDepth 20000 in
theorem a_L_law_p195 {l : Launch} {G : Gg} {b Ln : Nat} {xs : Nat → Int32} (hG : GOK G) (h9 : G.2.1 999 = b) {kh : Int32 → Mm → Option (Unit)} (hkh : ∀ (x3 : Int32) (σ : Mm), kh x3 σ = some () → LW l G b Ln xs 18 [(0, .ref 999), (1, .ref 0), (2, .ref 46), (3, .int x3)] [] σ) (x3 : Int32) (σ : Mm) (h : f_L_law_p195 xs Ln kh x3 σ = some ()) : LW l G b Ln xs 195 [(0, .ref 999), (1, .ref 0), (2, .ref 46), (3, .int x3)] [] σ := by
  unfold f_L_law_p195 at h
  refine AW.aload_n dL_law_195 (.refl 196) 1 rfl ?_
  obtain ⟨r2, τ3, e1, h⟩ := b2_s h
  refine LW.callV (r' := (some (.int r2))) (σ' := τ3) (rest := []) hG lm_L_18 (c_X9_wipe e1) (by decide) (by decide) rfl rfl (by decide) rfl rfl (Nat.le_of_ble_eq_true rfl) dL_law_196 (.refl 199) (st' := [.int r2]) rfl ?_
  refine AW.aload_n dL_law_199 (.refl 200) 2 rfl ?_
  obtain ⟨r5, τ6, e4, h⟩ := b2_s h
  refine LW.callV (r' := (some (.int r5))) (σ' := τ6) (rest := [.int r2]) hG lm_L_22 (c_X10_wipe e4) (by decide) (by decide) rfl rfl (by decide) rfl rfl (Nat.le_of_ble_eq_true rfl) dL_law_200 (.refl 203) (st' := [.int r5, .int r2]) rfl ?_
  refine AW.icmp_eq (tgt := 982) dL_law_203 (by decide) (fun c7 => ?_) (fun c7 => ?_)
  · have h := ifp c7 h
    refine AW.iinc (v := (x3 + (4 : Int32))) (L' := [(3, .int (x3 + (4 : Int32))), (0, .ref 999), (1, .ref 0), (2, .ref 46)]) dL_law_982 (.refl 985) 3 rfl rfl (by decide) rfl ?_
    refine AW.goto (tgt := 18) dL_law_985 (by decide) ?_
    refine AW.sub (L' := [(0, .ref 999), (1, .ref 0), (2, .ref 46), (3, .int (x3 + (4 : Int32)))]) [1, 2, 3, 0] rfl ?_
    exact hkh (x3 + (4 : Int32)) τ6 h
  · have h := ifn c7 h
    refine AW.iconst (v := (0 : Int32)) dL_law_206 (.refl 207) (by decide) ?_
    exact no_some h
set_option maxRecDepth 20000 in
theorem a_L_law_p208 {l : Launch} {G : Gg} {b Ln : Nat} {xs : Nat → Int32} (hG : GOK G) (h9 : G.2.1 999 = b) {kh : Int32 → Mm → Option (Unit)} (hkh : ∀ (x3 : Int32) (σ : Mm), kh x3 σ = some () → LW l G b Ln xs 18 [(0, .ref 999), (1, .ref 0), (2, .ref 46), (3, .int x3)] [] σ) (x3 : Int32) (σ : Mm) (h : f_L_law_p208 xs Ln kh x3 σ = some ()) : LW l G b Ln xs 208 [(0, .ref 999), (1, .ref 0), (2, .ref 46), (3, .int x3)] [] σ := by
  unfold f_L_law_p208 at h
  refine AW.aload_n dL_law_208 (.refl 209) 1 rfl ?_
  obtain ⟨r2, e1, h⟩ := b1_s h
  refine LW.callV (r' := (some (.int r2))) (σ' := σ) (rest := []) hG lm_L_23 (c_X9_fault e1) (by decide) (by decide) rfl rfl (by decide) rfl rfl (Nat.le_of_ble_eq_true rfl) dL_law_209 (.refl 212) (st' := [.int r2]) rfl ?_
  refine AW.aload_n dL_law_212 (.refl 213) 2 rfl ?_
  obtain ⟨r4, τ5, e3, h⟩ := b2_s h
  refine LW.callV (r' := (some (.int r4))) (σ' := τ5) (rest := [.int r2]) hG lm_L_26 (c_X10_fault e3) (by decide) (by decide) rfl rfl (by decide) rfl rfl (Nat.le_of_ble_eq_true rfl) dL_law_213 (.refl 216) (st' := [.int r4, .int r2]) rfl ?_
  refine AW.icmp_eq (tgt := 982) dL_law_216 (by decide) (fun c6 => ?_) (fun c6 => ?_)
  · have h := ifp c6 h
    refine AW.iinc (v := (x3 + (4 : Int32))) (L' := [(3, .int (x3 + (4 : Int32))), (0, .ref 999), (1, .ref 0), (2, .ref 46)]) dL_law_982 (.refl 985) 3 rfl rfl (by decide) rfl ?_
    refine AW.goto (tgt := 18) dL_law_985 (by decide) ?_
    refine AW.sub (L' := [(0, .ref 999), (1, .ref 0), (2, .ref 46), (3, .int (x3 + (4 : Int32)))]) [1, 2, 3, 0] rfl ?_
    exact hkh (x3 + (4 : Int32)) τ5 h
  · have h := ifn c6 h
    refine AW.iconst (v := (0 : Int32)) dL_law_219 (.refl 220) (by decide) ?_
    exact no_some h
set_option maxRecDepth 20000 in
theorem a_L_law_p221 {l : Launch} {G : Gg} {b Ln : Nat} {xs : Nat → Int32} (hG : GOK G) (h9 : G.2.1 999 = b) {kh : Int32 → Mm → Option (Unit)} (hkh : ∀ (x3 : Int32) (σ : Mm), kh x3 σ = some () → LW l G b Ln xs 18 [(0, .ref 999), (1, .ref 0), (2, .ref 46), (3, .int x3)] [] σ) (x3 : Int32) (σ : Mm) (h : f_L_law_p221 xs Ln kh x3 σ = some ()) : LW l G b Ln xs 221 [(0, .ref 999), (1, .ref 0), (2, .ref 46), (3, .int x3)] [] σ := by
  unfold f_L_law_p221 at h
  refine AW.aload_n dL_law_221 (.refl 222) 1 rfl ?_
  obtain ⟨r2, τ3, e1, h⟩ := b2_s h
  refine LW.callV (r' := (some (.int r2))) (σ' := τ3) (rest := []) hG lm_L_27 (c_X9_tower e1) (by decide) (by decide) rfl rfl (by decide) rfl rfl (Nat.le_of_ble_eq_true rfl) dL_law_222 (.refl 225) (st' := [.int r2]) rfl ?_
  refine AW.aload_n dL_law_225 (.refl 226) 2 rfl ?_
  obtain ⟨r5, τ6, e4, h⟩ := b2_s h
  refine LW.callV (r' := (some (.int r5))) (σ' := τ6) (rest := [.int r2]) hG lm_L_30 (c_X10_tower e4) (by decide) (by decide) rfl rfl (by decide) rfl rfl (Nat.le_of_ble_eq_true rfl) dL_law_226 (.refl 229) (st' := [.int r5, .int r2]) rfl ?_
  refine AW.icmp_eq (tgt := 982) dL_law_229 (by decide) (fun c7 => ?_) (fun c7 => ?_)
  · have h := ifp c7 h
    refine AW.iinc (v := (x3 + (4 : Int32))) (L' := [(3, .int (x3 + (4 : Int32))), (0, .ref 999), (1, .ref 0), (2, .ref 46)]) dL_law_982 (.refl 985) 3 rfl rfl (by decide) rfl ?_
    refine AW.goto (tgt := 18) dL_law_985 (by decide) ?_
    refine AW.sub (L' := [(0, .ref 999), (1, .ref 0), (2, .ref 46), (3, .int (x3 + (4 : Int32)))]) [1, 2, 3, 0] rfl ?_
    exact hkh (x3 + (4 : Int32)) τ6 h
  · have h := ifn c7 h
    refine AW.iconst (v := (0 : Int32)) dL_law_232 (.refl 233) (by decide) ?_
    exact no_some h
set_option maxRecDepth 20000 in
theorem a_L_law_p234 {l : Launch} {G : Gg} {b Ln : Nat} {xs : Nat → Int32} (hG : GOK G) (h9 : G.2.1 999 = b) {kh : Int32 → Mm → Option (Unit)} (hkh : ∀ (x3 : Int32) (σ : Mm), kh x3 σ = some () → LW l G b Ln xs 18 [(0, .ref 999), (1, .ref 0), (2, .ref 46), (3, .int x3)] [] σ) (x3 : Int32) (σ : Mm) (h : f_L_law_p234 xs Ln kh x3 σ = some ()) : LW l G b Ln xs 234 [(0, .ref 999), (1, .ref 0), (2, .ref 46), (3, .int x3)] [] σ := by
  unfold f_L_law_p234 at h
  refine AW.aload_n dL_law_234 (.refl 235) 1 rfl ?_
  refine AW.aload_n dL_law_235 (.refl 236) 0 rfl ?_
  refine AW.iload_n dL_law_236 (.refl 237) 3 rfl ?_
  refine AW.iconst (v := (1 : Int32)) dL_law_237 (.refl 238) (by decide) ?_
  refine AW.iadd dL_law_238 (.refl 239) ?_
  obtain ⟨g1, h⟩ := gd_s h
  refine LW.sld h9 g1 dL_law_239 (.refl 240) ?_
  refine AW.aload_n dL_law_240 (.refl 241) 0 rfl ?_
  refine AW.iload_n dL_law_241 (.refl 242) 3 rfl ?_
  refine AW.iconst (v := (2 : Int32)) dL_law_242 (.refl 243) (by decide) ?_
  refine AW.iadd dL_law_243 (.refl 244) ?_
  obtain ⟨g2, h⟩ := gd_s h
  refine LW.sld h9 g2 dL_law_244 (.refl 245) ?_
  obtain ⟨r4, e3, h⟩ := b1_s h
  refine LW.callV (r' := (some (.int r4))) (σ' := σ) (rest := []) hG lm_L_31 (c_X9_bell e3) (by decide) (by decide) rfl rfl (by decide) rfl rfl (Nat.le_of_ble_eq_true rfl) dL_law_245 (.refl 248) (st' := [.int r4]) rfl ?_
  refine AW.aload_n dL_law_248 (.refl 249) 2 rfl ?_
  refine AW.aload_n dL_law_249 (.refl 250) 0 rfl ?_
  refine AW.iload_n dL_law_250 (.refl 251) 3 rfl ?_
  refine AW.iconst (v := (1 : Int32)) dL_law_251 (.refl 252) (by decide) ?_
  refine AW.iadd dL_law_252 (.refl 253) ?_
  obtain ⟨g5, h⟩ := gd_s h
  refine LW.sld h9 g5 dL_law_253 (.refl 254) ?_
  refine AW.aload_n dL_law_254 (.refl 255) 0 rfl ?_
  refine AW.iload_n dL_law_255 (.refl 256) 3 rfl ?_
  refine AW.iconst (v := (2 : Int32)) dL_law_256 (.refl 257) (by decide) ?_
  refine AW.iadd dL_law_257 (.refl 258) ?_
  obtain ⟨g6, h⟩ := gd_s h
  refine LW.sld h9 g6 dL_law_258 (.refl 259) ?_
  obtain ⟨r8, e7, h⟩ := b1_s h
  refine LW.callV (r' := (some (.int r8))) (σ' := σ) (rest := [.int r4]) hG lm_L_35 (c_X10_bell e7) (by decide) (by decide) rfl rfl (by decide) rfl rfl (Nat.le_of_ble_eq_true rfl) dL_law_259 (.refl 262) (st' := [.int r8, .int r4]) rfl ?_
  refine AW.icmp_eq (tgt := 982) dL_law_262 (by decide) (fun c9 => ?_) (fun c9 => ?_)
  · have h := ifp c9 h
    refine AW.iinc (v := (x3 + (4 : Int32))) (L' := [(3, .int (x3 + (4 : Int32))), (0, .ref 999), (1, .ref 0), (2, .ref 46)]) dL_law_982 (.refl 985) 3 rfl rfl (by decide) rfl ?_
    refine AW.goto (tgt := 18) dL_law_985 (by decide) ?_
    refine AW.sub (L' := [(0, .ref 999), (1, .ref 0), (2, .ref 46), (3, .int (x3 + (4 : Int32)))]) [1, 2, 3, 0] rfl ?_
    exact hkh (x3 + (4 : Int32)) σ h
  · have h := ifn c9 h
    refine AW.iconst (v := (0 : Int32)) dL_law_265 (.refl 266) (by decide) ?_
    exact no_some h
set_option maxRecDepth 20000 in
theorem a_L_law_p267 {l : Launch} {G : Gg} {b Ln : Nat} {xs : Nat → Int32} (hG : GOK G) (h9 : G.2.1 999 = b) {kh : Int32 → Mm → Option (Unit)} (hkh : ∀ (x3 : Int32) (σ : Mm), kh x3 σ = some () → LW l G b Ln xs 18 [(0, .ref 999), (1, .ref 0), (2, .ref 46), (3, .int x3)] [] σ) (x3 : Int32) (σ : Mm) (h : f_L_law_p267 xs Ln kh x3 σ = some ()) : LW l G b Ln xs 267 [(0, .ref 999), (1, .ref 0), (2, .ref 46), (3, .int x3)] [] σ := by
  unfold f_L_law_p267 at h
  refine AW.aload_n dL_law_267 (.refl 268) 1 rfl ?_
  refine AW.aload_n dL_law_268 (.refl 269) 0 rfl ?_
  refine AW.iload_n dL_law_269 (.refl 270) 3 rfl ?_
  refine AW.iconst (v := (1 : Int32)) dL_law_270 (.refl 271) (by decide) ?_
  refine AW.iadd dL_law_271 (.refl 272) ?_
  obtain ⟨g1, h⟩ := gd_s h
  refine LW.sld h9 g1 dL_law_272 (.refl 273) ?_
  refine AW.aload_n dL_law_273 (.refl 274) 0 rfl ?_
  refine AW.iload_n dL_law_274 (.refl 275) 3 rfl ?_
  refine AW.iconst (v := (2 : Int32)) dL_law_275 (.refl 276) (by decide) ?_
  refine AW.iadd dL_law_276 (.refl 277) ?_
  obtain ⟨g2, h⟩ := gd_s h
  refine LW.sld h9 g2 dL_law_277 (.refl 278) ?_
  obtain ⟨r4, e3, h⟩ := b1_s h
  refine LW.callV (r' := (some (.int r4))) (σ' := σ) (rest := []) hG lm_L_36 (c_X9_bidder e3) (by decide) (by decide) rfl rfl (by decide) rfl rfl (Nat.le_of_ble_eq_true rfl) dL_law_278 (.refl 281) (st' := [.int r4]) rfl ?_
  refine AW.aload_n dL_law_281 (.refl 282) 2 rfl ?_
  refine AW.aload_n dL_law_282 (.refl 283) 0 rfl ?_
  refine AW.iload_n dL_law_283 (.refl 284) 3 rfl ?_
  refine AW.iconst (v := (1 : Int32)) dL_law_284 (.refl 285) (by decide) ?_
  refine AW.iadd dL_law_285 (.refl 286) ?_
  obtain ⟨g5, h⟩ := gd_s h
  refine LW.sld h9 g5 dL_law_286 (.refl 287) ?_
  refine AW.aload_n dL_law_287 (.refl 288) 0 rfl ?_
  refine AW.iload_n dL_law_288 (.refl 289) 3 rfl ?_
  refine AW.iconst (v := (2 : Int32)) dL_law_289 (.refl 290) (by decide) ?_
  refine AW.iadd dL_law_290 (.refl 291) ?_
  obtain ⟨g6, h⟩ := gd_s h
  refine LW.sld h9 g6 dL_law_291 (.refl 292) ?_
  obtain ⟨r8, e7, h⟩ := b1_s h
  refine LW.callV (r' := (some (.int r8))) (σ' := σ) (rest := [.int r4]) hG lm_L_39 (c_X10_bidder e7) (by decide) (by decide) rfl rfl (by decide) rfl rfl (Nat.le_of_ble_eq_true rfl) dL_law_292 (.refl 295) (st' := [.int r8, .int r4]) rfl ?_
  refine AW.icmp_eq (tgt := 982) dL_law_295 (by decide) (fun c9 => ?_) (fun c9 => ?_)
  · have h := ifp c9 h
    refine AW.iinc (v := (x3 + (4 : Int32))) (L' := [(3, .int (x3 + (4 : Int32))), (0, .ref 999), (1, .ref 0), (2, .ref 46)]) dL_law_982 (.refl 985) 3 rfl rfl (by decide) rfl ?_
    refine AW.goto (tgt := 18) dL_law_985 (by decide) ?_
    refine AW.sub (L' := [(0, .ref 999), (1, .ref 0), (2, .ref 46), (3, .int (x3 + (4 : Int32)))]) [1, 2, 3, 0] rfl ?_
    exact hkh (x3 + (4 : Int32)) σ h
  · have h := ifn c9 h
    refine AW.iconst (v := (0 : Int32)) dL_law_298 (.refl 299) (by decide) ?_
    exact no_some h
set_option maxRecDepth 20000 in
theorem a_L_law_p300 {l : Launch} {G : Gg} {b Ln : Nat} {xs : Nat → Int32} (hG : GOK G) (h9 : G.2.1 999 = b) {kh : Int32 → Mm → Option (Unit)} (hkh : ∀ (x3 : Int32) (σ : Mm), kh x3 σ = some () → LW l G b Ln xs 18 [(0, .ref 999), (1, .ref 0), (2, .ref 46), (3, .int x3)] [] σ) (x3 : Int32) (σ : Mm) (h : f_L_law_p300 xs Ln kh x3 σ = some ()) : LW l G b Ln xs 300 [(0, .ref 999), (1, .ref 0), (2, .ref 46), (3, .int x3)] [] σ := by
  unfold f_L_law_p300 at h
  refine AW.aload_n dL_law_300 (.refl 301) 1 rfl ?_
  refine AW.aload_n dL_law_301 (.refl 302) 0 rfl ?_
  refine AW.iload_n dL_law_302 (.refl 303) 3 rfl ?_
  refine AW.iconst (v := (1 : Int32)) dL_law_303 (.refl 304) (by decide) ?_
  refine AW.iadd dL_law_304 (.refl 305) ?_
  obtain ⟨g1, h⟩ := gd_s h
  refine LW.sld h9 g1 dL_law_305 (.refl 306) ?_
  obtain ⟨r3, e2, h⟩ := b1_s h
  refine LW.callV (r' := (some (.int r3))) (σ' := σ) (rest := []) hG lm_L_40 (c_X9_rings e2) (by decide) (by decide) rfl rfl (by decide) rfl rfl (Nat.le_of_ble_eq_true rfl) dL_law_306 (.refl 309) (st' := [.int r3]) rfl ?_
  refine AW.aload_n dL_law_309 (.refl 310) 2 rfl ?_
  refine AW.aload_n dL_law_310 (.refl 311) 0 rfl ?_
  refine AW.iload_n dL_law_311 (.refl 312) 3 rfl ?_
  refine AW.iconst (v := (1 : Int32)) dL_law_312 (.refl 313) (by decide) ?_
  refine AW.iadd dL_law_313 (.refl 314) ?_
  obtain ⟨g4, h⟩ := gd_s h
  refine LW.sld h9 g4 dL_law_314 (.refl 315) ?_
  obtain ⟨r6, e5, h⟩ := b1_s h
  refine LW.callV (r' := (some (.int r6))) (σ' := σ) (rest := [.int r3]) hG lm_L_43 (c_X10_rings e5) (by decide) (by decide) rfl rfl (by decide) rfl rfl (Nat.le_of_ble_eq_true rfl) dL_law_315 (.refl 318) (st' := [.int r6, .int r3]) rfl ?_
  refine AW.icmp_eq (tgt := 982) dL_law_318 (by decide) (fun c7 => ?_) (fun c7 => ?_)
  · have h := ifp c7 h
    refine AW.iinc (v := (x3 + (4 : Int32))) (L' := [(3, .int (x3 + (4 : Int32))), (0, .ref 999), (1, .ref 0), (2, .ref 46)]) dL_law_982 (.refl 985) 3 rfl rfl (by decide) rfl ?_
    refine AW.goto (tgt := 18) dL_law_985 (by decide) ?_
    refine AW.sub (L' := [(0, .ref 999), (1, .ref 0), (2, .ref 46), (3, .int (x3 + (4 : Int32)))]) [1, 2, 3, 0] rfl ?_
    exact hkh (x3 + (4 : Int32)) σ h
  · have h := ifn c7 h
    refine AW.iconst (v := (0 : Int32)) dL_law_321 (.refl 322) (by decide) ?_
    exact no_some h
set_option maxRecDepth 20000 in
theorem a_L_law_p323 {l : Launch} {G : Gg} {b Ln : Nat} {xs : Nat → Int32} (hG : GOK G) (h9 : G.2.1 999 = b) {kh : Int32 → Mm → Option (Unit)} (hkh : ∀ (x3 : Int32) (σ : Mm), kh x3 σ = some () → LW l G b Ln xs 18 [(0, .ref 999), (1, .ref 0), (2, .ref 46), (3, .int x3)] [] σ) (x3 : Int32) (σ : Mm) (h : f_L_law_p323 xs Ln kh x3 σ = some ()) : LW l G b Ln xs 323 [(0, .ref 999), (1, .ref 0), (2, .ref 46), (3, .int x3)] [] σ := by
  unfold f_L_law_p323 at h
  refine AW.aload_n dL_law_323 (.refl 324) 1 rfl ?_
  refine AW.aload_n dL_law_324 (.refl 325) 0 rfl ?_
  refine AW.iload_n dL_law_325 (.refl 326) 3 rfl ?_
  refine AW.iconst (v := (1 : Int32)) dL_law_326 (.refl 327) (by decide) ?_
  refine AW.iadd dL_law_327 (.refl 328) ?_
  obtain ⟨g1, h⟩ := gd_s h
  refine LW.sld h9 g1 dL_law_328 (.refl 329) ?_
  refine AW.aload_n dL_law_329 (.refl 330) 0 rfl ?_
  refine AW.iload_n dL_law_330 (.refl 331) 3 rfl ?_
  refine AW.iconst (v := (2 : Int32)) dL_law_331 (.refl 332) (by decide) ?_
  refine AW.iadd dL_law_332 (.refl 333) ?_
  obtain ⟨g2, h⟩ := gd_s h
  refine LW.sld h9 g2 dL_law_333 (.refl 334) ?_
  obtain ⟨r4, e3, h⟩ := b1_s h
  refine LW.callV (r' := (some (.int r4))) (σ' := σ) (rest := []) hG lm_L_44 (c_X9_clashes e3) (by decide) (by decide) rfl rfl (by decide) rfl rfl (Nat.le_of_ble_eq_true rfl) dL_law_334 (.refl 337) (st' := [.int r4]) rfl ?_
  refine AW.aload_n dL_law_337 (.refl 338) 2 rfl ?_
  refine AW.aload_n dL_law_338 (.refl 339) 0 rfl ?_
  refine AW.iload_n dL_law_339 (.refl 340) 3 rfl ?_
  refine AW.iconst (v := (1 : Int32)) dL_law_340 (.refl 341) (by decide) ?_
  refine AW.iadd dL_law_341 (.refl 342) ?_
  obtain ⟨g5, h⟩ := gd_s h
  refine LW.sld h9 g5 dL_law_342 (.refl 343) ?_
  refine AW.aload_n dL_law_343 (.refl 344) 0 rfl ?_
  refine AW.iload_n dL_law_344 (.refl 345) 3 rfl ?_
  refine AW.iconst (v := (2 : Int32)) dL_law_345 (.refl 346) (by decide) ?_
  refine AW.iadd dL_law_346 (.refl 347) ?_
  obtain ⟨g6, h⟩ := gd_s h
  refine LW.sld h9 g6 dL_law_347 (.refl 348) ?_
  obtain ⟨r8, e7, h⟩ := b1_s h
  refine LW.callV (r' := (some (.int r8))) (σ' := σ) (rest := [.int r4]) hG lm_L_47 (c_X10_clashes e7) (by decide) (by decide) rfl rfl (by decide) rfl rfl (Nat.le_of_ble_eq_true rfl) dL_law_348 (.refl 351) (st' := [.int r8, .int r4]) rfl ?_
  refine AW.icmp_eq (tgt := 982) dL_law_351 (by decide) (fun c9 => ?_) (fun c9 => ?_)
  · have h := ifp c9 h
    refine AW.iinc (v := (x3 + (4 : Int32))) (L' := [(3, .int (x3 + (4 : Int32))), (0, .ref 999), (1, .ref 0), (2, .ref 46)]) dL_law_982 (.refl 985) 3 rfl rfl (by decide) rfl ?_
    refine AW.goto (tgt := 18) dL_law_985 (by decide) ?_
    refine AW.sub (L' := [(0, .ref 999), (1, .ref 0), (2, .ref 46), (3, .int (x3 + (4 : Int32)))]) [1, 2, 3, 0] rfl ?_
    exact hkh (x3 + (4 : Int32)) σ h
  · have h := ifn c9 h
    refine AW.iconst (v := (0 : Int32)) dL_law_354 (.refl 355) (by decide) ?_
    exact no_some h
set_option maxRecDepth 20000 in
theorem a_L_law_p356 {l : Launch} {G : Gg} {b Ln : Nat} {xs : Nat → Int32} (hG : GOK G) (h9 : G.2.1 999 = b) {kh : Int32 → Mm → Option (Unit)} (hkh : ∀ (x3 : Int32) (σ : Mm), kh x3 σ = some () → LW l G b Ln xs 18 [(0, .ref 999), (1, .ref 0), (2, .ref 46), (3, .int x3)] [] σ) (x3 : Int32) (σ : Mm) (h : f_L_law_p356 xs Ln kh x3 σ = some ()) : LW l G b Ln xs 356 [(0, .ref 999), (1, .ref 0), (2, .ref 46), (3, .int x3)] [] σ := by
  unfold f_L_law_p356 at h
  refine AW.aload_n dL_law_356 (.refl 357) 1 rfl ?_
  refine AW.aload_n dL_law_357 (.refl 358) 0 rfl ?_
  refine AW.iload_n dL_law_358 (.refl 359) 3 rfl ?_
  refine AW.iconst (v := (1 : Int32)) dL_law_359 (.refl 360) (by decide) ?_
  refine AW.iadd dL_law_360 (.refl 361) ?_
  obtain ⟨g1, h⟩ := gd_s h
  refine LW.sld h9 g1 dL_law_361 (.refl 362) ?_
  refine AW.aload_n dL_law_362 (.refl 363) 0 rfl ?_
  refine AW.iload_n dL_law_363 (.refl 364) 3 rfl ?_
  refine AW.iconst (v := (2 : Int32)) dL_law_364 (.refl 365) (by decide) ?_
  refine AW.iadd dL_law_365 (.refl 366) ?_
  obtain ⟨g2, h⟩ := gd_s h
  refine LW.sld h9 g2 dL_law_366 (.refl 367) ?_
  obtain ⟨r4, τ5, e3, h⟩ := b2_s h
  refine LW.callV (r' := (some (.int r4))) (σ' := τ5) (rest := []) hG lm_L_48 (c_X9_let e3) (by decide) (by decide) rfl rfl (by decide) rfl rfl (Nat.le_of_ble_eq_true rfl) dL_law_367 (.refl 370) (st' := [.int r4]) rfl ?_
  refine AW.aload_n dL_law_370 (.refl 371) 2 rfl ?_
  refine AW.aload_n dL_law_371 (.refl 372) 0 rfl ?_
  refine AW.iload_n dL_law_372 (.refl 373) 3 rfl ?_
  refine AW.iconst (v := (1 : Int32)) dL_law_373 (.refl 374) (by decide) ?_
  refine AW.iadd dL_law_374 (.refl 375) ?_
  obtain ⟨g6, h⟩ := gd_s h
  refine LW.sld h9 g6 dL_law_375 (.refl 376) ?_
  refine AW.aload_n dL_law_376 (.refl 377) 0 rfl ?_
  refine AW.iload_n dL_law_377 (.refl 378) 3 rfl ?_
  refine AW.iconst (v := (2 : Int32)) dL_law_378 (.refl 379) (by decide) ?_
  refine AW.iadd dL_law_379 (.refl 380) ?_
  obtain ⟨g7, h⟩ := gd_s h
  refine LW.sld h9 g7 dL_law_380 (.refl 381) ?_
  obtain ⟨r9, τ10, e8, h⟩ := b2_s h
  refine LW.callV (r' := (some (.int r9))) (σ' := τ10) (rest := [.int r4]) hG lm_L_51 (c_X10_let e8) (by decide) (by decide) rfl rfl (by decide) rfl rfl (Nat.le_of_ble_eq_true rfl) dL_law_381 (.refl 384) (st' := [.int r9, .int r4]) rfl ?_
  refine AW.icmp_eq (tgt := 982) dL_law_384 (by decide) (fun c11 => ?_) (fun c11 => ?_)
  · have h := ifp c11 h
    refine AW.iinc (v := (x3 + (4 : Int32))) (L' := [(3, .int (x3 + (4 : Int32))), (0, .ref 999), (1, .ref 0), (2, .ref 46)]) dL_law_982 (.refl 985) 3 rfl rfl (by decide) rfl ?_
    refine AW.goto (tgt := 18) dL_law_985 (by decide) ?_
    refine AW.sub (L' := [(0, .ref 999), (1, .ref 0), (2, .ref 46), (3, .int (x3 + (4 : Int32)))]) [1, 2, 3, 0] rfl ?_
    exact hkh (x3 + (4 : Int32)) τ10 h
  · have h := ifn c11 h
    refine AW.iconst (v := (0 : Int32)) dL_law_387 (.refl 388) (by decide) ?_
    exact no_some h
set_option maxRecDepth 20000 in
theorem a_L_law_p389 {l : Launch} {G : Gg} {b Ln : Nat} {xs : Nat → Int32} (hG : GOK G) (h9 : G.2.1 999 = b) {kh : Int32 → Mm → Option (Unit)} (hkh : ∀ (x3 : Int32) (σ : Mm), kh x3 σ = some () → LW l G b Ln xs 18 [(0, .ref 999), (1, .ref 0), (2, .ref 46), (3, .int x3)] [] σ) (x3 : Int32) (σ : Mm) (h : f_L_law_p389 xs Ln kh x3 σ = some ()) : LW l G b Ln xs 389 [(0, .ref 999), (1, .ref 0), (2, .ref 46), (3, .int x3)] [] σ := by
  unfold f_L_law_p389 at h
  refine AW.aload_n dL_law_389 (.refl 390) 1 rfl ?_
  refine AW.aload_n dL_law_390 (.refl 391) 0 rfl ?_
  refine AW.iload_n dL_law_391 (.refl 392) 3 rfl ?_
  refine AW.iconst (v := (1 : Int32)) dL_law_392 (.refl 393) (by decide) ?_
  refine AW.iadd dL_law_393 (.refl 394) ?_
  obtain ⟨g1, h⟩ := gd_s h
  refine LW.sld h9 g1 dL_law_394 (.refl 395) ?_
  obtain ⟨r3, τ4, e2, h⟩ := b2_s h
  refine LW.callV (r' := (some (.int r3))) (σ' := τ4) (rest := []) hG lm_L_52 (c_X9_revoke e2) (by decide) (by decide) rfl rfl (by decide) rfl rfl (Nat.le_of_ble_eq_true rfl) dL_law_395 (.refl 398) (st' := [.int r3]) rfl ?_
  refine AW.aload_n dL_law_398 (.refl 399) 2 rfl ?_
  refine AW.aload_n dL_law_399 (.refl 400) 0 rfl ?_
  refine AW.iload_n dL_law_400 (.refl 401) 3 rfl ?_
  refine AW.iconst (v := (1 : Int32)) dL_law_401 (.refl 402) (by decide) ?_
  refine AW.iadd dL_law_402 (.refl 403) ?_
  obtain ⟨g5, h⟩ := gd_s h
  refine LW.sld h9 g5 dL_law_403 (.refl 404) ?_
  obtain ⟨r7, τ8, e6, h⟩ := b2_s h
  refine LW.callV (r' := (some (.int r7))) (σ' := τ8) (rest := [.int r3]) hG lm_L_55 (c_X10_revoke e6) (by decide) (by decide) rfl rfl (by decide) rfl rfl (Nat.le_of_ble_eq_true rfl) dL_law_404 (.refl 407) (st' := [.int r7, .int r3]) rfl ?_
  refine AW.icmp_eq (tgt := 982) dL_law_407 (by decide) (fun c9 => ?_) (fun c9 => ?_)
  · have h := ifp c9 h
    refine AW.iinc (v := (x3 + (4 : Int32))) (L' := [(3, .int (x3 + (4 : Int32))), (0, .ref 999), (1, .ref 0), (2, .ref 46)]) dL_law_982 (.refl 985) 3 rfl rfl (by decide) rfl ?_
    refine AW.goto (tgt := 18) dL_law_985 (by decide) ?_
    refine AW.sub (L' := [(0, .ref 999), (1, .ref 0), (2, .ref 46), (3, .int (x3 + (4 : Int32)))]) [1, 2, 3, 0] rfl ?_
    exact hkh (x3 + (4 : Int32)) τ8 h
  · have h := ifn c9 h
    refine AW.iconst (v := (0 : Int32)) dL_law_410 (.refl 411) (by decide) ?_
    exact no_some h
set_option maxRecDepth 20000 in
theorem a_L_law_p412 {l : Launch} {G : Gg} {b Ln : Nat} {xs : Nat → Int32} (hG : GOK G) (h9 : G.2.1 999 = b) {kh : Int32 → Mm → Option (Unit)} (hkh : ∀ (x3 : Int32) (σ : Mm), kh x3 σ = some () → LW l G b Ln xs 18 [(0, .ref 999), (1, .ref 0), (2, .ref 46), (3, .int x3)] [] σ) (x3 : Int32) (σ : Mm) (h : f_L_law_p412 xs Ln kh x3 σ = some ()) : LW l G b Ln xs 412 [(0, .ref 999), (1, .ref 0), (2, .ref 46), (3, .int x3)] [] σ := by
  unfold f_L_law_p412 at h
  refine AW.aload_n dL_law_412 (.refl 413) 1 rfl ?_
  refine AW.aload_n dL_law_413 (.refl 414) 0 rfl ?_
  refine AW.iload_n dL_law_414 (.refl 415) 3 rfl ?_
  refine AW.iconst (v := (1 : Int32)) dL_law_415 (.refl 416) (by decide) ?_
  refine AW.iadd dL_law_416 (.refl 417) ?_
  obtain ⟨g1, h⟩ := gd_s h
  refine LW.sld h9 g1 dL_law_417 (.refl 418) ?_
  refine AW.aload_n dL_law_418 (.refl 419) 0 rfl ?_
  refine AW.iload_n dL_law_419 (.refl 420) 3 rfl ?_
  refine AW.iconst (v := (2 : Int32)) dL_law_420 (.refl 421) (by decide) ?_
  refine AW.iadd dL_law_421 (.refl 422) ?_
  obtain ⟨g2, h⟩ := gd_s h
  refine LW.sld h9 g2 dL_law_422 (.refl 423) ?_
  obtain ⟨r4, τ5, e3, h⟩ := b2_s h
  refine LW.callV (r' := (some (.int r4))) (σ' := τ5) (rest := []) hG lm_L_56 (c_X9_move e3) (by decide) (by decide) rfl rfl (by decide) rfl rfl (Nat.le_of_ble_eq_true rfl) dL_law_423 (.refl 426) (st' := [.int r4]) rfl ?_
  refine AW.aload_n dL_law_426 (.refl 427) 2 rfl ?_
  refine AW.aload_n dL_law_427 (.refl 428) 0 rfl ?_
  refine AW.iload_n dL_law_428 (.refl 429) 3 rfl ?_
  refine AW.iconst (v := (1 : Int32)) dL_law_429 (.refl 430) (by decide) ?_
  refine AW.iadd dL_law_430 (.refl 431) ?_
  obtain ⟨g6, h⟩ := gd_s h
  refine LW.sld h9 g6 dL_law_431 (.refl 432) ?_
  refine AW.aload_n dL_law_432 (.refl 433) 0 rfl ?_
  refine AW.iload_n dL_law_433 (.refl 434) 3 rfl ?_
  refine AW.iconst (v := (2 : Int32)) dL_law_434 (.refl 435) (by decide) ?_
  refine AW.iadd dL_law_435 (.refl 436) ?_
  obtain ⟨g7, h⟩ := gd_s h
  refine LW.sld h9 g7 dL_law_436 (.refl 437) ?_
  obtain ⟨r9, τ10, e8, h⟩ := b2_s h
  refine LW.callV (r' := (some (.int r9))) (σ' := τ10) (rest := [.int r4]) hG lm_L_59 (c_X10_move e8) (by decide) (by decide) rfl rfl (by decide) rfl rfl (Nat.le_of_ble_eq_true rfl) dL_law_437 (.refl 440) (st' := [.int r9, .int r4]) rfl ?_
  refine AW.icmp_eq (tgt := 982) dL_law_440 (by decide) (fun c11 => ?_) (fun c11 => ?_)
  · have h := ifp c11 h
    refine AW.iinc (v := (x3 + (4 : Int32))) (L' := [(3, .int (x3 + (4 : Int32))), (0, .ref 999), (1, .ref 0), (2, .ref 46)]) dL_law_982 (.refl 985) 3 rfl rfl (by decide) rfl ?_
    refine AW.goto (tgt := 18) dL_law_985 (by decide) ?_
    refine AW.sub (L' := [(0, .ref 999), (1, .ref 0), (2, .ref 46), (3, .int (x3 + (4 : Int32)))]) [1, 2, 3, 0] rfl ?_
    exact hkh (x3 + (4 : Int32)) τ10 h
  · have h := ifn c11 h
    refine AW.iconst (v := (0 : Int32)) dL_law_443 (.refl 444) (by decide) ?_
    exact no_some h
set_option maxRecDepth 20000 in
theorem a_L_law_p445 {l : Launch} {G : Gg} {b Ln : Nat} {xs : Nat → Int32} (hG : GOK G) (h9 : G.2.1 999 = b) {kh : Int32 → Mm → Option (Unit)} (hkh : ∀ (x3 : Int32) (σ : Mm), kh x3 σ = some () → LW l G b Ln xs 18 [(0, .ref 999), (1, .ref 0), (2, .ref 46), (3, .int x3)] [] σ) (x3 : Int32) (σ : Mm) (h : f_L_law_p445 xs Ln kh x3 σ = some ()) : LW l G b Ln xs 445 [(0, .ref 999), (1, .ref 0), (2, .ref 46), (3, .int x3)] [] σ := by
  unfold f_L_law_p445 at h
  refine AW.aload_n dL_law_445 (.refl 446) 1 rfl ?_
  obtain ⟨r2, τ3, e1, h⟩ := b2_s h
  refine LW.callV (r' := (some (.int r2))) (σ' := τ3) (rest := []) hG lm_L_60 (c_X9_undo e1) (by decide) (by decide) rfl rfl (by decide) rfl rfl (Nat.le_of_ble_eq_true rfl) dL_law_446 (.refl 449) (st' := [.int r2]) rfl ?_
  refine AW.aload_n dL_law_449 (.refl 450) 2 rfl ?_
  obtain ⟨r5, τ6, e4, h⟩ := b2_s h
  refine LW.callV (r' := (some (.int r5))) (σ' := τ6) (rest := [.int r2]) hG lm_L_63 (c_X10_undo e4) (by decide) (by decide) rfl rfl (by decide) rfl rfl (Nat.le_of_ble_eq_true rfl) dL_law_450 (.refl 453) (st' := [.int r5, .int r2]) rfl ?_
  refine AW.icmp_eq (tgt := 982) dL_law_453 (by decide) (fun c7 => ?_) (fun c7 => ?_)
  · have h := ifp c7 h
    refine AW.iinc (v := (x3 + (4 : Int32))) (L' := [(3, .int (x3 + (4 : Int32))), (0, .ref 999), (1, .ref 0), (2, .ref 46)]) dL_law_982 (.refl 985) 3 rfl rfl (by decide) rfl ?_
    refine AW.goto (tgt := 18) dL_law_985 (by decide) ?_
    refine AW.sub (L' := [(0, .ref 999), (1, .ref 0), (2, .ref 46), (3, .int (x3 + (4 : Int32)))]) [1, 2, 3, 0] rfl ?_
    exact hkh (x3 + (4 : Int32)) τ6 h
  · have h := ifn c7 h
    refine AW.iconst (v := (0 : Int32)) dL_law_456 (.refl 457) (by decide) ?_
    exact no_some h
set_option maxRecDepth 20000 in
theorem a_L_law_p458 {l : Launch} {G : Gg} {b Ln : Nat} {xs : Nat → Int32} (hG : GOK G) (h9 : G.2.1 999 = b) {kh : Int32 → Mm → Option (Unit)} (hkh : ∀ (x3 : Int32) (σ : Mm), kh x3 σ = some () → LW l G b Ln xs 18 [(0, .ref 999), (1, .ref 0), (2, .ref 46), (3, .int x3)] [] σ) (x3 : Int32) (σ : Mm) (h : f_L_law_p458 xs Ln kh x3 σ = some ()) : LW l G b Ln xs 458 [(0, .ref 999), (1, .ref 0), (2, .ref 46), (3, .int x3)] [] σ := by
  unfold f_L_law_p458 at h
  refine AW.aload_n dL_law_458 (.refl 459) 1 rfl ?_
  refine AW.aload_n dL_law_459 (.refl 460) 0 rfl ?_
  refine AW.iload_n dL_law_460 (.refl 461) 3 rfl ?_
  refine AW.iconst (v := (1 : Int32)) dL_law_461 (.refl 462) (by decide) ?_
  refine AW.iadd dL_law_462 (.refl 463) ?_
  obtain ⟨g1, h⟩ := gd_s h
  refine LW.sld h9 g1 dL_law_463 (.refl 464) ?_
  obtain ⟨r3, τ4, e2, h⟩ := b2_s h
  refine LW.callV (r' := (some (.int r3))) (σ' := τ4) (rest := []) hG lm_L_64 (c_X9_best e2) (by decide) (by decide) rfl rfl (by decide) rfl rfl (Nat.le_of_ble_eq_true rfl) dL_law_464 (.refl 467) (st' := [.int r3]) rfl ?_
  refine AW.aload_n dL_law_467 (.refl 468) 2 rfl ?_
  refine AW.aload_n dL_law_468 (.refl 469) 0 rfl ?_
  refine AW.iload_n dL_law_469 (.refl 470) 3 rfl ?_
  refine AW.iconst (v := (1 : Int32)) dL_law_470 (.refl 471) (by decide) ?_
  refine AW.iadd dL_law_471 (.refl 472) ?_
  obtain ⟨g5, h⟩ := gd_s h
  refine LW.sld h9 g5 dL_law_472 (.refl 473) ?_
  obtain ⟨r7, τ8, e6, h⟩ := b2_s h
  refine LW.callV (r' := (some (.int r7))) (σ' := τ8) (rest := [.int r3]) hG lm_L_67 (c_X10_best e6) (by decide) (by decide) rfl rfl (by decide) rfl rfl (Nat.le_of_ble_eq_true rfl) dL_law_473 (.refl 476) (st' := [.int r7, .int r3]) rfl ?_
  refine AW.icmp_eq (tgt := 982) dL_law_476 (by decide) (fun c9 => ?_) (fun c9 => ?_)
  · have h := ifp c9 h
    refine AW.iinc (v := (x3 + (4 : Int32))) (L' := [(3, .int (x3 + (4 : Int32))), (0, .ref 999), (1, .ref 0), (2, .ref 46)]) dL_law_982 (.refl 985) 3 rfl rfl (by decide) rfl ?_
    refine AW.goto (tgt := 18) dL_law_985 (by decide) ?_
    refine AW.sub (L' := [(0, .ref 999), (1, .ref 0), (2, .ref 46), (3, .int (x3 + (4 : Int32)))]) [1, 2, 3, 0] rfl ?_
    exact hkh (x3 + (4 : Int32)) τ8 h
  · have h := ifn c9 h
    refine AW.iconst (v := (0 : Int32)) dL_law_479 (.refl 480) (by decide) ?_
    exact no_some h
set_option maxRecDepth 20000 in
theorem a_L_law_p481 {l : Launch} {G : Gg} {b Ln : Nat} {xs : Nat → Int32} (hG : GOK G) (h9 : G.2.1 999 = b) {kh : Int32 → Mm → Option (Unit)} (hkh : ∀ (x3 : Int32) (σ : Mm), kh x3 σ = some () → LW l G b Ln xs 18 [(0, .ref 999), (1, .ref 0), (2, .ref 46), (3, .int x3)] [] σ) (x3 : Int32) (σ : Mm) (h : f_L_law_p481 xs Ln kh x3 σ = some ()) : LW l G b Ln xs 481 [(0, .ref 999), (1, .ref 0), (2, .ref 46), (3, .int x3)] [] σ := by
  unfold f_L_law_p481 at h
  refine AW.aload_n dL_law_481 (.refl 482) 1 rfl ?_
  refine AW.aload_n dL_law_482 (.refl 483) 0 rfl ?_
  refine AW.iload_n dL_law_483 (.refl 484) 3 rfl ?_
  refine AW.iconst (v := (1 : Int32)) dL_law_484 (.refl 485) (by decide) ?_
  refine AW.iadd dL_law_485 (.refl 486) ?_
  obtain ⟨g1, h⟩ := gd_s h
  refine LW.sld h9 g1 dL_law_486 (.refl 487) ?_
  obtain ⟨r3, τ4, e2, h⟩ := b2_s h
  refine LW.callV (r' := (some (.int r3))) (σ' := τ4) (rest := []) hG lm_L_68 (c_X9_bestOf e2) (by decide) (by decide) rfl rfl (by decide) rfl rfl (Nat.le_of_ble_eq_true rfl) dL_law_487 (.refl 490) (st' := [.int r3]) rfl ?_
  refine AW.aload_n dL_law_490 (.refl 491) 2 rfl ?_
  refine AW.aload_n dL_law_491 (.refl 492) 0 rfl ?_
  refine AW.iload_n dL_law_492 (.refl 493) 3 rfl ?_
  refine AW.iconst (v := (1 : Int32)) dL_law_493 (.refl 494) (by decide) ?_
  refine AW.iadd dL_law_494 (.refl 495) ?_
  obtain ⟨g5, h⟩ := gd_s h
  refine LW.sld h9 g5 dL_law_495 (.refl 496) ?_
  obtain ⟨r7, τ8, e6, h⟩ := b2_s h
  refine LW.callV (r' := (some (.int r7))) (σ' := τ8) (rest := [.int r3]) hG lm_L_71 (c_X10_bestOf e6) (by decide) (by decide) rfl rfl (by decide) rfl rfl (Nat.le_of_ble_eq_true rfl) dL_law_496 (.refl 499) (st' := [.int r7, .int r3]) rfl ?_
  refine AW.icmp_eq (tgt := 982) dL_law_499 (by decide) (fun c9 => ?_) (fun c9 => ?_)
  · have h := ifp c9 h
    refine AW.iinc (v := (x3 + (4 : Int32))) (L' := [(3, .int (x3 + (4 : Int32))), (0, .ref 999), (1, .ref 0), (2, .ref 46)]) dL_law_982 (.refl 985) 3 rfl rfl (by decide) rfl ?_
    refine AW.goto (tgt := 18) dL_law_985 (by decide) ?_
    refine AW.sub (L' := [(0, .ref 999), (1, .ref 0), (2, .ref 46), (3, .int (x3 + (4 : Int32)))]) [1, 2, 3, 0] rfl ?_
    exact hkh (x3 + (4 : Int32)) τ8 h
  · have h := ifn c9 h
    refine AW.iconst (v := (0 : Int32)) dL_law_502 (.refl 503) (by decide) ?_
    exact no_some h
set_option maxRecDepth 20000 in
theorem a_L_law_p504 {l : Launch} {G : Gg} {b Ln : Nat} {xs : Nat → Int32} (hG : GOK G) (h9 : G.2.1 999 = b) {kh : Int32 → Mm → Option (Unit)} (hkh : ∀ (x3 : Int32) (σ : Mm), kh x3 σ = some () → LW l G b Ln xs 18 [(0, .ref 999), (1, .ref 0), (2, .ref 46), (3, .int x3)] [] σ) (x3 : Int32) (σ : Mm) (h : f_L_law_p504 xs Ln kh x3 σ = some ()) : LW l G b Ln xs 504 [(0, .ref 999), (1, .ref 0), (2, .ref 46), (3, .int x3)] [] σ := by
  unfold f_L_law_p504 at h
  refine AW.aload_n dL_law_504 (.refl 505) 1 rfl ?_
  obtain ⟨r2, τ3, e1, h⟩ := b2_s h
  refine LW.callV (r' := (some (.int r2))) (σ' := τ3) (rest := []) hG lm_L_72 (c_X9_beside e1) (by decide) (by decide) rfl rfl (by decide) rfl rfl (Nat.le_of_ble_eq_true rfl) dL_law_505 (.refl 508) (st' := [.int r2]) rfl ?_
  refine AW.aload_n dL_law_508 (.refl 509) 2 rfl ?_
  obtain ⟨r5, τ6, e4, h⟩ := b2_s h
  refine LW.callV (r' := (some (.int r5))) (σ' := τ6) (rest := [.int r2]) hG lm_L_75 (c_X10_beside e4) (by decide) (by decide) rfl rfl (by decide) rfl rfl (Nat.le_of_ble_eq_true rfl) dL_law_509 (.refl 512) (st' := [.int r5, .int r2]) rfl ?_
  refine AW.icmp_eq (tgt := 982) dL_law_512 (by decide) (fun c7 => ?_) (fun c7 => ?_)
  · have h := ifp c7 h
    refine AW.iinc (v := (x3 + (4 : Int32))) (L' := [(3, .int (x3 + (4 : Int32))), (0, .ref 999), (1, .ref 0), (2, .ref 46)]) dL_law_982 (.refl 985) 3 rfl rfl (by decide) rfl ?_
    refine AW.goto (tgt := 18) dL_law_985 (by decide) ?_
    refine AW.sub (L' := [(0, .ref 999), (1, .ref 0), (2, .ref 46), (3, .int (x3 + (4 : Int32)))]) [1, 2, 3, 0] rfl ?_
    exact hkh (x3 + (4 : Int32)) τ6 h
  · have h := ifn c7 h
    refine AW.iconst (v := (0 : Int32)) dL_law_515 (.refl 516) (by decide) ?_
    exact no_some h
set_option maxRecDepth 20000 in
theorem a_L_law_p517 {l : Launch} {G : Gg} {b Ln : Nat} {xs : Nat → Int32} (hG : GOK G) (h9 : G.2.1 999 = b) {kh : Int32 → Mm → Option (Unit)} (hkh : ∀ (x3 : Int32) (σ : Mm), kh x3 σ = some () → LW l G b Ln xs 18 [(0, .ref 999), (1, .ref 0), (2, .ref 46), (3, .int x3)] [] σ) (x3 : Int32) (σ : Mm) (h : f_L_law_p517 xs Ln kh x3 σ = some ()) : LW l G b Ln xs 517 [(0, .ref 999), (1, .ref 0), (2, .ref 46), (3, .int x3)] [] σ := by
  unfold f_L_law_p517 at h
  refine AW.aload_n dL_law_517 (.refl 518) 1 rfl ?_
  refine AW.aload_n dL_law_518 (.refl 519) 0 rfl ?_
  refine AW.iload_n dL_law_519 (.refl 520) 3 rfl ?_
  refine AW.iconst (v := (1 : Int32)) dL_law_520 (.refl 521) (by decide) ?_
  refine AW.iadd dL_law_521 (.refl 522) ?_
  obtain ⟨g1, h⟩ := gd_s h
  refine LW.sld h9 g1 dL_law_522 (.refl 523) ?_
  obtain ⟨r3, τ4, e2, h⟩ := b2_s h
  refine LW.callV (r' := (some (.int r3))) (σ' := τ4) (rest := []) hG lm_L_76 (c_X9_price e2) (by decide) (by decide) rfl rfl (by decide) rfl rfl (Nat.le_of_ble_eq_true rfl) dL_law_523 (.refl 526) (st' := [.int r3]) rfl ?_
  refine AW.aload_n dL_law_526 (.refl 527) 2 rfl ?_
  refine AW.aload_n dL_law_527 (.refl 528) 0 rfl ?_
  refine AW.iload_n dL_law_528 (.refl 529) 3 rfl ?_
  refine AW.iconst (v := (1 : Int32)) dL_law_529 (.refl 530) (by decide) ?_
  refine AW.iadd dL_law_530 (.refl 531) ?_
  obtain ⟨g5, h⟩ := gd_s h
  refine LW.sld h9 g5 dL_law_531 (.refl 532) ?_
  obtain ⟨r7, τ8, e6, h⟩ := b2_s h
  refine LW.callV (r' := (some (.int r7))) (σ' := τ8) (rest := [.int r3]) hG lm_L_79 (c_X10_price e6) (by decide) (by decide) rfl rfl (by decide) rfl rfl (Nat.le_of_ble_eq_true rfl) dL_law_532 (.refl 535) (st' := [.int r7, .int r3]) rfl ?_
  refine AW.icmp_eq (tgt := 982) dL_law_535 (by decide) (fun c9 => ?_) (fun c9 => ?_)
  · have h := ifp c9 h
    refine AW.iinc (v := (x3 + (4 : Int32))) (L' := [(3, .int (x3 + (4 : Int32))), (0, .ref 999), (1, .ref 0), (2, .ref 46)]) dL_law_982 (.refl 985) 3 rfl rfl (by decide) rfl ?_
    refine AW.goto (tgt := 18) dL_law_985 (by decide) ?_
    refine AW.sub (L' := [(0, .ref 999), (1, .ref 0), (2, .ref 46), (3, .int (x3 + (4 : Int32)))]) [1, 2, 3, 0] rfl ?_
    exact hkh (x3 + (4 : Int32)) τ8 h
  · have h := ifn c9 h
    refine AW.iconst (v := (0 : Int32)) dL_law_538 (.refl 539) (by decide) ?_
    exact no_some h
set_option maxRecDepth 20000 in
theorem a_L_law_p540 {l : Launch} {G : Gg} {b Ln : Nat} {xs : Nat → Int32} (hG : GOK G) (h9 : G.2.1 999 = b) {kh : Int32 → Mm → Option (Unit)} (hkh : ∀ (x3 : Int32) (σ : Mm), kh x3 σ = some () → LW l G b Ln xs 18 [(0, .ref 999), (1, .ref 0), (2, .ref 46), (3, .int x3)] [] σ) (x3 : Int32) (σ : Mm) (h : f_L_law_p540 xs Ln kh x3 σ = some ()) : LW l G b Ln xs 540 [(0, .ref 999), (1, .ref 0), (2, .ref 46), (3, .int x3)] [] σ := by
  unfold f_L_law_p540 at h
  refine AW.aload_n dL_law_540 (.refl 541) 1 rfl ?_
  obtain ⟨r2, τ3, e1, h⟩ := b2_s h
  refine LW.callV (r' := (some (.int r2))) (σ' := τ3) (rest := []) hG lm_L_80 (c_X9_many e1) (by decide) (by decide) rfl rfl (by decide) rfl rfl (Nat.le_of_ble_eq_true rfl) dL_law_541 (.refl 544) (st' := [.int r2]) rfl ?_
  refine AW.aload_n dL_law_544 (.refl 545) 2 rfl ?_
  obtain ⟨r5, τ6, e4, h⟩ := b2_s h
  refine LW.callV (r' := (some (.int r5))) (σ' := τ6) (rest := [.int r2]) hG lm_L_83 (c_X10_many e4) (by decide) (by decide) rfl rfl (by decide) rfl rfl (Nat.le_of_ble_eq_true rfl) dL_law_545 (.refl 548) (st' := [.int r5, .int r2]) rfl ?_
  refine AW.icmp_eq (tgt := 982) dL_law_548 (by decide) (fun c7 => ?_) (fun c7 => ?_)
  · have h := ifp c7 h
    refine AW.iinc (v := (x3 + (4 : Int32))) (L' := [(3, .int (x3 + (4 : Int32))), (0, .ref 999), (1, .ref 0), (2, .ref 46)]) dL_law_982 (.refl 985) 3 rfl rfl (by decide) rfl ?_
    refine AW.goto (tgt := 18) dL_law_985 (by decide) ?_
    refine AW.sub (L' := [(0, .ref 999), (1, .ref 0), (2, .ref 46), (3, .int (x3 + (4 : Int32)))]) [1, 2, 3, 0] rfl ?_
    exact hkh (x3 + (4 : Int32)) τ6 h
  · have h := ifn c7 h
    refine AW.iconst (v := (0 : Int32)) dL_law_551 (.refl 552) (by decide) ?_
    exact no_some h
set_option maxRecDepth 20000 in
theorem a_L_law_p553 {l : Launch} {G : Gg} {b Ln : Nat} {xs : Nat → Int32} (hG : GOK G) (h9 : G.2.1 999 = b) {kh : Int32 → Mm → Option (Unit)} (hkh : ∀ (x3 : Int32) (σ : Mm), kh x3 σ = some () → LW l G b Ln xs 18 [(0, .ref 999), (1, .ref 0), (2, .ref 46), (3, .int x3)] [] σ) (x3 : Int32) (σ : Mm) (h : f_L_law_p553 xs Ln kh x3 σ = some ()) : LW l G b Ln xs 553 [(0, .ref 999), (1, .ref 0), (2, .ref 46), (3, .int x3)] [] σ := by
  unfold f_L_law_p553 at h
  refine AW.aload_n dL_law_553 (.refl 554) 1 rfl ?_
  refine AW.aload_n dL_law_554 (.refl 555) 0 rfl ?_
  refine AW.iload_n dL_law_555 (.refl 556) 3 rfl ?_
  refine AW.iconst (v := (1 : Int32)) dL_law_556 (.refl 557) (by decide) ?_
  refine AW.iadd dL_law_557 (.refl 558) ?_
  obtain ⟨g1, h⟩ := gd_s h
  refine LW.sld h9 g1 dL_law_558 (.refl 559) ?_
  refine AW.aload_n dL_law_559 (.refl 560) 0 rfl ?_
  refine AW.iload_n dL_law_560 (.refl 561) 3 rfl ?_
  refine AW.iconst (v := (2 : Int32)) dL_law_561 (.refl 562) (by decide) ?_
  refine AW.iadd dL_law_562 (.refl 563) ?_
  obtain ⟨g2, h⟩ := gd_s h
  refine LW.sld h9 g2 dL_law_563 (.refl 564) ?_
  obtain ⟨r4, e3, h⟩ := b1_s h
  refine LW.callV (r' := (some (.int r4))) (σ' := σ) (rest := []) hG lm_L_84 (c_X9_room e3) (by decide) (by decide) rfl rfl (by decide) rfl rfl (Nat.le_of_ble_eq_true rfl) dL_law_564 (.refl 567) (st' := [.int r4]) rfl ?_
  refine AW.aload_n dL_law_567 (.refl 568) 2 rfl ?_
  refine AW.aload_n dL_law_568 (.refl 569) 0 rfl ?_
  refine AW.iload_n dL_law_569 (.refl 570) 3 rfl ?_
  refine AW.iconst (v := (1 : Int32)) dL_law_570 (.refl 571) (by decide) ?_
  refine AW.iadd dL_law_571 (.refl 572) ?_
  obtain ⟨g5, h⟩ := gd_s h
  refine LW.sld h9 g5 dL_law_572 (.refl 573) ?_
  refine AW.aload_n dL_law_573 (.refl 574) 0 rfl ?_
  refine AW.iload_n dL_law_574 (.refl 575) 3 rfl ?_
  refine AW.iconst (v := (2 : Int32)) dL_law_575 (.refl 576) (by decide) ?_
  refine AW.iadd dL_law_576 (.refl 577) ?_
  obtain ⟨g6, h⟩ := gd_s h
  refine LW.sld h9 g6 dL_law_577 (.refl 578) ?_
  obtain ⟨r8, e7, h⟩ := b1_s h
  refine LW.callV (r' := (some (.int r8))) (σ' := σ) (rest := [.int r4]) hG lm_L_87 (c_X10_room e7) (by decide) (by decide) rfl rfl (by decide) rfl rfl (Nat.le_of_ble_eq_true rfl) dL_law_578 (.refl 581) (st' := [.int r8, .int r4]) rfl ?_
  refine AW.icmp_eq (tgt := 982) dL_law_581 (by decide) (fun c9 => ?_) (fun c9 => ?_)
  · have h := ifp c9 h
    refine AW.iinc (v := (x3 + (4 : Int32))) (L' := [(3, .int (x3 + (4 : Int32))), (0, .ref 999), (1, .ref 0), (2, .ref 46)]) dL_law_982 (.refl 985) 3 rfl rfl (by decide) rfl ?_
    refine AW.goto (tgt := 18) dL_law_985 (by decide) ?_
    refine AW.sub (L' := [(0, .ref 999), (1, .ref 0), (2, .ref 46), (3, .int (x3 + (4 : Int32)))]) [1, 2, 3, 0] rfl ?_
    exact hkh (x3 + (4 : Int32)) σ h
  · have h := ifn c9 h
    refine AW.iconst (v := (0 : Int32)) dL_law_584 (.refl 585) (by decide) ?_
    exact no_some h
set_option maxRecDepth 20000 in
theorem a_L_law_p586 {l : Launch} {G : Gg} {b Ln : Nat} {xs : Nat → Int32} (hG : GOK G) (h9 : G.2.1 999 = b) {kh : Int32 → Mm → Option (Unit)} (hkh : ∀ (x3 : Int32) (σ : Mm), kh x3 σ = some () → LW l G b Ln xs 18 [(0, .ref 999), (1, .ref 0), (2, .ref 46), (3, .int x3)] [] σ) (x3 : Int32) (σ : Mm) (h : f_L_law_p586 xs Ln kh x3 σ = some ()) : LW l G b Ln xs 586 [(0, .ref 999), (1, .ref 0), (2, .ref 46), (3, .int x3)] [] σ := by
  unfold f_L_law_p586 at h
  refine AW.aload_n dL_law_586 (.refl 587) 1 rfl ?_
  obtain ⟨r2, τ3, e1, h⟩ := b2_s h
  refine LW.callV (r' := (some (.int r2))) (σ' := τ3) (rest := []) hG lm_L_88 (c_X9_hands e1) (by decide) (by decide) rfl rfl (by decide) rfl rfl (Nat.le_of_ble_eq_true rfl) dL_law_587 (.refl 590) (st' := [.int r2]) rfl ?_
  refine AW.aload_n dL_law_590 (.refl 591) 2 rfl ?_
  obtain ⟨r5, τ6, e4, h⟩ := b2_s h
  refine LW.callV (r' := (some (.int r5))) (σ' := τ6) (rest := [.int r2]) hG lm_L_91 (c_X10_hands e4) (by decide) (by decide) rfl rfl (by decide) rfl rfl (Nat.le_of_ble_eq_true rfl) dL_law_591 (.refl 594) (st' := [.int r5, .int r2]) rfl ?_
  refine AW.icmp_eq (tgt := 982) dL_law_594 (by decide) (fun c7 => ?_) (fun c7 => ?_)
  · have h := ifp c7 h
    refine AW.iinc (v := (x3 + (4 : Int32))) (L' := [(3, .int (x3 + (4 : Int32))), (0, .ref 999), (1, .ref 0), (2, .ref 46)]) dL_law_982 (.refl 985) 3 rfl rfl (by decide) rfl ?_
    refine AW.goto (tgt := 18) dL_law_985 (by decide) ?_
    refine AW.sub (L' := [(0, .ref 999), (1, .ref 0), (2, .ref 46), (3, .int (x3 + (4 : Int32)))]) [1, 2, 3, 0] rfl ?_
    exact hkh (x3 + (4 : Int32)) τ6 h
  · have h := ifn c7 h
    refine AW.iconst (v := (0 : Int32)) dL_law_597 (.refl 598) (by decide) ?_
    exact no_some h
set_option maxRecDepth 20000 in
theorem a_L_law_p599 {l : Launch} {G : Gg} {b Ln : Nat} {xs : Nat → Int32} (hG : GOK G) (h9 : G.2.1 999 = b) {kh : Int32 → Mm → Option (Unit)} (hkh : ∀ (x3 : Int32) (σ : Mm), kh x3 σ = some () → LW l G b Ln xs 18 [(0, .ref 999), (1, .ref 0), (2, .ref 46), (3, .int x3)] [] σ) (x3 : Int32) (σ : Mm) (h : f_L_law_p599 xs Ln kh x3 σ = some ()) : LW l G b Ln xs 599 [(0, .ref 999), (1, .ref 0), (2, .ref 46), (3, .int x3)] [] σ := by
  unfold f_L_law_p599 at h
  refine AW.aload_n dL_law_599 (.refl 600) 1 rfl ?_
  refine AW.aload_n dL_law_600 (.refl 601) 0 rfl ?_
  refine AW.iload_n dL_law_601 (.refl 602) 3 rfl ?_
  refine AW.iconst (v := (1 : Int32)) dL_law_602 (.refl 603) (by decide) ?_
  refine AW.iadd dL_law_603 (.refl 604) ?_
  obtain ⟨g1, h⟩ := gd_s h
  refine LW.sld h9 g1 dL_law_604 (.refl 605) ?_
  refine AW.aload_n dL_law_605 (.refl 606) 0 rfl ?_
  refine AW.iload_n dL_law_606 (.refl 607) 3 rfl ?_
  refine AW.iconst (v := (2 : Int32)) dL_law_607 (.refl 608) (by decide) ?_
  refine AW.iadd dL_law_608 (.refl 609) ?_
  obtain ⟨g2, h⟩ := gd_s h
  refine LW.sld h9 g2 dL_law_609 (.refl 610) ?_
  refine AW.i2l dL_law_610 (.refl 611) ?_
  refine AW.bipush (v := (32 : Int32)) dL_law_611 (.refl 613) (by decide) ?_
  refine AW.lshl dL_law_613 (.refl 614) ?_
  refine AW.aload_n dL_law_614 (.refl 615) 0 rfl ?_
  refine AW.iload_n dL_law_615 (.refl 616) 3 rfl ?_
  refine AW.iconst (v := (3 : Int32)) dL_law_616 (.refl 617) (by decide) ?_
  refine AW.iadd dL_law_617 (.refl 618) ?_
  obtain ⟨g3, h⟩ := gd_s h
  refine LW.sld h9 g3 dL_law_618 (.refl 619) ?_
  refine AW.i2l dL_law_619 (.refl 620) ?_
  refine AW.ldc2_w lc_L_92 dL_law_620 (.refl 623) ?_
  refine AW.land dL_law_623 (.refl 624) ?_
  refine AW.lor dL_law_624 (.refl 625) ?_
  obtain ⟨r5, τ6, e4, h⟩ := b2_s h
  refine LW.callV (r' := (some (.int r5))) (σ' := τ6) (rest := []) hG lm_L_94 (c_X9_judge e4) (by decide) (by decide) rfl rfl (by decide) rfl rfl (Nat.le_of_ble_eq_true rfl) dL_law_625 (.refl 628) (st' := [.int r5]) rfl ?_
  refine AW.aload_n dL_law_628 (.refl 629) 2 rfl ?_
  refine AW.aload_n dL_law_629 (.refl 630) 0 rfl ?_
  refine AW.iload_n dL_law_630 (.refl 631) 3 rfl ?_
  refine AW.iconst (v := (1 : Int32)) dL_law_631 (.refl 632) (by decide) ?_
  refine AW.iadd dL_law_632 (.refl 633) ?_
  obtain ⟨g7, h⟩ := gd_s h
  refine LW.sld h9 g7 dL_law_633 (.refl 634) ?_
  refine AW.aload_n dL_law_634 (.refl 635) 0 rfl ?_
  refine AW.iload_n dL_law_635 (.refl 636) 3 rfl ?_
  refine AW.iconst (v := (2 : Int32)) dL_law_636 (.refl 637) (by decide) ?_
  refine AW.iadd dL_law_637 (.refl 638) ?_
  obtain ⟨g8, h⟩ := gd_s h
  refine LW.sld h9 g8 dL_law_638 (.refl 639) ?_
  refine AW.i2l dL_law_639 (.refl 640) ?_
  refine AW.bipush (v := (32 : Int32)) dL_law_640 (.refl 642) (by decide) ?_
  refine AW.lshl dL_law_642 (.refl 643) ?_
  refine AW.aload_n dL_law_643 (.refl 644) 0 rfl ?_
  refine AW.iload_n dL_law_644 (.refl 645) 3 rfl ?_
  refine AW.iconst (v := (3 : Int32)) dL_law_645 (.refl 646) (by decide) ?_
  refine AW.iadd dL_law_646 (.refl 647) ?_
  obtain ⟨g9, h⟩ := gd_s h
  refine LW.sld h9 g9 dL_law_647 (.refl 648) ?_
  refine AW.i2l dL_law_648 (.refl 649) ?_
  refine AW.ldc2_w lc_L_92 dL_law_649 (.refl 652) ?_
  refine AW.land dL_law_652 (.refl 653) ?_
  refine AW.lor dL_law_653 (.refl 654) ?_
  obtain ⟨r11, τ12, e10, h⟩ := b2_s h
  refine LW.callV (r' := (some (.int r11))) (σ' := τ12) (rest := [.int r5]) hG lm_L_98 (c_X10_judge e10) (by decide) (by decide) rfl rfl (by decide) rfl rfl (Nat.le_of_ble_eq_true rfl) dL_law_654 (.refl 657) (st' := [.int r11, .int r5]) rfl ?_
  refine AW.icmp_eq (tgt := 982) dL_law_657 (by decide) (fun c13 => ?_) (fun c13 => ?_)
  · have h := ifp c13 h
    refine AW.iinc (v := (x3 + (4 : Int32))) (L' := [(3, .int (x3 + (4 : Int32))), (0, .ref 999), (1, .ref 0), (2, .ref 46)]) dL_law_982 (.refl 985) 3 rfl rfl (by decide) rfl ?_
    refine AW.goto (tgt := 18) dL_law_985 (by decide) ?_
    refine AW.sub (L' := [(0, .ref 999), (1, .ref 0), (2, .ref 46), (3, .int (x3 + (4 : Int32)))]) [1, 2, 3, 0] rfl ?_
    exact hkh (x3 + (4 : Int32)) τ12 h
  · have h := ifn c13 h
    refine AW.iconst (v := (0 : Int32)) dL_law_660 (.refl 661) (by decide) ?_
    exact no_some h
set_option maxRecDepth 20000 in
theorem a_L_law_p662 {l : Launch} {G : Gg} {b Ln : Nat} {xs : Nat → Int32} (hG : GOK G) (h9 : G.2.1 999 = b) {kh : Int32 → Mm → Option (Unit)} (hkh : ∀ (x3 : Int32) (σ : Mm), kh x3 σ = some () → LW l G b Ln xs 18 [(0, .ref 999), (1, .ref 0), (2, .ref 46), (3, .int x3)] [] σ) (x3 : Int32) (σ : Mm) (h : f_L_law_p662 xs Ln kh x3 σ = some ()) : LW l G b Ln xs 662 [(0, .ref 999), (1, .ref 0), (2, .ref 46), (3, .int x3)] [] σ := by
  unfold f_L_law_p662 at h
  refine AW.aload_n dL_law_662 (.refl 663) 1 rfl ?_
  refine AW.aload_n dL_law_663 (.refl 664) 0 rfl ?_
  refine AW.iload_n dL_law_664 (.refl 665) 3 rfl ?_
  refine AW.iconst (v := (1 : Int32)) dL_law_665 (.refl 666) (by decide) ?_
  refine AW.iadd dL_law_666 (.refl 667) ?_
  obtain ⟨g1, h⟩ := gd_s h
  refine LW.sld h9 g1 dL_law_667 (.refl 668) ?_
  refine AW.aload_n dL_law_668 (.refl 669) 0 rfl ?_
  refine AW.iload_n dL_law_669 (.refl 670) 3 rfl ?_
  refine AW.iconst (v := (2 : Int32)) dL_law_670 (.refl 671) (by decide) ?_
  refine AW.iadd dL_law_671 (.refl 672) ?_
  obtain ⟨g2, h⟩ := gd_s h
  refine LW.sld h9 g2 dL_law_672 (.refl 673) ?_
  obtain ⟨r4, τ5, e3, h⟩ := b2_s h
  refine LW.callV (r' := (some (.int r4))) (σ' := τ5) (rest := []) hG lm_L_99 (c_X9_hear e3) (by decide) (by decide) rfl rfl (by decide) rfl rfl (Nat.le_of_ble_eq_true rfl) dL_law_673 (.refl 676) (st' := [.int r4]) rfl ?_
  refine AW.aload_n dL_law_676 (.refl 677) 2 rfl ?_
  refine AW.aload_n dL_law_677 (.refl 678) 0 rfl ?_
  refine AW.iload_n dL_law_678 (.refl 679) 3 rfl ?_
  refine AW.iconst (v := (1 : Int32)) dL_law_679 (.refl 680) (by decide) ?_
  refine AW.iadd dL_law_680 (.refl 681) ?_
  obtain ⟨g6, h⟩ := gd_s h
  refine LW.sld h9 g6 dL_law_681 (.refl 682) ?_
  refine AW.aload_n dL_law_682 (.refl 683) 0 rfl ?_
  refine AW.iload_n dL_law_683 (.refl 684) 3 rfl ?_
  refine AW.iconst (v := (2 : Int32)) dL_law_684 (.refl 685) (by decide) ?_
  refine AW.iadd dL_law_685 (.refl 686) ?_
  obtain ⟨g7, h⟩ := gd_s h
  refine LW.sld h9 g7 dL_law_686 (.refl 687) ?_
  obtain ⟨r9, τ10, e8, h⟩ := b2_s h
  refine LW.callV (r' := (some (.int r9))) (σ' := τ10) (rest := [.int r4]) hG lm_L_102 (c_X10_hear e8) (by decide) (by decide) rfl rfl (by decide) rfl rfl (Nat.le_of_ble_eq_true rfl) dL_law_687 (.refl 690) (st' := [.int r9, .int r4]) rfl ?_
  refine AW.icmp_eq (tgt := 982) dL_law_690 (by decide) (fun c11 => ?_) (fun c11 => ?_)
  · have h := ifp c11 h
    refine AW.iinc (v := (x3 + (4 : Int32))) (L' := [(3, .int (x3 + (4 : Int32))), (0, .ref 999), (1, .ref 0), (2, .ref 46)]) dL_law_982 (.refl 985) 3 rfl rfl (by decide) rfl ?_
    refine AW.goto (tgt := 18) dL_law_985 (by decide) ?_
    refine AW.sub (L' := [(0, .ref 999), (1, .ref 0), (2, .ref 46), (3, .int (x3 + (4 : Int32)))]) [1, 2, 3, 0] rfl ?_
    exact hkh (x3 + (4 : Int32)) τ10 h
  · have h := ifn c11 h
    refine AW.iconst (v := (0 : Int32)) dL_law_693 (.refl 694) (by decide) ?_
    exact no_some h
set_option maxRecDepth 20000 in
theorem a_L_law_p695 {l : Launch} {G : Gg} {b Ln : Nat} {xs : Nat → Int32} (hG : GOK G) (h9 : G.2.1 999 = b) {kh : Int32 → Mm → Option (Unit)} (hkh : ∀ (x3 : Int32) (σ : Mm), kh x3 σ = some () → LW l G b Ln xs 18 [(0, .ref 999), (1, .ref 0), (2, .ref 46), (3, .int x3)] [] σ) (x3 : Int32) (σ : Mm) (h : f_L_law_p695 xs Ln kh x3 σ = some ()) : LW l G b Ln xs 695 [(0, .ref 999), (1, .ref 0), (2, .ref 46), (3, .int x3)] [] σ := by
  unfold f_L_law_p695 at h
  refine AW.aload_n dL_law_695 (.refl 696) 1 rfl ?_
  obtain ⟨r2, τ3, e1, h⟩ := b2_s h
  refine LW.callV (r' := (some (.int r2))) (σ' := τ3) (rest := []) hG lm_L_103 (c_X9_unhear e1) (by decide) (by decide) rfl rfl (by decide) rfl rfl (Nat.le_of_ble_eq_true rfl) dL_law_696 (.refl 699) (st' := [.int r2]) rfl ?_
  refine AW.aload_n dL_law_699 (.refl 700) 2 rfl ?_
  obtain ⟨r5, τ6, e4, h⟩ := b2_s h
  refine LW.callV (r' := (some (.int r5))) (σ' := τ6) (rest := [.int r2]) hG lm_L_106 (c_X10_unhear e4) (by decide) (by decide) rfl rfl (by decide) rfl rfl (Nat.le_of_ble_eq_true rfl) dL_law_700 (.refl 703) (st' := [.int r5, .int r2]) rfl ?_
  refine AW.icmp_eq (tgt := 982) dL_law_703 (by decide) (fun c7 => ?_) (fun c7 => ?_)
  · have h := ifp c7 h
    refine AW.iinc (v := (x3 + (4 : Int32))) (L' := [(3, .int (x3 + (4 : Int32))), (0, .ref 999), (1, .ref 0), (2, .ref 46)]) dL_law_982 (.refl 985) 3 rfl rfl (by decide) rfl ?_
    refine AW.goto (tgt := 18) dL_law_985 (by decide) ?_
    refine AW.sub (L' := [(0, .ref 999), (1, .ref 0), (2, .ref 46), (3, .int (x3 + (4 : Int32)))]) [1, 2, 3, 0] rfl ?_
    exact hkh (x3 + (4 : Int32)) τ6 h
  · have h := ifn c7 h
    refine AW.iconst (v := (0 : Int32)) dL_law_706 (.refl 707) (by decide) ?_
    exact no_some h
set_option maxRecDepth 20000 in
theorem a_L_law_p708 {l : Launch} {G : Gg} {b Ln : Nat} {xs : Nat → Int32} (hG : GOK G) (h9 : G.2.1 999 = b) {kh : Int32 → Mm → Option (Unit)} (hkh : ∀ (x3 : Int32) (σ : Mm), kh x3 σ = some () → LW l G b Ln xs 18 [(0, .ref 999), (1, .ref 0), (2, .ref 46), (3, .int x3)] [] σ) (x3 : Int32) (σ : Mm) (h : f_L_law_p708 xs Ln kh x3 σ = some ()) : LW l G b Ln xs 708 [(0, .ref 999), (1, .ref 0), (2, .ref 46), (3, .int x3)] [] σ := by
  unfold f_L_law_p708 at h
  refine AW.aload_n dL_law_708 (.refl 709) 1 rfl ?_
  refine AW.aload_n dL_law_709 (.refl 710) 0 rfl ?_
  refine AW.iload_n dL_law_710 (.refl 711) 3 rfl ?_
  refine AW.iconst (v := (1 : Int32)) dL_law_711 (.refl 712) (by decide) ?_
  refine AW.iadd dL_law_712 (.refl 713) ?_
  obtain ⟨g1, h⟩ := gd_s h
  refine LW.sld h9 g1 dL_law_713 (.refl 714) ?_
  obtain ⟨r3, τ4, e2, h⟩ := b2_s h
  refine LW.callV (r' := (some (.int r3))) (σ' := τ4) (rest := []) hG lm_L_107 (c_X9_fit e2) (by decide) (by decide) rfl rfl (by decide) rfl rfl (Nat.le_of_ble_eq_true rfl) dL_law_714 (.refl 717) (st' := [.int r3]) rfl ?_
  refine AW.aload_n dL_law_717 (.refl 718) 2 rfl ?_
  refine AW.aload_n dL_law_718 (.refl 719) 0 rfl ?_
  refine AW.iload_n dL_law_719 (.refl 720) 3 rfl ?_
  refine AW.iconst (v := (1 : Int32)) dL_law_720 (.refl 721) (by decide) ?_
  refine AW.iadd dL_law_721 (.refl 722) ?_
  obtain ⟨g5, h⟩ := gd_s h
  refine LW.sld h9 g5 dL_law_722 (.refl 723) ?_
  obtain ⟨r7, τ8, e6, h⟩ := b2_s h
  refine LW.callV (r' := (some (.int r7))) (σ' := τ8) (rest := [.int r3]) hG lm_L_110 (c_X10_fit e6) (by decide) (by decide) rfl rfl (by decide) rfl rfl (Nat.le_of_ble_eq_true rfl) dL_law_723 (.refl 726) (st' := [.int r7, .int r3]) rfl ?_
  refine AW.icmp_eq (tgt := 982) dL_law_726 (by decide) (fun c9 => ?_) (fun c9 => ?_)
  · have h := ifp c9 h
    refine AW.iinc (v := (x3 + (4 : Int32))) (L' := [(3, .int (x3 + (4 : Int32))), (0, .ref 999), (1, .ref 0), (2, .ref 46)]) dL_law_982 (.refl 985) 3 rfl rfl (by decide) rfl ?_
    refine AW.goto (tgt := 18) dL_law_985 (by decide) ?_
    refine AW.sub (L' := [(0, .ref 999), (1, .ref 0), (2, .ref 46), (3, .int (x3 + (4 : Int32)))]) [1, 2, 3, 0] rfl ?_
    exact hkh (x3 + (4 : Int32)) τ8 h
  · have h := ifn c9 h
    refine AW.iconst (v := (0 : Int32)) dL_law_729 (.refl 730) (by decide) ?_
    exact no_some h
set_option maxRecDepth 20000 in
theorem a_L_law_p772 {l : Launch} {G : Gg} {b Ln : Nat} {xs : Nat → Int32} (hG : GOK G) (h9 : G.2.1 999 = b) {kh : Int32 → Mm → Option (Unit)} (hkh : ∀ (x3 : Int32) (σ : Mm), kh x3 σ = some () → LW l G b Ln xs 18 [(0, .ref 999), (1, .ref 0), (2, .ref 46), (3, .int x3)] [] σ) (x3 : Int32) (s0 : Int32) (s1 : Int32) (s3 : Int32) (σ : Mm) (h : f_L_law_p772 xs Ln kh x3 s0 s1 s3 σ = some ()) : LW l G b Ln xs 772 [(0, .ref 999), (1, .ref 0), (2, .ref 46), (3, .int x3)] [.int s0, .int s1, .ref 46, .int s3] σ := by
  unfold f_L_law_p772 at h
  obtain ⟨r2, τ3, e1, h⟩ := b2_s h
  refine LW.callV (r' := (some (.int r2))) (σ' := τ3) (rest := [.int s3]) hG lm_L_115 (c_X10_likely e1) (by decide) (by decide) rfl rfl (by decide) rfl rfl (Nat.le_of_ble_eq_true rfl) dL_law_772 (.refl 775) (st' := [.int r2, .int s3]) rfl ?_
  refine AW.icmp_eq (tgt := 982) dL_law_775 (by decide) (fun c4 => ?_) (fun c4 => ?_)
  · have h := ifp c4 h
    refine AW.iinc (v := (x3 + (4 : Int32))) (L' := [(3, .int (x3 + (4 : Int32))), (0, .ref 999), (1, .ref 0), (2, .ref 46)]) dL_law_982 (.refl 985) 3 rfl rfl (by decide) rfl ?_
    refine AW.goto (tgt := 18) dL_law_985 (by decide) ?_
    refine AW.sub (L' := [(0, .ref 999), (1, .ref 0), (2, .ref 46), (3, .int (x3 + (4 : Int32)))]) [1, 2, 3, 0] rfl ?_
    exact hkh (x3 + (4 : Int32)) τ3 h
  · have h := ifn c4 h
    refine AW.iconst (v := (0 : Int32)) dL_law_778 (.refl 779) (by decide) ?_
    exact no_some h
set_option maxRecDepth 20000 in
theorem a_L_law_p750 {l : Launch} {G : Gg} {b Ln : Nat} {xs : Nat → Int32} (hG : GOK G) (h9 : G.2.1 999 = b) {kh : Int32 → Mm → Option (Unit)} (hkh : ∀ (x3 : Int32) (σ : Mm), kh x3 σ = some () → LW l G b Ln xs 18 [(0, .ref 999), (1, .ref 0), (2, .ref 46), (3, .int x3)] [] σ) (x3 : Int32) (s0 : Int32) (s1 : Int32) (σ : Mm) (h : f_L_law_p750 xs Ln kh x3 s0 s1 σ = some ()) : LW l G b Ln xs 750 [(0, .ref 999), (1, .ref 0), (2, .ref 46), (3, .int x3)] [.int s0, .int s1, .ref 0] σ := by
  unfold f_L_law_p750 at h
  obtain ⟨r2, τ3, e1, h⟩ := b2_s h
  refine LW.callV (r' := (some (.int r2))) (σ' := τ3) (rest := []) hG lm_L_111 (c_X9_likely e1) (by decide) (by decide) rfl rfl (by decide) rfl rfl (Nat.le_of_ble_eq_true rfl) dL_law_750 (.refl 753) (st' := [.int r2]) rfl ?_
  refine AW.aload_n dL_law_753 (.refl 754) 2 rfl ?_
  refine AW.aload_n dL_law_754 (.refl 755) 0 rfl ?_
  refine AW.iload_n dL_law_755 (.refl 756) 3 rfl ?_
  refine AW.iconst (v := (1 : Int32)) dL_law_756 (.refl 757) (by decide) ?_
  refine AW.iadd dL_law_757 (.refl 758) ?_
  obtain ⟨g4, h⟩ := gd_s h
  refine LW.sld h9 g4 dL_law_758 (.refl 759) ?_
  refine AW.aload_n dL_law_759 (.refl 760) 0 rfl ?_
  refine AW.iload_n dL_law_760 (.refl 761) 3 rfl ?_
  refine AW.iconst (v := (2 : Int32)) dL_law_761 (.refl 762) (by decide) ?_
  refine AW.iadd dL_law_762 (.refl 763) ?_
  obtain ⟨g5, h⟩ := gd_s h
  refine LW.sld h9 g5 dL_law_763 (.refl 764) ?_
  refine AW.if_eq (tgt := 771) dL_law_764 (by decide) (fun c6 => ?_) (fun c6 => ?_)
  · have h := ifp c6 h
    refine AW.iconst (v := (0 : Int32)) dL_law_771 (.refl 772) (by decide) ?_
    exact (a_L_law_p772 hG h9 hkh) x3 (0 : Int32) (xs ((x3 + (1 : Int32))).toNatClampNeg) r2 τ3 h
  · have h := ifn c6 h
    refine AW.iconst (v := (1 : Int32)) dL_law_767 (.refl 768) (by decide) ?_
    refine AW.goto (tgt := 772) dL_law_768 (by decide) ?_
    exact (a_L_law_p772 hG h9 hkh) x3 (1 : Int32) (xs ((x3 + (1 : Int32))).toNatClampNeg) r2 τ3 h
set_option maxRecDepth 20000 in
theorem a_L_law_p731 {l : Launch} {G : Gg} {b Ln : Nat} {xs : Nat → Int32} (hG : GOK G) (h9 : G.2.1 999 = b) {kh : Int32 → Mm → Option (Unit)} (hkh : ∀ (x3 : Int32) (σ : Mm), kh x3 σ = some () → LW l G b Ln xs 18 [(0, .ref 999), (1, .ref 0), (2, .ref 46), (3, .int x3)] [] σ) (x3 : Int32) (σ : Mm) (h : f_L_law_p731 xs Ln kh x3 σ = some ()) : LW l G b Ln xs 731 [(0, .ref 999), (1, .ref 0), (2, .ref 46), (3, .int x3)] [] σ := by
  unfold f_L_law_p731 at h
  refine AW.aload_n dL_law_731 (.refl 732) 1 rfl ?_
  refine AW.aload_n dL_law_732 (.refl 733) 0 rfl ?_
  refine AW.iload_n dL_law_733 (.refl 734) 3 rfl ?_
  refine AW.iconst (v := (1 : Int32)) dL_law_734 (.refl 735) (by decide) ?_
  refine AW.iadd dL_law_735 (.refl 736) ?_
  obtain ⟨g1, h⟩ := gd_s h
  refine LW.sld h9 g1 dL_law_736 (.refl 737) ?_
  refine AW.aload_n dL_law_737 (.refl 738) 0 rfl ?_
  refine AW.iload_n dL_law_738 (.refl 739) 3 rfl ?_
  refine AW.iconst (v := (2 : Int32)) dL_law_739 (.refl 740) (by decide) ?_
  refine AW.iadd dL_law_740 (.refl 741) ?_
  obtain ⟨g2, h⟩ := gd_s h
  refine LW.sld h9 g2 dL_law_741 (.refl 742) ?_
  refine AW.if_eq (tgt := 749) dL_law_742 (by decide) (fun c3 => ?_) (fun c3 => ?_)
  · have h := ifp c3 h
    refine AW.iconst (v := (0 : Int32)) dL_law_749 (.refl 750) (by decide) ?_
    exact (a_L_law_p750 hG h9 hkh) x3 (0 : Int32) (xs ((x3 + (1 : Int32))).toNatClampNeg) σ h
  · have h := ifn c3 h
    refine AW.iconst (v := (1 : Int32)) dL_law_745 (.refl 746) (by decide) ?_
    refine AW.goto (tgt := 750) dL_law_746 (by decide) ?_
    exact (a_L_law_p750 hG h9 hkh) x3 (1 : Int32) (xs ((x3 + (1 : Int32))).toNatClampNeg) σ h
set_option maxRecDepth 20000 in
theorem a_L_law_p780 {l : Launch} {G : Gg} {b Ln : Nat} {xs : Nat → Int32} (hG : GOK G) (h9 : G.2.1 999 = b) {kh : Int32 → Mm → Option (Unit)} (hkh : ∀ (x3 : Int32) (σ : Mm), kh x3 σ = some () → LW l G b Ln xs 18 [(0, .ref 999), (1, .ref 0), (2, .ref 46), (3, .int x3)] [] σ) (x3 : Int32) (σ : Mm) (h : f_L_law_p780 xs Ln kh x3 σ = some ()) : LW l G b Ln xs 780 [(0, .ref 999), (1, .ref 0), (2, .ref 46), (3, .int x3)] [] σ := by
  unfold f_L_law_p780 at h
  refine AW.aload_n dL_law_780 (.refl 781) 1 rfl ?_
  obtain ⟨r2, e1, h⟩ := b1_s h
  refine LW.callV (r' := (some (.int r2))) (σ' := σ) (rest := []) hG lm_L_116 (c_X9_unwanted e1) (by decide) (by decide) rfl rfl (by decide) rfl rfl (Nat.le_of_ble_eq_true rfl) dL_law_781 (.refl 784) (st' := [.int r2]) rfl ?_
  refine AW.aload_n dL_law_784 (.refl 785) 2 rfl ?_
  obtain ⟨r4, e3, h⟩ := b1_s h
  refine LW.callV (r' := (some (.int r4))) (σ' := σ) (rest := [.int r2]) hG lm_L_119 (c_X10_unwanted e3) (by decide) (by decide) rfl rfl (by decide) rfl rfl (Nat.le_of_ble_eq_true rfl) dL_law_785 (.refl 788) (st' := [.int r4, .int r2]) rfl ?_
  refine AW.icmp_eq (tgt := 982) dL_law_788 (by decide) (fun c5 => ?_) (fun c5 => ?_)
  · have h := ifp c5 h
    refine AW.iinc (v := (x3 + (4 : Int32))) (L' := [(3, .int (x3 + (4 : Int32))), (0, .ref 999), (1, .ref 0), (2, .ref 46)]) dL_law_982 (.refl 985) 3 rfl rfl (by decide) rfl ?_
    refine AW.goto (tgt := 18) dL_law_985 (by decide) ?_
    refine AW.sub (L' := [(0, .ref 999), (1, .ref 0), (2, .ref 46), (3, .int (x3 + (4 : Int32)))]) [1, 2, 3, 0] rfl ?_
    exact hkh (x3 + (4 : Int32)) σ h
  · have h := ifn c5 h
    refine AW.iconst (v := (0 : Int32)) dL_law_791 (.refl 792) (by decide) ?_
    exact no_some h
set_option maxRecDepth 20000 in
theorem a_L_law_p793 {l : Launch} {G : Gg} {b Ln : Nat} {xs : Nat → Int32} (hG : GOK G) (h9 : G.2.1 999 = b) {kh : Int32 → Mm → Option (Unit)} (hkh : ∀ (x3 : Int32) (σ : Mm), kh x3 σ = some () → LW l G b Ln xs 18 [(0, .ref 999), (1, .ref 0), (2, .ref 46), (3, .int x3)] [] σ) (x3 : Int32) (σ : Mm) (h : f_L_law_p793 xs Ln kh x3 σ = some ()) : LW l G b Ln xs 793 [(0, .ref 999), (1, .ref 0), (2, .ref 46), (3, .int x3)] [] σ := by
  unfold f_L_law_p793 at h
  refine AW.aload_n dL_law_793 (.refl 794) 1 rfl ?_
  refine AW.aload_n dL_law_794 (.refl 795) 0 rfl ?_
  refine AW.iload_n dL_law_795 (.refl 796) 3 rfl ?_
  refine AW.iconst (v := (1 : Int32)) dL_law_796 (.refl 797) (by decide) ?_
  refine AW.iadd dL_law_797 (.refl 798) ?_
  obtain ⟨g1, h⟩ := gd_s h
  refine LW.sld h9 g1 dL_law_798 (.refl 799) ?_
  refine AW.aload_n dL_law_799 (.refl 800) 0 rfl ?_
  refine AW.iload_n dL_law_800 (.refl 801) 3 rfl ?_
  refine AW.iconst (v := (2 : Int32)) dL_law_801 (.refl 802) (by decide) ?_
  refine AW.iadd dL_law_802 (.refl 803) ?_
  obtain ⟨g2, h⟩ := gd_s h
  refine LW.sld h9 g2 dL_law_803 (.refl 804) ?_
  refine AW.aload_n dL_law_804 (.refl 805) 0 rfl ?_
  refine AW.iload_n dL_law_805 (.refl 806) 3 rfl ?_
  refine AW.iconst (v := (3 : Int32)) dL_law_806 (.refl 807) (by decide) ?_
  refine AW.iadd dL_law_807 (.refl 808) ?_
  obtain ⟨g3, h⟩ := gd_s h
  refine LW.sld h9 g3 dL_law_808 (.refl 809) ?_
  obtain ⟨r5, e4, h⟩ := b1_s h
  refine LW.callV (r' := (some (.int r5))) (σ' := σ) (rest := []) hG lm_L_120 (c_X9_sealed e4) (by decide) (by decide) rfl rfl (by decide) rfl rfl (Nat.le_of_ble_eq_true rfl) dL_law_809 (.refl 812) (st' := [.int r5]) rfl ?_
  refine AW.aload_n dL_law_812 (.refl 813) 2 rfl ?_
  refine AW.aload_n dL_law_813 (.refl 814) 0 rfl ?_
  refine AW.iload_n dL_law_814 (.refl 815) 3 rfl ?_
  refine AW.iconst (v := (1 : Int32)) dL_law_815 (.refl 816) (by decide) ?_
  refine AW.iadd dL_law_816 (.refl 817) ?_
  obtain ⟨g6, h⟩ := gd_s h
  refine LW.sld h9 g6 dL_law_817 (.refl 818) ?_
  refine AW.aload_n dL_law_818 (.refl 819) 0 rfl ?_
  refine AW.iload_n dL_law_819 (.refl 820) 3 rfl ?_
  refine AW.iconst (v := (2 : Int32)) dL_law_820 (.refl 821) (by decide) ?_
  refine AW.iadd dL_law_821 (.refl 822) ?_
  obtain ⟨g7, h⟩ := gd_s h
  refine LW.sld h9 g7 dL_law_822 (.refl 823) ?_
  refine AW.aload_n dL_law_823 (.refl 824) 0 rfl ?_
  refine AW.iload_n dL_law_824 (.refl 825) 3 rfl ?_
  refine AW.iconst (v := (3 : Int32)) dL_law_825 (.refl 826) (by decide) ?_
  refine AW.iadd dL_law_826 (.refl 827) ?_
  obtain ⟨g8, h⟩ := gd_s h
  refine LW.sld h9 g8 dL_law_827 (.refl 828) ?_
  obtain ⟨r10, e9, h⟩ := b1_s h
  refine LW.callV (r' := (some (.int r10))) (σ' := σ) (rest := [.int r5]) hG lm_L_124 (c_X10_sealed e9) (by decide) (by decide) rfl rfl (by decide) rfl rfl (Nat.le_of_ble_eq_true rfl) dL_law_828 (.refl 831) (st' := [.int r10, .int r5]) rfl ?_
  refine AW.icmp_eq (tgt := 982) dL_law_831 (by decide) (fun c11 => ?_) (fun c11 => ?_)
  · have h := ifp c11 h
    refine AW.iinc (v := (x3 + (4 : Int32))) (L' := [(3, .int (x3 + (4 : Int32))), (0, .ref 999), (1, .ref 0), (2, .ref 46)]) dL_law_982 (.refl 985) 3 rfl rfl (by decide) rfl ?_
    refine AW.goto (tgt := 18) dL_law_985 (by decide) ?_
    refine AW.sub (L' := [(0, .ref 999), (1, .ref 0), (2, .ref 46), (3, .int (x3 + (4 : Int32)))]) [1, 2, 3, 0] rfl ?_
    exact hkh (x3 + (4 : Int32)) σ h
  · have h := ifn c11 h
    refine AW.iconst (v := (0 : Int32)) dL_law_834 (.refl 835) (by decide) ?_
    exact no_some h
set_option maxRecDepth 20000 in
theorem a_L_law_p836 {l : Launch} {G : Gg} {b Ln : Nat} {xs : Nat → Int32} (hG : GOK G) (h9 : G.2.1 999 = b) {kh : Int32 → Mm → Option (Unit)} (hkh : ∀ (x3 : Int32) (σ : Mm), kh x3 σ = some () → LW l G b Ln xs 18 [(0, .ref 999), (1, .ref 0), (2, .ref 46), (3, .int x3)] [] σ) (x3 : Int32) (σ : Mm) (h : f_L_law_p836 xs Ln kh x3 σ = some ()) : LW l G b Ln xs 836 [(0, .ref 999), (1, .ref 0), (2, .ref 46), (3, .int x3)] [] σ := by
  unfold f_L_law_p836 at h
  refine AW.aload_n dL_law_836 (.refl 837) 1 rfl ?_
  refine AW.aload_n dL_law_837 (.refl 838) 0 rfl ?_
  refine AW.iload_n dL_law_838 (.refl 839) 3 rfl ?_
  refine AW.iconst (v := (1 : Int32)) dL_law_839 (.refl 840) (by decide) ?_
  refine AW.iadd dL_law_840 (.refl 841) ?_
  obtain ⟨g1, h⟩ := gd_s h
  refine LW.sld h9 g1 dL_law_841 (.refl 842) ?_
  refine AW.i2l dL_law_842 (.refl 843) ?_
  refine AW.bipush (v := (32 : Int32)) dL_law_843 (.refl 845) (by decide) ?_
  refine AW.lshl dL_law_845 (.refl 846) ?_
  refine AW.aload_n dL_law_846 (.refl 847) 0 rfl ?_
  refine AW.iload_n dL_law_847 (.refl 848) 3 rfl ?_
  refine AW.iconst (v := (2 : Int32)) dL_law_848 (.refl 849) (by decide) ?_
  refine AW.iadd dL_law_849 (.refl 850) ?_
  obtain ⟨g2, h⟩ := gd_s h
  refine LW.sld h9 g2 dL_law_850 (.refl 851) ?_
  refine AW.i2l dL_law_851 (.refl 852) ?_
  refine AW.ldc2_w lc_L_92 dL_law_852 (.refl 855) ?_
  refine AW.land dL_law_855 (.refl 856) ?_
  refine AW.lor dL_law_856 (.refl 857) ?_
  obtain ⟨r4, τ5, e3, h⟩ := b2_s h
  refine LW.callV (r' := (some (.long r4))) (σ' := τ5) (rest := []) hG lm_L_125 (c_X9_seed e3) (by decide) (by decide) rfl rfl (by decide) rfl rfl (Nat.le_of_ble_eq_true rfl) dL_law_857 (.refl 860) (st' := [.long r4]) rfl ?_
  refine AW.aload_n dL_law_860 (.refl 861) 2 rfl ?_
  refine AW.aload_n dL_law_861 (.refl 862) 0 rfl ?_
  refine AW.iload_n dL_law_862 (.refl 863) 3 rfl ?_
  refine AW.iconst (v := (1 : Int32)) dL_law_863 (.refl 864) (by decide) ?_
  refine AW.iadd dL_law_864 (.refl 865) ?_
  obtain ⟨g6, h⟩ := gd_s h
  refine LW.sld h9 g6 dL_law_865 (.refl 866) ?_
  refine AW.i2l dL_law_866 (.refl 867) ?_
  refine AW.bipush (v := (32 : Int32)) dL_law_867 (.refl 869) (by decide) ?_
  refine AW.lshl dL_law_869 (.refl 870) ?_
  refine AW.aload_n dL_law_870 (.refl 871) 0 rfl ?_
  refine AW.iload_n dL_law_871 (.refl 872) 3 rfl ?_
  refine AW.iconst (v := (2 : Int32)) dL_law_872 (.refl 873) (by decide) ?_
  refine AW.iadd dL_law_873 (.refl 874) ?_
  obtain ⟨g7, h⟩ := gd_s h
  refine LW.sld h9 g7 dL_law_874 (.refl 875) ?_
  refine AW.i2l dL_law_875 (.refl 876) ?_
  refine AW.ldc2_w lc_L_92 dL_law_876 (.refl 879) ?_
  refine AW.land dL_law_879 (.refl 880) ?_
  refine AW.lor dL_law_880 (.refl 881) ?_
  obtain ⟨r9, τ10, e8, h⟩ := b2_s h
  refine LW.callV (r' := (some (.long r9))) (σ' := τ10) (rest := [.long r4]) hG lm_L_129 (c_X10_seed e8) (by decide) (by decide) rfl rfl (by decide) rfl rfl (Nat.le_of_ble_eq_true rfl) dL_law_881 (.refl 884) (st' := [.long r9, .long r4]) rfl ?_
  refine AW.lcmp dL_law_884 (.refl 885) ?_
  refine AW.if_eq (tgt := 982) dL_law_885 (by decide) (fun c11 => ?_) (fun c11 => ?_)
  · have h := ifp c11 h
    refine AW.iinc (v := (x3 + (4 : Int32))) (L' := [(3, .int (x3 + (4 : Int32))), (0, .ref 999), (1, .ref 0), (2, .ref 46)]) dL_law_982 (.refl 985) 3 rfl rfl (by decide) rfl ?_
    refine AW.goto (tgt := 18) dL_law_985 (by decide) ?_
    refine AW.sub (L' := [(0, .ref 999), (1, .ref 0), (2, .ref 46), (3, .int (x3 + (4 : Int32)))]) [1, 2, 3, 0] rfl ?_
    exact hkh (x3 + (4 : Int32)) τ10 h
  · have h := ifn c11 h
    refine AW.iconst (v := (0 : Int32)) dL_law_888 (.refl 889) (by decide) ?_
    exact no_some h
set_option maxRecDepth 20000 in
theorem a_L_law_p890 {l : Launch} {G : Gg} {b Ln : Nat} {xs : Nat → Int32} (hG : GOK G) (h9 : G.2.1 999 = b) {kh : Int32 → Mm → Option (Unit)} (hkh : ∀ (x3 : Int32) (σ : Mm), kh x3 σ = some () → LW l G b Ln xs 18 [(0, .ref 999), (1, .ref 0), (2, .ref 46), (3, .int x3)] [] σ) (x3 : Int32) (σ : Mm) (h : f_L_law_p890 xs Ln kh x3 σ = some ()) : LW l G b Ln xs 890 [(0, .ref 999), (1, .ref 0), (2, .ref 46), (3, .int x3)] [] σ := by
  unfold f_L_law_p890 at h
  refine AW.aload_n dL_law_890 (.refl 891) 1 rfl ?_
  refine AW.aload_n dL_law_891 (.refl 892) 0 rfl ?_
  refine AW.iload_n dL_law_892 (.refl 893) 3 rfl ?_
  refine AW.iconst (v := (1 : Int32)) dL_law_893 (.refl 894) (by decide) ?_
  refine AW.iadd dL_law_894 (.refl 895) ?_
  obtain ⟨g1, h⟩ := gd_s h
  refine LW.sld h9 g1 dL_law_895 (.refl 896) ?_
  obtain ⟨r3, τ4, e2, h⟩ := b2_s h
  refine LW.callV (r' := (some (.int r3))) (σ' := τ4) (rest := []) hG lm_L_130 (c_X9_day e2) (by decide) (by decide) rfl rfl (by decide) rfl rfl (Nat.le_of_ble_eq_true rfl) dL_law_896 (.refl 899) (st' := [.int r3]) rfl ?_
  refine AW.aload_n dL_law_899 (.refl 900) 2 rfl ?_
  refine AW.aload_n dL_law_900 (.refl 901) 0 rfl ?_
  refine AW.iload_n dL_law_901 (.refl 902) 3 rfl ?_
  refine AW.iconst (v := (1 : Int32)) dL_law_902 (.refl 903) (by decide) ?_
  refine AW.iadd dL_law_903 (.refl 904) ?_
  obtain ⟨g5, h⟩ := gd_s h
  refine LW.sld h9 g5 dL_law_904 (.refl 905) ?_
  obtain ⟨r7, τ8, e6, h⟩ := b2_s h
  refine LW.callV (r' := (some (.int r7))) (σ' := τ8) (rest := [.int r3]) hG lm_L_133 (c_X10_day e6) (by decide) (by decide) rfl rfl (by decide) rfl rfl (Nat.le_of_ble_eq_true rfl) dL_law_905 (.refl 908) (st' := [.int r7, .int r3]) rfl ?_
  refine AW.icmp_eq (tgt := 982) dL_law_908 (by decide) (fun c9 => ?_) (fun c9 => ?_)
  · have h := ifp c9 h
    refine AW.iinc (v := (x3 + (4 : Int32))) (L' := [(3, .int (x3 + (4 : Int32))), (0, .ref 999), (1, .ref 0), (2, .ref 46)]) dL_law_982 (.refl 985) 3 rfl rfl (by decide) rfl ?_
    refine AW.goto (tgt := 18) dL_law_985 (by decide) ?_
    refine AW.sub (L' := [(0, .ref 999), (1, .ref 0), (2, .ref 46), (3, .int (x3 + (4 : Int32)))]) [1, 2, 3, 0] rfl ?_
    exact hkh (x3 + (4 : Int32)) τ8 h
  · have h := ifn c9 h
    refine AW.iconst (v := (0 : Int32)) dL_law_911 (.refl 912) (by decide) ?_
    exact no_some h
set_option maxRecDepth 20000 in
theorem a_L_law_p913 {l : Launch} {G : Gg} {b Ln : Nat} {xs : Nat → Int32} (hG : GOK G) (h9 : G.2.1 999 = b) {kh : Int32 → Mm → Option (Unit)} (hkh : ∀ (x3 : Int32) (σ : Mm), kh x3 σ = some () → LW l G b Ln xs 18 [(0, .ref 999), (1, .ref 0), (2, .ref 46), (3, .int x3)] [] σ) (x3 : Int32) (σ : Mm) (h : f_L_law_p913 xs Ln kh x3 σ = some ()) : LW l G b Ln xs 913 [(0, .ref 999), (1, .ref 0), (2, .ref 46), (3, .int x3)] [] σ := by
  unfold f_L_law_p913 at h
  refine AW.aload_n dL_law_913 (.refl 914) 1 rfl ?_
  refine AW.aload_n dL_law_914 (.refl 915) 0 rfl ?_
  refine AW.iload_n dL_law_915 (.refl 916) 3 rfl ?_
  refine AW.iconst (v := (1 : Int32)) dL_law_916 (.refl 917) (by decide) ?_
  refine AW.iadd dL_law_917 (.refl 918) ?_
  obtain ⟨g1, h⟩ := gd_s h
  refine LW.sld h9 g1 dL_law_918 (.refl 919) ?_
  obtain ⟨r3, τ4, e2, h⟩ := b2_s h
  refine LW.callV (r' := (some (.int r3))) (σ' := τ4) (rest := []) hG lm_L_134 (c_X9_keep e2) (by decide) (by decide) rfl rfl (by decide) rfl rfl (Nat.le_of_ble_eq_true rfl) dL_law_919 (.refl 922) (st' := [.int r3]) rfl ?_
  refine AW.aload_n dL_law_922 (.refl 923) 2 rfl ?_
  refine AW.aload_n dL_law_923 (.refl 924) 0 rfl ?_
  refine AW.iload_n dL_law_924 (.refl 925) 3 rfl ?_
  refine AW.iconst (v := (1 : Int32)) dL_law_925 (.refl 926) (by decide) ?_
  refine AW.iadd dL_law_926 (.refl 927) ?_
  obtain ⟨g5, h⟩ := gd_s h
  refine LW.sld h9 g5 dL_law_927 (.refl 928) ?_
  obtain ⟨r7, τ8, e6, h⟩ := b2_s h
  refine LW.callV (r' := (some (.int r7))) (σ' := τ8) (rest := [.int r3]) hG lm_L_137 (c_X10_keep e6) (by decide) (by decide) rfl rfl (by decide) rfl rfl (Nat.le_of_ble_eq_true rfl) dL_law_928 (.refl 931) (st' := [.int r7, .int r3]) rfl ?_
  refine AW.icmp_eq (tgt := 982) dL_law_931 (by decide) (fun c9 => ?_) (fun c9 => ?_)
  · have h := ifp c9 h
    refine AW.iinc (v := (x3 + (4 : Int32))) (L' := [(3, .int (x3 + (4 : Int32))), (0, .ref 999), (1, .ref 0), (2, .ref 46)]) dL_law_982 (.refl 985) 3 rfl rfl (by decide) rfl ?_
    refine AW.goto (tgt := 18) dL_law_985 (by decide) ?_
    refine AW.sub (L' := [(0, .ref 999), (1, .ref 0), (2, .ref 46), (3, .int (x3 + (4 : Int32)))]) [1, 2, 3, 0] rfl ?_
    exact hkh (x3 + (4 : Int32)) τ8 h
  · have h := ifn c9 h
    refine AW.iconst (v := (0 : Int32)) dL_law_934 (.refl 935) (by decide) ?_
    exact no_some h
set_option maxRecDepth 20000 in
theorem a_L_law_p936 {l : Launch} {G : Gg} {b Ln : Nat} {xs : Nat → Int32} (hG : GOK G) (h9 : G.2.1 999 = b) {kh : Int32 → Mm → Option (Unit)} (hkh : ∀ (x3 : Int32) (σ : Mm), kh x3 σ = some () → LW l G b Ln xs 18 [(0, .ref 999), (1, .ref 0), (2, .ref 46), (3, .int x3)] [] σ) (x3 : Int32) (σ : Mm) (h : f_L_law_p936 xs Ln kh x3 σ = some ()) : LW l G b Ln xs 936 [(0, .ref 999), (1, .ref 0), (2, .ref 46), (3, .int x3)] [] σ := by
  unfold f_L_law_p936 at h
  refine AW.aload_n dL_law_936 (.refl 937) 1 rfl ?_
  refine AW.aload_n dL_law_937 (.refl 938) 0 rfl ?_
  refine AW.iload_n dL_law_938 (.refl 939) 3 rfl ?_
  refine AW.iconst (v := (1 : Int32)) dL_law_939 (.refl 940) (by decide) ?_
  refine AW.iadd dL_law_940 (.refl 941) ?_
  obtain ⟨g1, h⟩ := gd_s h
  refine LW.sld h9 g1 dL_law_941 (.refl 942) ?_
  obtain ⟨r3, τ4, e2, h⟩ := b2_s h
  refine LW.callV (r' := (some (.int r3))) (σ' := τ4) (rest := []) hG lm_L_138 (c_X9_again e2) (by decide) (by decide) rfl rfl (by decide) rfl rfl (Nat.le_of_ble_eq_true rfl) dL_law_942 (.refl 945) (st' := [.int r3]) rfl ?_
  refine AW.aload_n dL_law_945 (.refl 946) 2 rfl ?_
  refine AW.aload_n dL_law_946 (.refl 947) 0 rfl ?_
  refine AW.iload_n dL_law_947 (.refl 948) 3 rfl ?_
  refine AW.iconst (v := (1 : Int32)) dL_law_948 (.refl 949) (by decide) ?_
  refine AW.iadd dL_law_949 (.refl 950) ?_
  obtain ⟨g5, h⟩ := gd_s h
  refine LW.sld h9 g5 dL_law_950 (.refl 951) ?_
  obtain ⟨r7, τ8, e6, h⟩ := b2_s h
  refine LW.callV (r' := (some (.int r7))) (σ' := τ8) (rest := [.int r3]) hG lm_L_141 (c_X10_again e6) (by decide) (by decide) rfl rfl (by decide) rfl rfl (Nat.le_of_ble_eq_true rfl) dL_law_951 (.refl 954) (st' := [.int r7, .int r3]) rfl ?_
  refine AW.icmp_eq (tgt := 982) dL_law_954 (by decide) (fun c9 => ?_) (fun c9 => ?_)
  · have h := ifp c9 h
    refine AW.iinc (v := (x3 + (4 : Int32))) (L' := [(3, .int (x3 + (4 : Int32))), (0, .ref 999), (1, .ref 0), (2, .ref 46)]) dL_law_982 (.refl 985) 3 rfl rfl (by decide) rfl ?_
    refine AW.goto (tgt := 18) dL_law_985 (by decide) ?_
    refine AW.sub (L' := [(0, .ref 999), (1, .ref 0), (2, .ref 46), (3, .int (x3 + (4 : Int32)))]) [1, 2, 3, 0] rfl ?_
    exact hkh (x3 + (4 : Int32)) τ8 h
  · have h := ifn c9 h
    refine AW.iconst (v := (0 : Int32)) dL_law_957 (.refl 958) (by decide) ?_
    exact no_some h
set_option maxRecDepth 20000 in
theorem a_L_law_p959 {l : Launch} {G : Gg} {b Ln : Nat} {xs : Nat → Int32} (hG : GOK G) (h9 : G.2.1 999 = b) {kh : Int32 → Mm → Option (Unit)} (hkh : ∀ (x3 : Int32) (σ : Mm), kh x3 σ = some () → LW l G b Ln xs 18 [(0, .ref 999), (1, .ref 0), (2, .ref 46), (3, .int x3)] [] σ) (x3 : Int32) (σ : Mm) (h : f_L_law_p959 xs Ln kh x3 σ = some ()) : LW l G b Ln xs 959 [(0, .ref 999), (1, .ref 0), (2, .ref 46), (3, .int x3)] [] σ := by
  unfold f_L_law_p959 at h
  refine AW.aload_n dL_law_959 (.refl 960) 1 rfl ?_
  refine AW.aload_n dL_law_960 (.refl 961) 0 rfl ?_
  refine AW.iload_n dL_law_961 (.refl 962) 3 rfl ?_
  refine AW.iconst (v := (1 : Int32)) dL_law_962 (.refl 963) (by decide) ?_
  refine AW.iadd dL_law_963 (.refl 964) ?_
  obtain ⟨g1, h⟩ := gd_s h
  refine LW.sld h9 g1 dL_law_964 (.refl 965) ?_
  obtain ⟨r3, e2, h⟩ := b1_s h
  refine LW.callV (r' := (some (.int r3))) (σ' := σ) (rest := []) hG lm_L_142 (c_X9_count e2) (by decide) (by decide) rfl rfl (by decide) rfl rfl (Nat.le_of_ble_eq_true rfl) dL_law_965 (.refl 968) (st' := [.int r3]) rfl ?_
  refine AW.aload_n dL_law_968 (.refl 969) 2 rfl ?_
  refine AW.aload_n dL_law_969 (.refl 970) 0 rfl ?_
  refine AW.iload_n dL_law_970 (.refl 971) 3 rfl ?_
  refine AW.iconst (v := (1 : Int32)) dL_law_971 (.refl 972) (by decide) ?_
  refine AW.iadd dL_law_972 (.refl 973) ?_
  obtain ⟨g4, h⟩ := gd_s h
  refine LW.sld h9 g4 dL_law_973 (.refl 974) ?_
  obtain ⟨r6, e5, h⟩ := b1_s h
  refine LW.callV (r' := (some (.int r6))) (σ' := σ) (rest := [.int r3]) hG lm_L_145 (c_X10_count e5) (by decide) (by decide) rfl rfl (by decide) rfl rfl (Nat.le_of_ble_eq_true rfl) dL_law_974 (.refl 977) (st' := [.int r6, .int r3]) rfl ?_
  refine AW.icmp_eq (tgt := 982) dL_law_977 (by decide) (fun c7 => ?_) (fun c7 => ?_)
  · have h := ifp c7 h
    refine AW.iinc (v := (x3 + (4 : Int32))) (L' := [(3, .int (x3 + (4 : Int32))), (0, .ref 999), (1, .ref 0), (2, .ref 46)]) dL_law_982 (.refl 985) 3 rfl rfl (by decide) rfl ?_
    refine AW.goto (tgt := 18) dL_law_985 (by decide) ?_
    refine AW.sub (L' := [(0, .ref 999), (1, .ref 0), (2, .ref 46), (3, .int (x3 + (4 : Int32)))]) [1, 2, 3, 0] rfl ?_
    exact hkh (x3 + (4 : Int32)) σ h
  · have h := ifn c7 h
    refine AW.iconst (v := (0 : Int32)) dL_law_980 (.refl 981) (by decide) ?_
    exact no_some h
set_option maxRecDepth 20000 in
theorem a_L_law_p18 {l : Launch} {G : Gg} {b Ln : Nat} {xs : Nat → Int32} (hG : GOK G) (h9 : G.2.1 999 = b) : ∀ (n : Nat) (x3 : Int32) (σ : Mm), f_L_law_p18 xs Ln n x3 σ = some () → LW l G b Ln xs 18 [(0, .ref 999), (1, .ref 0), (2, .ref 46), (3, .int x3)] [] σ := by
  intro n
  induction n with
  | zero => intro x3 σ h; exact no_some h
  | succ n ih =>
    intro x3 σ h
    rw [f_L_law_p18] at h
    refine AW.iload_n dL_law_18 (.refl 19) 3 rfl ?_
    refine AW.aload_n dL_law_19 (.refl 20) 0 rfl ?_
    refine LW.slen h9 dL_law_20 (.refl 21) ?_
    refine AW.iconst (v := (4 : Int32)) dL_law_21 (.refl 22) (by decide) ?_
    refine AW.isub dL_law_22 (.refl 23) ?_
    refine AW.icmp_gt (tgt := 988) dL_law_23 (by decide) (fun c33 => ?_) (fun c33 => ?_)
    · have h := ifp c33 h
      refine AW.iconst (v := (1 : Int32)) dL_law_988 (.refl 989) (by decide) ?_
      exact LW.ret1 h9 dL_law_989
    · have h := ifn c33 h
      refine AW.aload_n dL_law_26 (.refl 27) 0 rfl ?_
      refine AW.iload_n dL_law_27 (.refl 28) 3 rfl ?_
      obtain ⟨g1, h⟩ := gd_s h
      refine LW.sld h9 g1 dL_law_28 (.refl 29) ?_
      refine AW.bipush (v := (31 : Int32)) dL_law_29 (.refl 31) (by decide) ?_
      refine AW.iand dL_law_31 (.refl 32) ?_
      by_cases c2 : ((xs (x3).toNatClampNeg) &&& (31 : Int32)) = (0 : Int32)
      · have h := ifp c2 h
        refine AW.tabIn (v := (0 : Int32)) (off := 140) (tgt := 172) dL_law_32 c2 (by decide) (by decide) (by decide) (by decide) ?_
        exact (a_L_law_p172 hG h9 ih) x3 σ h
      have h := ifn c2 h
      by_cases c3 : ((xs (x3).toNatClampNeg) &&& (31 : Int32)) = (1 : Int32)
      · have h := ifp c3 h
        refine AW.tabIn (v := (1 : Int32)) (off := 163) (tgt := 195) dL_law_32 c3 (by decide) (by decide) (by decide) (by decide) ?_
        exact (a_L_law_p195 hG h9 ih) x3 σ h
      have h := ifn c3 h
      by_cases c4 : ((xs (x3).toNatClampNeg) &&& (31 : Int32)) = (2 : Int32)
      · have h := ifp c4 h
        refine AW.tabIn (v := (2 : Int32)) (off := 176) (tgt := 208) dL_law_32 c4 (by decide) (by decide) (by decide) (by decide) ?_
        exact (a_L_law_p208 hG h9 ih) x3 σ h
      have h := ifn c4 h
      by_cases c5 : ((xs (x3).toNatClampNeg) &&& (31 : Int32)) = (3 : Int32)
      · have h := ifp c5 h
        refine AW.tabIn (v := (3 : Int32)) (off := 189) (tgt := 221) dL_law_32 c5 (by decide) (by decide) (by decide) (by decide) ?_
        exact (a_L_law_p221 hG h9 ih) x3 σ h
      have h := ifn c5 h
      by_cases c6 : ((xs (x3).toNatClampNeg) &&& (31 : Int32)) = (4 : Int32)
      · have h := ifp c6 h
        refine AW.tabIn (v := (4 : Int32)) (off := 202) (tgt := 234) dL_law_32 c6 (by decide) (by decide) (by decide) (by decide) ?_
        exact (a_L_law_p234 hG h9 ih) x3 σ h
      have h := ifn c6 h
      by_cases c7 : ((xs (x3).toNatClampNeg) &&& (31 : Int32)) = (5 : Int32)
      · have h := ifp c7 h
        refine AW.tabIn (v := (5 : Int32)) (off := 235) (tgt := 267) dL_law_32 c7 (by decide) (by decide) (by decide) (by decide) ?_
        exact (a_L_law_p267 hG h9 ih) x3 σ h
      have h := ifn c7 h
      by_cases c8 : ((xs (x3).toNatClampNeg) &&& (31 : Int32)) = (6 : Int32)
      · have h := ifp c8 h
        refine AW.tabIn (v := (6 : Int32)) (off := 268) (tgt := 300) dL_law_32 c8 (by decide) (by decide) (by decide) (by decide) ?_
        exact (a_L_law_p300 hG h9 ih) x3 σ h
      have h := ifn c8 h
      by_cases c9 : ((xs (x3).toNatClampNeg) &&& (31 : Int32)) = (7 : Int32)
      · have h := ifp c9 h
        refine AW.tabIn (v := (7 : Int32)) (off := 291) (tgt := 323) dL_law_32 c9 (by decide) (by decide) (by decide) (by decide) ?_
        exact (a_L_law_p323 hG h9 ih) x3 σ h
      have h := ifn c9 h
      by_cases c10 : ((xs (x3).toNatClampNeg) &&& (31 : Int32)) = (8 : Int32)
      · have h := ifp c10 h
        refine AW.tabIn (v := (8 : Int32)) (off := 324) (tgt := 356) dL_law_32 c10 (by decide) (by decide) (by decide) (by decide) ?_
        exact (a_L_law_p356 hG h9 ih) x3 σ h
      have h := ifn c10 h
      by_cases c11 : ((xs (x3).toNatClampNeg) &&& (31 : Int32)) = (9 : Int32)
      · have h := ifp c11 h
        refine AW.tabIn (v := (9 : Int32)) (off := 357) (tgt := 389) dL_law_32 c11 (by decide) (by decide) (by decide) (by decide) ?_
        exact (a_L_law_p389 hG h9 ih) x3 σ h
      have h := ifn c11 h
      by_cases c12 : ((xs (x3).toNatClampNeg) &&& (31 : Int32)) = (10 : Int32)
      · have h := ifp c12 h
        refine AW.tabIn (v := (10 : Int32)) (off := 380) (tgt := 412) dL_law_32 c12 (by decide) (by decide) (by decide) (by decide) ?_
        exact (a_L_law_p412 hG h9 ih) x3 σ h
      have h := ifn c12 h
      by_cases c13 : ((xs (x3).toNatClampNeg) &&& (31 : Int32)) = (11 : Int32)
      · have h := ifp c13 h
        refine AW.tabIn (v := (11 : Int32)) (off := 413) (tgt := 445) dL_law_32 c13 (by decide) (by decide) (by decide) (by decide) ?_
        exact (a_L_law_p445 hG h9 ih) x3 σ h
      have h := ifn c13 h
      by_cases c14 : ((xs (x3).toNatClampNeg) &&& (31 : Int32)) = (12 : Int32)
      · have h := ifp c14 h
        refine AW.tabIn (v := (12 : Int32)) (off := 426) (tgt := 458) dL_law_32 c14 (by decide) (by decide) (by decide) (by decide) ?_
        exact (a_L_law_p458 hG h9 ih) x3 σ h
      have h := ifn c14 h
      by_cases c15 : ((xs (x3).toNatClampNeg) &&& (31 : Int32)) = (13 : Int32)
      · have h := ifp c15 h
        refine AW.tabIn (v := (13 : Int32)) (off := 449) (tgt := 481) dL_law_32 c15 (by decide) (by decide) (by decide) (by decide) ?_
        exact (a_L_law_p481 hG h9 ih) x3 σ h
      have h := ifn c15 h
      by_cases c16 : ((xs (x3).toNatClampNeg) &&& (31 : Int32)) = (14 : Int32)
      · have h := ifp c16 h
        refine AW.tabIn (v := (14 : Int32)) (off := 472) (tgt := 504) dL_law_32 c16 (by decide) (by decide) (by decide) (by decide) ?_
        exact (a_L_law_p504 hG h9 ih) x3 σ h
      have h := ifn c16 h
      by_cases c17 : ((xs (x3).toNatClampNeg) &&& (31 : Int32)) = (15 : Int32)
      · have h := ifp c17 h
        refine AW.tabIn (v := (15 : Int32)) (off := 485) (tgt := 517) dL_law_32 c17 (by decide) (by decide) (by decide) (by decide) ?_
        exact (a_L_law_p517 hG h9 ih) x3 σ h
      have h := ifn c17 h
      by_cases c18 : ((xs (x3).toNatClampNeg) &&& (31 : Int32)) = (16 : Int32)
      · have h := ifp c18 h
        refine AW.tabIn (v := (16 : Int32)) (off := 508) (tgt := 540) dL_law_32 c18 (by decide) (by decide) (by decide) (by decide) ?_
        exact (a_L_law_p540 hG h9 ih) x3 σ h
      have h := ifn c18 h
      by_cases c19 : ((xs (x3).toNatClampNeg) &&& (31 : Int32)) = (17 : Int32)
      · have h := ifp c19 h
        refine AW.tabIn (v := (17 : Int32)) (off := 521) (tgt := 553) dL_law_32 c19 (by decide) (by decide) (by decide) (by decide) ?_
        exact (a_L_law_p553 hG h9 ih) x3 σ h
      have h := ifn c19 h
      by_cases c20 : ((xs (x3).toNatClampNeg) &&& (31 : Int32)) = (18 : Int32)
      · have h := ifp c20 h
        refine AW.tabIn (v := (18 : Int32)) (off := 554) (tgt := 586) dL_law_32 c20 (by decide) (by decide) (by decide) (by decide) ?_
        exact (a_L_law_p586 hG h9 ih) x3 σ h
      have h := ifn c20 h
      by_cases c21 : ((xs (x3).toNatClampNeg) &&& (31 : Int32)) = (19 : Int32)
      · have h := ifp c21 h
        refine AW.tabIn (v := (19 : Int32)) (off := 567) (tgt := 599) dL_law_32 c21 (by decide) (by decide) (by decide) (by decide) ?_
        exact (a_L_law_p599 hG h9 ih) x3 σ h
      have h := ifn c21 h
      by_cases c22 : ((xs (x3).toNatClampNeg) &&& (31 : Int32)) = (20 : Int32)
      · have h := ifp c22 h
        refine AW.tabIn (v := (20 : Int32)) (off := 630) (tgt := 662) dL_law_32 c22 (by decide) (by decide) (by decide) (by decide) ?_
        exact (a_L_law_p662 hG h9 ih) x3 σ h
      have h := ifn c22 h
      by_cases c23 : ((xs (x3).toNatClampNeg) &&& (31 : Int32)) = (21 : Int32)
      · have h := ifp c23 h
        refine AW.tabIn (v := (21 : Int32)) (off := 663) (tgt := 695) dL_law_32 c23 (by decide) (by decide) (by decide) (by decide) ?_
        exact (a_L_law_p695 hG h9 ih) x3 σ h
      have h := ifn c23 h
      by_cases c24 : ((xs (x3).toNatClampNeg) &&& (31 : Int32)) = (22 : Int32)
      · have h := ifp c24 h
        refine AW.tabIn (v := (22 : Int32)) (off := 676) (tgt := 708) dL_law_32 c24 (by decide) (by decide) (by decide) (by decide) ?_
        exact (a_L_law_p708 hG h9 ih) x3 σ h
      have h := ifn c24 h
      by_cases c25 : ((xs (x3).toNatClampNeg) &&& (31 : Int32)) = (23 : Int32)
      · have h := ifp c25 h
        refine AW.tabIn (v := (23 : Int32)) (off := 699) (tgt := 731) dL_law_32 c25 (by decide) (by decide) (by decide) (by decide) ?_
        exact (a_L_law_p731 hG h9 ih) x3 σ h
      have h := ifn c25 h
      by_cases c26 : ((xs (x3).toNatClampNeg) &&& (31 : Int32)) = (24 : Int32)
      · have h := ifp c26 h
        refine AW.tabIn (v := (24 : Int32)) (off := 748) (tgt := 780) dL_law_32 c26 (by decide) (by decide) (by decide) (by decide) ?_
        exact (a_L_law_p780 hG h9 ih) x3 σ h
      have h := ifn c26 h
      by_cases c27 : ((xs (x3).toNatClampNeg) &&& (31 : Int32)) = (25 : Int32)
      · have h := ifp c27 h
        refine AW.tabIn (v := (25 : Int32)) (off := 761) (tgt := 793) dL_law_32 c27 (by decide) (by decide) (by decide) (by decide) ?_
        exact (a_L_law_p793 hG h9 ih) x3 σ h
      have h := ifn c27 h
      by_cases c28 : ((xs (x3).toNatClampNeg) &&& (31 : Int32)) = (26 : Int32)
      · have h := ifp c28 h
        refine AW.tabIn (v := (26 : Int32)) (off := 804) (tgt := 836) dL_law_32 c28 (by decide) (by decide) (by decide) (by decide) ?_
        exact (a_L_law_p836 hG h9 ih) x3 σ h
      have h := ifn c28 h
      by_cases c29 : ((xs (x3).toNatClampNeg) &&& (31 : Int32)) = (27 : Int32)
      · have h := ifp c29 h
        refine AW.tabIn (v := (27 : Int32)) (off := 858) (tgt := 890) dL_law_32 c29 (by decide) (by decide) (by decide) (by decide) ?_
        exact (a_L_law_p890 hG h9 ih) x3 σ h
      have h := ifn c29 h
      by_cases c30 : ((xs (x3).toNatClampNeg) &&& (31 : Int32)) = (28 : Int32)
      · have h := ifp c30 h
        refine AW.tabIn (v := (28 : Int32)) (off := 881) (tgt := 913) dL_law_32 c30 (by decide) (by decide) (by decide) (by decide) ?_
        exact (a_L_law_p913 hG h9 ih) x3 σ h
      have h := ifn c30 h
      by_cases c31 : ((xs (x3).toNatClampNeg) &&& (31 : Int32)) = (29 : Int32)
      · have h := ifp c31 h
        refine AW.tabIn (v := (29 : Int32)) (off := 904) (tgt := 936) dL_law_32 c31 (by decide) (by decide) (by decide) (by decide) ?_
        exact (a_L_law_p936 hG h9 ih) x3 σ h
      have h := ifn c31 h
      by_cases c32 : ((xs (x3).toNatClampNeg) &&& (31 : Int32)) = (30 : Int32)
      · have h := ifp c32 h
        refine AW.tabIn (v := (30 : Int32)) (off := 927) (tgt := 959) dL_law_32 c32 (by decide) (by decide) (by decide) (by decide) ?_
        exact (a_L_law_p959 hG h9 ih) x3 σ h
      have h := ifn c32 h
      refine AW.tabOut (tgt := 982) dL_law_32 (tab_out _ 30 (fun i hi => by
      rcases (show i = 0 ∨ i = 1 ∨ i = 2 ∨ i = 3 ∨ i = 4 ∨ i = 5 ∨ i = 6 ∨ i = 7 ∨ i = 8 ∨ i = 9 ∨ i = 10 ∨ i = 11 ∨ i = 12 ∨ i = 13 ∨ i = 14 ∨ i = 15 ∨ i = 16 ∨ i = 17 ∨ i = 18 ∨ i = 19 ∨ i = 20 ∨ i = 21 ∨ i = 22 ∨ i = 23 ∨ i = 24 ∨ i = 25 ∨ i = 26 ∨ i = 27 ∨ i = 28 ∨ i = 29 ∨ i = 30 by omega) with rfl | rfl | rfl | rfl | rfl | rfl | rfl | rfl | rfl | rfl | rfl | rfl | rfl | rfl | rfl | rfl | rfl | rfl | rfl | rfl | rfl | rfl | rfl | rfl | rfl | rfl | rfl | rfl | rfl | rfl | rfl
      · exact c2
      · exact c3
      · exact c4
      · exact c5
      · exact c6
      · exact c7
      · exact c8
      · exact c9
      · exact c10
      · exact c11
      · exact c12
      · exact c13
      · exact c14
      · exact c15
      · exact c16
      · exact c17
      · exact c18
      · exact c19
      · exact c20
      · exact c21
      · exact c22
      · exact c23
      · exact c24
      · exact c25
      · exact c26
      · exact c27
      · exact c28
      · exact c29
      · exact c30
      · exact c31
      · exact c32) (by decide)) (by decide) ?_
      refine AW.iinc (v := (x3 + (4 : Int32))) (L' := [(3, .int (x3 + (4 : Int32))), (0, .ref 999), (1, .ref 0), (2, .ref 46)]) dL_law_982 (.refl 985) 3 rfl rfl (by decide) rfl ?_
      refine AW.goto (tgt := 18) dL_law_985 (by decide) ?_
      refine AW.sub (L' := [(0, .ref 999), (1, .ref 0), (2, .ref 46), (3, .int (x3 + (4 : Int32)))]) [1, 2, 3, 0] rfl ?_
      exact ih (x3 + (4 : Int32)) σ h
