theorem ln_L_n7 : LNW RL 7 9 13 := ⟨RX9, TX9, tyX9, rfl, tin_9, tyX9_ok, lw_in 13 (by decide +kernel), lw_in 14 (by decide +kernel), lw_in 1 (by decide +kernel), by decide +kernel⟩
theorem lo_X9_1 : Cond.methodLink RX9 1 Lib.objectInit ∈ lwt := lw_in 18 (by decide +kernel)
theorem ln_X9_n7 : LNW RX9 7 7 2 := ⟨RX7, TX7, tyX7, rfl, tin_7, tyX7_ok, lw_in 21 (by decide +kernel), lw_in 22 (by decide +kernel), lw_in 2 (by decide +kernel), by decide +kernel⟩
theorem lo_X7_3 : Cond.methodLink RX7 3 Lib.objectInit ∈ lwt := lw_in 26 (by decide +kernel)
theorem la_I : Cond.arrayClass .int ∈ lwt := lw_in 36 (by decide +kernel)
theorem lpf_X7_9 : LPF RX7 9 7 0 := ⟨_, _, _, tyX7, tyX7 0, rfl, by decide, tin_7, lw_in 27 (by decide +kernel), tyX7_ok, nmX7, rfl, rfl, by decide +kernel, Or.inr ⟨_, rfl⟩⟩
theorem lf_X7_15 : ∃ (C : String) (T : u_T) (N : Nat), vwCl[7]? = some (C, T, N) ∧ Cond.fieldLink RX7 15 (T 1).1 (T 1).2.1 (T 1).2.2.1 ∈ lwt := ⟨_, _, _, rfl, lw_in 28 (by decide +kernel)⟩
theorem li_X9_9 : LMI RX9 9 M_X7_init 0 := ⟨lb_X7_init, Or.inr ⟨"BellSeconds", nw_in 23 (by decide +kernel)⟩, lw_in 24 (by decide +kernel), rfl, rfl⟩
theorem lpf_X9_10 : LPF RX9 10 9 0 := ⟨_, _, _, tyX9, tyX9 0, rfl, by decide, tin_9, lw_in 269 (by decide +kernel), tyX9_ok, nmX9, rfl, rfl, by decide +kernel, Or.inl ⟨_, rfl⟩⟩
theorem ln_X9_n16 : LNW RX9 16 8 14 := ⟨RX8, TX8, tyX8, rfl, tin_8, tyX8_ok, lw_in 37 (by decide +kernel), lw_in 38 (by decide +kernel), lw_in 3 (by decide +kernel), by decide +kernel⟩
theorem lo_X8_3 : Cond.methodLink RX8 3 Lib.objectInit ∈ lwt := lw_in 42 (by decide +kernel)
theorem lf_X8_9 : ∃ (C : String) (T : u_T) (N : Nat), vwCl[8]? = some (C, T, N) ∧ Cond.fieldLink RX8 9 (T 0).1 (T 0).2.1 (T 0).2.2.1 ∈ lwt := ⟨_, _, _, rfl, lw_in 43 (by decide +kernel)⟩
theorem lf_X8_15 : ∃ (C : String) (T : u_T) (N : Nat), vwCl[8]? = some (C, T, N) ∧ Cond.fieldLink RX8 15 (T 1).1 (T 1).2.1 (T 1).2.2.1 ∈ lwt := ⟨_, _, _, rfl, lw_in 46 (by decide +kernel)⟩
theorem lpf_X8_18 : LPF RX8 18 8 2 := ⟨_, _, _, tyX8, tyX8 2, rfl, by decide, tin_8, lw_in 48 (by decide +kernel), tyX8_ok, nmX8, rfl, rfl, by decide +kernel, Or.inr ⟨_, rfl⟩⟩
theorem lpf_X8_22 : LPF RX8 22 8 3 := ⟨_, _, _, tyX8, tyX8 3, rfl, by decide, tin_8, lw_in 51 (by decide +kernel), tyX8_ok, nmX8, rfl, rfl, by decide +kernel, Or.inr ⟨_, rfl⟩⟩
theorem lpf_X8_25 : LPF RX8 25 8 4 := ⟨_, _, _, tyX8, tyX8 4, rfl, by decide, tin_8, lw_in 53 (by decide +kernel), tyX8_ok, nmX8, rfl, rfl, by decide +kernel, Or.inr ⟨_, rfl⟩⟩
theorem lpf_X8_28 : LPF RX8 28 8 5 := ⟨_, _, _, tyX8, tyX8 5, rfl, by decide, tin_8, lw_in 56 (by decide +kernel), tyX8_ok, nmX8, rfl, rfl, by decide +kernel, Or.inr ⟨_, rfl⟩⟩
theorem lpf_X8_31 : LPF RX8 31 8 6 := ⟨_, _, _, tyX8, tyX8 6, rfl, by decide, tin_8, lw_in 59 (by decide +kernel), tyX8_ok, nmX8, rfl, rfl, by decide +kernel, Or.inr ⟨_, rfl⟩⟩
theorem lpf_X8_34 : LPF RX8 34 8 7 := ⟨_, _, _, tyX8, tyX8 7, rfl, by decide, tin_8, lw_in 62 (by decide +kernel), tyX8_ok, nmX8, rfl, rfl, by decide +kernel, Or.inr ⟨_, rfl⟩⟩
theorem lpf_X8_37 : LPF RX8 37 8 8 := ⟨_, _, _, tyX8, tyX8 8, rfl, by decide, tin_8, lw_in 64 (by decide +kernel), tyX8_ok, nmX8, rfl, rfl, by decide +kernel, Or.inr ⟨_, rfl⟩⟩
theorem lpf_X8_40 : LPF RX8 40 8 9 := ⟨_, _, _, tyX8, tyX8 9, rfl, by decide, tin_8, lw_in 66 (by decide +kernel), tyX8_ok, nmX8, rfl, rfl, by decide +kernel, Or.inr ⟨_, rfl⟩⟩
theorem lpf_X8_43 : LPF RX8 43 8 10 := ⟨_, _, _, tyX8, tyX8 10, rfl, by decide, tin_8, lw_in 70 (by decide +kernel), tyX8_ok, nmX8, rfl, rfl, by decide +kernel, Or.inr ⟨_, rfl⟩⟩
theorem lpf_X8_46 : LPF RX8 46 8 11 := ⟨_, _, _, tyX8, tyX8 11, rfl, by decide, tin_8, lw_in 72 (by decide +kernel), tyX8_ok, nmX8, rfl, rfl, by decide +kernel, Or.inr ⟨_, rfl⟩⟩
theorem la_J : Cond.arrayClass .long ∈ lwt := lw_in 104 (by decide +kernel)
theorem lpf_X8_49 : LPF RX8 49 8 12 := ⟨_, _, _, tyX8, tyX8 12, rfl, by decide, tin_8, lw_in 73 (by decide +kernel), tyX8_ok, nmX8, rfl, rfl, by decide +kernel, Or.inr ⟨_, rfl⟩⟩
theorem lpf_X8_53 : LPF RX8 53 8 13 := ⟨_, _, _, tyX8, tyX8 13, rfl, by decide, tin_8, lw_in 74 (by decide +kernel), tyX8_ok, nmX8, rfl, rfl, by decide +kernel, Or.inr ⟨_, rfl⟩⟩
theorem li_X9_18 : LMI RX9 18 M_X8_init 0 := ⟨lb_X8_init, Or.inr ⟨"BellSeconds", nw_in 39 (by decide +kernel)⟩, lw_in 40 (by decide +kernel), rfl, rfl⟩
theorem lpf_X9_19 : LPF RX9 19 9 1 := ⟨_, _, _, tyX9, tyX9 1, rfl, by decide, tin_9, lw_in 270 (by decide +kernel), tyX9_ok, nmX9, rfl, rfl, by decide +kernel, Or.inl ⟨_, rfl⟩⟩
theorem ln_X9_n23 : LNW RX9 23 1 2 := ⟨RX1, TX1, tyX1, rfl, tin_1, tyX1_ok, lw_in 105 (by decide +kernel), lw_in 106 (by decide +kernel), lw_in 4 (by decide +kernel), by decide +kernel⟩
theorem lo_X1_3 : Cond.methodLink RX1 3 Lib.objectInit ∈ lwt := lw_in 110 (by decide +kernel)
theorem lpf_X1_9 : LPF RX1 9 1 1 := ⟨_, _, _, tyX1, tyX1 1, rfl, by decide, tin_1, lw_in 112 (by decide +kernel), tyX1_ok, nmX1, rfl, rfl, by decide +kernel, Or.inr ⟨_, rfl⟩⟩
theorem lpf_X1_15 : LPF RX1 15 1 0 := ⟨_, _, _, tyX1, tyX1 0, rfl, by decide, tin_1, lw_in 111 (by decide +kernel), tyX1_ok, nmX1, rfl, rfl, by decide +kernel, Or.inl ⟨_, rfl⟩⟩
theorem li_X9_25 : LMI RX9 25 M_X1_init 1 := ⟨lb_X1_init, Or.inl (lw_in 107 (by decide +kernel)), lw_in 108 (by decide +kernel), rfl, rfl⟩
theorem lpf_X9_28 : LPF RX9 28 9 2 := ⟨_, _, _, tyX9, tyX9 2, rfl, by decide, tin_9, lw_in 271 (by decide +kernel), tyX9_ok, nmX9, rfl, rfl, by decide +kernel, Or.inl ⟨_, rfl⟩⟩
theorem lpf_X9_32 : LPF RX9 32 9 3 := ⟨_, _, _, tyX9, tyX9 3, rfl, by decide, tin_9, lw_in 272 (by decide +kernel), tyX9_ok, nmX9, rfl, rfl, by decide +kernel, Or.inl ⟨_, rfl⟩⟩
theorem ln_X9_n35 : LNW RX9 35 6 2 := ⟨RX6, TX6, tyX6, rfl, tin_6, tyX6_ok, lw_in 118 (by decide +kernel), lw_in 119 (by decide +kernel), lw_in 5 (by decide +kernel), by decide +kernel⟩
theorem lo_X6_1 : Cond.methodLink RX6 1 Lib.objectInit ∈ lwt := lw_in 123 (by decide +kernel)
theorem lf_X6_7 : ∃ (C : String) (T : u_T) (N : Nat), vwCl[6]? = some (C, T, N) ∧ Cond.fieldLink RX6 7 (T 1).1 (T 1).2.1 (T 1).2.2.1 ∈ lwt := ⟨_, _, _, rfl, lw_in 128 (by decide +kernel)⟩
theorem ln_X6_n13 : LNW RX6 13 1 2 := ⟨RX1, TX1, tyX1, rfl, tin_1, tyX1_ok, lw_in 124 (by decide +kernel), lw_in 106 (by decide +kernel), lw_in 4 (by decide +kernel), by decide +kernel⟩
theorem li_X6_15 : LMI RX6 15 M_X1_init 1 := ⟨lb_X1_init, Or.inl (lw_in 125 (by decide +kernel)), lw_in 108 (by decide +kernel), rfl, rfl⟩
theorem lpf_X6_18 : LPF RX6 18 6 0 := ⟨_, _, _, tyX6, tyX6 0, rfl, by decide, tin_6, lw_in 126 (by decide +kernel), tyX6_ok, nmX6, rfl, rfl, by decide +kernel, Or.inl ⟨_, rfl⟩⟩
theorem li_X9_37 : LMI RX9 37 M_X6_init 1 := ⟨lb_X6_init, Or.inl (lw_in 120 (by decide +kernel)), lw_in 121 (by decide +kernel), rfl, rfl⟩
theorem lpf_X9_38 : LPF RX9 38 9 4 := ⟨_, _, _, tyX9, tyX9 4, rfl, by decide, tin_9, lw_in 273 (by decide +kernel), tyX9_ok, nmX9, rfl, rfl, by decide +kernel, Or.inl ⟨_, rfl⟩⟩
theorem lpf_X9_42 : LPF RX9 42 9 5 := ⟨_, _, _, tyX9, tyX9 5, rfl, by decide, tin_9, lw_in 274 (by decide +kernel), tyX9_ok, nmX9, rfl, rfl, by decide +kernel, Or.inl ⟨_, rfl⟩⟩
theorem ln_X9_n45 : LNW RX9 45 0 3 := ⟨RX0, TX0, tyX0, rfl, tin_0, tyX0_ok, lw_in 135 (by decide +kernel), lw_in 136 (by decide +kernel), lw_in 6 (by decide +kernel), by decide +kernel⟩
theorem lo_X0_3 : Cond.methodLink RX0 3 Lib.objectInit ∈ lwt := lw_in 140 (by decide +kernel)
theorem lpf_X0_9 : LPF RX0 9 0 0 := ⟨_, _, _, tyX0, tyX0 0, rfl, by decide, tin_0, lw_in 141 (by decide +kernel), tyX0_ok, nmX0, rfl, rfl, by decide +kernel, Or.inr ⟨_, rfl⟩⟩
theorem lpf_X0_15 : LPF RX0 15 0 1 := ⟨_, _, _, tyX0, tyX0 1, rfl, by decide, tin_0, lw_in 142 (by decide +kernel), tyX0_ok, nmX0, rfl, rfl, by decide +kernel, Or.inr ⟨_, rfl⟩⟩
theorem lf_X0_18 : ∃ (C : String) (T : u_T) (N : Nat), vwCl[0]? = some (C, T, N) ∧ Cond.fieldLink RX0 18 (T 2).1 (T 2).2.1 (T 2).2.2.1 ∈ lwt := ⟨_, _, _, rfl, lw_in 143 (by decide +kernel)⟩
theorem li_X9_47 : LMI RX9 47 M_X0_init 0 := ⟨lb_X0_init, Or.inr ⟨"BellSeconds", nw_in 137 (by decide +kernel)⟩, lw_in 138 (by decide +kernel), rfl, rfl⟩
theorem lpf_X9_48 : LPF RX9 48 9 6 := ⟨_, _, _, tyX9, tyX9 6, rfl, by decide, tin_9, lw_in 275 (by decide +kernel), tyX9_ok, nmX9, rfl, rfl, by decide +kernel, Or.inl ⟨_, rfl⟩⟩
theorem ln_X9_n52 : LNW RX9 52 4 6 := ⟨RX4, TX4, tyX4, rfl, tin_4, tyX4_ok, lw_in 152 (by decide +kernel), lw_in 153 (by decide +kernel), lw_in 7 (by decide +kernel), by decide +kernel⟩
theorem lo_X4_3 : Cond.methodLink RX4 3 Lib.objectInit ∈ lwt := lw_in 157 (by decide +kernel)
theorem lpf_X4_9 : LPF RX4 9 4 3 := ⟨_, _, _, tyX4, tyX4 3, rfl, by decide, tin_4, lw_in 164 (by decide +kernel), tyX4_ok, nmX4, rfl, rfl, by decide +kernel, Or.inr ⟨_, rfl⟩⟩
theorem lpf_X4_15 : LPF RX4 15 4 4 := ⟨_, _, _, tyX4, tyX4 4, rfl, by decide, tin_4, lw_in 165 (by decide +kernel), tyX4_ok, nmX4, rfl, rfl, by decide +kernel, Or.inr ⟨_, rfl⟩⟩
theorem lf_X4_18 : ∃ (C : String) (T : u_T) (N : Nat), vwCl[4]? = some (C, T, N) ∧ Cond.fieldLink RX4 18 (T 5).1 (T 5).2.1 (T 5).2.2.1 ∈ lwt := ⟨_, _, _, rfl, lw_in 166 (by decide +kernel)⟩
theorem lpf_X4_22 : LPF RX4 22 4 0 := ⟨_, _, _, tyX4, tyX4 0, rfl, by decide, tin_4, lw_in 160 (by decide +kernel), tyX4_ok, nmX4, rfl, rfl, by decide +kernel, Or.inl ⟨_, rfl⟩⟩
theorem ln_X4_n26 : LNW RX4 26 1 2 := ⟨RX1, TX1, tyX1, rfl, tin_1, tyX1_ok, lw_in 158 (by decide +kernel), lw_in 106 (by decide +kernel), lw_in 4 (by decide +kernel), by decide +kernel⟩
theorem li_X4_28 : LMI RX4 28 M_X1_init 1 := ⟨lb_X1_init, Or.inl (lw_in 159 (by decide +kernel)), lw_in 108 (by decide +kernel), rfl, rfl⟩
theorem lpf_X4_31 : LPF RX4 31 4 1 := ⟨_, _, _, tyX4, tyX4 1, rfl, by decide, tin_4, lw_in 161 (by decide +kernel), tyX4_ok, nmX4, rfl, rfl, by decide +kernel, Or.inl ⟨_, rfl⟩⟩
theorem lpf_X4_35 : LPF RX4 35 4 2 := ⟨_, _, _, tyX4, tyX4 2, rfl, by decide, tin_4, lw_in 162 (by decide +kernel), tyX4_ok, nmX4, rfl, rfl, by decide +kernel, Or.inl ⟨_, rfl⟩⟩
theorem li_X9_54 : LMI RX9 54 M_X4_init 1 := ⟨lb_X4_init, Or.inl (lw_in 154 (by decide +kernel)), lw_in 155 (by decide +kernel), rfl, rfl⟩
theorem lpf_X9_55 : LPF RX9 55 9 7 := ⟨_, _, _, tyX9, tyX9 7, rfl, by decide, tin_9, lw_in 276 (by decide +kernel), tyX9_ok, nmX9, rfl, rfl, by decide +kernel, Or.inl ⟨_, rfl⟩⟩
theorem ln_X9_n59 : LNW RX9 59 3 3 := ⟨RX3, TX3, tyX3, rfl, tin_3, tyX3_ok, lw_in 180 (by decide +kernel), lw_in 181 (by decide +kernel), lw_in 8 (by decide +kernel), by decide +kernel⟩
theorem lo_X3_3 : Cond.methodLink RX3 3 Lib.objectInit ∈ lwt := lw_in 185 (by decide +kernel)
theorem lpf_X3_9 : LPF RX3 9 3 0 := ⟨_, _, _, tyX3, tyX3 0, rfl, by decide, tin_3, lw_in 186 (by decide +kernel), tyX3_ok, nmX3, rfl, rfl, by decide +kernel, Or.inr ⟨_, rfl⟩⟩
theorem lpf_X3_15 : LPF RX3 15 3 1 := ⟨_, _, _, tyX3, tyX3 1, rfl, by decide, tin_3, lw_in 187 (by decide +kernel), tyX3_ok, nmX3, rfl, rfl, by decide +kernel, Or.inr ⟨_, rfl⟩⟩
theorem lf_X3_18 : ∃ (C : String) (T : u_T) (N : Nat), vwCl[3]? = some (C, T, N) ∧ Cond.fieldLink RX3 18 (T 2).1 (T 2).2.1 (T 2).2.2.1 ∈ lwt := ⟨_, _, _, rfl, lw_in 188 (by decide +kernel)⟩
theorem li_X9_61 : LMI RX9 61 M_X3_init 0 := ⟨lb_X3_init, Or.inr ⟨"BellSeconds", nw_in 182 (by decide +kernel)⟩, lw_in 183 (by decide +kernel), rfl, rfl⟩
theorem lpf_X9_62 : LPF RX9 62 9 8 := ⟨_, _, _, tyX9, tyX9 8, rfl, by decide, tin_9, lw_in 277 (by decide +kernel), tyX9_ok, nmX9, rfl, rfl, by decide +kernel, Or.inl ⟨_, rfl⟩⟩
theorem ln_X9_n66 : LNW RX9 66 2 11 := ⟨RX2, TX2, tyX2, rfl, tin_2, tyX2_ok, lw_in 197 (by decide +kernel), lw_in 198 (by decide +kernel), lw_in 9 (by decide +kernel), by decide +kernel⟩
theorem lo_X2_3 : Cond.methodLink RX2 3 Lib.objectInit ∈ lwt := lw_in 202 (by decide +kernel)
theorem lf_X2_9 : ∃ (C : String) (T : u_T) (N : Nat), vwCl[2]? = some (C, T, N) ∧ Cond.fieldLink RX2 9 (T 1).1 (T 1).2.1 (T 1).2.2.1 ∈ lwt := ⟨_, _, _, rfl, lw_in 204 (by decide +kernel)⟩
theorem lf_X2_15 : ∃ (C : String) (T : u_T) (N : Nat), vwCl[2]? = some (C, T, N) ∧ Cond.fieldLink RX2 15 (T 2).1 (T 2).2.1 (T 2).2.2.1 ∈ lwt := ⟨_, _, _, rfl, lw_in 206 (by decide +kernel)⟩
theorem lf_X2_18 : ∃ (C : String) (T : u_T) (N : Nat), vwCl[2]? = some (C, T, N) ∧ Cond.fieldLink RX2 18 (T 3).1 (T 3).2.1 (T 3).2.2.1 ∈ lwt := ⟨_, _, _, rfl, lw_in 208 (by decide +kernel)⟩
theorem lf_X2_21 : ∃ (C : String) (T : u_T) (N : Nat), vwCl[2]? = some (C, T, N) ∧ Cond.fieldLink RX2 21 (T 4).1 (T 4).2.1 (T 4).2.2.1 ∈ lwt := ⟨_, _, _, rfl, lw_in 210 (by decide +kernel)⟩
theorem lf_X2_24 : ∃ (C : String) (T : u_T) (N : Nat), vwCl[2]? = some (C, T, N) ∧ Cond.fieldLink RX2 24 (T 5).1 (T 5).2.1 (T 5).2.2.1 ∈ lwt := ⟨_, _, _, rfl, lw_in 212 (by decide +kernel)⟩
theorem lf_X2_27 : ∃ (C : String) (T : u_T) (N : Nat), vwCl[2]? = some (C, T, N) ∧ Cond.fieldLink RX2 27 (T 6).1 (T 6).2.1 (T 6).2.2.1 ∈ lwt := ⟨_, _, _, rfl, lw_in 213 (by decide +kernel)⟩
theorem lf_X2_30 : ∃ (C : String) (T : u_T) (N : Nat), vwCl[2]? = some (C, T, N) ∧ Cond.fieldLink RX2 30 (T 7).1 (T 7).2.1 (T 7).2.2.1 ∈ lwt := ⟨_, _, _, rfl, lw_in 214 (by decide +kernel)⟩
theorem lf_X2_33 : ∃ (C : String) (T : u_T) (N : Nat), vwCl[2]? = some (C, T, N) ∧ Cond.fieldLink RX2 33 (T 8).1 (T 8).2.1 (T 8).2.2.1 ∈ lwt := ⟨_, _, _, rfl, lw_in 215 (by decide +kernel)⟩
theorem lf_X2_36 : ∃ (C : String) (T : u_T) (N : Nat), vwCl[2]? = some (C, T, N) ∧ Cond.fieldLink RX2 36 (T 9).1 (T 9).2.1 (T 9).2.2.1 ∈ lwt := ⟨_, _, _, rfl, lw_in 216 (by decide +kernel)⟩
theorem lf_X2_39 : ∃ (C : String) (T : u_T) (N : Nat), vwCl[2]? = some (C, T, N) ∧ Cond.fieldLink RX2 39 (T 10).1 (T 10).2.1 (T 10).2.2.1 ∈ lwt := ⟨_, _, _, rfl, lw_in 217 (by decide +kernel)⟩
theorem lpf_X2_42 : LPF RX2 42 2 0 := ⟨_, _, _, tyX2, tyX2 0, rfl, by decide, tin_2, lw_in 203 (by decide +kernel), tyX2_ok, nmX2, rfl, rfl, by decide +kernel, Or.inl ⟨_, rfl⟩⟩
theorem li_X9_68 : LMI RX9 68 M_X2_init 1 := ⟨lb_X2_init, Or.inl (lw_in 199 (by decide +kernel)), lw_in 200 (by decide +kernel), rfl, rfl⟩
theorem lpf_X9_69 : LPF RX9 69 9 9 := ⟨_, _, _, tyX9, tyX9 9, rfl, by decide, tin_9, lw_in 278 (by decide +kernel), tyX9_ok, nmX9, rfl, rfl, by decide +kernel, Or.inl ⟨_, rfl⟩⟩
theorem ln_X9_n73 : LNW RX9 73 5 7 := ⟨RX5, TX5, tyX5, rfl, tin_5, tyX5_ok, lw_in 241 (by decide +kernel), lw_in 242 (by decide +kernel), lw_in 10 (by decide +kernel), by decide +kernel⟩
theorem lo_X5_3 : Cond.methodLink RX5 3 Lib.objectInit ∈ lwt := lw_in 246 (by decide +kernel)
theorem lpf_X5_9 : LPF RX5 9 5 1 := ⟨_, _, _, tyX5, tyX5 1, rfl, by decide, tin_5, lw_in 248 (by decide +kernel), tyX5_ok, nmX5, rfl, rfl, by decide +kernel, Or.inr ⟨_, rfl⟩⟩
theorem lpf_X5_15 : LPF RX5 15 5 2 := ⟨_, _, _, tyX5, tyX5 2, rfl, by decide, tin_5, lw_in 249 (by decide +kernel), tyX5_ok, nmX5, rfl, rfl, by decide +kernel, Or.inr ⟨_, rfl⟩⟩
theorem lpf_X5_18 : LPF RX5 18 5 3 := ⟨_, _, _, tyX5, tyX5 3, rfl, by decide, tin_5, lw_in 250 (by decide +kernel), tyX5_ok, nmX5, rfl, rfl, by decide +kernel, Or.inr ⟨_, rfl⟩⟩
theorem lpf_X5_21 : LPF RX5 21 5 4 := ⟨_, _, _, tyX5, tyX5 4, rfl, by decide, tin_5, lw_in 251 (by decide +kernel), tyX5_ok, nmX5, rfl, rfl, by decide +kernel, Or.inr ⟨_, rfl⟩⟩
theorem lf_X5_24 : ∃ (C : String) (T : u_T) (N : Nat), vwCl[5]? = some (C, T, N) ∧ Cond.fieldLink RX5 24 (T 5).1 (T 5).2.1 (T 5).2.2.1 ∈ lwt := ⟨_, _, _, rfl, lw_in 252 (by decide +kernel)⟩
theorem lf_X5_28 : ∃ (C : String) (T : u_T) (N : Nat), vwCl[5]? = some (C, T, N) ∧ Cond.fieldLink RX5 28 (T 6).1 (T 6).2.1 (T 6).2.2.1 ∈ lwt := ⟨_, _, _, rfl, lw_in 253 (by decide +kernel)⟩
theorem lpf_X5_31 : LPF RX5 31 5 0 := ⟨_, _, _, tyX5, tyX5 0, rfl, by decide, tin_5, lw_in 247 (by decide +kernel), tyX5_ok, nmX5, rfl, rfl, by decide +kernel, Or.inl ⟨_, rfl⟩⟩
theorem li_X9_75 : LMI RX9 75 M_X5_init 1 := ⟨lb_X5_init, Or.inl (lw_in 243 (by decide +kernel)), lw_in 244 (by decide +kernel), rfl, rfl⟩
theorem lpf_X9_76 : LPF RX9 76 9 10 := ⟨_, _, _, tyX9, tyX9 10, rfl, by decide, tin_9, lw_in 279 (by decide +kernel), tyX9_ok, nmX9, rfl, rfl, by decide +kernel, Or.inl ⟨_, rfl⟩⟩
theorem lpf_X9_80 : LPF RX9 80 9 11 := ⟨_, _, _, tyX9, tyX9 11, rfl, by decide, tin_9, lw_in 280 (by decide +kernel), tyX9_ok, nmX9, rfl, rfl, by decide +kernel, Or.inr ⟨_, rfl⟩⟩
theorem lf_X9_84 : ∃ (C : String) (T : u_T) (N : Nat), vwCl[9]? = some (C, T, N) ∧ Cond.fieldLink RX9 84 (T 12).1 (T 12).2.1 (T 12).2.2.1 ∈ lwt := ⟨_, _, _, rfl, lw_in 281 (by decide +kernel)⟩
theorem li_L_9 : LMI RL 9 M_X9_init 0 := ⟨lb_X9_init, Or.inl (lw_in 15 (by decide +kernel)), lw_in 16 (by decide +kernel), rfl, rfl⟩
theorem ln_L_n10 : LNW RL 10 10 44 := ⟨RX10, TX10, tyX10, rfl, tin_10, tyX10_ok, lw_in 788 (by decide +kernel), lw_in 789 (by decide +kernel), lw_in 11 (by decide +kernel), by decide +kernel⟩
theorem lo_X10_1 : Cond.methodLink RX10 1 Lib.objectInit ∈ lwt := lw_in 793 (by decide +kernel)
theorem lpf_X10_7 : LPF RX10 7 10 2 := ⟨_, _, _, tyX10, tyX10 2, rfl, by decide, tin_10, lw_in 796 (by decide +kernel), tyX10_ok, nmX10, rfl, rfl, by decide +kernel, Or.inr ⟨_, rfl⟩⟩
theorem lpf_X10_13 : LPF RX10 13 10 3 := ⟨_, _, _, tyX10, tyX10 3, rfl, by decide, tin_10, lw_in 797 (by decide +kernel), tyX10_ok, nmX10, rfl, rfl, by decide +kernel, Or.inr ⟨_, rfl⟩⟩
theorem lpf_X10_16 : LPF RX10 16 10 4 := ⟨_, _, _, tyX10, tyX10 4, rfl, by decide, tin_10, lw_in 798 (by decide +kernel), tyX10_ok, nmX10, rfl, rfl, by decide +kernel, Or.inr ⟨_, rfl⟩⟩
theorem lpf_X10_19 : LPF RX10 19 10 5 := ⟨_, _, _, tyX10, tyX10 5, rfl, by decide, tin_10, lw_in 799 (by decide +kernel), tyX10_ok, nmX10, rfl, rfl, by decide +kernel, Or.inr ⟨_, rfl⟩⟩
theorem lpf_X10_22 : LPF RX10 22 10 6 := ⟨_, _, _, tyX10, tyX10 6, rfl, by decide, tin_10, lw_in 800 (by decide +kernel), tyX10_ok, nmX10, rfl, rfl, by decide +kernel, Or.inr ⟨_, rfl⟩⟩
theorem lpf_X10_25 : LPF RX10 25 10 7 := ⟨_, _, _, tyX10, tyX10 7, rfl, by decide, tin_10, lw_in 801 (by decide +kernel), tyX10_ok, nmX10, rfl, rfl, by decide +kernel, Or.inr ⟨_, rfl⟩⟩
theorem lpf_X10_28 : LPF RX10 28 10 8 := ⟨_, _, _, tyX10, tyX10 8, rfl, by decide, tin_10, lw_in 802 (by decide +kernel), tyX10_ok, nmX10, rfl, rfl, by decide +kernel, Or.inr ⟨_, rfl⟩⟩
theorem lpf_X10_31 : LPF RX10 31 10 16 := ⟨_, _, _, tyX10, tyX10 16, rfl, by decide, tin_10, lw_in 810 (by decide +kernel), tyX10_ok, nmX10, rfl, rfl, by decide +kernel, Or.inr ⟨_, rfl⟩⟩
theorem lpf_X10_34 : LPF RX10 34 10 17 := ⟨_, _, _, tyX10, tyX10 17, rfl, by decide, tin_10, lw_in 811 (by decide +kernel), tyX10_ok, nmX10, rfl, rfl, by decide +kernel, Or.inr ⟨_, rfl⟩⟩
theorem lpf_X10_37 : LPF RX10 37 10 18 := ⟨_, _, _, tyX10, tyX10 18, rfl, by decide, tin_10, lw_in 812 (by decide +kernel), tyX10_ok, nmX10, rfl, rfl, by decide +kernel, Or.inr ⟨_, rfl⟩⟩
theorem la_Z : Cond.arrayClass .boolean ∈ lwt := lw_in 927 (by decide +kernel)
theorem lpf_X10_40 : LPF RX10 40 10 19 := ⟨_, _, _, tyX10, tyX10 19, rfl, by decide, tin_10, lw_in 813 (by decide +kernel), tyX10_ok, nmX10, rfl, rfl, by decide +kernel, Or.inr ⟨_, rfl⟩⟩
theorem lpf_X10_44 : LPF RX10 44 10 24 := ⟨_, _, _, tyX10, tyX10 24, rfl, by decide, tin_10, lw_in 818 (by decide +kernel), tyX10_ok, nmX10, rfl, rfl, by decide +kernel, Or.inr ⟨_, rfl⟩⟩
theorem lpf_X10_47 : LPF RX10 47 10 25 := ⟨_, _, _, tyX10, tyX10 25, rfl, by decide, tin_10, lw_in 819 (by decide +kernel), tyX10_ok, nmX10, rfl, rfl, by decide +kernel, Or.inr ⟨_, rfl⟩⟩
theorem lpf_X10_50 : LPF RX10 50 10 26 := ⟨_, _, _, tyX10, tyX10 26, rfl, by decide, tin_10, lw_in 820 (by decide +kernel), tyX10_ok, nmX10, rfl, rfl, by decide +kernel, Or.inr ⟨_, rfl⟩⟩
theorem lpf_X10_53 : LPF RX10 53 10 27 := ⟨_, _, _, tyX10, tyX10 27, rfl, by decide, tin_10, lw_in 821 (by decide +kernel), tyX10_ok, nmX10, rfl, rfl, by decide +kernel, Or.inr ⟨_, rfl⟩⟩
theorem lpf_X10_56 : LPF RX10 56 10 28 := ⟨_, _, _, tyX10, tyX10 28, rfl, by decide, tin_10, lw_in 822 (by decide +kernel), tyX10_ok, nmX10, rfl, rfl, by decide +kernel, Or.inr ⟨_, rfl⟩⟩
theorem lpf_X10_59 : LPF RX10 59 10 30 := ⟨_, _, _, tyX10, tyX10 30, rfl, by decide, tin_10, lw_in 824 (by decide +kernel), tyX10_ok, nmX10, rfl, rfl, by decide +kernel, Or.inr ⟨_, rfl⟩⟩
theorem lpf_X10_62 : LPF RX10 62 10 31 := ⟨_, _, _, tyX10, tyX10 31, rfl, by decide, tin_10, lw_in 825 (by decide +kernel), tyX10_ok, nmX10, rfl, rfl, by decide +kernel, Or.inr ⟨_, rfl⟩⟩
theorem lpf_X10_65 : LPF RX10 65 10 32 := ⟨_, _, _, tyX10, tyX10 32, rfl, by decide, tin_10, lw_in 826 (by decide +kernel), tyX10_ok, nmX10, rfl, rfl, by decide +kernel, Or.inr ⟨_, rfl⟩⟩
theorem lpf_X10_68 : LPF RX10 68 10 33 := ⟨_, _, _, tyX10, tyX10 33, rfl, by decide, tin_10, lw_in 827 (by decide +kernel), tyX10_ok, nmX10, rfl, rfl, by decide +kernel, Or.inr ⟨_, rfl⟩⟩
theorem lpf_X10_71 : LPF RX10 71 10 34 := ⟨_, _, _, tyX10, tyX10 34, rfl, by decide, tin_10, lw_in 828 (by decide +kernel), tyX10_ok, nmX10, rfl, rfl, by decide +kernel, Or.inr ⟨_, rfl⟩⟩
theorem lpf_X10_74 : LPF RX10 74 10 35 := ⟨_, _, _, tyX10, tyX10 35, rfl, by decide, tin_10, lw_in 829 (by decide +kernel), tyX10_ok, nmX10, rfl, rfl, by decide +kernel, Or.inr ⟨_, rfl⟩⟩
theorem lpf_X10_77 : LPF RX10 77 10 36 := ⟨_, _, _, tyX10, tyX10 36, rfl, by decide, tin_10, lw_in 830 (by decide +kernel), tyX10_ok, nmX10, rfl, rfl, by decide +kernel, Or.inr ⟨_, rfl⟩⟩
theorem lpf_X10_80 : LPF RX10 80 10 37 := ⟨_, _, _, tyX10, tyX10 37, rfl, by decide, tin_10, lw_in 831 (by decide +kernel), tyX10_ok, nmX10, rfl, rfl, by decide +kernel, Or.inr ⟨_, rfl⟩⟩
theorem lpf_X10_83 : LPF RX10 83 10 39 := ⟨_, _, _, tyX10, tyX10 39, rfl, by decide, tin_10, lw_in 833 (by decide +kernel), tyX10_ok, nmX10, rfl, rfl, by decide +kernel, Or.inr ⟨_, rfl⟩⟩
theorem lpf_X10_86 : LPF RX10 86 10 40 := ⟨_, _, _, tyX10, tyX10 40, rfl, by decide, tin_10, lw_in 834 (by decide +kernel), tyX10_ok, nmX10, rfl, rfl, by decide +kernel, Or.inr ⟨_, rfl⟩⟩
theorem lpf_X10_89 : LPF RX10 89 10 42 := ⟨_, _, _, tyX10, tyX10 42, rfl, by decide, tin_10, lw_in 836 (by decide +kernel), tyX10_ok, nmX10, rfl, rfl, by decide +kernel, Or.inr ⟨_, rfl⟩⟩
theorem lpf_X10_92 : LPF RX10 92 10 43 := ⟨_, _, _, tyX10, tyX10 43, rfl, by decide, tin_10, lw_in 837 (by decide +kernel), tyX10_ok, nmX10, rfl, rfl, by decide +kernel, Or.inr ⟨_, rfl⟩⟩
theorem li_L_12 : LMI RL 12 M_X10_init 0 := ⟨lb_X10_init, Or.inl (lw_in 790 (by decide +kernel)), lw_in 791 (by decide +kernel), rfl, rfl⟩
set_option maxRecDepth 20000 in
theorem k0_X7_init {l : Launch} {G : Gg} : MC l G 1 M_X7_init [.ref 1] z0 2 0 z0 3 1 1 48 := by
  refine MC.of (by decide +kernel) (Nat.le_of_ble_eq_true rfl) ?_
  show CW l G 1 M_X7_init z0 3 1 1 48 0 0 0 [(0, .ref 1)] [] z0 2 0
  refine AW.aload_n dX7_init_0 (.refl 1) 0 rfl ?_
  refine CW.ref (q := 4) lo_X7_3 lo_i lo_c rfl (by decide) (by decide) dX7_init_1 rfl ?_
  refine AW.aload_n dX7_init_4 (.refl 5) 0 rfl ?_
  refine AW.bipush (v := (48 : Int32)) dX7_init_5 (.refl 7) (by decide) ?_
  refine CW.newI (q := 9) (cl' := 1) (sl' := 48) (n' := 3) la_I (by decide) rfl rfl rfl (by decide) (by decide) (by decide) (by decide) (by decide) dX7_init_7 rfl rfl rfl rfl ?_
  refine CW.putR (q := 12) (p' := 1) lpf_X7_9 rfl (by decide) rfl rfl (by decide) (by decide +kernel) rfl dX7_init_9 rfl rfl ?_
  refine AW.aload_n dX7_init_12 (.refl 13) 0 rfl ?_
  refine AW.iconst (v := (0 : Int32)) dX7_init_13 (.refl 14) (by decide) ?_
  refine CW.putI0 (q := 17) lp_X7_15 lf_X7_15 (by decide) rfl rfl (by decide) rfl dX7_init_14 rfl ?_
  exact CW.ret rfl dX7_init_17
set_option maxRecDepth 20000 in
theorem k1_X8_init {l : Launch} {G : Gg} : MC l G 1 M_X8_init [.ref 3] z0 4 2 z0 16 14 12 146 := by
  refine MC.of (by decide +kernel) (Nat.le_of_ble_eq_true rfl) ?_
  show CW l G 1 M_X8_init z0 16 14 12 146 0 0 0 [(0, .ref 3)] [] z0 4 2
  refine AW.aload_n dX8_init_0 (.refl 1) 0 rfl ?_
  refine CW.ref (q := 4) lo_X8_3 lo_i lo_c rfl (by decide) (by decide) dX8_init_1 rfl ?_
  refine AW.aload_n dX8_init_4 (.refl 5) 0 rfl ?_
  refine AW.iconst (v := (0 : Int32)) dX8_init_5 (.refl 6) (by decide) ?_
  refine CW.putI0 (q := 9) lp_X8_9 lf_X8_9 (by decide) rfl rfl (by decide) rfl dX8_init_6 rfl ?_
  refine AW.aload_n dX8_init_9 (.refl 10) 0 rfl ?_
  refine AW.iconst (v := (0 : Int32)) dX8_init_10 (.refl 11) (by decide) ?_
  refine CW.putI0 (q := 14) lp_X8_15 lf_X8_15 (by decide) rfl rfl (by decide) rfl dX8_init_11 rfl ?_
  refine AW.aload_n dX8_init_14 (.refl 15) 0 rfl ?_
  refine AW.iconst (v := (3 : Int32)) dX8_init_15 (.refl 16) (by decide) ?_
  refine CW.newI (q := 18) (cl' := 1) (sl' := 3) (n' := 5) la_I (by decide) rfl rfl rfl (by decide) (by decide) (by decide) (by decide) (by decide) dX8_init_16 rfl rfl rfl rfl ?_
  refine CW.putR (q := 21) (p' := 3) lpf_X8_18 rfl (by decide) rfl rfl (by decide) (by decide +kernel) rfl dX8_init_18 rfl rfl ?_
  refine AW.aload_n dX8_init_21 (.refl 22) 0 rfl ?_
  refine AW.iconst (v := (3 : Int32)) dX8_init_22 (.refl 23) (by decide) ?_
  refine CW.newI (q := 25) (cl' := 2) (sl' := 6) (n' := 6) la_I (by decide) rfl rfl rfl (by decide) (by decide) (by decide) (by decide) (by decide) dX8_init_23 rfl rfl rfl rfl ?_
  refine CW.putR (q := 28) (p' := 4) lpf_X8_22 rfl (by decide) rfl rfl (by decide) (by decide +kernel) rfl dX8_init_25 rfl rfl ?_
  refine AW.aload_n dX8_init_28 (.refl 29) 0 rfl ?_
  refine AW.iconst (v := (5 : Int32)) dX8_init_29 (.refl 30) (by decide) ?_
  refine CW.newI (q := 32) (cl' := 3) (sl' := 11) (n' := 7) la_I (by decide) rfl rfl rfl (by decide) (by decide) (by decide) (by decide) (by decide) dX8_init_30 rfl rfl rfl rfl ?_
  refine CW.putR (q := 35) (p' := 5) lpf_X8_25 rfl (by decide) rfl rfl (by decide) (by decide +kernel) rfl dX8_init_32 rfl rfl ?_
  refine AW.aload_n dX8_init_35 (.refl 36) 0 rfl ?_
  refine AW.iconst (v := (5 : Int32)) dX8_init_36 (.refl 37) (by decide) ?_
  refine CW.newI (q := 39) (cl' := 4) (sl' := 16) (n' := 8) la_I (by decide) rfl rfl rfl (by decide) (by decide) (by decide) (by decide) (by decide) dX8_init_37 rfl rfl rfl rfl ?_
  refine CW.putR (q := 42) (p' := 6) lpf_X8_28 rfl (by decide) rfl rfl (by decide) (by decide +kernel) rfl dX8_init_39 rfl rfl ?_
  refine AW.aload_n dX8_init_42 (.refl 43) 0 rfl ?_
  refine AW.iconst (v := (5 : Int32)) dX8_init_43 (.refl 44) (by decide) ?_
  refine CW.newI (q := 46) (cl' := 5) (sl' := 21) (n' := 9) la_I (by decide) rfl rfl rfl (by decide) (by decide) (by decide) (by decide) (by decide) dX8_init_44 rfl rfl rfl rfl ?_
  refine CW.putR (q := 49) (p' := 7) lpf_X8_31 rfl (by decide) rfl rfl (by decide) (by decide +kernel) rfl dX8_init_46 rfl rfl ?_
  refine AW.aload_n dX8_init_49 (.refl 50) 0 rfl ?_
  refine AW.iconst (v := (5 : Int32)) dX8_init_50 (.refl 51) (by decide) ?_
  refine CW.newI (q := 53) (cl' := 6) (sl' := 26) (n' := 10) la_I (by decide) rfl rfl rfl (by decide) (by decide) (by decide) (by decide) (by decide) dX8_init_51 rfl rfl rfl rfl ?_
  refine CW.putR (q := 56) (p' := 8) lpf_X8_34 rfl (by decide) rfl rfl (by decide) (by decide +kernel) rfl dX8_init_53 rfl rfl ?_
  refine AW.aload_n dX8_init_56 (.refl 57) 0 rfl ?_
  refine AW.iconst (v := (5 : Int32)) dX8_init_57 (.refl 58) (by decide) ?_
  refine CW.newI (q := 60) (cl' := 7) (sl' := 31) (n' := 11) la_I (by decide) rfl rfl rfl (by decide) (by decide) (by decide) (by decide) (by decide) dX8_init_58 rfl rfl rfl rfl ?_
  refine CW.putR (q := 63) (p' := 9) lpf_X8_37 rfl (by decide) rfl rfl (by decide) (by decide +kernel) rfl dX8_init_60 rfl rfl ?_
  refine AW.aload_n dX8_init_63 (.refl 64) 0 rfl ?_
  refine AW.iconst (v := (5 : Int32)) dX8_init_64 (.refl 65) (by decide) ?_
  refine CW.newI (q := 67) (cl' := 8) (sl' := 36) (n' := 12) la_I (by decide) rfl rfl rfl (by decide) (by decide) (by decide) (by decide) (by decide) dX8_init_65 rfl rfl rfl rfl ?_
  refine CW.putR (q := 70) (p' := 10) lpf_X8_40 rfl (by decide) rfl rfl (by decide) (by decide +kernel) rfl dX8_init_67 rfl rfl ?_
  refine AW.aload_n dX8_init_70 (.refl 71) 0 rfl ?_
  refine AW.iconst (v := (5 : Int32)) dX8_init_71 (.refl 72) (by decide) ?_
  refine CW.newI (q := 74) (cl' := 9) (sl' := 41) (n' := 13) la_I (by decide) rfl rfl rfl (by decide) (by decide) (by decide) (by decide) (by decide) dX8_init_72 rfl rfl rfl rfl ?_
  refine CW.putR (q := 77) (p' := 11) lpf_X8_43 rfl (by decide) rfl rfl (by decide) (by decide +kernel) rfl dX8_init_74 rfl rfl ?_
  refine AW.aload_n dX8_init_77 (.refl 78) 0 rfl ?_
  refine AW.iconst (v := (5 : Int32)) dX8_init_78 (.refl 79) (by decide) ?_
  refine CW.newI (q := 81) (cl' := 10) (sl' := 46) (n' := 14) la_I (by decide) rfl rfl rfl (by decide) (by decide) (by decide) (by decide) (by decide) dX8_init_79 rfl rfl rfl rfl ?_
  refine CW.putR (q := 84) (p' := 12) lpf_X8_46 rfl (by decide) rfl rfl (by decide) (by decide +kernel) rfl dX8_init_81 rfl rfl ?_
  refine AW.aload_n dX8_init_84 (.refl 85) 0 rfl ?_
  refine AW.bipush (v := (50 : Int32)) dX8_init_85 (.refl 87) (by decide) ?_
  refine CW.newJ (q := 89) (cl' := 11) (sl' := 96) (n' := 15) la_J (by decide) rfl rfl rfl (by decide) (by decide) (by decide) (by decide) (by decide) dX8_init_87 rfl rfl rfl rfl ?_
  refine CW.putR (q := 92) (p' := 13) lpf_X8_49 rfl (by decide) rfl rfl (by decide) (by decide +kernel) rfl dX8_init_89 rfl rfl ?_
  refine AW.aload_n dX8_init_92 (.refl 93) 0 rfl ?_
  refine AW.bipush (v := (50 : Int32)) dX8_init_93 (.refl 95) (by decide) ?_
  refine CW.newI (q := 97) (cl' := 12) (sl' := 146) (n' := 16) la_I (by decide) rfl rfl rfl (by decide) (by decide) (by decide) (by decide) (by decide) dX8_init_95 rfl rfl rfl rfl ?_
  refine CW.putR (q := 100) (p' := 14) lpf_X8_53 rfl (by decide) rfl rfl (by decide) (by decide +kernel) rfl dX8_init_97 rfl rfl ?_
  exact CW.ret rfl dX8_init_100
set_option maxRecDepth 20000 in
theorem k2_X1_init {l : Launch} {G : Gg} : MC l G 1 M_X1_init [.ref 16, .ref 3] z0 17 15 z0 18 17 1 5 := by
  refine MC.of (by decide +kernel) (Nat.le_of_ble_eq_true rfl) ?_
  show CW l G 1 M_X1_init z0 18 17 1 5 0 0 0 [(0, .ref 16), (1, .ref 3)] [] z0 17 15
  refine AW.aload_n dX1_init_0 (.refl 1) 0 rfl ?_
  refine CW.ref (q := 4) lo_X1_3 lo_i lo_c rfl (by decide) (by decide) dX1_init_1 rfl ?_
  refine AW.aload_n dX1_init_4 (.refl 5) 0 rfl ?_
  refine AW.iconst (v := (5 : Int32)) dX1_init_5 (.refl 6) (by decide) ?_
  refine CW.newI (q := 8) (cl' := 1) (sl' := 5) (n' := 18) la_I (by decide) rfl rfl rfl (by decide) (by decide) (by decide) (by decide) (by decide) dX1_init_6 rfl rfl rfl rfl ?_
  refine CW.putR (q := 11) (p' := 16) lpf_X1_9 rfl (by decide) rfl rfl (by decide) (by decide +kernel) rfl dX1_init_8 rfl rfl ?_
  refine AW.aload_n dX1_init_11 (.refl 12) 0 rfl ?_
  refine AW.aload_n dX1_init_12 (.refl 13) 1 rfl ?_
  refine CW.putR (q := 16) (p' := 17) lpf_X1_15 rfl (by decide) rfl rfl (by decide) (by decide +kernel) rfl dX1_init_13 rfl rfl ?_
  exact CW.ret rfl dX1_init_16
set_option maxRecDepth 20000 in
theorem k3_X1_init {l : Launch} {G : Gg} : MC l G 1 M_X1_init [.ref 18, .ref 3] z0 19 18 z0 20 20 1 5 := by
  refine MC.of (by decide +kernel) (Nat.le_of_ble_eq_true rfl) ?_
  show CW l G 1 M_X1_init z0 20 20 1 5 0 0 0 [(0, .ref 18), (1, .ref 3)] [] z0 19 18
  refine AW.aload_n dX1_init_0 (.refl 1) 0 rfl ?_
  refine CW.ref (q := 4) lo_X1_3 lo_i lo_c rfl (by decide) (by decide) dX1_init_1 rfl ?_
  refine AW.aload_n dX1_init_4 (.refl 5) 0 rfl ?_
  refine AW.iconst (v := (5 : Int32)) dX1_init_5 (.refl 6) (by decide) ?_
  refine CW.newI (q := 8) (cl' := 1) (sl' := 5) (n' := 20) la_I (by decide) rfl rfl rfl (by decide) (by decide) (by decide) (by decide) (by decide) dX1_init_6 rfl rfl rfl rfl ?_
  refine CW.putR (q := 11) (p' := 19) lpf_X1_9 rfl (by decide) rfl rfl (by decide) (by decide +kernel) rfl dX1_init_8 rfl rfl ?_
  refine AW.aload_n dX1_init_11 (.refl 12) 0 rfl ?_
  refine AW.aload_n dX1_init_12 (.refl 13) 1 rfl ?_
  refine CW.putR (q := 16) (p' := 20) lpf_X1_15 rfl (by decide) rfl rfl (by decide) (by decide +kernel) rfl dX1_init_13 rfl rfl ?_
  exact CW.ret rfl dX1_init_16
set_option maxRecDepth 20000 in
theorem k4_X1_init {l : Launch} {G : Gg} : MC l G 1 M_X1_init [.ref 21, .ref 3] z0 22 21 z0 23 23 1 5 := by
  refine MC.of (by decide +kernel) (Nat.le_of_ble_eq_true rfl) ?_
  show CW l G 1 M_X1_init z0 23 23 1 5 0 0 0 [(0, .ref 21), (1, .ref 3)] [] z0 22 21
  refine AW.aload_n dX1_init_0 (.refl 1) 0 rfl ?_
  refine CW.ref (q := 4) lo_X1_3 lo_i lo_c rfl (by decide) (by decide) dX1_init_1 rfl ?_
  refine AW.aload_n dX1_init_4 (.refl 5) 0 rfl ?_
  refine AW.iconst (v := (5 : Int32)) dX1_init_5 (.refl 6) (by decide) ?_
  refine CW.newI (q := 8) (cl' := 1) (sl' := 5) (n' := 23) la_I (by decide) rfl rfl rfl (by decide) (by decide) (by decide) (by decide) (by decide) dX1_init_6 rfl rfl rfl rfl ?_
  refine CW.putR (q := 11) (p' := 22) lpf_X1_9 rfl (by decide) rfl rfl (by decide) (by decide +kernel) rfl dX1_init_8 rfl rfl ?_
  refine AW.aload_n dX1_init_11 (.refl 12) 0 rfl ?_
  refine AW.aload_n dX1_init_12 (.refl 13) 1 rfl ?_
  refine CW.putR (q := 16) (p' := 23) lpf_X1_15 rfl (by decide) rfl rfl (by decide) (by decide +kernel) rfl dX1_init_13 rfl rfl ?_
  exact CW.ret rfl dX1_init_16
set_option maxRecDepth 20000 in
theorem k5_X6_init {l : Launch} {G : Gg} : MC l G 2 M_X6_init [.ref 20, .ref 3] z0 21 21 z0 23 24 2 7 := by
  refine MC.of (by decide +kernel) (Nat.le_of_ble_eq_true rfl) ?_
  show CW l G 2 M_X6_init z0 23 24 2 7 0 0 0 [(0, .ref 20), (1, .ref 3)] [] z0 21 21
  refine AW.aload_n dX6_init_0 (.refl 1) 0 rfl ?_
  refine CW.ref (q := 4) lo_X6_1 lo_i lo_c rfl (by decide) (by decide) dX6_init_1 rfl ?_
  refine AW.aload_n dX6_init_4 (.refl 5) 0 rfl ?_
  refine AW.iconst (v := (0 : Int32)) dX6_init_5 (.refl 6) (by decide) ?_
  refine CW.putZ0 (q := 9) lp_X6_7 lf_X6_7 (by decide) rfl rfl (by decide) rfl dX6_init_6 rfl ?_
  refine AW.aload_n dX6_init_9 (.refl 10) 0 rfl ?_
  refine CW.new (q := 13) (cl' := 1) (sl' := 2) (n' := 22) ln_X6_n13 (by decide) rfl (by decide) rfl rfl (by decide +kernel) (by decide) (by decide) dX6_init_10 rfl rfl rfl rfl ?_
  refine AW.dup dX6_init_13 (.refl 14) rfl ?_
  refine AW.aload_n dX6_init_14 (.refl 15) 1 rfl ?_
  refine CW.callI (q := 18) (cl' := 2) (sl' := 7) (rest := [.ref 21, .ref 20]) li_X6_15 k4_X1_init (by decide) (by decide) (by decide) rfl rfl (Nat.le_of_ble_eq_true rfl) dX6_init_15 rfl rfl rfl ?_
  refine CW.putR (q := 21) (p' := 24) lpf_X6_18 rfl (by decide) rfl rfl (by decide) (by decide +kernel) rfl dX6_init_18 rfl rfl ?_
  exact CW.ret rfl dX6_init_21
set_option maxRecDepth 20000 in
theorem k6_X1_init {l : Launch} {G : Gg} : MC l G 1 M_X1_init [.ref 24, .ref 3] z0 25 25 z0 26 27 1 5 := by
  refine MC.of (by decide +kernel) (Nat.le_of_ble_eq_true rfl) ?_
  show CW l G 1 M_X1_init z0 26 27 1 5 0 0 0 [(0, .ref 24), (1, .ref 3)] [] z0 25 25
  refine AW.aload_n dX1_init_0 (.refl 1) 0 rfl ?_
  refine CW.ref (q := 4) lo_X1_3 lo_i lo_c rfl (by decide) (by decide) dX1_init_1 rfl ?_
  refine AW.aload_n dX1_init_4 (.refl 5) 0 rfl ?_
  refine AW.iconst (v := (5 : Int32)) dX1_init_5 (.refl 6) (by decide) ?_
  refine CW.newI (q := 8) (cl' := 1) (sl' := 5) (n' := 26) la_I (by decide) rfl rfl rfl (by decide) (by decide) (by decide) (by decide) (by decide) dX1_init_6 rfl rfl rfl rfl ?_
  refine CW.putR (q := 11) (p' := 26) lpf_X1_9 rfl (by decide) rfl rfl (by decide) (by decide +kernel) rfl dX1_init_8 rfl rfl ?_
  refine AW.aload_n dX1_init_11 (.refl 12) 0 rfl ?_
  refine AW.aload_n dX1_init_12 (.refl 13) 1 rfl ?_
  refine CW.putR (q := 16) (p' := 27) lpf_X1_15 rfl (by decide) rfl rfl (by decide) (by decide +kernel) rfl dX1_init_13 rfl rfl ?_
  exact CW.ret rfl dX1_init_16
set_option maxRecDepth 20000 in
theorem k7_X6_init {l : Launch} {G : Gg} : MC l G 2 M_X6_init [.ref 23, .ref 3] z0 24 25 z0 26 28 2 7 := by
  refine MC.of (by decide +kernel) (Nat.le_of_ble_eq_true rfl) ?_
  show CW l G 2 M_X6_init z0 26 28 2 7 0 0 0 [(0, .ref 23), (1, .ref 3)] [] z0 24 25
  refine AW.aload_n dX6_init_0 (.refl 1) 0 rfl ?_
  refine CW.ref (q := 4) lo_X6_1 lo_i lo_c rfl (by decide) (by decide) dX6_init_1 rfl ?_
  refine AW.aload_n dX6_init_4 (.refl 5) 0 rfl ?_
  refine AW.iconst (v := (0 : Int32)) dX6_init_5 (.refl 6) (by decide) ?_
  refine CW.putZ0 (q := 9) lp_X6_7 lf_X6_7 (by decide) rfl rfl (by decide) rfl dX6_init_6 rfl ?_
  refine AW.aload_n dX6_init_9 (.refl 10) 0 rfl ?_
  refine CW.new (q := 13) (cl' := 1) (sl' := 2) (n' := 25) ln_X6_n13 (by decide) rfl (by decide) rfl rfl (by decide +kernel) (by decide) (by decide) dX6_init_10 rfl rfl rfl rfl ?_
  refine AW.dup dX6_init_13 (.refl 14) rfl ?_
  refine AW.aload_n dX6_init_14 (.refl 15) 1 rfl ?_
  refine CW.callI (q := 18) (cl' := 2) (sl' := 7) (rest := [.ref 24, .ref 23]) li_X6_15 k6_X1_init (by decide) (by decide) (by decide) rfl rfl (Nat.le_of_ble_eq_true rfl) dX6_init_15 rfl rfl rfl ?_
  refine CW.putR (q := 21) (p' := 28) lpf_X6_18 rfl (by decide) rfl rfl (by decide) (by decide +kernel) rfl dX6_init_18 rfl rfl ?_
  exact CW.ret rfl dX6_init_21
set_option maxRecDepth 20000 in
theorem k8_X0_init {l : Launch} {G : Gg} : MC l G 1 M_X0_init [.ref 26] z0 27 29 z0 29 31 2 32 := by
  refine MC.of (by decide +kernel) (Nat.le_of_ble_eq_true rfl) ?_
  show CW l G 1 M_X0_init z0 29 31 2 32 0 0 0 [(0, .ref 26)] [] z0 27 29
  refine AW.aload_n dX0_init_0 (.refl 1) 0 rfl ?_
  refine CW.ref (q := 4) lo_X0_3 lo_i lo_c rfl (by decide) (by decide) dX0_init_1 rfl ?_
  refine AW.aload_n dX0_init_4 (.refl 5) 0 rfl ?_
  refine AW.bipush (v := (16 : Int32)) dX0_init_5 (.refl 7) (by decide) ?_
  refine CW.newI (q := 9) (cl' := 1) (sl' := 16) (n' := 28) la_I (by decide) rfl rfl rfl (by decide) (by decide) (by decide) (by decide) (by decide) dX0_init_7 rfl rfl rfl rfl ?_
  refine CW.putR (q := 12) (p' := 30) lpf_X0_9 rfl (by decide) rfl rfl (by decide) (by decide +kernel) rfl dX0_init_9 rfl rfl ?_
  refine AW.aload_n dX0_init_12 (.refl 13) 0 rfl ?_
  refine AW.bipush (v := (16 : Int32)) dX0_init_13 (.refl 15) (by decide) ?_
  refine CW.newI (q := 17) (cl' := 2) (sl' := 32) (n' := 29) la_I (by decide) rfl rfl rfl (by decide) (by decide) (by decide) (by decide) (by decide) dX0_init_15 rfl rfl rfl rfl ?_
  refine CW.putR (q := 20) (p' := 31) lpf_X0_15 rfl (by decide) rfl rfl (by decide) (by decide +kernel) rfl dX0_init_17 rfl rfl ?_
  refine AW.aload_n dX0_init_20 (.refl 21) 0 rfl ?_
  refine AW.iconst (v := (0 : Int32)) dX0_init_21 (.refl 22) (by decide) ?_
  refine CW.putI0 (q := 25) lp_X0_18 lf_X0_18 (by decide) rfl rfl (by decide) rfl dX0_init_22 rfl ?_
  exact CW.ret rfl dX0_init_25
set_option maxRecDepth 20000 in
theorem k9_X1_init {l : Launch} {G : Gg} : MC l G 1 M_X1_init [.ref 32, .ref 3] z0 33 35 z0 34 37 1 5 := by
  refine MC.of (by decide +kernel) (Nat.le_of_ble_eq_true rfl) ?_
  show CW l G 1 M_X1_init z0 34 37 1 5 0 0 0 [(0, .ref 32), (1, .ref 3)] [] z0 33 35
  refine AW.aload_n dX1_init_0 (.refl 1) 0 rfl ?_
  refine CW.ref (q := 4) lo_X1_3 lo_i lo_c rfl (by decide) (by decide) dX1_init_1 rfl ?_
  refine AW.aload_n dX1_init_4 (.refl 5) 0 rfl ?_
  refine AW.iconst (v := (5 : Int32)) dX1_init_5 (.refl 6) (by decide) ?_
  refine CW.newI (q := 8) (cl' := 1) (sl' := 5) (n' := 34) la_I (by decide) rfl rfl rfl (by decide) (by decide) (by decide) (by decide) (by decide) dX1_init_6 rfl rfl rfl rfl ?_
  refine CW.putR (q := 11) (p' := 36) lpf_X1_9 rfl (by decide) rfl rfl (by decide) (by decide +kernel) rfl dX1_init_8 rfl rfl ?_
  refine AW.aload_n dX1_init_11 (.refl 12) 0 rfl ?_
  refine AW.aload_n dX1_init_12 (.refl 13) 1 rfl ?_
  refine CW.putR (q := 16) (p' := 37) lpf_X1_15 rfl (by decide) rfl rfl (by decide) (by decide +kernel) rfl dX1_init_13 rfl rfl ?_
  exact CW.ret rfl dX1_init_16
set_option maxRecDepth 20000 in
theorem k10_X1_init {l : Launch} {G : Gg} : MC l G 1 M_X1_init [.ref 34, .ref 3] z0 35 38 z0 36 40 1 5 := by
  refine MC.of (by decide +kernel) (Nat.le_of_ble_eq_true rfl) ?_
  show CW l G 1 M_X1_init z0 36 40 1 5 0 0 0 [(0, .ref 34), (1, .ref 3)] [] z0 35 38
  refine AW.aload_n dX1_init_0 (.refl 1) 0 rfl ?_
  refine CW.ref (q := 4) lo_X1_3 lo_i lo_c rfl (by decide) (by decide) dX1_init_1 rfl ?_
  refine AW.aload_n dX1_init_4 (.refl 5) 0 rfl ?_
  refine AW.iconst (v := (5 : Int32)) dX1_init_5 (.refl 6) (by decide) ?_
  refine CW.newI (q := 8) (cl' := 1) (sl' := 5) (n' := 36) la_I (by decide) rfl rfl rfl (by decide) (by decide) (by decide) (by decide) (by decide) dX1_init_6 rfl rfl rfl rfl ?_
  refine CW.putR (q := 11) (p' := 39) lpf_X1_9 rfl (by decide) rfl rfl (by decide) (by decide +kernel) rfl dX1_init_8 rfl rfl ?_
  refine AW.aload_n dX1_init_11 (.refl 12) 0 rfl ?_
  refine AW.aload_n dX1_init_12 (.refl 13) 1 rfl ?_
  refine CW.putR (q := 16) (p' := 40) lpf_X1_15 rfl (by decide) rfl rfl (by decide) (by decide +kernel) rfl dX1_init_13 rfl rfl ?_
  exact CW.ret rfl dX1_init_16
set_option maxRecDepth 20000 in
theorem k11_X4_init {l : Launch} {G : Gg} : MC l G 2 M_X4_init [.ref 29, .ref 3] z0 30 32 z0 36 41 6 25 := by
  refine MC.of (by decide +kernel) (Nat.le_of_ble_eq_true rfl) ?_
  show CW l G 2 M_X4_init z0 36 41 6 25 0 0 0 [(0, .ref 29), (1, .ref 3)] [] z0 30 32
  refine AW.aload_n dX4_init_0 (.refl 1) 0 rfl ?_
  refine CW.ref (q := 4) lo_X4_3 lo_i lo_c rfl (by decide) (by decide) dX4_init_1 rfl ?_
  refine AW.aload_n dX4_init_4 (.refl 5) 0 rfl ?_
  refine AW.iconst (v := (5 : Int32)) dX4_init_5 (.refl 6) (by decide) ?_
  refine CW.newI (q := 8) (cl' := 1) (sl' := 5) (n' := 31) la_I (by decide) rfl rfl rfl (by decide) (by decide) (by decide) (by decide) (by decide) dX4_init_6 rfl rfl rfl rfl ?_
  refine CW.putR (q := 11) (p' := 33) lpf_X4_9 rfl (by decide) rfl rfl (by decide) (by decide +kernel) rfl dX4_init_8 rfl rfl ?_
  refine AW.aload_n dX4_init_11 (.refl 12) 0 rfl ?_
  refine AW.bipush (v := (6 : Int32)) dX4_init_12 (.refl 14) (by decide) ?_
  refine CW.newI (q := 16) (cl' := 2) (sl' := 11) (n' := 32) la_I (by decide) rfl rfl rfl (by decide) (by decide) (by decide) (by decide) (by decide) dX4_init_14 rfl rfl rfl rfl ?_
  refine CW.putR (q := 19) (p' := 34) lpf_X4_15 rfl (by decide) rfl rfl (by decide) (by decide +kernel) rfl dX4_init_16 rfl rfl ?_
  refine AW.aload_n dX4_init_19 (.refl 20) 0 rfl ?_
  refine AW.iconst (v := (0 : Int32)) dX4_init_20 (.refl 21) (by decide) ?_
  refine CW.putI0 (q := 24) lp_X4_18 lf_X4_18 (by decide) rfl rfl (by decide) rfl dX4_init_21 rfl ?_
  refine AW.aload_n dX4_init_24 (.refl 25) 0 rfl ?_
  refine AW.aload_n dX4_init_25 (.refl 26) 1 rfl ?_
  refine CW.putR (q := 29) (p' := 35) lpf_X4_22 rfl (by decide) rfl rfl (by decide) (by decide +kernel) rfl dX4_init_26 rfl rfl ?_
  refine AW.aload_n dX4_init_29 (.refl 30) 0 rfl ?_
  refine CW.new (q := 33) (cl' := 3) (sl' := 13) (n' := 33) ln_X4_n26 (by decide) rfl (by decide) rfl rfl (by decide +kernel) (by decide) (by decide) dX4_init_30 rfl rfl rfl rfl ?_
  refine AW.dup dX4_init_33 (.refl 34) rfl ?_
  refine AW.aload_n dX4_init_34 (.refl 35) 1 rfl ?_
  refine CW.callI (q := 38) (cl' := 4) (sl' := 18) (rest := [.ref 32, .ref 29]) li_X4_28 k9_X1_init (by decide) (by decide) (by decide) rfl rfl (Nat.le_of_ble_eq_true rfl) dX4_init_35 rfl rfl rfl ?_
  refine CW.putR (q := 41) (p' := 38) lpf_X4_31 rfl (by decide) rfl rfl (by decide) (by decide +kernel) rfl dX4_init_38 rfl rfl ?_
  refine AW.aload_n dX4_init_41 (.refl 42) 0 rfl ?_
  refine CW.new (q := 45) (cl' := 5) (sl' := 20) (n' := 35) ln_X4_n26 (by decide) rfl (by decide) rfl rfl (by decide +kernel) (by decide) (by decide) dX4_init_42 rfl rfl rfl rfl ?_
  refine AW.dup dX4_init_45 (.refl 46) rfl ?_
  refine AW.aload_n dX4_init_46 (.refl 47) 1 rfl ?_
  refine CW.callI (q := 50) (cl' := 6) (sl' := 25) (rest := [.ref 34, .ref 29]) li_X4_28 k10_X1_init (by decide) (by decide) (by decide) rfl rfl (Nat.le_of_ble_eq_true rfl) dX4_init_47 rfl rfl rfl ?_
  refine CW.putR (q := 53) (p' := 41) lpf_X4_35 rfl (by decide) rfl rfl (by decide) (by decide +kernel) rfl dX4_init_50 rfl rfl ?_
  exact CW.ret rfl dX4_init_53
set_option maxRecDepth 20000 in
theorem k12_X3_init {l : Launch} {G : Gg} : MC l G 1 M_X3_init [.ref 36] z0 37 42 z0 39 44 2 12 := by
  refine MC.of (by decide +kernel) (Nat.le_of_ble_eq_true rfl) ?_
  show CW l G 1 M_X3_init z0 39 44 2 12 0 0 0 [(0, .ref 36)] [] z0 37 42
  refine AW.aload_n dX3_init_0 (.refl 1) 0 rfl ?_
  refine CW.ref (q := 4) lo_X3_3 lo_i lo_c rfl (by decide) (by decide) dX3_init_1 rfl ?_
  refine AW.aload_n dX3_init_4 (.refl 5) 0 rfl ?_
  refine AW.bipush (v := (6 : Int32)) dX3_init_5 (.refl 7) (by decide) ?_
  refine CW.newI (q := 9) (cl' := 1) (sl' := 6) (n' := 38) la_I (by decide) rfl rfl rfl (by decide) (by decide) (by decide) (by decide) (by decide) dX3_init_7 rfl rfl rfl rfl ?_
  refine CW.putR (q := 12) (p' := 43) lpf_X3_9 rfl (by decide) rfl rfl (by decide) (by decide +kernel) rfl dX3_init_9 rfl rfl ?_
  refine AW.aload_n dX3_init_12 (.refl 13) 0 rfl ?_
  refine AW.bipush (v := (6 : Int32)) dX3_init_13 (.refl 15) (by decide) ?_
  refine CW.newI (q := 17) (cl' := 2) (sl' := 12) (n' := 39) la_I (by decide) rfl rfl rfl (by decide) (by decide) (by decide) (by decide) (by decide) dX3_init_15 rfl rfl rfl rfl ?_
  refine CW.putR (q := 20) (p' := 44) lpf_X3_15 rfl (by decide) rfl rfl (by decide) (by decide +kernel) rfl dX3_init_17 rfl rfl ?_
  refine AW.aload_n dX3_init_20 (.refl 21) 0 rfl ?_
  refine AW.iconst (v := (0 : Int32)) dX3_init_21 (.refl 22) (by decide) ?_
  refine CW.putI0 (q := 25) lp_X3_18 lf_X3_18 (by decide) rfl rfl (by decide) rfl dX3_init_22 rfl ?_
  exact CW.ret rfl dX3_init_25
set_option maxRecDepth 20000 in
theorem k13_X2_init {l : Launch} {G : Gg} : MC l G 1 M_X2_init [.ref 39, .ref 3] z0 40 45 z0 40 46 0 0 := by
  refine MC.of (by decide +kernel) (Nat.le_of_ble_eq_true rfl) ?_
  show CW l G 1 M_X2_init z0 40 46 0 0 0 0 0 [(0, .ref 39), (1, .ref 3)] [] z0 40 45
  refine AW.aload_n dX2_init_0 (.refl 1) 0 rfl ?_
  refine CW.ref (q := 4) lo_X2_3 lo_i lo_c rfl (by decide) (by decide) dX2_init_1 rfl ?_
  refine AW.aload_n dX2_init_4 (.refl 5) 0 rfl ?_
  refine AW.iconst (v := (0 : Int32)) dX2_init_5 (.refl 6) (by decide) ?_
  refine CW.putI0 (q := 9) lp_X2_9 lf_X2_9 (by decide) rfl rfl (by decide) rfl dX2_init_6 rfl ?_
  refine AW.aload_n dX2_init_9 (.refl 10) 0 rfl ?_
  refine AW.iconst (v := (0 : Int32)) dX2_init_10 (.refl 11) (by decide) ?_
  refine CW.putI0 (q := 14) lp_X2_15 lf_X2_15 (by decide) rfl rfl (by decide) rfl dX2_init_11 rfl ?_
  refine AW.aload_n dX2_init_14 (.refl 15) 0 rfl ?_
  refine AW.iconst (v := (0 : Int32)) dX2_init_15 (.refl 16) (by decide) ?_
  refine CW.putI0 (q := 19) lp_X2_18 lf_X2_18 (by decide) rfl rfl (by decide) rfl dX2_init_16 rfl ?_
  refine AW.aload_n dX2_init_19 (.refl 20) 0 rfl ?_
  refine AW.iconst (v := (0 : Int32)) dX2_init_20 (.refl 21) (by decide) ?_
  refine CW.putI0 (q := 24) lp_X2_21 lf_X2_21 (by decide) rfl rfl (by decide) rfl dX2_init_21 rfl ?_
  refine AW.aload_n dX2_init_24 (.refl 25) 0 rfl ?_
  refine AW.iconst (v := (0 : Int32)) dX2_init_25 (.refl 26) (by decide) ?_
  refine CW.putI0 (q := 29) lp_X2_24 lf_X2_24 (by decide) rfl rfl (by decide) rfl dX2_init_26 rfl ?_
  refine AW.aload_n dX2_init_29 (.refl 30) 0 rfl ?_
  refine AW.iconst (v := (0 : Int32)) dX2_init_30 (.refl 31) (by decide) ?_
  refine CW.putI0 (q := 34) lp_X2_27 lf_X2_27 (by decide) rfl rfl (by decide) rfl dX2_init_31 rfl ?_
  refine AW.aload_n dX2_init_34 (.refl 35) 0 rfl ?_
  refine AW.iconst (v := (0 : Int32)) dX2_init_35 (.refl 36) (by decide) ?_
  refine CW.putI0 (q := 39) lp_X2_30 lf_X2_30 (by decide) rfl rfl (by decide) rfl dX2_init_36 rfl ?_
  refine AW.aload_n dX2_init_39 (.refl 40) 0 rfl ?_
  refine AW.iconst (v := (0 : Int32)) dX2_init_40 (.refl 41) (by decide) ?_
  refine CW.putI0 (q := 44) lp_X2_33 lf_X2_33 (by decide) rfl rfl (by decide) rfl dX2_init_41 rfl ?_
  refine AW.aload_n dX2_init_44 (.refl 45) 0 rfl ?_
  refine AW.iconst (v := (0 : Int32)) dX2_init_45 (.refl 46) (by decide) ?_
  refine CW.putI0 (q := 49) lp_X2_36 lf_X2_36 (by decide) rfl rfl (by decide) rfl dX2_init_46 rfl ?_
  refine AW.aload_n dX2_init_49 (.refl 50) 0 rfl ?_
  refine AW.iconst (v := (0 : Int32)) dX2_init_50 (.refl 51) (by decide) ?_
  refine CW.putI0 (q := 54) lp_X2_39 lf_X2_39 (by decide) rfl rfl (by decide) rfl dX2_init_51 rfl ?_
  refine AW.aload_n dX2_init_54 (.refl 55) 0 rfl ?_
  refine AW.aload_n dX2_init_55 (.refl 56) 1 rfl ?_
  refine CW.putR (q := 59) (p' := 46) lpf_X2_42 rfl (by decide) rfl rfl (by decide) (by decide +kernel) rfl dX2_init_56 rfl rfl ?_
  exact CW.ret rfl dX2_init_59
set_option maxRecDepth 20000 in
theorem k14_X5_init {l : Launch} {G : Gg} : MC l G 1 M_X5_init [.ref 40, .ref 3] z0 41 47 z0 45 52 4 60 := by
  refine MC.of (by decide +kernel) (Nat.le_of_ble_eq_true rfl) ?_
  show CW l G 1 M_X5_init z0 45 52 4 60 0 0 0 [(0, .ref 40), (1, .ref 3)] [] z0 41 47
  refine AW.aload_n dX5_init_0 (.refl 1) 0 rfl ?_
  refine CW.ref (q := 4) lo_X5_3 lo_i lo_c rfl (by decide) (by decide) dX5_init_1 rfl ?_
  refine AW.aload_n dX5_init_4 (.refl 5) 0 rfl ?_
  refine AW.bipush (v := (15 : Int32)) dX5_init_5 (.refl 7) (by decide) ?_
  refine CW.newI (q := 9) (cl' := 1) (sl' := 15) (n' := 42) la_I (by decide) rfl rfl rfl (by decide) (by decide) (by decide) (by decide) (by decide) dX5_init_7 rfl rfl rfl rfl ?_
  refine CW.putR (q := 12) (p' := 48) lpf_X5_9 rfl (by decide) rfl rfl (by decide) (by decide +kernel) rfl dX5_init_9 rfl rfl ?_
  refine AW.aload_n dX5_init_12 (.refl 13) 0 rfl ?_
  refine AW.bipush (v := (15 : Int32)) dX5_init_13 (.refl 15) (by decide) ?_
  refine CW.newI (q := 17) (cl' := 2) (sl' := 30) (n' := 43) la_I (by decide) rfl rfl rfl (by decide) (by decide) (by decide) (by decide) (by decide) dX5_init_15 rfl rfl rfl rfl ?_
  refine CW.putR (q := 20) (p' := 49) lpf_X5_15 rfl (by decide) rfl rfl (by decide) (by decide +kernel) rfl dX5_init_17 rfl rfl ?_
  refine AW.aload_n dX5_init_20 (.refl 21) 0 rfl ?_
  refine AW.bipush (v := (15 : Int32)) dX5_init_21 (.refl 23) (by decide) ?_
  refine CW.newI (q := 25) (cl' := 3) (sl' := 45) (n' := 44) la_I (by decide) rfl rfl rfl (by decide) (by decide) (by decide) (by decide) (by decide) dX5_init_23 rfl rfl rfl rfl ?_
  refine CW.putR (q := 28) (p' := 50) lpf_X5_18 rfl (by decide) rfl rfl (by decide) (by decide +kernel) rfl dX5_init_25 rfl rfl ?_
  refine AW.aload_n dX5_init_28 (.refl 29) 0 rfl ?_
  refine AW.bipush (v := (15 : Int32)) dX5_init_29 (.refl 31) (by decide) ?_
  refine CW.newI (q := 33) (cl' := 4) (sl' := 60) (n' := 45) la_I (by decide) rfl rfl rfl (by decide) (by decide) (by decide) (by decide) (by decide) dX5_init_31 rfl rfl rfl rfl ?_
  refine CW.putR (q := 36) (p' := 51) lpf_X5_21 rfl (by decide) rfl rfl (by decide) (by decide +kernel) rfl dX5_init_33 rfl rfl ?_
  refine AW.aload_n dX5_init_36 (.refl 37) 0 rfl ?_
  refine AW.iconst (v := (0 : Int32)) dX5_init_37 (.refl 38) (by decide) ?_
  refine CW.putI0 (q := 41) lp_X5_24 lf_X5_24 (by decide) rfl rfl (by decide) rfl dX5_init_38 rfl ?_
  refine AW.aload_n dX5_init_41 (.refl 42) 0 rfl ?_
  refine AW.iconst (v := (0 : Int32)) dX5_init_42 (.refl 43) (by decide) ?_
  refine CW.putI0 (q := 46) lp_X5_28 lf_X5_28 (by decide) rfl rfl (by decide) rfl dX5_init_43 rfl ?_
  refine AW.aload_n dX5_init_46 (.refl 47) 0 rfl ?_
  refine AW.aload_n dX5_init_47 (.refl 48) 1 rfl ?_
  refine CW.putR (q := 51) (p' := 52) lpf_X5_31 rfl (by decide) rfl rfl (by decide) (by decide +kernel) rfl dX5_init_48 rfl rfl ?_
  exact CW.ret rfl dX5_init_51
set_option maxRecDepth 20000 in
theorem k15_X9_init {l : Launch} {G : Gg} : MC l G 3 M_X9_init [.ref 0] z0 1 0 z0 46 54 45 406 := by
  refine MC.of (by decide +kernel) (Nat.le_of_ble_eq_true rfl) ?_
  show CW l G 3 M_X9_init z0 46 54 45 406 0 0 0 [(0, .ref 0)] [] z0 1 0
  refine AW.aload_n dX9_init_0 (.refl 1) 0 rfl ?_
  refine CW.ref (q := 4) lo_X9_1 lo_i lo_c rfl (by decide) (by decide) dX9_init_1 rfl ?_
  refine AW.aload_n dX9_init_4 (.refl 5) 0 rfl ?_
  refine CW.new (q := 8) (cl' := 1) (sl' := 2) (n' := 2) ln_X9_n7 (by decide) rfl (by decide) rfl rfl (by decide +kernel) (by decide) (by decide) dX9_init_5 rfl rfl rfl rfl ?_
  refine AW.dup dX9_init_8 (.refl 9) rfl ?_
  refine CW.callI (q := 12) (cl' := 2) (sl' := 50) (rest := [.ref 1, .ref 0]) li_X9_9 k0_X7_init (by decide) (by decide) (by decide) rfl rfl (Nat.le_of_ble_eq_true rfl) dX9_init_9 rfl rfl rfl ?_
  refine CW.putR (q := 15) (p' := 2) lpf_X9_10 rfl (by decide) rfl rfl (by decide) (by decide +kernel) rfl dX9_init_12 rfl rfl ?_
  refine AW.aload_n dX9_init_15 (.refl 16) 0 rfl ?_
  refine CW.new (q := 19) (cl' := 3) (sl' := 64) (n' := 4) ln_X9_n16 (by decide) rfl (by decide) rfl rfl (by decide +kernel) (by decide) (by decide) dX9_init_16 rfl rfl rfl rfl ?_
  refine AW.dup dX9_init_19 (.refl 20) rfl ?_
  refine CW.callI (q := 23) (cl' := 15) (sl' := 210) (rest := [.ref 3, .ref 0]) li_X9_18 k1_X8_init (by decide) (by decide) (by decide) rfl rfl (Nat.le_of_ble_eq_true rfl) dX9_init_20 rfl rfl rfl ?_
  refine CW.putR (q := 26) (p' := 15) lpf_X9_19 rfl (by decide) rfl rfl (by decide) (by decide +kernel) rfl dX9_init_23 rfl rfl ?_
  refine AW.aload_n dX9_init_26 (.refl 27) 0 rfl ?_
  refine CW.new (q := 30) (cl' := 16) (sl' := 212) (n' := 17) ln_X9_n23 (by decide) rfl (by decide) rfl rfl (by decide +kernel) (by decide) (by decide) dX9_init_27 rfl rfl rfl rfl ?_
  refine AW.dup dX9_init_30 (.refl 31) rfl ?_
  refine AW.aload_n dX9_init_31 (.refl 32) 0 rfl ?_
  refine CW.getR (q := 35) (z := 3) lk_X9_19 (by decide) rfl rfl (by decide) (by decide +kernel) dX9_init_32 rfl ?_
  refine CW.callI (q := 38) (cl' := 17) (sl' := 217) (rest := [.ref 16, .ref 0]) li_X9_25 k2_X1_init (by decide) (by decide) (by decide) rfl rfl (Nat.le_of_ble_eq_true rfl) dX9_init_35 rfl rfl rfl ?_
  refine CW.putR (q := 41) (p' := 18) lpf_X9_28 rfl (by decide) rfl rfl (by decide) (by decide +kernel) rfl dX9_init_38 rfl rfl ?_
  refine AW.aload_n dX9_init_41 (.refl 42) 0 rfl ?_
  refine CW.new (q := 45) (cl' := 18) (sl' := 219) (n' := 19) ln_X9_n23 (by decide) rfl (by decide) rfl rfl (by decide +kernel) (by decide) (by decide) dX9_init_42 rfl rfl rfl rfl ?_
  refine AW.dup dX9_init_45 (.refl 46) rfl ?_
  refine AW.aload_n dX9_init_46 (.refl 47) 0 rfl ?_
  refine CW.getR (q := 50) (z := 3) lk_X9_19 (by decide) rfl rfl (by decide) (by decide +kernel) dX9_init_47 rfl ?_
  refine CW.callI (q := 53) (cl' := 19) (sl' := 224) (rest := [.ref 18, .ref 0]) li_X9_25 k3_X1_init (by decide) (by decide) (by decide) rfl rfl (Nat.le_of_ble_eq_true rfl) dX9_init_50 rfl rfl rfl ?_
  refine CW.putR (q := 56) (p' := 21) lpf_X9_32 rfl (by decide) rfl rfl (by decide) (by decide +kernel) rfl dX9_init_53 rfl rfl ?_
  refine AW.aload_n dX9_init_56 (.refl 57) 0 rfl ?_
  refine CW.new (q := 60) (cl' := 20) (sl' := 226) (n' := 21) ln_X9_n35 (by decide) rfl (by decide) rfl rfl (by decide +kernel) (by decide) (by decide) dX9_init_57 rfl rfl rfl rfl ?_
  refine AW.dup dX9_init_60 (.refl 61) rfl ?_
  refine AW.aload_n dX9_init_61 (.refl 62) 0 rfl ?_
  refine CW.getR (q := 65) (z := 3) lk_X9_19 (by decide) rfl rfl (by decide) (by decide +kernel) dX9_init_62 rfl ?_
  refine CW.callI (q := 68) (cl' := 22) (sl' := 233) (rest := [.ref 20, .ref 0]) li_X9_37 k5_X6_init (by decide) (by decide) (by decide) rfl rfl (Nat.le_of_ble_eq_true rfl) dX9_init_65 rfl rfl rfl ?_
  refine CW.putR (q := 71) (p' := 25) lpf_X9_38 rfl (by decide) rfl rfl (by decide) (by decide +kernel) rfl dX9_init_68 rfl rfl ?_
  refine AW.aload_n dX9_init_71 (.refl 72) 0 rfl ?_
  refine CW.new (q := 75) (cl' := 23) (sl' := 235) (n' := 24) ln_X9_n35 (by decide) rfl (by decide) rfl rfl (by decide +kernel) (by decide) (by decide) dX9_init_72 rfl rfl rfl rfl ?_
  refine AW.dup dX9_init_75 (.refl 76) rfl ?_
  refine AW.aload_n dX9_init_76 (.refl 77) 0 rfl ?_
  refine CW.getR (q := 80) (z := 3) lk_X9_19 (by decide) rfl rfl (by decide) (by decide +kernel) dX9_init_77 rfl ?_
  refine CW.callI (q := 83) (cl' := 25) (sl' := 242) (rest := [.ref 23, .ref 0]) li_X9_37 k7_X6_init (by decide) (by decide) (by decide) rfl rfl (Nat.le_of_ble_eq_true rfl) dX9_init_80 rfl rfl rfl ?_
  refine CW.putR (q := 86) (p' := 29) lpf_X9_42 rfl (by decide) rfl rfl (by decide) (by decide +kernel) rfl dX9_init_83 rfl rfl ?_
  refine AW.aload_n dX9_init_86 (.refl 87) 0 rfl ?_
  refine CW.new (q := 90) (cl' := 26) (sl' := 245) (n' := 27) ln_X9_n45 (by decide) rfl (by decide) rfl rfl (by decide +kernel) (by decide) (by decide) dX9_init_87 rfl rfl rfl rfl ?_
  refine AW.dup dX9_init_90 (.refl 91) rfl ?_
  refine CW.callI (q := 94) (cl' := 28) (sl' := 277) (rest := [.ref 26, .ref 0]) li_X9_47 k8_X0_init (by decide) (by decide) (by decide) rfl rfl (Nat.le_of_ble_eq_true rfl) dX9_init_91 rfl rfl rfl ?_
  refine CW.putR (q := 97) (p' := 32) lpf_X9_48 rfl (by decide) rfl rfl (by decide) (by decide +kernel) rfl dX9_init_94 rfl rfl ?_
  refine AW.aload_n dX9_init_97 (.refl 98) 0 rfl ?_
  refine CW.new (q := 101) (cl' := 29) (sl' := 283) (n' := 30) ln_X9_n52 (by decide) rfl (by decide) rfl rfl (by decide +kernel) (by decide) (by decide) dX9_init_98 rfl rfl rfl rfl ?_
  refine AW.dup dX9_init_101 (.refl 102) rfl ?_
  refine AW.aload_n dX9_init_102 (.refl 103) 0 rfl ?_
  refine CW.getR (q := 106) (z := 3) lk_X9_19 (by decide) rfl rfl (by decide) (by decide +kernel) dX9_init_103 rfl ?_
  refine CW.callI (q := 109) (cl' := 35) (sl' := 308) (rest := [.ref 29, .ref 0]) li_X9_54 k11_X4_init (by decide) (by decide) (by decide) rfl rfl (Nat.le_of_ble_eq_true rfl) dX9_init_106 rfl rfl rfl ?_
  refine CW.putR (q := 112) (p' := 42) lpf_X9_55 rfl (by decide) rfl rfl (by decide) (by decide +kernel) rfl dX9_init_109 rfl rfl ?_
  refine AW.aload_n dX9_init_112 (.refl 113) 0 rfl ?_
  refine CW.new (q := 116) (cl' := 36) (sl' := 311) (n' := 37) ln_X9_n59 (by decide) rfl (by decide) rfl rfl (by decide +kernel) (by decide) (by decide) dX9_init_113 rfl rfl rfl rfl ?_
  refine AW.dup dX9_init_116 (.refl 117) rfl ?_
  refine CW.callI (q := 120) (cl' := 38) (sl' := 323) (rest := [.ref 36, .ref 0]) li_X9_61 k12_X3_init (by decide) (by decide) (by decide) rfl rfl (Nat.le_of_ble_eq_true rfl) dX9_init_117 rfl rfl rfl ?_
  refine CW.putR (q := 123) (p' := 45) lpf_X9_62 rfl (by decide) rfl rfl (by decide) (by decide +kernel) rfl dX9_init_120 rfl rfl ?_
  refine AW.aload_n dX9_init_123 (.refl 124) 0 rfl ?_
  refine CW.new (q := 127) (cl' := 39) (sl' := 334) (n' := 40) ln_X9_n66 (by decide) rfl (by decide) rfl rfl (by decide +kernel) (by decide) (by decide) dX9_init_124 rfl rfl rfl rfl ?_
  refine AW.dup dX9_init_127 (.refl 128) rfl ?_
  refine AW.aload_n dX9_init_128 (.refl 129) 0 rfl ?_
  refine CW.getR (q := 132) (z := 3) lk_X9_19 (by decide) rfl rfl (by decide) (by decide +kernel) dX9_init_129 rfl ?_
  refine CW.callI (q := 135) (cl' := 39) (sl' := 334) (rest := [.ref 39, .ref 0]) li_X9_68 k13_X2_init (by decide) (by decide) (by decide) rfl rfl (Nat.le_of_ble_eq_true rfl) dX9_init_132 rfl rfl rfl ?_
  refine CW.putR (q := 138) (p' := 47) lpf_X9_69 rfl (by decide) rfl rfl (by decide) (by decide +kernel) rfl dX9_init_135 rfl rfl ?_
  refine AW.aload_n dX9_init_138 (.refl 139) 0 rfl ?_
  refine CW.new (q := 142) (cl' := 40) (sl' := 341) (n' := 41) ln_X9_n73 (by decide) rfl (by decide) rfl rfl (by decide +kernel) (by decide) (by decide) dX9_init_139 rfl rfl rfl rfl ?_
  refine AW.dup dX9_init_142 (.refl 143) rfl ?_
  refine AW.aload_n dX9_init_143 (.refl 144) 0 rfl ?_
  refine CW.getR (q := 147) (z := 3) lk_X9_19 (by decide) rfl rfl (by decide) (by decide +kernel) dX9_init_144 rfl ?_
  refine CW.callI (q := 150) (cl' := 44) (sl' := 401) (rest := [.ref 40, .ref 0]) li_X9_75 k14_X5_init (by decide) (by decide) (by decide) rfl rfl (Nat.le_of_ble_eq_true rfl) dX9_init_147 rfl rfl rfl ?_
  refine CW.putR (q := 153) (p' := 53) lpf_X9_76 rfl (by decide) rfl rfl (by decide) (by decide +kernel) rfl dX9_init_150 rfl rfl ?_
  refine AW.aload_n dX9_init_153 (.refl 154) 0 rfl ?_
  refine AW.iconst (v := (5 : Int32)) dX9_init_154 (.refl 155) (by decide) ?_
  refine CW.newI (q := 157) (cl' := 45) (sl' := 406) (n' := 46) la_I (by decide) rfl rfl rfl (by decide) (by decide) (by decide) (by decide) (by decide) dX9_init_155 rfl rfl rfl rfl ?_
  refine CW.putR (q := 160) (p' := 54) lpf_X9_80 rfl (by decide) rfl rfl (by decide) (by decide +kernel) rfl dX9_init_157 rfl rfl ?_
  refine AW.aload_n dX9_init_160 (.refl 161) 0 rfl ?_
  refine AW.lconst (v := (0 : Int64)) dX9_init_161 (.refl 162) (by decide) ?_
  refine CW.putJ0 (q := 165) lp_X9_84 lf_X9_84 (by decide) rfl rfl (by decide) rfl dX9_init_162 rfl ?_
  exact CW.ret rfl dX9_init_165
set_option maxRecDepth 20000 in
theorem k16_X10_init {l : Launch} {G : Gg} : MC l G 1 M_X10_init [.ref 46] z0 47 54 (sI (sI (sI (sI (sI z0 52 0 (-9)) 52 1 (-9)) 52 2 (-9)) 52 3 (-9)) 52 4 (-9)) 75 82 28 544 := by
  refine MC.of (by decide +kernel) (Nat.le_of_ble_eq_true rfl) ?_
  show CW l G 1 M_X10_init (sI (sI (sI (sI (sI z0 52 0 (-9)) 52 1 (-9)) 52 2 (-9)) 52 3 (-9)) 52 4 (-9)) 75 82 28 544 0 0 0 [(0, .ref 46)] [] z0 47 54
  refine AW.aload_n dX10_init_0 (.refl 1) 0 rfl ?_
  refine CW.ref (q := 4) lo_X10_1 lo_i lo_c rfl (by decide) (by decide) dX10_init_1 rfl ?_
  refine AW.aload_n dX10_init_4 (.refl 5) 0 rfl ?_
  refine AW.iconst (v := (3 : Int32)) dX10_init_5 (.refl 6) (by decide) ?_
  refine CW.newI (q := 8) (cl' := 1) (sl' := 3) (n' := 48) la_I (by decide) rfl rfl rfl (by decide) (by decide) (by decide) (by decide) (by decide) dX10_init_6 rfl rfl rfl rfl ?_
  refine CW.putR (q := 11) (p' := 55) lpf_X10_7 rfl (by decide) rfl rfl (by decide) (by decide +kernel) rfl dX10_init_8 rfl rfl ?_
  refine AW.aload_n dX10_init_11 (.refl 12) 0 rfl ?_
  refine AW.iconst (v := (3 : Int32)) dX10_init_12 (.refl 13) (by decide) ?_
  refine CW.newI (q := 15) (cl' := 2) (sl' := 6) (n' := 49) la_I (by decide) rfl rfl rfl (by decide) (by decide) (by decide) (by decide) (by decide) dX10_init_13 rfl rfl rfl rfl ?_
  refine CW.putR (q := 18) (p' := 56) lpf_X10_13 rfl (by decide) rfl rfl (by decide) (by decide +kernel) rfl dX10_init_15 rfl rfl ?_
  refine AW.aload_n dX10_init_18 (.refl 19) 0 rfl ?_
  refine AW.bipush (v := (30 : Int32)) dX10_init_19 (.refl 21) (by decide) ?_
  refine CW.newI (q := 23) (cl' := 3) (sl' := 36) (n' := 50) la_I (by decide) rfl rfl rfl (by decide) (by decide) (by decide) (by decide) (by decide) dX10_init_21 rfl rfl rfl rfl ?_
  refine CW.putR (q := 26) (p' := 57) lpf_X10_16 rfl (by decide) rfl rfl (by decide) (by decide +kernel) rfl dX10_init_23 rfl rfl ?_
  refine AW.aload_n dX10_init_26 (.refl 27) 0 rfl ?_
  refine AW.bipush (v := (6 : Int32)) dX10_init_27 (.refl 29) (by decide) ?_
  refine CW.newI (q := 31) (cl' := 4) (sl' := 42) (n' := 51) la_I (by decide) rfl rfl rfl (by decide) (by decide) (by decide) (by decide) (by decide) dX10_init_29 rfl rfl rfl rfl ?_
  refine CW.putR (q := 34) (p' := 58) lpf_X10_19 rfl (by decide) rfl rfl (by decide) (by decide +kernel) rfl dX10_init_31 rfl rfl ?_
  refine AW.aload_n dX10_init_34 (.refl 35) 0 rfl ?_
  refine AW.bipush (v := (30 : Int32)) dX10_init_35 (.refl 37) (by decide) ?_
  refine CW.newI (q := 39) (cl' := 5) (sl' := 72) (n' := 52) la_I (by decide) rfl rfl rfl (by decide) (by decide) (by decide) (by decide) (by decide) dX10_init_37 rfl rfl rfl rfl ?_
  refine CW.putR (q := 42) (p' := 59) lpf_X10_22 rfl (by decide) rfl rfl (by decide) (by decide +kernel) rfl dX10_init_39 rfl rfl ?_
  refine AW.aload_n dX10_init_42 (.refl 43) 0 rfl ?_
  refine AW.iconst (v := (5 : Int32)) dX10_init_43 (.refl 44) (by decide) ?_
  refine CW.newI (q := 46) (cl' := 6) (sl' := 77) (n' := 53) la_I (by decide) rfl rfl rfl (by decide) (by decide) (by decide) (by decide) (by decide) dX10_init_44 rfl rfl rfl rfl ?_
  refine CW.putR (q := 49) (p' := 60) lpf_X10_25 rfl (by decide) rfl rfl (by decide) (by decide +kernel) rfl dX10_init_46 rfl rfl ?_
  refine AW.aload_n dX10_init_49 (.refl 50) 0 rfl ?_
  refine AW.bipush (v := (48 : Int32)) dX10_init_50 (.refl 52) (by decide) ?_
  refine CW.newI (q := 54) (cl' := 7) (sl' := 125) (n' := 54) la_I (by decide) rfl rfl rfl (by decide) (by decide) (by decide) (by decide) (by decide) dX10_init_52 rfl rfl rfl rfl ?_
  refine CW.putR (q := 57) (p' := 61) lpf_X10_28 rfl (by decide) rfl rfl (by decide) (by decide +kernel) rfl dX10_init_54 rfl rfl ?_
  refine AW.aload_n dX10_init_57 (.refl 58) 0 rfl ?_
  refine AW.bipush (v := (80 : Int32)) dX10_init_58 (.refl 60) (by decide) ?_
  refine CW.newI (q := 62) (cl' := 8) (sl' := 205) (n' := 55) la_I (by decide) rfl rfl rfl (by decide) (by decide) (by decide) (by decide) (by decide) dX10_init_60 rfl rfl rfl rfl ?_
  refine CW.putR (q := 65) (p' := 62) lpf_X10_31 rfl (by decide) rfl rfl (by decide) (by decide +kernel) rfl dX10_init_62 rfl rfl ?_
  refine AW.aload_n dX10_init_65 (.refl 66) 0 rfl ?_
  refine AW.iconst (v := (5 : Int32)) dX10_init_66 (.refl 67) (by decide) ?_
  refine CW.newI (q := 69) (cl' := 9) (sl' := 210) (n' := 56) la_I (by decide) rfl rfl rfl (by decide) (by decide) (by decide) (by decide) (by decide) dX10_init_67 rfl rfl rfl rfl ?_
  refine CW.putR (q := 72) (p' := 63) lpf_X10_34 rfl (by decide) rfl rfl (by decide) (by decide +kernel) rfl dX10_init_69 rfl rfl ?_
  refine AW.aload_n dX10_init_72 (.refl 73) 0 rfl ?_
  refine AW.iconst (v := (5 : Int32)) dX10_init_73 (.refl 74) (by decide) ?_
  refine CW.newI (q := 76) (cl' := 10) (sl' := 215) (n' := 57) la_I (by decide) rfl rfl rfl (by decide) (by decide) (by decide) (by decide) (by decide) dX10_init_74 rfl rfl rfl rfl ?_
  refine CW.putR (q := 79) (p' := 64) lpf_X10_37 rfl (by decide) rfl rfl (by decide) (by decide +kernel) rfl dX10_init_76 rfl rfl ?_
  refine AW.aload_n dX10_init_79 (.refl 80) 0 rfl ?_
  refine AW.bipush (v := (32 : Int32)) dX10_init_80 (.refl 82) (by decide) ?_
  refine CW.newZ (q := 84) (cl' := 11) (sl' := 247) (n' := 58) la_Z (by decide) rfl rfl rfl (by decide) (by decide) (by decide) (by decide) (by decide) dX10_init_82 rfl rfl rfl rfl ?_
  refine CW.putR (q := 87) (p' := 65) lpf_X10_40 rfl (by decide) rfl rfl (by decide) (by decide +kernel) rfl dX10_init_84 rfl rfl ?_
  refine AW.aload_n dX10_init_87 (.refl 88) 0 rfl ?_
  refine AW.bipush (v := (10 : Int32)) dX10_init_88 (.refl 90) (by decide) ?_
  refine CW.newI (q := 92) (cl' := 12) (sl' := 257) (n' := 59) la_I (by decide) rfl rfl rfl (by decide) (by decide) (by decide) (by decide) (by decide) dX10_init_90 rfl rfl rfl rfl ?_
  refine CW.putR (q := 95) (p' := 66) lpf_X10_44 rfl (by decide) rfl rfl (by decide) (by decide +kernel) rfl dX10_init_92 rfl rfl ?_
  refine AW.aload_n dX10_init_95 (.refl 96) 0 rfl ?_
  refine AW.bipush (v := (50 : Int32)) dX10_init_96 (.refl 98) (by decide) ?_
  refine CW.newZ (q := 100) (cl' := 13) (sl' := 307) (n' := 60) la_Z (by decide) rfl rfl rfl (by decide) (by decide) (by decide) (by decide) (by decide) dX10_init_98 rfl rfl rfl rfl ?_
  refine CW.putR (q := 103) (p' := 67) lpf_X10_47 rfl (by decide) rfl rfl (by decide) (by decide +kernel) rfl dX10_init_100 rfl rfl ?_
  refine AW.aload_n dX10_init_103 (.refl 104) 0 rfl ?_
  refine AW.bipush (v := (50 : Int32)) dX10_init_104 (.refl 106) (by decide) ?_
  refine CW.newI (q := 108) (cl' := 14) (sl' := 357) (n' := 61) la_I (by decide) rfl rfl rfl (by decide) (by decide) (by decide) (by decide) (by decide) dX10_init_106 rfl rfl rfl rfl ?_
  refine CW.putR (q := 111) (p' := 68) lpf_X10_50 rfl (by decide) rfl rfl (by decide) (by decide +kernel) rfl dX10_init_108 rfl rfl ?_
  refine AW.aload_n dX10_init_111 (.refl 112) 0 rfl ?_
  refine AW.bipush (v := (50 : Int32)) dX10_init_112 (.refl 114) (by decide) ?_
  refine CW.newI (q := 116) (cl' := 15) (sl' := 407) (n' := 62) la_I (by decide) rfl rfl rfl (by decide) (by decide) (by decide) (by decide) (by decide) dX10_init_114 rfl rfl rfl rfl ?_
  refine CW.putR (q := 119) (p' := 69) lpf_X10_53 rfl (by decide) rfl rfl (by decide) (by decide +kernel) rfl dX10_init_116 rfl rfl ?_
  refine AW.aload_n dX10_init_119 (.refl 120) 0 rfl ?_
  refine AW.iconst (v := (3 : Int32)) dX10_init_120 (.refl 121) (by decide) ?_
  refine CW.newI (q := 123) (cl' := 16) (sl' := 410) (n' := 63) la_I (by decide) rfl rfl rfl (by decide) (by decide) (by decide) (by decide) (by decide) dX10_init_121 rfl rfl rfl rfl ?_
  refine CW.putR (q := 126) (p' := 70) lpf_X10_56 rfl (by decide) rfl rfl (by decide) (by decide +kernel) rfl dX10_init_123 rfl rfl ?_
  refine AW.aload_n dX10_init_126 (.refl 127) 0 rfl ?_
  refine AW.bipush (v := (15 : Int32)) dX10_init_127 (.refl 129) (by decide) ?_
  refine CW.newI (q := 131) (cl' := 17) (sl' := 425) (n' := 64) la_I (by decide) rfl rfl rfl (by decide) (by decide) (by decide) (by decide) (by decide) dX10_init_129 rfl rfl rfl rfl ?_
  refine CW.putR (q := 134) (p' := 71) lpf_X10_59 rfl (by decide) rfl rfl (by decide) (by decide +kernel) rfl dX10_init_131 rfl rfl ?_
  refine AW.aload_n dX10_init_134 (.refl 135) 0 rfl ?_
  refine AW.bipush (v := (15 : Int32)) dX10_init_135 (.refl 137) (by decide) ?_
  refine CW.newI (q := 139) (cl' := 18) (sl' := 440) (n' := 65) la_I (by decide) rfl rfl rfl (by decide) (by decide) (by decide) (by decide) (by decide) dX10_init_137 rfl rfl rfl rfl ?_
  refine CW.putR (q := 142) (p' := 72) lpf_X10_62 rfl (by decide) rfl rfl (by decide) (by decide +kernel) rfl dX10_init_139 rfl rfl ?_
  refine AW.aload_n dX10_init_142 (.refl 143) 0 rfl ?_
  refine AW.bipush (v := (15 : Int32)) dX10_init_143 (.refl 145) (by decide) ?_
  refine CW.newI (q := 147) (cl' := 19) (sl' := 455) (n' := 66) la_I (by decide) rfl rfl rfl (by decide) (by decide) (by decide) (by decide) (by decide) dX10_init_145 rfl rfl rfl rfl ?_
  refine CW.putR (q := 150) (p' := 73) lpf_X10_65 rfl (by decide) rfl rfl (by decide) (by decide +kernel) rfl dX10_init_147 rfl rfl ?_
  refine AW.aload_n dX10_init_150 (.refl 151) 0 rfl ?_
  refine AW.bipush (v := (15 : Int32)) dX10_init_151 (.refl 153) (by decide) ?_
  refine CW.newI (q := 155) (cl' := 20) (sl' := 470) (n' := 67) la_I (by decide) rfl rfl rfl (by decide) (by decide) (by decide) (by decide) (by decide) dX10_init_153 rfl rfl rfl rfl ?_
  refine CW.putR (q := 158) (p' := 74) lpf_X10_68 rfl (by decide) rfl rfl (by decide) (by decide +kernel) rfl dX10_init_155 rfl rfl ?_
  refine AW.aload_n dX10_init_158 (.refl 159) 0 rfl ?_
  refine AW.bipush (v := (15 : Int32)) dX10_init_159 (.refl 161) (by decide) ?_
  refine CW.newI (q := 163) (cl' := 21) (sl' := 485) (n' := 68) la_I (by decide) rfl rfl rfl (by decide) (by decide) (by decide) (by decide) (by decide) dX10_init_161 rfl rfl rfl rfl ?_
  refine CW.putR (q := 166) (p' := 75) lpf_X10_71 rfl (by decide) rfl rfl (by decide) (by decide +kernel) rfl dX10_init_163 rfl rfl ?_
  refine AW.aload_n dX10_init_166 (.refl 167) 0 rfl ?_
  refine AW.bipush (v := (15 : Int32)) dX10_init_167 (.refl 169) (by decide) ?_
  refine CW.newI (q := 171) (cl' := 22) (sl' := 500) (n' := 69) la_I (by decide) rfl rfl rfl (by decide) (by decide) (by decide) (by decide) (by decide) dX10_init_169 rfl rfl rfl rfl ?_
  refine CW.putR (q := 174) (p' := 76) lpf_X10_74 rfl (by decide) rfl rfl (by decide) (by decide +kernel) rfl dX10_init_171 rfl rfl ?_
  refine AW.aload_n dX10_init_174 (.refl 175) 0 rfl ?_
  refine AW.bipush (v := (15 : Int32)) dX10_init_175 (.refl 177) (by decide) ?_
  refine CW.newI (q := 179) (cl' := 23) (sl' := 515) (n' := 70) la_I (by decide) rfl rfl rfl (by decide) (by decide) (by decide) (by decide) (by decide) dX10_init_177 rfl rfl rfl rfl ?_
  refine CW.putR (q := 182) (p' := 77) lpf_X10_77 rfl (by decide) rfl rfl (by decide) (by decide +kernel) rfl dX10_init_179 rfl rfl ?_
  refine AW.aload_n dX10_init_182 (.refl 183) 0 rfl ?_
  refine AW.iconst (v := (5 : Int32)) dX10_init_183 (.refl 184) (by decide) ?_
  refine CW.newI (q := 186) (cl' := 24) (sl' := 520) (n' := 71) la_I (by decide) rfl rfl rfl (by decide) (by decide) (by decide) (by decide) (by decide) dX10_init_184 rfl rfl rfl rfl ?_
  refine CW.putR (q := 189) (p' := 78) lpf_X10_80 rfl (by decide) rfl rfl (by decide) (by decide +kernel) rfl dX10_init_186 rfl rfl ?_
  refine AW.aload_n dX10_init_189 (.refl 190) 0 rfl ?_
  refine AW.bipush (v := (6 : Int32)) dX10_init_190 (.refl 192) (by decide) ?_
  refine CW.newI (q := 194) (cl' := 25) (sl' := 526) (n' := 72) la_I (by decide) rfl rfl rfl (by decide) (by decide) (by decide) (by decide) (by decide) dX10_init_192 rfl rfl rfl rfl ?_
  refine CW.putR (q := 197) (p' := 79) lpf_X10_83 rfl (by decide) rfl rfl (by decide) (by decide +kernel) rfl dX10_init_194 rfl rfl ?_
  refine AW.aload_n dX10_init_197 (.refl 198) 0 rfl ?_
  refine AW.bipush (v := (6 : Int32)) dX10_init_198 (.refl 200) (by decide) ?_
  refine CW.newI (q := 202) (cl' := 26) (sl' := 532) (n' := 73) la_I (by decide) rfl rfl rfl (by decide) (by decide) (by decide) (by decide) (by decide) dX10_init_200 rfl rfl rfl rfl ?_
  refine CW.putR (q := 205) (p' := 80) lpf_X10_86 rfl (by decide) rfl rfl (by decide) (by decide +kernel) rfl dX10_init_202 rfl rfl ?_
  refine AW.aload_n dX10_init_205 (.refl 206) 0 rfl ?_
  refine AW.iconst (v := (2 : Int32)) dX10_init_206 (.refl 207) (by decide) ?_
  refine CW.newZ (q := 209) (cl' := 27) (sl' := 534) (n' := 74) la_Z (by decide) rfl rfl rfl (by decide) (by decide) (by decide) (by decide) (by decide) dX10_init_207 rfl rfl rfl rfl ?_
  refine CW.putR (q := 212) (p' := 81) lpf_X10_89 rfl (by decide) rfl rfl (by decide) (by decide +kernel) rfl dX10_init_209 rfl rfl ?_
  refine AW.aload_n dX10_init_212 (.refl 213) 0 rfl ?_
  refine AW.bipush (v := (10 : Int32)) dX10_init_213 (.refl 215) (by decide) ?_
  refine CW.newI (q := 217) (cl' := 28) (sl' := 544) (n' := 75) la_I (by decide) rfl rfl rfl (by decide) (by decide) (by decide) (by decide) (by decide) dX10_init_215 rfl rfl rfl rfl ?_
  refine CW.putR (q := 220) (p' := 82) lpf_X10_92 rfl (by decide) rfl rfl (by decide) (by decide +kernel) rfl dX10_init_217 rfl rfl ?_
  refine AW.iconst (v := (0 : Int32)) dX10_init_220 (.refl 221) (by decide) ?_
  refine AW.istore_n (L' := [(1, .int (0 : Int32)), (0, .ref 46)]) dX10_init_221 (.refl 222) (by decide) rfl ?_
  refine AW.iload_n dX10_init_222 (.refl 223) 0 rfl ?_
  refine AW.iconst (v := (5 : Int32)) dX10_init_223 (.refl 224) (by decide) ?_
  refine AW.icmp_ge (tgt := 241) dX10_init_224 (by decide) (fun c => absurd c (by decide)) (fun _ => ?_)
  refine AW.aload_n dX10_init_227 (.refl 228) 1 rfl ?_
  refine CW.getR (q := 231) (z := 52) lk_X10_25 (by decide) rfl rfl (by decide) (by decide +kernel) dX10_init_228 rfl ?_
  refine AW.iload_n dX10_init_231 (.refl 232) 0 rfl ?_
  refine AW.bipush (v := (-9 : Int32)) dX10_init_232 (.refl 234) (by decide) ?_
  refine CW.iastore (q := 235) (τ := (sI z0 52 0 (-9))) (by decide) rfl (by decide +kernel) dX10_init_234 rfl rfl ?_
  refine AW.iinc (v := (1 : Int32)) (L' := [(1, .int (1 : Int32)), (0, .ref 46)]) dX10_init_235 (.refl 238) 0 rfl (by decide) (by decide) rfl ?_
  refine AW.goto (tgt := 222) dX10_init_238 (by decide) ?_
  refine AW.iload_n dX10_init_222 (.refl 223) 0 rfl ?_
  refine AW.iconst (v := (5 : Int32)) dX10_init_223 (.refl 224) (by decide) ?_
  refine AW.icmp_ge (tgt := 241) dX10_init_224 (by decide) (fun c => absurd c (by decide)) (fun _ => ?_)
  refine AW.aload_n dX10_init_227 (.refl 228) 1 rfl ?_
  refine CW.getR (q := 231) (z := 52) lk_X10_25 (by decide) rfl rfl (by decide) (by decide +kernel) dX10_init_228 rfl ?_
  refine AW.iload_n dX10_init_231 (.refl 232) 0 rfl ?_
  refine AW.bipush (v := (-9 : Int32)) dX10_init_232 (.refl 234) (by decide) ?_
  refine CW.iastore (q := 235) (τ := (sI (sI z0 52 0 (-9)) 52 1 (-9))) (by decide) rfl (by decide +kernel) dX10_init_234 rfl rfl ?_
  refine AW.iinc (v := (2 : Int32)) (L' := [(1, .int (2 : Int32)), (0, .ref 46)]) dX10_init_235 (.refl 238) 0 rfl (by decide) (by decide) rfl ?_
  refine AW.goto (tgt := 222) dX10_init_238 (by decide) ?_
  refine AW.iload_n dX10_init_222 (.refl 223) 0 rfl ?_
  refine AW.iconst (v := (5 : Int32)) dX10_init_223 (.refl 224) (by decide) ?_
  refine AW.icmp_ge (tgt := 241) dX10_init_224 (by decide) (fun c => absurd c (by decide)) (fun _ => ?_)
  refine AW.aload_n dX10_init_227 (.refl 228) 1 rfl ?_
  refine CW.getR (q := 231) (z := 52) lk_X10_25 (by decide) rfl rfl (by decide) (by decide +kernel) dX10_init_228 rfl ?_
  refine AW.iload_n dX10_init_231 (.refl 232) 0 rfl ?_
  refine AW.bipush (v := (-9 : Int32)) dX10_init_232 (.refl 234) (by decide) ?_
  refine CW.iastore (q := 235) (τ := (sI (sI (sI z0 52 0 (-9)) 52 1 (-9)) 52 2 (-9))) (by decide) rfl (by decide +kernel) dX10_init_234 rfl rfl ?_
  refine AW.iinc (v := (3 : Int32)) (L' := [(1, .int (3 : Int32)), (0, .ref 46)]) dX10_init_235 (.refl 238) 0 rfl (by decide) (by decide) rfl ?_
  refine AW.goto (tgt := 222) dX10_init_238 (by decide) ?_
  refine AW.iload_n dX10_init_222 (.refl 223) 0 rfl ?_
  refine AW.iconst (v := (5 : Int32)) dX10_init_223 (.refl 224) (by decide) ?_
  refine AW.icmp_ge (tgt := 241) dX10_init_224 (by decide) (fun c => absurd c (by decide)) (fun _ => ?_)
  refine AW.aload_n dX10_init_227 (.refl 228) 1 rfl ?_
  refine CW.getR (q := 231) (z := 52) lk_X10_25 (by decide) rfl rfl (by decide) (by decide +kernel) dX10_init_228 rfl ?_
  refine AW.iload_n dX10_init_231 (.refl 232) 0 rfl ?_
  refine AW.bipush (v := (-9 : Int32)) dX10_init_232 (.refl 234) (by decide) ?_
  refine CW.iastore (q := 235) (τ := (sI (sI (sI (sI z0 52 0 (-9)) 52 1 (-9)) 52 2 (-9)) 52 3 (-9))) (by decide) rfl (by decide +kernel) dX10_init_234 rfl rfl ?_
  refine AW.iinc (v := (4 : Int32)) (L' := [(1, .int (4 : Int32)), (0, .ref 46)]) dX10_init_235 (.refl 238) 0 rfl (by decide) (by decide) rfl ?_
  refine AW.goto (tgt := 222) dX10_init_238 (by decide) ?_
  refine AW.iload_n dX10_init_222 (.refl 223) 0 rfl ?_
  refine AW.iconst (v := (5 : Int32)) dX10_init_223 (.refl 224) (by decide) ?_
  refine AW.icmp_ge (tgt := 241) dX10_init_224 (by decide) (fun c => absurd c (by decide)) (fun _ => ?_)
  refine AW.aload_n dX10_init_227 (.refl 228) 1 rfl ?_
  refine CW.getR (q := 231) (z := 52) lk_X10_25 (by decide) rfl rfl (by decide) (by decide +kernel) dX10_init_228 rfl ?_
  refine AW.iload_n dX10_init_231 (.refl 232) 0 rfl ?_
  refine AW.bipush (v := (-9 : Int32)) dX10_init_232 (.refl 234) (by decide) ?_
  refine CW.iastore (q := 235) (τ := (sI (sI (sI (sI (sI z0 52 0 (-9)) 52 1 (-9)) 52 2 (-9)) 52 3 (-9)) 52 4 (-9))) (by decide) rfl (by decide +kernel) dX10_init_234 rfl rfl ?_
  refine AW.iinc (v := (5 : Int32)) (L' := [(1, .int (5 : Int32)), (0, .ref 46)]) dX10_init_235 (.refl 238) 0 rfl (by decide) (by decide) rfl ?_
  refine AW.goto (tgt := 222) dX10_init_238 (by decide) ?_
  refine AW.iload_n dX10_init_222 (.refl 223) 0 rfl ?_
  refine AW.iconst (v := (5 : Int32)) dX10_init_223 (.refl 224) (by decide) ?_
  refine AW.icmp_ge (tgt := 241) dX10_init_224 (by decide) (fun _ => ?_) (fun c => absurd (by decide) c)
  exact CW.ret rfl dX10_init_241
