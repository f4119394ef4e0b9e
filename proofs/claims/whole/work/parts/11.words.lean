-- THE WORDS: each entry of a pool, by its place in the tables
theorem inG {ws : List Cond} (ps : List Nat) (hp : ws = ps.filterMap (fun i => lw_tbl[i]?)) (h : ws.all goodWord = true) : ∀ w ∈ ws, w ∈ gT := by
  intro w hw
  have h1 := List.all_eq_true.mp h w hw
  rw [hp] at hw
  obtain ⟨i, -, hi⟩ := List.mem_filterMap.mp hw
  exact gT_in i hi h1
set_option maxRecDepth 20000 in
theorem inG0 : ∀ w ∈ u_ws RX0 TX0 5, w ∈ gT := inG [221, 223, 225, 227, 229] (by decide +kernel) (by decide +kernel)
set_option maxRecDepth 20000 in
theorem inG1 : ∀ w ∈ u_ws RX1 TX1 10, w ∈ gT := inG [154, 156, 158, 160, 162, 164, 166, 168, 170, 172] (by decide +kernel) (by decide +kernel)
set_option maxRecDepth 20000 in
theorem inG2 : ∀ w ∈ u_ws RX2 TX2 3, w ∈ gT := inG [245, 247, 249] (by decide +kernel) (by decide +kernel)
set_option maxRecDepth 20000 in
theorem inG3 : ∀ w ∈ u_ws RX3 TX3 5, w ∈ gT := inG [107, 109, 111, 113, 115] (by decide +kernel) (by decide +kernel)
set_option maxRecDepth 20000 in
theorem inG4 : ∀ w ∈ u_ws RX4 TX4 6, w ∈ gT := inG [196, 198, 200, 202, 204, 206] (by decide +kernel) (by decide +kernel)
set_option maxRecDepth 20000 in
theorem inG5 : ∀ w ∈ u_ws RX5 TX5 14, w ∈ gT := inG [266, 268, 270, 272, 274, 276, 278, 280, 282, 284, 286, 288, 290, 292] (by decide +kernel) (by decide +kernel)
set_option maxRecDepth 20000 in
theorem inG6 : ∀ w ∈ u_ws RX6 TX6 31, w ∈ gT := inG [838, 840, 842, 844, 846, 848, 850, 852, 854, 856, 858, 860, 862, 864, 866, 868, 870, 872, 874, 876, 878, 880, 882, 884, 886, 888, 890, 892, 894, 896, 898] (by decide +kernel) (by decide +kernel)
set_option maxRecDepth 20000 in
theorem fl_X5_16 : FL RX5 16 5 0 := ⟨(RX5, TX5, 14), rfl, rfl, by decide, by decide, gT_in 252 (by decide +kernel) (by decide +kernel), inG5⟩
set_option maxRecDepth 20000 in
theorem fl_X5_22 : FL RX5 22 5 1 := ⟨(RX5, TX5, 14), rfl, rfl, by decide, by decide, gT_in 253 (by decide +kernel) (by decide +kernel), inG5⟩
set_option maxRecDepth 20000 in
theorem fl_X5_28 : FL RX5 28 5 2 := ⟨(RX5, TX5, 14), rfl, rfl, by decide, by decide, gT_in 254 (by decide +kernel) (by decide +kernel), inG5⟩
set_option maxRecDepth 20000 in
theorem fl_X5_32 : FL RX5 32 5 3 := ⟨(RX5, TX5, 14), rfl, rfl, by decide, by decide, gT_in 255 (by decide +kernel) (by decide +kernel), inG5⟩
set_option maxRecDepth 20000 in
theorem fl_X5_40 : FL RX5 40 5 4 := ⟨(RX5, TX5, 14), rfl, rfl, by decide, by decide, gT_in 256 (by decide +kernel) (by decide +kernel), inG5⟩
set_option maxRecDepth 20000 in
theorem fl_X5_44 : FL RX5 44 5 5 := ⟨(RX5, TX5, 14), rfl, rfl, by decide, by decide, gT_in 257 (by decide +kernel) (by decide +kernel), inG5⟩
set_option maxRecDepth 20000 in
theorem fl_X5_50 : FL RX5 50 5 6 := ⟨(RX5, TX5, 14), rfl, rfl, by decide, by decide, gT_in 258 (by decide +kernel) (by decide +kernel), inG5⟩
set_option maxRecDepth 20000 in
theorem fl_X5_56 : FL RX5 56 5 7 := ⟨(RX5, TX5, 14), rfl, rfl, by decide, by decide, gT_in 259 (by decide +kernel) (by decide +kernel), inG5⟩
set_option maxRecDepth 20000 in
theorem fl_X5_61 : FL RX5 61 5 8 := ⟨(RX5, TX5, 14), rfl, rfl, by decide, by decide, gT_in 260 (by decide +kernel) (by decide +kernel), inG5⟩
set_option maxRecDepth 20000 in
theorem fl_X5_65 : FL RX5 65 5 9 := ⟨(RX5, TX5, 14), rfl, rfl, by decide, by decide, gT_in 261 (by decide +kernel) (by decide +kernel), inG5⟩
set_option maxRecDepth 20000 in
theorem fl_X5_69 : FL RX5 69 5 10 := ⟨(RX5, TX5, 14), rfl, rfl, by decide, by decide, gT_in 262 (by decide +kernel) (by decide +kernel), inG5⟩
set_option maxRecDepth 20000 in
theorem fl_X5_72 : FL RX5 72 5 11 := ⟨(RX5, TX5, 14), rfl, rfl, by decide, by decide, gT_in 263 (by decide +kernel) (by decide +kernel), inG5⟩
set_option maxRecDepth 20000 in
theorem fl_X5_75 : FL RX5 75 5 12 := ⟨(RX5, TX5, 14), rfl, rfl, by decide, by decide, gT_in 264 (by decide +kernel) (by decide +kernel), inG5⟩
set_option maxRecDepth 20000 in
theorem fl_X5_78 : FL RX5 78 5 13 := ⟨(RX5, TX5, 14), rfl, rfl, by decide, by decide, gT_in 265 (by decide +kernel) (by decide +kernel), inG5⟩
set_option maxRecDepth 20000 in
theorem fl_X5_97 : FL RX5 97 3 4 := ⟨(RX3, TX3, 5), rfl, rfl, by decide, by decide, gT_in 105 (by decide +kernel) (by decide +kernel), inG3⟩
set_option maxRecDepth 20000 in
theorem fl_X5_107 : FL RX5 107 1 1 := ⟨(RX1, TX1, 10), rfl, rfl, by decide, by decide, gT_in 131 (by decide +kernel) (by decide +kernel), inG1⟩
set_option maxRecDepth 20000 in
theorem fl_X5_110 : FL RX5 110 1 2 := ⟨(RX1, TX1, 10), rfl, rfl, by decide, by decide, gT_in 135 (by decide +kernel) (by decide +kernel), inG1⟩
set_option maxRecDepth 20000 in
theorem fl_X5_116 : FL RX5 116 1 4 := ⟨(RX1, TX1, 10), rfl, rfl, by decide, by decide, gT_in 141 (by decide +kernel) (by decide +kernel), inG1⟩
set_option maxRecDepth 20000 in
theorem fl_X5_119 : FL RX5 119 1 5 := ⟨(RX1, TX1, 10), rfl, rfl, by decide, by decide, gT_in 144 (by decide +kernel) (by decide +kernel), inG1⟩
set_option maxRecDepth 20000 in
theorem fl_X5_126 : FL RX5 126 1 6 := ⟨(RX1, TX1, 10), rfl, rfl, by decide, by decide, gT_in 147 (by decide +kernel) (by decide +kernel), inG1⟩
set_option maxRecDepth 20000 in
theorem fl_X5_140 : FL RX5 140 2 0 := ⟨(RX2, TX2, 3), rfl, rfl, by decide, by decide, gT_in 240 (by decide +kernel) (by decide +kernel), inG2⟩
set_option maxRecDepth 20000 in
theorem fl_X5_147 : FL RX5 147 2 1 := ⟨(RX2, TX2, 3), rfl, rfl, by decide, by decide, gT_in 242 (by decide +kernel) (by decide +kernel), inG2⟩
set_option maxRecDepth 20000 in
theorem fl_X5_150 : FL RX5 150 2 2 := ⟨(RX2, TX2, 3), rfl, rfl, by decide, by decide, gT_in 244 (by decide +kernel) (by decide +kernel), inG2⟩
set_option maxRecDepth 20000 in
theorem fl_X5_156 : FL RX5 156 4 3 := ⟨(RX4, TX4, 6), rfl, rfl, by decide, by decide, gT_in 191 (by decide +kernel) (by decide +kernel), inG4⟩
set_option maxRecDepth 20000 in
theorem fl_X5_159 : FL RX5 159 4 4 := ⟨(RX4, TX4, 6), rfl, rfl, by decide, by decide, gT_in 193 (by decide +kernel) (by decide +kernel), inG4⟩
set_option maxRecDepth 20000 in
theorem fl_X5_169 : FL RX5 169 4 2 := ⟨(RX4, TX4, 6), rfl, rfl, by decide, by decide, gT_in 188 (by decide +kernel) (by decide +kernel), inG4⟩
set_option maxRecDepth 20000 in
theorem fl_X5_170 : FL RX5 170 4 5 := ⟨(RX4, TX4, 6), rfl, rfl, by decide, by decide, gT_in 195 (by decide +kernel) (by decide +kernel), inG4⟩
set_option maxRecDepth 20000 in
theorem fl_X5_183 : FL RX5 183 1 3 := ⟨(RX1, TX1, 10), rfl, rfl, by decide, by decide, gT_in 138 (by decide +kernel) (by decide +kernel), inG1⟩
set_option maxRecDepth 20000 in
theorem fl_X5_190 : FL RX5 190 1 0 := ⟨(RX1, TX1, 10), rfl, rfl, by decide, by decide, gT_in 129 (by decide +kernel) (by decide +kernel), inG1⟩
set_option maxRecDepth 20000 in
theorem fl_X5_221 : FL RX5 221 0 0 := ⟨(RX0, TX0, 5), rfl, rfl, by decide, by decide, gT_in 216 (by decide +kernel) (by decide +kernel), inG0⟩
set_option maxRecDepth 20000 in
theorem fl_X5_352 : FL RX5 352 4 1 := ⟨(RX4, TX4, 6), rfl, rfl, by decide, by decide, gT_in 186 (by decide +kernel) (by decide +kernel), inG4⟩
set_option maxRecDepth 20000 in
theorem fl_X5_355 : FL RX5 355 4 0 := ⟨(RX4, TX4, 6), rfl, rfl, by decide, by decide, gT_in 183 (by decide +kernel) (by decide +kernel), inG4⟩
set_option maxRecDepth 20000 in
theorem fl_X0_9 : FL RX0 9 0 1 := ⟨(RX0, TX0, 5), rfl, rfl, by decide, by decide, gT_in 217 (by decide +kernel) (by decide +kernel), inG0⟩
set_option maxRecDepth 20000 in
theorem fl_X0_15 : FL RX0 15 0 2 := ⟨(RX0, TX0, 5), rfl, rfl, by decide, by decide, gT_in 218 (by decide +kernel) (by decide +kernel), inG0⟩
set_option maxRecDepth 20000 in
theorem fl_X0_18 : FL RX0 18 0 3 := ⟨(RX0, TX0, 5), rfl, rfl, by decide, by decide, gT_in 219 (by decide +kernel) (by decide +kernel), inG0⟩
set_option maxRecDepth 20000 in
theorem fl_X0_21 : FL RX0 21 0 4 := ⟨(RX0, TX0, 5), rfl, rfl, by decide, by decide, gT_in 220 (by decide +kernel) (by decide +kernel), inG0⟩
set_option maxRecDepth 20000 in
theorem fl_X0_24 : FL RX0 24 0 0 := ⟨(RX0, TX0, 5), rfl, rfl, by decide, by decide, gT_in 215 (by decide +kernel) (by decide +kernel), inG0⟩
set_option maxRecDepth 20000 in
theorem fl_X0_32 : FL RX0 32 4 1 := ⟨(RX4, TX4, 6), rfl, rfl, by decide, by decide, gT_in 185 (by decide +kernel) (by decide +kernel), inG4⟩
set_option maxRecDepth 20000 in
theorem fl_X0_41 : FL RX0 41 4 0 := ⟨(RX4, TX4, 6), rfl, rfl, by decide, by decide, gT_in 182 (by decide +kernel) (by decide +kernel), inG4⟩
set_option maxRecDepth 20000 in
theorem fl_X0_51 : FL RX0 51 4 3 := ⟨(RX4, TX4, 6), rfl, rfl, by decide, by decide, gT_in 190 (by decide +kernel) (by decide +kernel), inG4⟩
set_option maxRecDepth 20000 in
theorem fl_X1_9 : FL RX1 9 1 1 := ⟨(RX1, TX1, 10), rfl, rfl, by decide, by decide, gT_in 130 (by decide +kernel) (by decide +kernel), inG1⟩
set_option maxRecDepth 20000 in
theorem fl_X1_15 : FL RX1 15 1 2 := ⟨(RX1, TX1, 10), rfl, rfl, by decide, by decide, gT_in 133 (by decide +kernel) (by decide +kernel), inG1⟩
set_option maxRecDepth 20000 in
theorem fl_X1_18 : FL RX1 18 1 4 := ⟨(RX1, TX1, 10), rfl, rfl, by decide, by decide, gT_in 139 (by decide +kernel) (by decide +kernel), inG1⟩
set_option maxRecDepth 20000 in
theorem fl_X1_21 : FL RX1 21 1 5 := ⟨(RX1, TX1, 10), rfl, rfl, by decide, by decide, gT_in 142 (by decide +kernel) (by decide +kernel), inG1⟩
set_option maxRecDepth 20000 in
theorem fl_X1_24 : FL RX1 24 1 7 := ⟨(RX1, TX1, 10), rfl, rfl, by decide, by decide, gT_in 148 (by decide +kernel) (by decide +kernel), inG1⟩
set_option maxRecDepth 20000 in
theorem fl_X1_27 : FL RX1 27 1 8 := ⟨(RX1, TX1, 10), rfl, rfl, by decide, by decide, gT_in 150 (by decide +kernel) (by decide +kernel), inG1⟩
set_option maxRecDepth 20000 in
theorem fl_X1_30 : FL RX1 30 1 9 := ⟨(RX1, TX1, 10), rfl, rfl, by decide, by decide, gT_in 152 (by decide +kernel) (by decide +kernel), inG1⟩
set_option maxRecDepth 20000 in
theorem fl_X1_33 : FL RX1 33 1 0 := ⟨(RX1, TX1, 10), rfl, rfl, by decide, by decide, gT_in 127 (by decide +kernel) (by decide +kernel), inG1⟩
set_option maxRecDepth 20000 in
theorem fl_X1_37 : FL RX1 37 1 3 := ⟨(RX1, TX1, 10), rfl, rfl, by decide, by decide, gT_in 137 (by decide +kernel) (by decide +kernel), inG1⟩
set_option maxRecDepth 20000 in
theorem fl_X1_46 : FL RX1 46 3 4 := ⟨(RX3, TX3, 5), rfl, rfl, by decide, by decide, gT_in 106 (by decide +kernel) (by decide +kernel), inG3⟩
set_option maxRecDepth 20000 in
theorem fl_X1_56 : FL RX1 56 1 6 := ⟨(RX1, TX1, 10), rfl, rfl, by decide, by decide, gT_in 146 (by decide +kernel) (by decide +kernel), inG1⟩
set_option maxRecDepth 20000 in
theorem fl_X2_9 : FL RX2 9 2 0 := ⟨(RX2, TX2, 3), rfl, rfl, by decide, by decide, gT_in 239 (by decide +kernel) (by decide +kernel), inG2⟩
set_option maxRecDepth 20000 in
theorem fl_X2_15 : FL RX2 15 2 1 := ⟨(RX2, TX2, 3), rfl, rfl, by decide, by decide, gT_in 241 (by decide +kernel) (by decide +kernel), inG2⟩
set_option maxRecDepth 20000 in
theorem fl_X2_18 : FL RX2 18 2 2 := ⟨(RX2, TX2, 3), rfl, rfl, by decide, by decide, gT_in 243 (by decide +kernel) (by decide +kernel), inG2⟩
set_option maxRecDepth 20000 in
theorem fl_X3_9 : FL RX3 9 3 0 := ⟨(RX3, TX3, 5), rfl, rfl, by decide, by decide, gT_in 100 (by decide +kernel) (by decide +kernel), inG3⟩
set_option maxRecDepth 20000 in
theorem fl_X3_15 : FL RX3 15 3 1 := ⟨(RX3, TX3, 5), rfl, rfl, by decide, by decide, gT_in 101 (by decide +kernel) (by decide +kernel), inG3⟩
set_option maxRecDepth 20000 in
theorem fl_X3_19 : FL RX3 19 3 2 := ⟨(RX3, TX3, 5), rfl, rfl, by decide, by decide, gT_in 102 (by decide +kernel) (by decide +kernel), inG3⟩
set_option maxRecDepth 20000 in
theorem fl_X3_23 : FL RX3 23 3 3 := ⟨(RX3, TX3, 5), rfl, rfl, by decide, by decide, gT_in 103 (by decide +kernel) (by decide +kernel), inG3⟩
set_option maxRecDepth 20000 in
theorem fl_X3_26 : FL RX3 26 3 4 := ⟨(RX3, TX3, 5), rfl, rfl, by decide, by decide, gT_in 104 (by decide +kernel) (by decide +kernel), inG3⟩
set_option maxRecDepth 20000 in
theorem fl_X4_9 : FL RX4 9 4 2 := ⟨(RX4, TX4, 6), rfl, rfl, by decide, by decide, gT_in 187 (by decide +kernel) (by decide +kernel), inG4⟩
set_option maxRecDepth 20000 in
theorem fl_X4_15 : FL RX4 15 4 3 := ⟨(RX4, TX4, 6), rfl, rfl, by decide, by decide, gT_in 189 (by decide +kernel) (by decide +kernel), inG4⟩
set_option maxRecDepth 20000 in
theorem fl_X4_18 : FL RX4 18 4 4 := ⟨(RX4, TX4, 6), rfl, rfl, by decide, by decide, gT_in 192 (by decide +kernel) (by decide +kernel), inG4⟩
set_option maxRecDepth 20000 in
theorem fl_X4_21 : FL RX4 21 4 5 := ⟨(RX4, TX4, 6), rfl, rfl, by decide, by decide, gT_in 194 (by decide +kernel) (by decide +kernel), inG4⟩
set_option maxRecDepth 20000 in
theorem fl_X4_24 : FL RX4 24 4 0 := ⟨(RX4, TX4, 6), rfl, rfl, by decide, by decide, gT_in 181 (by decide +kernel) (by decide +kernel), inG4⟩
set_option maxRecDepth 20000 in
theorem fl_X4_28 : FL RX4 28 4 1 := ⟨(RX4, TX4, 6), rfl, rfl, by decide, by decide, gT_in 184 (by decide +kernel) (by decide +kernel), inG4⟩
set_option maxRecDepth 20000 in
theorem fl_X4_32 : FL RX4 32 1 2 := ⟨(RX1, TX1, 10), rfl, rfl, by decide, by decide, gT_in 134 (by decide +kernel) (by decide +kernel), inG1⟩
set_option maxRecDepth 20000 in
theorem fl_X4_41 : FL RX4 41 1 3 := ⟨(RX1, TX1, 10), rfl, rfl, by decide, by decide, gT_in 136 (by decide +kernel) (by decide +kernel), inG1⟩
set_option maxRecDepth 20000 in
theorem fl_X4_44 : FL RX4 44 1 5 := ⟨(RX1, TX1, 10), rfl, rfl, by decide, by decide, gT_in 143 (by decide +kernel) (by decide +kernel), inG1⟩
set_option maxRecDepth 20000 in
theorem fl_X4_64 : FL RX4 64 1 6 := ⟨(RX1, TX1, 10), rfl, rfl, by decide, by decide, gT_in 145 (by decide +kernel) (by decide +kernel), inG1⟩
set_option maxRecDepth 20000 in
theorem fl_X4_67 : FL RX4 67 1 7 := ⟨(RX1, TX1, 10), rfl, rfl, by decide, by decide, gT_in 149 (by decide +kernel) (by decide +kernel), inG1⟩
set_option maxRecDepth 20000 in
theorem fl_X4_70 : FL RX4 70 1 8 := ⟨(RX1, TX1, 10), rfl, rfl, by decide, by decide, gT_in 151 (by decide +kernel) (by decide +kernel), inG1⟩
set_option maxRecDepth 20000 in
theorem fl_X4_76 : FL RX4 76 1 9 := ⟨(RX1, TX1, 10), rfl, rfl, by decide, by decide, gT_in 153 (by decide +kernel) (by decide +kernel), inG1⟩
set_option maxRecDepth 20000 in
theorem fl_X4_83 : FL RX4 83 1 0 := ⟨(RX1, TX1, 10), rfl, rfl, by decide, by decide, gT_in 128 (by decide +kernel) (by decide +kernel), inG1⟩
set_option maxRecDepth 20000 in
theorem fl_X4_86 : FL RX4 86 1 1 := ⟨(RX1, TX1, 10), rfl, rfl, by decide, by decide, gT_in 132 (by decide +kernel) (by decide +kernel), inG1⟩
set_option maxRecDepth 20000 in
theorem fl_X4_93 : FL RX4 93 1 4 := ⟨(RX1, TX1, 10), rfl, rfl, by decide, by decide, gT_in 140 (by decide +kernel) (by decide +kernel), inG1⟩
set_option maxRecDepth 20000 in
theorem fl_X6_7 : FL RX6 7 6 0 := ⟨(RX6, TX6, 31), rfl, rfl, by decide, by decide, gT_in 807 (by decide +kernel) (by decide +kernel), inG6⟩
set_option maxRecDepth 20000 in
theorem fl_X6_13 : FL RX6 13 6 1 := ⟨(RX6, TX6, 31), rfl, rfl, by decide, by decide, gT_in 808 (by decide +kernel) (by decide +kernel), inG6⟩
set_option maxRecDepth 20000 in
theorem fl_X6_16 : FL RX6 16 6 2 := ⟨(RX6, TX6, 31), rfl, rfl, by decide, by decide, gT_in 809 (by decide +kernel) (by decide +kernel), inG6⟩
set_option maxRecDepth 20000 in
theorem fl_X6_19 : FL RX6 19 6 3 := ⟨(RX6, TX6, 31), rfl, rfl, by decide, by decide, gT_in 810 (by decide +kernel) (by decide +kernel), inG6⟩
set_option maxRecDepth 20000 in
theorem fl_X6_22 : FL RX6 22 6 5 := ⟨(RX6, TX6, 31), rfl, rfl, by decide, by decide, gT_in 812 (by decide +kernel) (by decide +kernel), inG6⟩
set_option maxRecDepth 20000 in
theorem fl_X6_25 : FL RX6 25 6 6 := ⟨(RX6, TX6, 31), rfl, rfl, by decide, by decide, gT_in 813 (by decide +kernel) (by decide +kernel), inG6⟩
set_option maxRecDepth 20000 in
theorem fl_X6_28 : FL RX6 28 6 8 := ⟨(RX6, TX6, 31), rfl, rfl, by decide, by decide, gT_in 815 (by decide +kernel) (by decide +kernel), inG6⟩
set_option maxRecDepth 20000 in
theorem fl_X6_31 : FL RX6 31 6 10 := ⟨(RX6, TX6, 31), rfl, rfl, by decide, by decide, gT_in 817 (by decide +kernel) (by decide +kernel), inG6⟩
set_option maxRecDepth 20000 in
theorem fl_X6_34 : FL RX6 34 6 12 := ⟨(RX6, TX6, 31), rfl, rfl, by decide, by decide, gT_in 819 (by decide +kernel) (by decide +kernel), inG6⟩
set_option maxRecDepth 20000 in
theorem fl_X6_37 : FL RX6 37 6 17 := ⟨(RX6, TX6, 31), rfl, rfl, by decide, by decide, gT_in 824 (by decide +kernel) (by decide +kernel), inG6⟩
set_option maxRecDepth 20000 in
theorem fl_X6_40 : FL RX6 40 6 18 := ⟨(RX6, TX6, 31), rfl, rfl, by decide, by decide, gT_in 825 (by decide +kernel) (by decide +kernel), inG6⟩
set_option maxRecDepth 20000 in
theorem fl_X6_43 : FL RX6 43 6 19 := ⟨(RX6, TX6, 31), rfl, rfl, by decide, by decide, gT_in 826 (by decide +kernel) (by decide +kernel), inG6⟩
set_option maxRecDepth 20000 in
theorem fl_X6_46 : FL RX6 46 6 20 := ⟨(RX6, TX6, 31), rfl, rfl, by decide, by decide, gT_in 827 (by decide +kernel) (by decide +kernel), inG6⟩
set_option maxRecDepth 20000 in
theorem fl_X6_49 : FL RX6 49 6 21 := ⟨(RX6, TX6, 31), rfl, rfl, by decide, by decide, gT_in 828 (by decide +kernel) (by decide +kernel), inG6⟩
set_option maxRecDepth 20000 in
theorem fl_X6_52 : FL RX6 52 6 22 := ⟨(RX6, TX6, 31), rfl, rfl, by decide, by decide, gT_in 829 (by decide +kernel) (by decide +kernel), inG6⟩
set_option maxRecDepth 20000 in
theorem fl_X6_55 : FL RX6 55 6 23 := ⟨(RX6, TX6, 31), rfl, rfl, by decide, by decide, gT_in 830 (by decide +kernel) (by decide +kernel), inG6⟩
set_option maxRecDepth 20000 in
theorem fl_X6_58 : FL RX6 58 6 24 := ⟨(RX6, TX6, 31), rfl, rfl, by decide, by decide, gT_in 831 (by decide +kernel) (by decide +kernel), inG6⟩
set_option maxRecDepth 20000 in
theorem fl_X6_61 : FL RX6 61 6 25 := ⟨(RX6, TX6, 31), rfl, rfl, by decide, by decide, gT_in 832 (by decide +kernel) (by decide +kernel), inG6⟩
set_option maxRecDepth 20000 in
theorem fl_X6_64 : FL RX6 64 6 27 := ⟨(RX6, TX6, 31), rfl, rfl, by decide, by decide, gT_in 834 (by decide +kernel) (by decide +kernel), inG6⟩
set_option maxRecDepth 20000 in
theorem fl_X6_67 : FL RX6 67 6 28 := ⟨(RX6, TX6, 31), rfl, rfl, by decide, by decide, gT_in 835 (by decide +kernel) (by decide +kernel), inG6⟩
set_option maxRecDepth 20000 in
theorem fl_X6_70 : FL RX6 70 6 30 := ⟨(RX6, TX6, 31), rfl, rfl, by decide, by decide, gT_in 837 (by decide +kernel) (by decide +kernel), inG6⟩
set_option maxRecDepth 20000 in
theorem fl_X6_73 : FL RX6 73 6 14 := ⟨(RX6, TX6, 31), rfl, rfl, by decide, by decide, gT_in 821 (by decide +kernel) (by decide +kernel), inG6⟩
set_option maxRecDepth 20000 in
theorem fl_X6_83 : FL RX6 83 6 4 := ⟨(RX6, TX6, 31), rfl, rfl, by decide, by decide, gT_in 811 (by decide +kernel) (by decide +kernel), inG6⟩
set_option maxRecDepth 20000 in
theorem fl_X6_116 : FL RX6 116 6 7 := ⟨(RX6, TX6, 31), rfl, rfl, by decide, by decide, gT_in 814 (by decide +kernel) (by decide +kernel), inG6⟩
set_option maxRecDepth 20000 in
theorem fl_X6_124 : FL RX6 124 6 9 := ⟨(RX6, TX6, 31), rfl, rfl, by decide, by decide, gT_in 816 (by decide +kernel) (by decide +kernel), inG6⟩
set_option maxRecDepth 20000 in
theorem fl_X6_152 : FL RX6 152 6 11 := ⟨(RX6, TX6, 31), rfl, rfl, by decide, by decide, gT_in 818 (by decide +kernel) (by decide +kernel), inG6⟩
set_option maxRecDepth 20000 in
theorem fl_X6_186 : FL RX6 186 6 13 := ⟨(RX6, TX6, 31), rfl, rfl, by decide, by decide, gT_in 820 (by decide +kernel) (by decide +kernel), inG6⟩
set_option maxRecDepth 20000 in
theorem fl_X6_193 : FL RX6 193 6 15 := ⟨(RX6, TX6, 31), rfl, rfl, by decide, by decide, gT_in 822 (by decide +kernel) (by decide +kernel), inG6⟩
set_option maxRecDepth 20000 in
theorem fl_X6_196 : FL RX6 196 6 16 := ⟨(RX6, TX6, 31), rfl, rfl, by decide, by decide, gT_in 823 (by decide +kernel) (by decide +kernel), inG6⟩
set_option maxRecDepth 20000 in
theorem fl_X6_265 : FL RX6 265 6 26 := ⟨(RX6, TX6, 31), rfl, rfl, by decide, by decide, gT_in 833 (by decide +kernel) (by decide +kernel), inG6⟩
set_option maxRecDepth 20000 in
theorem fl_X6_305 : FL RX6 305 6 29 := ⟨(RX6, TX6, 31), rfl, rfl, by decide, by decide, gT_in 836 (by decide +kernel) (by decide +kernel), inG6⟩
theorem fp_5_9 : FP 5 9 .boolean := fun r h => by cases h; exact ⟨rfl, by decide +kernel⟩
theorem fp_5_13 : FP 5 13 .int := fun r h => by cases h; exact ⟨rfl, by decide +kernel⟩
theorem fp_3_4 : FP 3 4 .int := fun r h => by cases h; exact ⟨rfl, by decide +kernel⟩
theorem fp_1_6 : FP 1 6 .int := fun r h => by cases h; exact ⟨rfl, by decide +kernel⟩
theorem fp_2_0 : FP 2 0 .int := fun r h => by cases h; exact ⟨rfl, by decide +kernel⟩
theorem fp_2_1 : FP 2 1 .int := fun r h => by cases h; exact ⟨rfl, by decide +kernel⟩
theorem fp_1_3 : FP 1 3 .int := fun r h => by cases h; exact ⟨rfl, by decide +kernel⟩
theorem fp_1_0 : FP 1 0 .int := fun r h => by cases h; exact ⟨rfl, by decide +kernel⟩
theorem fp_0_0 : FP 0 0 .int := fun r h => by cases h; exact ⟨rfl, by decide +kernel⟩
theorem fp_4_1 : FP 4 1 .int := fun r h => by cases h; exact ⟨rfl, by decide +kernel⟩
theorem fp_6_14 : FP 6 14 .int := fun r h => by cases h; exact ⟨rfl, by decide +kernel⟩
theorem fp_6_4 : FP 6 4 .int := fun r h => by cases h; exact ⟨rfl, by decide +kernel⟩
theorem fp_6_7 : FP 6 7 .int := fun r h => by cases h; exact ⟨rfl, by decide +kernel⟩
theorem fp_6_9 : FP 6 9 .int := fun r h => by cases h; exact ⟨rfl, by decide +kernel⟩
theorem fp_6_11 : FP 6 11 .int := fun r h => by cases h; exact ⟨rfl, by decide +kernel⟩
theorem fp_6_13 : FP 6 13 .int := fun r h => by cases h; exact ⟨rfl, by decide +kernel⟩
theorem fp_6_15 : FP 6 15 .int := fun r h => by cases h; exact ⟨rfl, by decide +kernel⟩
theorem fp_6_16 : FP 6 16 .int := fun r h => by cases h; exact ⟨rfl, by decide +kernel⟩
theorem fp_6_26 : FP 6 26 .int := fun r h => by cases h; exact ⟨rfl, by decide +kernel⟩
theorem fp_6_29 : FP 6 29 .int := fun r h => by cases h; exact ⟨rfl, by decide +kernel⟩
set_option maxRecDepth 20000 in
theorem lm_J6_bitCount_0f7a4 : LM yJ6_bitCount_0f7a4 cJ6_bitCount_0f7a4 1 (some .int) 1 := ⟨gT_in 611 (by decide +kernel) (by decide +kernel), gT_in 84 (by decide +kernel) (by decide +kernel), by decide, by decide, by decide +kernel⟩
set_option maxRecDepth 20000 in
theorem lm_X0_add : LM yX0_add cX0_add 5 (some .boolean) 4 := ⟨gT_in 634 (by decide +kernel) (by decide +kernel), gT_in 74 (by decide +kernel) (by decide +kernel), by decide, by decide, by decide +kernel⟩
set_option maxRecDepth 20000 in
theorem lm_X0_agreesWith : LM yX0_agreesWith cX0_agreesWith 3 (some .boolean) 1 := ⟨gT_in 655 (by decide +kernel) (by decide +kernel), gT_in 74 (by decide +kernel) (by decide +kernel), by decide, by decide, by decide +kernel⟩
set_option maxRecDepth 20000 in
theorem lm_X0_isSo : LM yX0_isSo cX0_isSo 3 (some .boolean) 2 := ⟨gT_in 659 (by decide +kernel) (by decide +kernel), gT_in 74 (by decide +kernel) (by decide +kernel), by decide, by decide, by decide +kernel⟩
set_option maxRecDepth 20000 in
theorem lm_X0_latestDay : LM yX0_latestDay cX0_latestDay 3 (some .int) 0 := ⟨gT_in 651 (by decide +kernel) (by decide +kernel), gT_in 74 (by decide +kernel) (by decide +kernel), by decide, by decide, by decide +kernel⟩
set_option maxRecDepth 20000 in
theorem lm_X1_addHiring : LM yX1_addHiring cX1_addHiring 4 none 3 := ⟨gT_in 476 (by decide +kernel) (by decide +kernel), gT_in 72 (by decide +kernel) (by decide +kernel), by decide, by decide, by decide +kernel⟩
set_option maxRecDepth 20000 in
theorem lm_X1_become : LM yX1_become cX1_become 2 none 1 := ⟨gT_in 591 (by decide +kernel) (by decide +kernel), gT_in 72 (by decide +kernel) (by decide +kernel), by decide, by decide, by decide +kernel⟩
set_option maxRecDepth 20000 in
theorem lm_X1_changeDrawers : LM yX1_changeDrawers cX1_changeDrawers 6 none 2 := ⟨gT_in 604 (by decide +kernel) (by decide +kernel), gT_in 72 (by decide +kernel) (by decide +kernel), by decide, by decide, by decide +kernel⟩
set_option maxRecDepth 20000 in
theorem lm_X1_changed : LM yX1_changed cX1_changed 3 (some .int) 3 := ⟨gT_in 608 (by decide +kernel) (by decide +kernel), gT_in 72 (by decide +kernel) (by decide +kernel), by decide, by decide, by decide +kernel⟩
set_option maxRecDepth 20000 in
theorem lm_X1_dropHiring : LM yX1_dropHiring cX1_dropHiring 3 none 1 := ⟨gT_in 485 (by decide +kernel) (by decide +kernel), gT_in 72 (by decide +kernel) (by decide +kernel), by decide, by decide, by decide +kernel⟩
set_option maxRecDepth 20000 in
theorem lm_X1_hasAccent : LM yX1_hasAccent cX1_hasAccent 2 (some .boolean) 1 := ⟨gT_in 439 (by decide +kernel) (by decide +kernel), gT_in 72 (by decide +kernel) (by decide +kernel), by decide, by decide, by decide +kernel⟩
set_option maxRecDepth 20000 in
theorem lm_X1_hasPerson : LM yX1_hasPerson cX1_hasPerson 2 (some .boolean) 1 := ⟨gT_in 465 (by decide +kernel) (by decide +kernel), gT_in 72 (by decide +kernel) (by decide +kernel), by decide, by decide, by decide +kernel⟩
set_option maxRecDepth 20000 in
theorem lm_X1_keepHirings : LM yX1_keepHirings cX1_keepHirings 4 none 1 := ⟨gT_in 697 (by decide +kernel) (by decide +kernel), gT_in 72 (by decide +kernel) (by decide +kernel), by decide, by decide, by decide +kernel⟩
set_option maxRecDepth 20000 in
theorem lm_X1_moveHiring : LM yX1_moveHiring cX1_moveHiring 3 none 2 := ⟨gT_in 489 (by decide +kernel) (by decide +kernel), gT_in 72 (by decide +kernel) (by decide +kernel), by decide, by decide, by decide +kernel⟩
set_option maxRecDepth 20000 in
theorem lm_X1_takeAccents : LM yX1_takeAccents cX1_takeAccents 5 none 1 := ⟨gT_in 318 (by decide +kernel) (by decide +kernel), gT_in 72 (by decide +kernel) (by decide +kernel), by decide, by decide, by decide +kernel⟩
set_option maxRecDepth 20000 in
theorem lm_X1_takePeople : LM yX1_takePeople cX1_takePeople 4 none 1 := ⟨gT_in 424 (by decide +kernel) (by decide +kernel), gT_in 72 (by decide +kernel) (by decide +kernel), by decide, by decide, by decide +kernel⟩
set_option maxRecDepth 20000 in
theorem lm_X2_hasItems : LM yX2_hasItems cX2_hasItems 3 (some .boolean) 2 := ⟨gT_in 755 (by decide +kernel) (by decide +kernel), gT_in 75 (by decide +kernel) (by decide +kernel), by decide, by decide, by decide +kernel⟩
set_option maxRecDepth 20000 in
theorem lm_X2_put : LM yX2_put cX2_put 3 none 2 := ⟨gT_in 742 (by decide +kernel) (by decide +kernel), gT_in 75 (by decide +kernel) (by decide +kernel), by decide, by decide, by decide +kernel⟩
set_option maxRecDepth 20000 in
theorem lm_X2_renew : LM yX2_renew cX2_renew 4 none 2 := ⟨gT_in 725 (by decide +kernel) (by decide +kernel), gT_in 75 (by decide +kernel) (by decide +kernel), by decide, by decide, by decide +kernel⟩
set_option maxRecDepth 20000 in
theorem lm_X2_whatIsWrong : LM yX2_whatIsWrong cX2_whatIsWrong 3 (some .int) 2 := ⟨gT_in 737 (by decide +kernel) (by decide +kernel), gT_in 75 (by decide +kernel) (by decide +kernel), by decide, by decide, by decide +kernel⟩
set_option maxRecDepth 20000 in
theorem lm_X3_append : LM yX3_append cX3_append 2 (some .boolean) 1 := ⟨gT_in 309 (by decide +kernel) (by decide +kernel), gT_in 71 (by decide +kernel) (by decide +kernel), by decide, by decide, by decide +kernel⟩
set_option maxRecDepth 20000 in
theorem lm_X3_figureAt : LM yX3_figureAt cX3_figureAt 2 (some .int) 1 := ⟨gT_in 420 (by decide +kernel) (by decide +kernel), gT_in 71 (by decide +kernel) (by decide +kernel), by decide, by decide, by decide +kernel⟩
set_option maxRecDepth 20000 in
theorem lm_X3_firstFault : LM yX3_firstFault cX3_firstFault 4 (some .int) 0 := ⟨gT_in 322 (by decide +kernel) (by decide +kernel), gT_in 71 (by decide +kernel) (by decide +kernel), by decide, by decide, by decide +kernel⟩
set_option maxRecDepth 20000 in
theorem lm_X3_fits : LM yX3_fits cX3_fits 4 (some .boolean) 3 := ⟨gT_in 326 (by decide +kernel) (by decide +kernel), gT_in 71 (by decide +kernel) (by decide +kernel), by decide, by decide, by decide +kernel⟩
set_option maxRecDepth 20000 in
theorem lm_X3_sortAt : LM yX3_sortAt cX3_sortAt 2 (some .int) 1 := ⟨gT_in 416 (by decide +kernel) (by decide +kernel), gT_in 71 (by decide +kernel) (by decide +kernel), by decide, by decide, by decide +kernel⟩
set_option maxRecDepth 20000 in
theorem lm_X4_astrayBits : LM yX4_astrayBits cX4_astrayBits 4 (some .int) 0 := ⟨gT_in 566 (by decide +kernel) (by decide +kernel), gT_in 73 (by decide +kernel) (by decide +kernel), by decide, by decide, by decide +kernel⟩
set_option maxRecDepth 20000 in
theorem lm_X4_begin : LM yX4_begin cX4_begin 4 none 0 := ⟨gT_in 432 (by decide +kernel) (by decide +kernel), gT_in 73 (by decide +kernel) (by decide +kernel), by decide, by decide, by decide +kernel⟩
set_option maxRecDepth 20000 in
theorem lm_X4_countWearers : LM yX4_countWearers cX4_countWearers 2 none 0 := ⟨gT_in 518 (by decide +kernel) (by decide +kernel), gT_in 73 (by decide +kernel) (by decide +kernel), by decide, by decide, by decide +kernel⟩
set_option maxRecDepth 20000 in
theorem lm_X4_doHirings : LM yX4_doHirings cX4_doHirings 2 none 0 := ⟨gT_in 513 (by decide +kernel) (by decide +kernel), gT_in 73 (by decide +kernel) (by decide +kernel), by decide, by decide, by decide +kernel⟩
set_option maxRecDepth 20000 in
theorem lm_X4_far : LM yX4_far cX4_far 5 (some .int) 2 := ⟨gT_in 541 (by decide +kernel) (by decide +kernel), gT_in 73 (by decide +kernel) (by decide +kernel), by decide, by decide, by decide +kernel⟩
set_option maxRecDepth 20000 in
theorem lm_X4_go : LM yX4_go cX4_go 4 none 1 := ⟨gT_in 509 (by decide +kernel) (by decide +kernel), gT_in 73 (by decide +kernel) (by decide +kernel), by decide, by decide, by decide +kernel⟩
set_option maxRecDepth 20000 in
theorem lm_X4_isAnother : LM yX4_isAnother cX4_isAnother 3 (some .boolean) 1 := ⟨gT_in 558 (by decide +kernel) (by decide +kernel), gT_in 73 (by decide +kernel) (by decide +kernel), by decide, by decide, by decide +kernel⟩
set_option maxRecDepth 20000 in
theorem lm_X4_learn : LM yX4_learn cX4_learn 9 none 1 := ⟨gT_in 530 (by decide +kernel) (by decide +kernel), gT_in 73 (by decide +kernel) (by decide +kernel), by decide, by decide, by decide +kernel⟩
set_option maxRecDepth 20000 in
theorem lm_X4_takenFor : LM yX4_takenFor cX4_takenFor 6 (some .int) 1 := ⟨gT_in 537 (by decide +kernel) (by decide +kernel), gT_in 73 (by decide +kernel) (by decide +kernel), by decide, by decide, by decide +kernel⟩
set_option maxRecDepth 20000 in
theorem lm_X4_talk : LM yX4_talk cX4_talk 4 none 1 := ⟨gT_in 523 (by decide +kernel) (by decide +kernel), gT_in 73 (by decide +kernel) (by decide +kernel), by decide, by decide, by decide +kernel⟩
set_option maxRecDepth 20000 in
theorem lm_X4_towards : LM yX4_towards cX4_towards 3 (some .int) 3 := ⟨gT_in 526 (by decide +kernel) (by decide +kernel), gT_in 73 (by decide +kernel) (by decide +kernel), by decide, by decide, by decide +kernel⟩
set_option maxRecDepth 20000 in
theorem lm_X5_accent : LM yX5_accent cX5_accent 3 (some .int) 2 := ⟨gT_in 456 (by decide +kernel) (by decide +kernel), gT_in 70 (by decide +kernel) (by decide +kernel), by decide, by decide, by decide +kernel⟩
set_option maxRecDepth 20000 in
theorem lm_X5_ask : LM yX5_ask cX5_ask 5 (some .int) 1 := ⟨gT_in 676 (by decide +kernel) (by decide +kernel), gT_in 70 (by decide +kernel) (by decide +kernel), by decide, by decide, by decide +kernel⟩
set_option maxRecDepth 20000 in
theorem lm_X5_astray : LM yX5_astray cX5_astray 1 (some .int) 0 := ⟨gT_in 562 (by decide +kernel) (by decide +kernel), gT_in 70 (by decide +kernel) (by decide +kernel), by decide, by decide, by decide +kernel⟩
set_option maxRecDepth 20000 in
theorem lm_X5_at : LM yX5_at cX5_at 5 (some .int) 3 := ⟨gT_in 501 (by decide +kernel) (by decide +kernel), gT_in 70 (by decide +kernel) (by decide +kernel), by decide, by decide, by decide +kernel⟩
set_option maxRecDepth 20000 in
theorem lm_X5_becomes : LM yX5_becomes cX5_becomes 2 (some .int) 1 := ⟨gT_in 550 (by decide +kernel) (by decide +kernel), gT_in 70 (by decide +kernel) (by decide +kernel), by decide, by decide, by decide +kernel⟩
set_option maxRecDepth 20000 in
theorem lm_X5_beginAgain : LM yX5_beginAgain cX5_beginAgain 1 none 0 := ⟨gT_in 428 (by decide +kernel) (by decide +kernel), gT_in 70 (by decide +kernel) (by decide +kernel), by decide, by decide, by decide +kernel⟩
set_option maxRecDepth 20000 in
theorem lm_X5_clearTally : LM yX5_clearTally cX5_clearTally 2 none 0 := ⟨gT_in 575 (by decide +kernel) (by decide +kernel), gT_in 70 (by decide +kernel) (by decide +kernel), by decide, by decide, by decide +kernel⟩
set_option maxRecDepth 20000 in
theorem lm_X5_comesOut : LM yX5_comesOut cX5_comesOut 3 (some .boolean) 0 := ⟨gT_in 647 (by decide +kernel) (by decide +kernel), gT_in 70 (by decide +kernel) (by decide +kernel), by decide, by decide, by decide +kernel⟩
set_option maxRecDepth 20000 in
theorem lm_X5_count : LM yX5_count cX5_count 2 (some .int) 1 := ⟨gT_in 764 (by decide +kernel) (by decide +kernel), gT_in 70 (by decide +kernel) (by decide +kernel), by decide, by decide, by decide +kernel⟩
set_option maxRecDepth 20000 in
theorem lm_X5_crowd : LM yX5_crowd cX5_crowd 5 (some .int) 0 := ⟨gT_in 571 (by decide +kernel) (by decide +kernel), gT_in 70 (by decide +kernel) (by decide +kernel), by decide, by decide, by decide +kernel⟩
set_option maxRecDepth 20000 in
theorem lm_X5_custom : LM yX5_custom cX5_custom 10 (some .long) 3 := ⟨gT_in 688 (by decide +kernel) (by decide +kernel), gT_in 70 (by decide +kernel) (by decide +kernel), by decide, by decide, by decide +kernel⟩
set_option maxRecDepth 20000 in
theorem lm_X5_drawer : LM yX5_drawer cX5_drawer 4 (some .int) 3 := ⟨gT_in 546 (by decide +kernel) (by decide +kernel), gT_in 70 (by decide +kernel) (by decide +kernel), by decide, by decide, by decide +kernel⟩
set_option maxRecDepth 20000 in
theorem lm_X5_dress : LM yX5_dress cX5_dress 9 (some .int) 4 := ⟨gT_in 583 (by decide +kernel) (by decide +kernel), gT_in 70 (by decide +kernel) (by decide +kernel), by decide, by decide, by decide +kernel⟩
set_option maxRecDepth 20000 in
theorem lm_X5_fault : LM yX5_fault cX5_fault 2 (some .int) 1 := ⟨gT_in 451 (by decide +kernel) (by decide +kernel), gT_in 70 (by decide +kernel) (by decide +kernel), by decide, by decide, by decide +kernel⟩
set_option maxRecDepth 20000 in
theorem lm_X5_findFirstDays : LM yX5_findFirstDays cX5_findFirstDays 5 (some .int) 1 := ⟨gT_in 554 (by decide +kernel) (by decide +kernel), gT_in 70 (by decide +kernel) (by decide +kernel), by decide, by decide, by decide +kernel⟩
set_option maxRecDepth 20000 in
theorem lm_X5_findRefused : LM yX5_findRefused cX5_findRefused 3 (some .int) 0 := ⟨gT_in 622 (by decide +kernel) (by decide +kernel), gT_in 70 (by decide +kernel) (by decide +kernel), by decide, by decide, by decide +kernel⟩
set_option maxRecDepth 20000 in
theorem lm_X5_finding : LM yX5_finding cX5_finding 2 (some .int) 1 := ⟨gT_in 497 (by decide +kernel) (by decide +kernel), gT_in 70 (by decide +kernel) (by decide +kernel), by decide, by decide, by decide +kernel⟩
set_option maxRecDepth 20000 in
theorem lm_X5_home : LM yX5_home cX5_home 4 (some .int) 1 := ⟨gT_in 596 (by decide +kernel) (by decide +kernel), gT_in 70 (by decide +kernel) (by decide +kernel), by decide, by decide, by decide +kernel⟩
set_option maxRecDepth 20000 in
theorem lm_X5_isBelow : LM yX5_isBelow cX5_isBelow 2 (some .boolean) 2 := ⟨gT_in 301 (by decide +kernel) (by decide +kernel), gT_in 70 (by decide +kernel) (by decide +kernel), by decide, by decide, by decide +kernel⟩
set_option maxRecDepth 20000 in
theorem lm_X5_learnStrays : LM yX5_learnStrays cX5_learnStrays 2 none 0 := ⟨gT_in 693 (by decide +kernel) (by decide +kernel), gT_in 70 (by decide +kernel) (by decide +kernel), by decide, by decide, by decide +kernel⟩
set_option maxRecDepth 20000 in
theorem lm_X5_lot : LM yX5_lot cX5_lot 2 (some .int) 2 := ⟨gT_in 717 (by decide +kernel) (by decide +kernel), gT_in 70 (by decide +kernel) (by decide +kernel), by decide, by decide, by decide +kernel⟩
set_option maxRecDepth 20000 in
theorem lm_X5_mayBeHired : LM yX5_mayBeHired cX5_mayBeHired 3 (some .boolean) 3 := ⟨gT_in 472 (by decide +kernel) (by decide +kernel), gT_in 70 (by decide +kernel) (by decide +kernel), by decide, by decide, by decide +kernel⟩
set_option maxRecDepth 20000 in
theorem lm_X5_mixAccent : LM yX5_mixAccent cX5_mixAccent 11 (some .long) 2 := ⟨gT_in 777 (by decide +kernel) (by decide +kernel), gT_in 70 (by decide +kernel) (by decide +kernel), by decide, by decide, by decide +kernel⟩
set_option maxRecDepth 20000 in
theorem lm_X5_mixSpeech : LM yX5_mixSpeech cX5_mixSpeech 11 (some .long) 2 := ⟨gT_in 785 (by decide +kernel) (by decide +kernel), gT_in 70 (by decide +kernel) (by decide +kernel), by decide, by decide, by decide +kernel⟩
set_option maxRecDepth 20000 in
theorem lm_X5_mostAlike : LM yX5_mostAlike cX5_mostAlike 5 (some .int) 1 := ⟨gT_in 684 (by decide +kernel) (by decide +kernel), gT_in 70 (by decide +kernel) (by decide +kernel), by decide, by decide, by decide +kernel⟩
set_option maxRecDepth 20000 in
theorem lm_X5_never : LM yX5_never cX5_never 3 (some .int) 0 := ⟨gT_in 643 (by decide +kernel) (by decide +kernel), gT_in 70 (by decide +kernel) (by decide +kernel), by decide, by decide, by decide +kernel⟩
set_option maxRecDepth 20000 in
theorem lm_X5_nobodyAstrayWithout : LM yX5_nobodyAstrayWithout cX5_nobodyAstrayWithout 3 (some .boolean) 2 := ⟨gT_in 626 (by decide +kernel) (by decide +kernel), gT_in 70 (by decide +kernel) (by decide +kernel), by decide, by decide, by decide +kernel⟩
set_option maxRecDepth 20000 in
theorem lm_X5_person : LM yX5_person cX5_person 3 (some .int) 2 := ⟨gT_in 461 (by decide +kernel) (by decide +kernel), gT_in 70 (by decide +kernel) (by decide +kernel), by decide, by decide, by decide +kernel⟩
set_option maxRecDepth 20000 in
theorem lm_X5_refuse : LM yX5_refuse cX5_refuse 3 (some .int) 1 := ⟨gT_in 618 (by decide +kernel) (by decide +kernel), gT_in 70 (by decide +kernel) (by decide +kernel), by decide, by decide, by decide +kernel⟩
set_option maxRecDepth 20000 in
theorem lm_X5_seedAfter : LM yX5_seedAfter cX5_seedAfter 1 (some .int) 1 := ⟨gT_in 713 (by decide +kernel) (by decide +kernel), gT_in 70 (by decide +kernel) (by decide +kernel), by decide, by decide, by decide +kernel⟩
set_option maxRecDepth 20000 in
theorem lm_X5_sortBits : LM yX5_sortBits cX5_sortBits 4 (some .int) 1 := ⟨gT_in 672 (by decide +kernel) (by decide +kernel), gT_in 70 (by decide +kernel) (by decide +kernel), by decide, by decide, by decide +kernel⟩
set_option maxRecDepth 20000 in
theorem lm_X5_standBehind : LM yX5_standBehind cX5_standBehind 2 none 1 := ⟨gT_in 505 (by decide +kernel) (by decide +kernel), gT_in 70 (by decide +kernel) (by decide +kernel), by decide, by decide, by decide +kernel⟩
set_option maxRecDepth 20000 in
theorem lm_X5_tallyAsOwn : LM yX5_tallyAsOwn cX5_tallyAsOwn 4 none 2 := ⟨gT_in 680 (by decide +kernel) (by decide +kernel), gT_in 70 (by decide +kernel) (by decide +kernel), by decide, by decide, by decide +kernel⟩
set_option maxRecDepth 20000 in
theorem lm_X5_tallyTaken : LM yX5_tallyTaken cX5_tallyTaken 4 none 2 := ⟨gT_in 579 (by decide +kernel) (by decide +kernel), gT_in 70 (by decide +kernel) (by decide +kernel), by decide, by decide, by decide +kernel⟩
set_option maxRecDepth 20000 in
theorem lm_X5_tellAgain : LM yX5_tellAgain cX5_tellAgain 1 none 0 := ⟨gT_in 314 (by decide +kernel) (by decide +kernel), gT_in 70 (by decide +kernel) (by decide +kernel), by decide, by decide, by decide +kernel⟩
set_option maxRecDepth 20000 in
theorem lm_X5_textOf : LM yX5_textOf cX5_textOf 2 (some (.object "AccentShop$Text")) 1 := ⟨gT_in 305 (by decide +kernel) (by decide +kernel), gT_in 70 (by decide +kernel) (by decide +kernel), by decide, by decide, by decide +kernel⟩
set_option maxRecDepth 20000 in
theorem lm_X5_tray : LM yX5_tray cX5_tray 8 (some .int) 1 := ⟨gT_in 600 (by decide +kernel) (by decide +kernel), gT_in 70 (by decide +kernel) (by decide +kernel), by decide, by decide, by decide +kernel⟩
set_option maxRecDepth 20000 in
theorem lm_X5_tryHiringMore : LM yX5_tryHiringMore cX5_tryHiringMore 4 none 3 := ⟨gT_in 587 (by decide +kernel) (by decide +kernel), gT_in 70 (by decide +kernel) (by decide +kernel), by decide, by decide, by decide +kernel⟩
set_option maxRecDepth 20000 in
theorem lm_X5_tryYear : LM yX5_tryYear cX5_tryYear 7 none 2 := ⟨gT_in 710 (by decide +kernel) (by decide +kernel), gT_in 70 (by decide +kernel) (by decide +kernel), by decide, by decide, by decide +kernel⟩
set_option maxRecDepth 20000 in
theorem lm_X5_was : LM yX5_was cX5_was 3 (some .int) 2 := ⟨gT_in 664 (by decide +kernel) (by decide +kernel), gT_in 70 (by decide +kernel) (by decide +kernel), by decide, by decide, by decide +kernel⟩
set_option maxRecDepth 20000 in
theorem lm_X5_weight : LM yX5_weight cX5_weight 6 (some .long) 2 := ⟨gT_in 701 (by decide +kernel) (by decide +kernel), gT_in 70 (by decide +kernel) (by decide +kernel), by decide, by decide, by decide +kernel⟩
set_option maxRecDepth 20000 in
theorem lm_X5_whoseBits : LM yX5_whoseBits cX5_whoseBits 4 (some .int) 1 := ⟨gT_in 668 (by decide +kernel) (by decide +kernel), gT_in 70 (by decide +kernel) (by decide +kernel), by decide, by decide, by decide +kernel⟩
set_option maxRecDepth 20000 in
theorem lm_X5_year : LM yX5_year cX5_year 4 (some .int) 3 := ⟨gT_in 706 (by decide +kernel) (by decide +kernel), gT_in 70 (by decide +kernel) (by decide +kernel), by decide, by decide, by decide +kernel⟩
set_option maxRecDepth 20000 in
theorem lm_X6_accentOf : LM yX6_accentOf cX6_accentOf 2 (some .int) 2 := ⟨gT_in 971 (by decide +kernel) (by decide +kernel), gT_in 76 (by decide +kernel) (by decide +kernel), by decide, by decide, by decide +kernel⟩
set_option maxRecDepth 20000 in
theorem lm_X6_alike : LM yX6_alike cX6_alike 7 (some .int) 2 := ⟨gT_in 1207 (by decide +kernel) (by decide +kernel), gT_in 76 (by decide +kernel) (by decide +kernel), by decide, by decide, by decide +kernel⟩
set_option maxRecDepth 20000 in
theorem lm_X6_askOf : LM yX6_askOf cX6_askOf 5 (some .int) 1 := ⟨gT_in 1203 (by decide +kernel) (by decide +kernel), gT_in 76 (by decide +kernel) (by decide +kernel), by decide, by decide, by decide +kernel⟩
set_option maxRecDepth 20000 in
theorem lm_X6_astrayNow : LM yX6_astrayNow cX6_astrayNow 3 (some .int) 0 := ⟨gT_in 1098 (by decide +kernel) (by decide +kernel), gT_in 76 (by decide +kernel) (by decide +kernel), by decide, by decide, by decide +kernel⟩
set_option maxRecDepth 20000 in
theorem lm_X6_atBy : LM yX6_atBy cX6_atBy 4 (some .int) 3 := ⟨gT_in 1078 (by decide +kernel) (by decide +kernel), gT_in 76 (by decide +kernel) (by decide +kernel), by decide, by decide, by decide +kernel⟩
set_option maxRecDepth 20000 in
theorem lm_X6_becomeMany : LM yX6_becomeMany cX6_becomeMany 3 (some .int) 0 := ⟨gT_in 1241 (by decide +kernel) (by decide +kernel), gT_in 76 (by decide +kernel) (by decide +kernel), by decide, by decide, by decide +kernel⟩
set_option maxRecDepth 20000 in
theorem lm_X6_changes : LM yX6_changes cX6_changes 5 none 2 := ⟨gT_in 1138 (by decide +kernel) (by decide +kernel), gT_in 76 (by decide +kernel) (by decide +kernel), by decide, by decide, by decide +kernel⟩
set_option maxRecDepth 20000 in
theorem lm_X6_count : LM yX6_count cX6_count 2 (some .int) 1 := ⟨gT_in 1249 (by decide +kernel) (by decide +kernel), gT_in 76 (by decide +kernel) (by decide +kernel), by decide, by decide, by decide +kernel⟩
set_option maxRecDepth 20000 in
theorem lm_X6_crowdNow : LM yX6_crowdNow cX6_crowdNow 6 (some .int) 0 := ⟨gT_in 1110 (by decide +kernel) (by decide +kernel), gT_in 76 (by decide +kernel) (by decide +kernel), by decide, by decide, by decide +kernel⟩
set_option maxRecDepth 20000 in
theorem lm_X6_customOf : LM yX6_customOf cX6_customOf 10 (some .long) 3 := ⟨gT_in 1216 (by decide +kernel) (by decide +kernel), gT_in 76 (by decide +kernel) (by decide +kernel), by decide, by decide, by decide +kernel⟩
set_option maxRecDepth 20000 in
theorem lm_X6_cut : LM yX6_cut cX6_cut 2 (some .int) 2 := ⟨gT_in 931 (by decide +kernel) (by decide +kernel), gT_in 76 (by decide +kernel) (by decide +kernel), by decide, by decide, by decide +kernel⟩
set_option maxRecDepth 20000 in
theorem lm_X6_drawerBy : LM yX6_drawerBy cX6_drawerBy 6 (some .int) 3 := ⟨gT_in 1086 (by decide +kernel) (by decide +kernel), gT_in 76 (by decide +kernel) (by decide +kernel), by decide, by decide, by decide +kernel⟩
set_option maxRecDepth 20000 in
theorem lm_X6_dressOf : LM yX6_dressOf cX6_dressOf 9 (some .int) 4 := ⟨gT_in 1118 (by decide +kernel) (by decide +kernel), gT_in 76 (by decide +kernel) (by decide +kernel), by decide, by decide, by decide +kernel⟩
set_option maxRecDepth 20000 in
theorem lm_X6_farOf : LM yX6_farOf cX6_farOf 5 (some .int) 2 := ⟨gT_in 1074 (by decide +kernel) (by decide +kernel), gT_in 76 (by decide +kernel) (by decide +kernel), by decide, by decide, by decide +kernel⟩
set_option maxRecDepth 20000 in
theorem lm_X6_find : LM yX6_find cX6_find 1 none 0 := ⟨gT_in 1031 (by decide +kernel) (by decide +kernel), gT_in 76 (by decide +kernel) (by decide +kernel), by decide, by decide, by decide +kernel⟩
set_option maxRecDepth 20000 in
theorem lm_X6_finds : LM yX6_finds cX6_finds 2 (some .int) 1 := ⟨gT_in 916 (by decide +kernel) (by decide +kernel), gT_in 76 (by decide +kernel) (by decide +kernel), by decide, by decide, by decide +kernel⟩
set_option maxRecDepth 20000 in
theorem lm_X6_greater : LM yX6_greater cX6_greater 2 (some .int) 2 := ⟨gT_in 1059 (by decide +kernel) (by decide +kernel), gT_in 76 (by decide +kernel) (by decide +kernel), by decide, by decide, by decide +kernel⟩
set_option maxRecDepth 20000 in
theorem lm_X6_hire : LM yX6_hire cX6_hire 4 (some .int) 3 := ⟨gT_in 1002 (by decide +kernel) (by decide +kernel), gT_in 76 (by decide +kernel) (by decide +kernel), by decide, by decide, by decide +kernel⟩
set_option maxRecDepth 20000 in
theorem lm_X6_homeOf : LM yX6_homeOf cX6_homeOf 5 (some .int) 1 := ⟨gT_in 1126 (by decide +kernel) (by decide +kernel), gT_in 76 (by decide +kernel) (by decide +kernel), by decide, by decide, by decide +kernel⟩
set_option maxRecDepth 20000 in
theorem lm_X6_in : LM yX6_in cX6_in 6 (some .boolean) 3 := ⟨gT_in 911 (by decide +kernel) (by decide +kernel), gT_in 76 (by decide +kernel) (by decide +kernel), by decide, by decide, by decide +kernel⟩
set_option maxRecDepth 20000 in
theorem lm_X6_isAccent : LM yX6_isAccent cX6_isAccent 2 (some .boolean) 1 := ⟨gT_in 989 (by decide +kernel) (by decide +kernel), gT_in 76 (by decide +kernel) (by decide +kernel), by decide, by decide, by decide +kernel⟩
set_option maxRecDepth 20000 in
theorem lm_X6_isAstray : LM yX6_isAstray cX6_isAstray 2 (some .boolean) 1 := ⟨gT_in 1102 (by decide +kernel) (by decide +kernel), gT_in 76 (by decide +kernel) (by decide +kernel), by decide, by decide, by decide +kernel⟩
set_option maxRecDepth 20000 in
theorem lm_X6_isDay : LM yX6_isDay cX6_isDay 1 (some .boolean) 1 := ⟨gT_in 1005 (by decide +kernel) (by decide +kernel), gT_in 76 (by decide +kernel) (by decide +kernel), by decide, by decide, by decide +kernel⟩
set_option maxRecDepth 20000 in
theorem lm_X6_isEight : LM yX6_isEight cX6_isEight 1 (some .boolean) 1 := ⟨gT_in 1009 (by decide +kernel) (by decide +kernel), gT_in 76 (by decide +kernel) (by decide +kernel), by decide, by decide, by decide +kernel⟩
set_option maxRecDepth 20000 in
theorem lm_X6_isHeard : LM yX6_isHeard cX6_isHeard 4 (some .boolean) 0 := ⟨gT_in 1179 (by decide +kernel) (by decide +kernel), gT_in 76 (by decide +kernel) (by decide +kernel), by decide, by decide, by decide +kernel⟩
set_option maxRecDepth 20000 in
theorem lm_X6_isIn : LM yX6_isIn cX6_isIn 2 (some .boolean) 2 := ⟨gT_in 1042 (by decide +kernel) (by decide +kernel), gT_in 76 (by decide +kernel) (by decide +kernel), by decide, by decide, by decide +kernel⟩
set_option maxRecDepth 20000 in
theorem lm_X6_isPerson : LM yX6_isPerson cX6_isPerson 2 (some .boolean) 1 := ⟨gT_in 998 (by decide +kernel) (by decide +kernel), gT_in 76 (by decide +kernel) (by decide +kernel), by decide, by decide, by decide +kernel⟩
set_option maxRecDepth 20000 in
theorem lm_X6_isRight : LM yX6_isRight cX6_isRight 2 (some .boolean) 1 := ⟨gT_in 1157 (by decide +kernel) (by decide +kernel), gT_in 76 (by decide +kernel) (by decide +kernel), by decide, by decide, by decide +kernel⟩
set_option maxRecDepth 20000 in
theorem lm_X6_isSheet : LM yX6_isSheet cX6_isSheet 1 (some .boolean) 1 := ⟨gT_in 907 (by decide +kernel) (by decide +kernel), gT_in 76 (by decide +kernel) (by decide +kernel), by decide, by decide, by decide +kernel⟩
set_option maxRecDepth 20000 in
theorem lm_X6_isTwo : LM yX6_isTwo cX6_isTwo 1 (some .boolean) 1 := ⟨gT_in 947 (by decide +kernel) (by decide +kernel), gT_in 76 (by decide +kernel) (by decide +kernel), by decide, by decide, by decide +kernel⟩
set_option maxRecDepth 20000 in
theorem lm_X6_isWorn : LM yX6_isWorn cX6_isWorn 4 (some .boolean) 1 := ⟨gT_in 1050 (by decide +kernel) (by decide +kernel), gT_in 76 (by decide +kernel) (by decide +kernel), by decide, by decide, by decide +kernel⟩
set_option maxRecDepth 20000 in
theorem lm_X6_judges : LM yX6_judges cX6_judges 7 none 2 := ⟨gT_in 1070 (by decide +kernel) (by decide +kernel), gT_in 76 (by decide +kernel) (by decide +kernel), by decide, by decide, by decide +kernel⟩
set_option maxRecDepth 20000 in
theorem lm_X6_lacks : LM yX6_lacks cX6_lacks 4 (some .int) 3 := ⟨gT_in 928 (by decide +kernel) (by decide +kernel), gT_in 76 (by decide +kernel) (by decide +kernel), by decide, by decide, by decide +kernel⟩
set_option maxRecDepth 20000 in
theorem lm_X6_lesser : LM yX6_lesser cX6_lesser 2 (some .int) 2 := ⟨gT_in 1056 (by decide +kernel) (by decide +kernel), gT_in 76 (by decide +kernel) (by decide +kernel), by decide, by decide, by decide +kernel⟩
set_option maxRecDepth 20000 in
theorem lm_X6_lives : LM yX6_lives cX6_lives 4 none 0 := ⟨gT_in 1035 (by decide +kernel) (by decide +kernel), gT_in 76 (by decide +kernel) (by decide +kernel), by decide, by decide, by decide +kernel⟩
set_option maxRecDepth 20000 in
theorem lm_X6_lot : LM yX6_lot cX6_lot 2 (some .int) 1 := ⟨gT_in 1236 (by decide +kernel) (by decide +kernel), gT_in 76 (by decide +kernel) (by decide +kernel), by decide, by decide, by decide +kernel⟩
set_option maxRecDepth 20000 in
theorem lm_X6_neverNow : LM yX6_neverNow cX6_neverNow 3 (some .int) 0 := ⟨gT_in 1175 (by decide +kernel) (by decide +kernel), gT_in 76 (by decide +kernel) (by decide +kernel), by decide, by decide, by decide +kernel⟩
set_option maxRecDepth 20000 in
theorem lm_X6_no : LM yX6_no cX6_no 1 (some .long) 1 := ⟨gT_in 1222 (by decide +kernel) (by decide +kernel), gT_in 76 (by decide +kernel) (by decide +kernel), by decide, by decide, by decide +kernel⟩
set_option maxRecDepth 20000 in
theorem lm_X6_ones : LM yX6_ones cX6_ones 3 (some .int) 1 := ⟨gT_in 1144 (by decide +kernel) (by decide +kernel), gT_in 76 (by decide +kernel) (by decide +kernel), by decide, by decide, by decide +kernel⟩
set_option maxRecDepth 20000 in
theorem lm_X6_other : LM yX6_other cX6_other 3 (some .int) 3 := ⟨gT_in 1141 (by decide +kernel) (by decide +kernel), gT_in 76 (by decide +kernel) (by decide +kernel), by decide, by decide, by decide +kernel⟩
set_option maxRecDepth 20000 in
theorem lm_X6_part : LM yX6_part cX6_part 11 (some .long) 3 := ⟨gT_in 1219 (by decide +kernel) (by decide +kernel), gT_in 76 (by decide +kernel) (by decide +kernel), by decide, by decide, by decide +kernel⟩
set_option maxRecDepth 20000 in
theorem lm_X6_passes : LM yX6_passes cX6_passes 3 none 1 := ⟨gT_in 1039 (by decide +kernel) (by decide +kernel), gT_in 76 (by decide +kernel) (by decide +kernel), by decide, by decide, by decide +kernel⟩
set_option maxRecDepth 20000 in
theorem lm_X6_personOf : LM yX6_personOf cX6_personOf 2 (some .int) 2 := ⟨gT_in 980 (by decide +kernel) (by decide +kernel), gT_in 76 (by decide +kernel) (by decide +kernel), by decide, by decide, by decide +kernel⟩
set_option maxRecDepth 20000 in
theorem lm_X6_puts : LM yX6_puts cX6_puts 4 none 3 := ⟨gT_in 1014 (by decide +kernel) (by decide +kernel), gT_in 76 (by decide +kernel) (by decide +kernel), by decide, by decide, by decide +kernel⟩
set_option maxRecDepth 20000 in
theorem lm_X6_readsAccents : LM yX6_readsAccents cX6_readsAccents 5 (some .int) 0 := ⟨gT_in 968 (by decide +kernel) (by decide +kernel), gT_in 76 (by decide +kernel) (by decide +kernel), by decide, by decide, by decide +kernel⟩
set_option maxRecDepth 20000 in
theorem lm_X6_readsPeople : LM yX6_readsPeople cX6_readsPeople 5 (some .int) 0 := ⟨gT_in 977 (by decide +kernel) (by decide +kernel), gT_in 76 (by decide +kernel) (by decide +kernel), by decide, by decide, by decide +kernel⟩
set_option maxRecDepth 20000 in
theorem lm_X6_readsText : LM yX6_readsText cX6_readsText 2 (some .int) 1 := ⟨gT_in 964 (by decide +kernel) (by decide +kernel), gT_in 76 (by decide +kernel) (by decide +kernel), by decide, by decide, by decide +kernel⟩
set_option maxRecDepth 20000 in
theorem lm_X6_refuseOf : LM yX6_refuseOf cX6_refuseOf 4 (some .int) 1 := ⟨gT_in 1153 (by decide +kernel) (by decide +kernel), gT_in 76 (by decide +kernel) (by decide +kernel), by decide, by decide, by decide +kernel⟩
set_option maxRecDepth 20000 in
theorem lm_X6_size : LM yX6_size cX6_size 1 (some .int) 1 := ⟨gT_in 1066 (by decide +kernel) (by decide +kernel), gT_in 76 (by decide +kernel) (by decide +kernel), by decide, by decide, by decide +kernel⟩
set_option maxRecDepth 20000 in
theorem lm_X6_sortOf : LM yX6_sortOf cX6_sortOf 5 (some .int) 1 := ⟨gT_in 1195 (by decide +kernel) (by decide +kernel), gT_in 76 (by decide +kernel) (by decide +kernel), by decide, by decide, by decide +kernel⟩
set_option maxRecDepth 20000 in
theorem lm_X6_speaks : LM yX6_speaks cX6_speaks 9 none 2 := ⟨gT_in 1063 (by decide +kernel) (by decide +kernel), gT_in 76 (by decide +kernel) (by decide +kernel), by decide, by decide, by decide +kernel⟩
set_option maxRecDepth 20000 in
theorem lm_X6_talk : LM yX6_talk cX6_talk 3 none 1 := ⟨gT_in 1046 (by decide +kernel) (by decide +kernel), gT_in 76 (by decide +kernel) (by decide +kernel), by decide, by decide, by decide +kernel⟩
set_option maxRecDepth 20000 in
theorem lm_X6_tellsDay : LM yX6_tellsDay cX6_tellsDay 8 (some .long) 3 := ⟨gT_in 1268 (by decide +kernel) (by decide +kernel), gT_in 76 (by decide +kernel) (by decide +kernel), by decide, by decide, by decide +kernel⟩
set_option maxRecDepth 20000 in
theorem lm_X6_tellsDrawer : LM yX6_tellsDrawer cX6_tellsDrawer 8 (some .long) 3 := ⟨gT_in 1260 (by decide +kernel) (by decide +kernel), gT_in 76 (by decide +kernel) (by decide +kernel), by decide, by decide, by decide +kernel⟩
set_option maxRecDepth 20000 in
theorem lm_X6_tellsPerson : LM yX6_tellsPerson cX6_tellsPerson 6 (some .long) 2 := ⟨gT_in 1264 (by decide +kernel) (by decide +kernel), gT_in 76 (by decide +kernel) (by decide +kernel), by decide, by decide, by decide +kernel⟩
set_option maxRecDepth 20000 in
theorem lm_X6_towards : LM yX6_towards cX6_towards 3 (some .int) 3 := ⟨gT_in 1053 (by decide +kernel) (by decide +kernel), gT_in 76 (by decide +kernel) (by decide +kernel), by decide, by decide, by decide +kernel⟩
set_option maxRecDepth 20000 in
theorem lm_X6_trayBy : LM yX6_trayBy cX6_trayBy 8 (some .int) 1 := ⟨gT_in 1134 (by decide +kernel) (by decide +kernel), gT_in 76 (by decide +kernel) (by decide +kernel), by decide, by decide, by decide +kernel⟩
set_option maxRecDepth 20000 in
theorem lm_X6_wasOf : LM yX6_wasOf cX6_wasOf 3 (some .int) 2 := ⟨gT_in 1187 (by decide +kernel) (by decide +kernel), gT_in 76 (by decide +kernel) (by decide +kernel), by decide, by decide, by decide +kernel⟩
set_option maxRecDepth 20000 in
theorem lm_X6_whoseOf : LM yX6_whoseOf cX6_whoseOf 6 (some .int) 1 := ⟨gT_in 1191 (by decide +kernel) (by decide +kernel), gT_in 76 (by decide +kernel) (by decide +kernel), by decide, by decide, by decide +kernel⟩
set_option maxRecDepth 20000 in
theorem lm_X6_yearOf : LM yX6_yearOf cX6_yearOf 8 (some .int) 3 := ⟨gT_in 1232 (by decide +kernel) (by decide +kernel), gT_in 76 (by decide +kernel) (by decide +kernel), by decide, by decide, by decide +kernel⟩
set_option maxRecDepth 20000 in
theorem lv_X5_86 : LV RX5 86 yX5_textOf 5 := ⟨gT_in 302 (by decide +kernel) (by decide +kernel), gT_in 304 (by decide +kernel) (by decide +kernel), gT_in 0 (by decide +kernel) (by decide +kernel), by decide, ⟨(RX5, TX5, 14), rfl, rfl⟩⟩
set_option maxRecDepth 20000 in
theorem lv_X5_90 : LV RX5 90 yX3_append 3 := ⟨gT_in 306 (by decide +kernel) (by decide +kernel), gT_in 307 (by decide +kernel) (by decide +kernel), gT_in 308 (by decide +kernel) (by decide +kernel), by decide, ⟨(RX3, TX3, 5), rfl, rfl⟩⟩
set_option maxRecDepth 20000 in
theorem lv_X5_94 : LV RX5 94 yX5_tellAgain 5 := ⟨gT_in 311 (by decide +kernel) (by decide +kernel), gT_in 313 (by decide +kernel) (by decide +kernel), gT_in 1 (by decide +kernel) (by decide +kernel), by decide, ⟨(RX5, TX5, 14), rfl, rfl⟩⟩
set_option maxRecDepth 20000 in
theorem lv_X5_100 : LV RX5 100 yX3_firstFault 3 := ⟨gT_in 452 (by decide +kernel) (by decide +kernel), gT_in 320 (by decide +kernel) (by decide +kernel), gT_in 321 (by decide +kernel) (by decide +kernel), by decide, ⟨(RX3, TX3, 5), rfl, rfl⟩⟩
set_option maxRecDepth 20000 in
theorem lv_X5_104 : LV RX5 104 yX1_hasAccent 1 := ⟨gT_in 457 (by decide +kernel) (by decide +kernel), gT_in 437 (by decide +kernel) (by decide +kernel), gT_in 438 (by decide +kernel) (by decide +kernel), by decide, ⟨(RX1, TX1, 10), rfl, rfl⟩⟩
set_option maxRecDepth 20000 in
theorem lv_X5_113 : LV RX5 113 yX1_hasPerson 1 := ⟨gT_in 462 (by decide +kernel) (by decide +kernel), gT_in 463 (by decide +kernel) (by decide +kernel), gT_in 464 (by decide +kernel) (by decide +kernel), by decide, ⟨(RX1, TX1, 10), rfl, rfl⟩⟩
set_option maxRecDepth 20000 in
theorem lv_X5_129 : LV RX5 129 yX1_addHiring 1 := ⟨gT_in 473 (by decide +kernel) (by decide +kernel), gT_in 474 (by decide +kernel) (by decide +kernel), gT_in 475 (by decide +kernel) (by decide +kernel), by decide, ⟨(RX1, TX1, 10), rfl, rfl⟩⟩
set_option maxRecDepth 20000 in
theorem lv_X5_133 : LV RX5 133 yX5_beginAgain 5 := ⟨gT_in 425 (by decide +kernel) (by decide +kernel), gT_in 427 (by decide +kernel) (by decide +kernel), gT_in 3 (by decide +kernel) (by decide +kernel), by decide, ⟨(RX5, TX5, 14), rfl, rfl⟩⟩
set_option maxRecDepth 20000 in
theorem lv_X5_136 : LV RX5 136 yX1_dropHiring 1 := ⟨gT_in 482 (by decide +kernel) (by decide +kernel), gT_in 483 (by decide +kernel) (by decide +kernel), gT_in 484 (by decide +kernel) (by decide +kernel), by decide, ⟨(RX1, TX1, 10), rfl, rfl⟩⟩
set_option maxRecDepth 20000 in
theorem lv_X5_143 : LV RX5 143 yX5_finding 5 := ⟨gT_in 494 (by decide +kernel) (by decide +kernel), gT_in 496 (by decide +kernel) (by decide +kernel), gT_in 5 (by decide +kernel) (by decide +kernel), by decide, ⟨(RX5, TX5, 14), rfl, rfl⟩⟩
set_option maxRecDepth 20000 in
theorem lv_X5_153 : LV RX5 153 yX5_standBehind 5 := ⟨gT_in 502 (by decide +kernel) (by decide +kernel), gT_in 504 (by decide +kernel) (by decide +kernel), gT_in 6 (by decide +kernel) (by decide +kernel), by decide, ⟨(RX5, TX5, 14), rfl, rfl⟩⟩
set_option maxRecDepth 20000 in
theorem lv_X5_162 : LV RX5 162 yX4_takenFor 4 := ⟨gT_in 534 (by decide +kernel) (by decide +kernel), gT_in 535 (by decide +kernel) (by decide +kernel), gT_in 536 (by decide +kernel) (by decide +kernel), by decide, ⟨(RX4, TX4, 6), rfl, rfl⟩⟩
set_option maxRecDepth 20000 in
theorem lv_X5_165 : LV RX5 165 yX4_far 4 := ⟨gT_in 542 (by decide +kernel) (by decide +kernel), gT_in 539 (by decide +kernel) (by decide +kernel), gT_in 540 (by decide +kernel) (by decide +kernel), by decide, ⟨(RX4, TX4, 6), rfl, rfl⟩⟩
set_option maxRecDepth 20000 in
theorem lv_X5_173 : LV RX5 173 yX5_findFirstDays 5 := ⟨gT_in 551 (by decide +kernel) (by decide +kernel), gT_in 553 (by decide +kernel) (by decide +kernel), gT_in 11 (by decide +kernel) (by decide +kernel), by decide, ⟨(RX5, TX5, 14), rfl, rfl⟩⟩
set_option maxRecDepth 20000 in
theorem lv_X5_177 : LV RX5 177 yX4_astrayBits 4 := ⟨gT_in 563 (by decide +kernel) (by decide +kernel), gT_in 564 (by decide +kernel) (by decide +kernel), gT_in 565 (by decide +kernel) (by decide +kernel), by decide, ⟨(RX4, TX4, 6), rfl, rfl⟩⟩
set_option maxRecDepth 20000 in
theorem lv_X5_180 : LV RX5 180 yX5_clearTally 5 := ⟨gT_in 572 (by decide +kernel) (by decide +kernel), gT_in 574 (by decide +kernel) (by decide +kernel), gT_in 12 (by decide +kernel) (by decide +kernel), by decide, ⟨(RX5, TX5, 14), rfl, rfl⟩⟩
set_option maxRecDepth 20000 in
theorem lv_X5_186 : LV RX5 186 yX5_tallyTaken 5 := ⟨gT_in 576 (by decide +kernel) (by decide +kernel), gT_in 578 (by decide +kernel) (by decide +kernel), gT_in 13 (by decide +kernel) (by decide +kernel), by decide, ⟨(RX5, TX5, 14), rfl, rfl⟩⟩
set_option maxRecDepth 20000 in
theorem lv_X5_193 : LV RX5 193 yX5_tryHiringMore 5 := ⟨gT_in 584 (by decide +kernel) (by decide +kernel), gT_in 586 (by decide +kernel) (by decide +kernel), gT_in 14 (by decide +kernel) (by decide +kernel), by decide, ⟨(RX5, TX5, 14), rfl, rfl⟩⟩
set_option maxRecDepth 20000 in
theorem lv_X5_196 : LV RX5 196 yX1_become 1 := ⟨gT_in 588 (by decide +kernel) (by decide +kernel), gT_in 589 (by decide +kernel) (by decide +kernel), gT_in 590 (by decide +kernel) (by decide +kernel), by decide, ⟨(RX1, TX1, 10), rfl, rfl⟩⟩
set_option maxRecDepth 20000 in
theorem lv_X5_199 : LV RX5 199 yX1_changeDrawers 1 := ⟨gT_in 601 (by decide +kernel) (by decide +kernel), gT_in 602 (by decide +kernel) (by decide +kernel), gT_in 603 (by decide +kernel) (by decide +kernel), by decide, ⟨(RX1, TX1, 10), rfl, rfl⟩⟩
set_option maxRecDepth 20000 in
theorem lv_X5_203 : LV RX5 203 yX4_begin 4 := ⟨gT_in 429 (by decide +kernel) (by decide +kernel), gT_in 430 (by decide +kernel) (by decide +kernel), gT_in 431 (by decide +kernel) (by decide +kernel), by decide, ⟨(RX4, TX4, 6), rfl, rfl⟩⟩
set_option maxRecDepth 20000 in
theorem lv_X5_206 : LV RX5 206 yX4_go 4 := ⟨gT_in 506 (by decide +kernel) (by decide +kernel), gT_in 507 (by decide +kernel) (by decide +kernel), gT_in 508 (by decide +kernel) (by decide +kernel), by decide, ⟨(RX4, TX4, 6), rfl, rfl⟩⟩
set_option maxRecDepth 20000 in
theorem lv_X5_214 : LV RX5 214 yX5_findRefused 5 := ⟨gT_in 619 (by decide +kernel) (by decide +kernel), gT_in 621 (by decide +kernel) (by decide +kernel), gT_in 15 (by decide +kernel) (by decide +kernel), by decide, ⟨(RX5, TX5, 14), rfl, rfl⟩⟩
set_option maxRecDepth 20000 in
theorem lv_X5_217 : LV RX5 217 yX0_add 0 := ⟨gT_in 631 (by decide +kernel) (by decide +kernel), gT_in 632 (by decide +kernel) (by decide +kernel), gT_in 633 (by decide +kernel) (by decide +kernel), by decide, ⟨(RX0, TX0, 5), rfl, rfl⟩⟩
set_option maxRecDepth 20000 in
theorem lv_X5_222 : LV RX5 222 yX5_comesOut 5 := ⟨gT_in 644 (by decide +kernel) (by decide +kernel), gT_in 646 (by decide +kernel) (by decide +kernel), gT_in 17 (by decide +kernel) (by decide +kernel), by decide, ⟨(RX5, TX5, 14), rfl, rfl⟩⟩
set_option maxRecDepth 20000 in
theorem lv_X5_226 : LV RX5 226 yX5_whoseBits 5 := ⟨gT_in 665 (by decide +kernel) (by decide +kernel), gT_in 667 (by decide +kernel) (by decide +kernel), gT_in 19 (by decide +kernel) (by decide +kernel), by decide, ⟨(RX5, TX5, 14), rfl, rfl⟩⟩
set_option maxRecDepth 20000 in
theorem lv_X5_229 : LV RX5 229 yX5_sortBits 5 := ⟨gT_in 669 (by decide +kernel) (by decide +kernel), gT_in 671 (by decide +kernel) (by decide +kernel), gT_in 20 (by decide +kernel) (by decide +kernel), by decide, ⟨(RX5, TX5, 14), rfl, rfl⟩⟩
set_option maxRecDepth 20000 in
theorem lv_X5_232 : LV RX5 232 yX5_tallyAsOwn 5 := ⟨gT_in 677 (by decide +kernel) (by decide +kernel), gT_in 679 (by decide +kernel) (by decide +kernel), gT_in 21 (by decide +kernel) (by decide +kernel), by decide, ⟨(RX5, TX5, 14), rfl, rfl⟩⟩
set_option maxRecDepth 20000 in
theorem lv_X5_235 : LV RX5 235 yX5_mostAlike 5 := ⟨gT_in 681 (by decide +kernel) (by decide +kernel), gT_in 683 (by decide +kernel) (by decide +kernel), gT_in 22 (by decide +kernel) (by decide +kernel), by decide, ⟨(RX5, TX5, 14), rfl, rfl⟩⟩
set_option maxRecDepth 20000 in
theorem lv_X5_240 : LV RX5 240 yX5_learnStrays 5 := ⟨gT_in 690 (by decide +kernel) (by decide +kernel), gT_in 692 (by decide +kernel) (by decide +kernel), gT_in 23 (by decide +kernel) (by decide +kernel), by decide, ⟨(RX5, TX5, 14), rfl, rfl⟩⟩
set_option maxRecDepth 20000 in
theorem lv_X5_243 : LV RX5 243 yX5_weight 5 := ⟨gT_in 698 (by decide +kernel) (by decide +kernel), gT_in 700 (by decide +kernel) (by decide +kernel), gT_in 24 (by decide +kernel) (by decide +kernel), by decide, ⟨(RX5, TX5, 14), rfl, rfl⟩⟩
set_option maxRecDepth 20000 in
theorem lv_X5_249 : LV RX5 249 yX5_tryYear 5 := ⟨gT_in 707 (by decide +kernel) (by decide +kernel), gT_in 709 (by decide +kernel) (by decide +kernel), gT_in 25 (by decide +kernel) (by decide +kernel), by decide, ⟨(RX5, TX5, 14), rfl, rfl⟩⟩
set_option maxRecDepth 20000 in
theorem lv_X5_252 : LV RX5 252 yX2_renew 2 := ⟨gT_in 722 (by decide +kernel) (by decide +kernel), gT_in 723 (by decide +kernel) (by decide +kernel), gT_in 724 (by decide +kernel) (by decide +kernel), by decide, ⟨(RX2, TX2, 3), rfl, rfl⟩⟩
set_option maxRecDepth 20000 in
theorem lv_X5_255 : LV RX5 255 yX2_whatIsWrong 2 := ⟨gT_in 734 (by decide +kernel) (by decide +kernel), gT_in 735 (by decide +kernel) (by decide +kernel), gT_in 736 (by decide +kernel) (by decide +kernel), by decide, ⟨(RX2, TX2, 3), rfl, rfl⟩⟩
set_option maxRecDepth 20000 in
theorem lv_X5_258 : LV RX5 258 yX2_put 2 := ⟨gT_in 739 (by decide +kernel) (by decide +kernel), gT_in 740 (by decide +kernel) (by decide +kernel), gT_in 741 (by decide +kernel) (by decide +kernel), by decide, ⟨(RX2, TX2, 3), rfl, rfl⟩⟩
set_option maxRecDepth 20000 in
theorem lv_X5_262 : LV RX5 262 yX2_hasItems 2 := ⟨gT_in 752 (by decide +kernel) (by decide +kernel), gT_in 753 (by decide +kernel) (by decide +kernel), gT_in 754 (by decide +kernel) (by decide +kernel), by decide, ⟨(RX2, TX2, 3), rfl, rfl⟩⟩
set_option maxRecDepth 20000 in
theorem lv_X5_271 : LV RX5 271 yX5_astray 5 := ⟨gT_in 765 (by decide +kernel) (by decide +kernel), gT_in 560 (by decide +kernel) (by decide +kernel), gT_in 561 (by decide +kernel) (by decide +kernel), by decide, ⟨(RX5, TX5, 14), rfl, rfl⟩⟩
set_option maxRecDepth 20000 in
theorem lv_X5_278 : LV RX5 278 yX5_count 5 := ⟨gT_in 772 (by decide +kernel) (by decide +kernel), gT_in 762 (by decide +kernel) (by decide +kernel), gT_in 763 (by decide +kernel) (by decide +kernel), by decide, ⟨(RX5, TX5, 14), rfl, rfl⟩⟩
set_option maxRecDepth 20000 in
theorem lv_X5_281 : LV RX5 281 yX5_fault 5 := ⟨gT_in 773 (by decide +kernel) (by decide +kernel), gT_in 449 (by decide +kernel) (by decide +kernel), gT_in 450 (by decide +kernel) (by decide +kernel), by decide, ⟨(RX5, TX5, 14), rfl, rfl⟩⟩
set_option maxRecDepth 20000 in
theorem lv_X5_284 : LV RX5 284 yX5_mixAccent 5 := ⟨gT_in 774 (by decide +kernel) (by decide +kernel), gT_in 776 (by decide +kernel) (by decide +kernel), gT_in 26 (by decide +kernel) (by decide +kernel), by decide, ⟨(RX5, TX5, 14), rfl, rfl⟩⟩
set_option maxRecDepth 20000 in
theorem lv_X5_288 : LV RX5 288 yX5_mixSpeech 5 := ⟨gT_in 782 (by decide +kernel) (by decide +kernel), gT_in 784 (by decide +kernel) (by decide +kernel), gT_in 27 (by decide +kernel) (by decide +kernel), by decide, ⟨(RX5, TX5, 14), rfl, rfl⟩⟩
set_option maxRecDepth 20000 in
theorem lv_X5_291 : LV RX5 291 yX5_becomes 5 := ⟨gT_in 790 (by decide +kernel) (by decide +kernel), gT_in 548 (by decide +kernel) (by decide +kernel), gT_in 549 (by decide +kernel) (by decide +kernel), by decide, ⟨(RX5, TX5, 14), rfl, rfl⟩⟩
set_option maxRecDepth 20000 in
theorem lv_X5_294 : LV RX5 294 yX5_dress 5 := ⟨gT_in 791 (by decide +kernel) (by decide +kernel), gT_in 581 (by decide +kernel) (by decide +kernel), gT_in 582 (by decide +kernel) (by decide +kernel), by decide, ⟨(RX5, TX5, 14), rfl, rfl⟩⟩
set_option maxRecDepth 20000 in
theorem lv_X5_298 : LV RX5 298 yX5_home 5 := ⟨gT_in 792 (by decide +kernel) (by decide +kernel), gT_in 594 (by decide +kernel) (by decide +kernel), gT_in 595 (by decide +kernel) (by decide +kernel), by decide, ⟨(RX5, TX5, 14), rfl, rfl⟩⟩
set_option maxRecDepth 20000 in
theorem lv_X5_301 : LV RX5 301 yX5_was 5 := ⟨gT_in 793 (by decide +kernel) (by decide +kernel), gT_in 662 (by decide +kernel) (by decide +kernel), gT_in 663 (by decide +kernel) (by decide +kernel), by decide, ⟨(RX5, TX5, 14), rfl, rfl⟩⟩
set_option maxRecDepth 20000 in
theorem lv_X5_304 : LV RX5 304 yX5_ask 5 := ⟨gT_in 794 (by decide +kernel) (by decide +kernel), gT_in 674 (by decide +kernel) (by decide +kernel), gT_in 675 (by decide +kernel) (by decide +kernel), by decide, ⟨(RX5, TX5, 14), rfl, rfl⟩⟩
set_option maxRecDepth 20000 in
theorem lv_X5_307 : LV RX5 307 yX5_custom 5 := ⟨gT_in 795 (by decide +kernel) (by decide +kernel), gT_in 686 (by decide +kernel) (by decide +kernel), gT_in 687 (by decide +kernel) (by decide +kernel), by decide, ⟨(RX5, TX5, 14), rfl, rfl⟩⟩
set_option maxRecDepth 20000 in
theorem lv_X5_311 : LV RX5 311 yX5_crowd 5 := ⟨gT_in 796 (by decide +kernel) (by decide +kernel), gT_in 569 (by decide +kernel) (by decide +kernel), gT_in 570 (by decide +kernel) (by decide +kernel), by decide, ⟨(RX5, TX5, 14), rfl, rfl⟩⟩
set_option maxRecDepth 20000 in
theorem lv_X5_314 : LV RX5 314 yX5_tray 5 := ⟨gT_in 797 (by decide +kernel) (by decide +kernel), gT_in 598 (by decide +kernel) (by decide +kernel), gT_in 599 (by decide +kernel) (by decide +kernel), by decide, ⟨(RX5, TX5, 14), rfl, rfl⟩⟩
set_option maxRecDepth 20000 in
theorem lv_X5_317 : LV RX5 317 yX5_refuse 5 := ⟨gT_in 798 (by decide +kernel) (by decide +kernel), gT_in 616 (by decide +kernel) (by decide +kernel), gT_in 617 (by decide +kernel) (by decide +kernel), by decide, ⟨(RX5, TX5, 14), rfl, rfl⟩⟩
set_option maxRecDepth 20000 in
theorem lv_X5_320 : LV RX5 320 yX5_never 5 := ⟨gT_in 799 (by decide +kernel) (by decide +kernel), gT_in 641 (by decide +kernel) (by decide +kernel), gT_in 642 (by decide +kernel) (by decide +kernel), by decide, ⟨(RX5, TX5, 14), rfl, rfl⟩⟩
set_option maxRecDepth 20000 in
theorem lv_X5_323 : LV RX5 323 yX5_year 5 := ⟨gT_in 800 (by decide +kernel) (by decide +kernel), gT_in 704 (by decide +kernel) (by decide +kernel), gT_in 705 (by decide +kernel) (by decide +kernel), by decide, ⟨(RX5, TX5, 14), rfl, rfl⟩⟩
set_option maxRecDepth 20000 in
theorem lv_X5_327 : LV RX5 327 yX5_accent 5 := ⟨gT_in 778 (by decide +kernel) (by decide +kernel), gT_in 454 (by decide +kernel) (by decide +kernel), gT_in 455 (by decide +kernel) (by decide +kernel), by decide, ⟨(RX5, TX5, 14), rfl, rfl⟩⟩
set_option maxRecDepth 20000 in
theorem lv_X5_333 : LV RX5 333 yX5_drawer 5 := ⟨gT_in 781 (by decide +kernel) (by decide +kernel), gT_in 544 (by decide +kernel) (by decide +kernel), gT_in 545 (by decide +kernel) (by decide +kernel), by decide, ⟨(RX5, TX5, 14), rfl, rfl⟩⟩
set_option maxRecDepth 20000 in
theorem lv_X5_336 : LV RX5 336 yX5_person 5 := ⟨gT_in 786 (by decide +kernel) (by decide +kernel), gT_in 459 (by decide +kernel) (by decide +kernel), gT_in 460 (by decide +kernel) (by decide +kernel), by decide, ⟨(RX5, TX5, 14), rfl, rfl⟩⟩
set_option maxRecDepth 20000 in
theorem lv_X5_342 : LV RX5 342 yX5_at 5 := ⟨gT_in 789 (by decide +kernel) (by decide +kernel), gT_in 499 (by decide +kernel) (by decide +kernel), gT_in 500 (by decide +kernel) (by decide +kernel), by decide, ⟨(RX5, TX5, 14), rfl, rfl⟩⟩
set_option maxRecDepth 20000 in
theorem lv_X5_345 : LV RX5 345 yX1_takeAccents 1 := ⟨gT_in 315 (by decide +kernel) (by decide +kernel), gT_in 316 (by decide +kernel) (by decide +kernel), gT_in 317 (by decide +kernel) (by decide +kernel), by decide, ⟨(RX1, TX1, 10), rfl, rfl⟩⟩
set_option maxRecDepth 20000 in
theorem lv_X5_349 : LV RX5 349 yX1_takePeople 1 := ⟨gT_in 421 (by decide +kernel) (by decide +kernel), gT_in 422 (by decide +kernel) (by decide +kernel), gT_in 423 (by decide +kernel) (by decide +kernel), by decide, ⟨(RX1, TX1, 10), rfl, rfl⟩⟩
set_option maxRecDepth 20000 in
theorem lv_X5_358 : LV RX5 358 yX4_isAnother 4 := ⟨gT_in 555 (by decide +kernel) (by decide +kernel), gT_in 556 (by decide +kernel) (by decide +kernel), gT_in 557 (by decide +kernel) (by decide +kernel), by decide, ⟨(RX4, TX4, 6), rfl, rfl⟩⟩
set_option maxRecDepth 20000 in
theorem lv_X5_361 : LV RX5 361 yX5_nobodyAstrayWithout 5 := ⟨gT_in 623 (by decide +kernel) (by decide +kernel), gT_in 625 (by decide +kernel) (by decide +kernel), gT_in 16 (by decide +kernel) (by decide +kernel), by decide, ⟨(RX5, TX5, 14), rfl, rfl⟩⟩
set_option maxRecDepth 20000 in
theorem lv_X5_364 : LV RX5 364 yX0_latestDay 0 := ⟨gT_in 648 (by decide +kernel) (by decide +kernel), gT_in 649 (by decide +kernel) (by decide +kernel), gT_in 650 (by decide +kernel) (by decide +kernel), by decide, ⟨(RX0, TX0, 5), rfl, rfl⟩⟩
set_option maxRecDepth 20000 in
theorem lv_X5_367 : LV RX5 367 yX0_agreesWith 0 := ⟨gT_in 652 (by decide +kernel) (by decide +kernel), gT_in 653 (by decide +kernel) (by decide +kernel), gT_in 654 (by decide +kernel) (by decide +kernel), by decide, ⟨(RX0, TX0, 5), rfl, rfl⟩⟩
set_option maxRecDepth 20000 in
theorem lv_X5_371 : LV RX5 371 yX1_keepHirings 1 := ⟨gT_in 694 (by decide +kernel) (by decide +kernel), gT_in 695 (by decide +kernel) (by decide +kernel), gT_in 696 (by decide +kernel) (by decide +kernel), by decide, ⟨(RX1, TX1, 10), rfl, rfl⟩⟩
set_option maxRecDepth 20000 in
theorem lv_X0_37 : LV RX0 37 yX0_isSo 0 := ⟨gT_in 656 (by decide +kernel) (by decide +kernel), gT_in 658 (by decide +kernel) (by decide +kernel), gT_in 18 (by decide +kernel) (by decide +kernel), by decide, ⟨(RX0, TX0, 5), rfl, rfl⟩⟩
set_option maxRecDepth 20000 in
theorem lv_X0_45 : LV RX0 45 yX1_hasPerson 1 := ⟨gT_in 660 (by decide +kernel) (by decide +kernel), gT_in 463 (by decide +kernel) (by decide +kernel), gT_in 464 (by decide +kernel) (by decide +kernel), by decide, ⟨(RX1, TX1, 10), rfl, rfl⟩⟩
set_option maxRecDepth 20000 in
theorem lv_X1_40 : LV RX1 40 yX3_firstFault 3 := ⟨gT_in 319 (by decide +kernel) (by decide +kernel), gT_in 320 (by decide +kernel) (by decide +kernel), gT_in 321 (by decide +kernel) (by decide +kernel), by decide, ⟨(RX3, TX3, 5), rfl, rfl⟩⟩
set_option maxRecDepth 20000 in
theorem lv_X1_49 : LV RX1 49 yX3_sortAt 3 := ⟨gT_in 413 (by decide +kernel) (by decide +kernel), gT_in 414 (by decide +kernel) (by decide +kernel), gT_in 415 (by decide +kernel) (by decide +kernel), by decide, ⟨(RX3, TX3, 5), rfl, rfl⟩⟩
set_option maxRecDepth 20000 in
theorem lv_X1_53 : LV RX1 53 yX3_figureAt 3 := ⟨gT_in 417 (by decide +kernel) (by decide +kernel), gT_in 418 (by decide +kernel) (by decide +kernel), gT_in 419 (by decide +kernel) (by decide +kernel), by decide, ⟨(RX3, TX3, 5), rfl, rfl⟩⟩
set_option maxRecDepth 20000 in
theorem lv_X1_69 : LV RX1 69 yX1_moveHiring 1 := ⟨gT_in 486 (by decide +kernel) (by decide +kernel), gT_in 488 (by decide +kernel) (by decide +kernel), gT_in 4 (by decide +kernel) (by decide +kernel), by decide, ⟨(RX1, TX1, 10), rfl, rfl⟩⟩
set_option maxRecDepth 20000 in
theorem lv_X1_73 : LV RX1 73 yX1_hasAccent 1 := ⟨gT_in 605 (by decide +kernel) (by decide +kernel), gT_in 437 (by decide +kernel) (by decide +kernel), gT_in 438 (by decide +kernel) (by decide +kernel), by decide, ⟨(RX1, TX1, 10), rfl, rfl⟩⟩
set_option maxRecDepth 20000 in
theorem lv_X3_33 : LV RX3 33 yX3_fits 3 := ⟨gT_in 323 (by decide +kernel) (by decide +kernel), gT_in 325 (by decide +kernel) (by decide +kernel), gT_in 2 (by decide +kernel) (by decide +kernel), by decide, ⟨(RX3, TX3, 5), rfl, rfl⟩⟩
set_option maxRecDepth 20000 in
theorem lv_X4_47 : LV RX4 47 yX1_hasAccent 1 := ⟨gT_in 436 (by decide +kernel) (by decide +kernel), gT_in 437 (by decide +kernel) (by decide +kernel), gT_in 438 (by decide +kernel) (by decide +kernel), by decide, ⟨(RX1, TX1, 10), rfl, rfl⟩⟩
set_option maxRecDepth 20000 in
theorem lv_X4_51 : LV RX4 51 yX4_doHirings 4 := ⟨gT_in 510 (by decide +kernel) (by decide +kernel), gT_in 512 (by decide +kernel) (by decide +kernel), gT_in 7 (by decide +kernel) (by decide +kernel), by decide, ⟨(RX4, TX4, 6), rfl, rfl⟩⟩
set_option maxRecDepth 20000 in
theorem lv_X4_54 : LV RX4 54 yX4_countWearers 4 := ⟨gT_in 515 (by decide +kernel) (by decide +kernel), gT_in 517 (by decide +kernel) (by decide +kernel), gT_in 8 (by decide +kernel) (by decide +kernel), by decide, ⟨(RX4, TX4, 6), rfl, rfl⟩⟩
set_option maxRecDepth 20000 in
theorem lv_X4_57 : LV RX4 57 yX4_talk 4 := ⟨gT_in 520 (by decide +kernel) (by decide +kernel), gT_in 522 (by decide +kernel) (by decide +kernel), gT_in 9 (by decide +kernel) (by decide +kernel), by decide, ⟨(RX4, TX4, 6), rfl, rfl⟩⟩
set_option maxRecDepth 20000 in
theorem lv_X4_61 : LV RX4 61 yX4_learn 4 := ⟨gT_in 527 (by decide +kernel) (by decide +kernel), gT_in 529 (by decide +kernel) (by decide +kernel), gT_in 10 (by decide +kernel) (by decide +kernel), by decide, ⟨(RX4, TX4, 6), rfl, rfl⟩⟩
set_option maxRecDepth 20000 in
theorem lv_X4_73 : LV RX4 73 yX1_hasPerson 1 := ⟨gT_in 514 (by decide +kernel) (by decide +kernel), gT_in 463 (by decide +kernel) (by decide +kernel), gT_in 464 (by decide +kernel) (by decide +kernel), by decide, ⟨(RX1, TX1, 10), rfl, rfl⟩⟩
set_option maxRecDepth 20000 in
theorem lv_X4_102 : LV RX4 102 yX4_far 4 := ⟨gT_in 538 (by decide +kernel) (by decide +kernel), gT_in 539 (by decide +kernel) (by decide +kernel), gT_in 540 (by decide +kernel) (by decide +kernel), by decide, ⟨(RX4, TX4, 6), rfl, rfl⟩⟩
set_option maxRecDepth 20000 in
theorem lv_X4_106 : LV RX4 106 yX4_takenFor 4 := ⟨gT_in 567 (by decide +kernel) (by decide +kernel), gT_in 535 (by decide +kernel) (by decide +kernel), gT_in 536 (by decide +kernel) (by decide +kernel), by decide, ⟨(RX4, TX4, 6), rfl, rfl⟩⟩
set_option maxRecDepth 20000 in
theorem lv_X6_94 : LV RX6 94 yX6_finds 6 := ⟨gT_in 913 (by decide +kernel) (by decide +kernel), gT_in 915 (by decide +kernel) (by decide +kernel), gT_in 28 (by decide +kernel) (by decide +kernel), by decide, ⟨(RX6, TX6, 31), rfl, rfl⟩⟩
set_option maxRecDepth 20000 in
theorem lv_X6_98 : LV RX6 98 yX6_lacks 6 := ⟨gT_in 925 (by decide +kernel) (by decide +kernel), gT_in 927 (by decide +kernel) (by decide +kernel), gT_in 29 (by decide +kernel) (by decide +kernel), by decide, ⟨(RX6, TX6, 31), rfl, rfl⟩⟩
set_option maxRecDepth 20000 in
theorem lv_X6_130 : LV RX6 130 yX6_readsAccents 6 := ⟨gT_in 965 (by decide +kernel) (by decide +kernel), gT_in 967 (by decide +kernel) (by decide +kernel), gT_in 31 (by decide +kernel) (by decide +kernel), by decide, ⟨(RX6, TX6, 31), rfl, rfl⟩⟩
set_option maxRecDepth 20000 in
theorem lv_X6_134 : LV RX6 134 yX6_readsPeople 6 := ⟨gT_in 974 (by decide +kernel) (by decide +kernel), gT_in 976 (by decide +kernel) (by decide +kernel), gT_in 32 (by decide +kernel) (by decide +kernel), by decide, ⟨(RX6, TX6, 31), rfl, rfl⟩⟩
set_option maxRecDepth 20000 in
theorem lv_X6_137 : LV RX6 137 yX6_readsText 6 := ⟨gT_in 961 (by decide +kernel) (by decide +kernel), gT_in 963 (by decide +kernel) (by decide +kernel), gT_in 30 (by decide +kernel) (by decide +kernel), by decide, ⟨(RX6, TX6, 31), rfl, rfl⟩⟩
set_option maxRecDepth 20000 in
theorem lv_X6_144 : LV RX6 144 yX6_isAccent 6 := ⟨gT_in 986 (by decide +kernel) (by decide +kernel), gT_in 988 (by decide +kernel) (by decide +kernel), gT_in 33 (by decide +kernel) (by decide +kernel), by decide, ⟨(RX6, TX6, 31), rfl, rfl⟩⟩
set_option maxRecDepth 20000 in
theorem lv_X6_149 : LV RX6 149 yX6_isPerson 6 := ⟨gT_in 995 (by decide +kernel) (by decide +kernel), gT_in 997 (by decide +kernel) (by decide +kernel), gT_in 34 (by decide +kernel) (by decide +kernel), by decide, ⟨(RX6, TX6, 31), rfl, rfl⟩⟩
set_option maxRecDepth 20000 in
theorem lv_X6_161 : LV RX6 161 yX6_puts 6 := ⟨gT_in 1011 (by decide +kernel) (by decide +kernel), gT_in 1013 (by decide +kernel) (by decide +kernel), gT_in 35 (by decide +kernel) (by decide +kernel), by decide, ⟨(RX6, TX6, 31), rfl, rfl⟩⟩
set_option maxRecDepth 20000 in
theorem lv_X6_165 : LV RX6 165 yX6_hire 6 := ⟨gT_in 1023 (by decide +kernel) (by decide +kernel), gT_in 1000 (by decide +kernel) (by decide +kernel), gT_in 1001 (by decide +kernel) (by decide +kernel), by decide, ⟨(RX6, TX6, 31), rfl, rfl⟩⟩
set_option maxRecDepth 20000 in
theorem lv_X6_174 : LV RX6 174 yX6_isWorn 6 := ⟨gT_in 1047 (by decide +kernel) (by decide +kernel), gT_in 1049 (by decide +kernel) (by decide +kernel), gT_in 40 (by decide +kernel) (by decide +kernel), by decide, ⟨(RX6, TX6, 31), rfl, rfl⟩⟩
set_option maxRecDepth 20000 in
theorem lv_X6_183 : LV RX6 183 yX6_farOf 6 := ⟨gT_in 1071 (by decide +kernel) (by decide +kernel), gT_in 1073 (by decide +kernel) (by decide +kernel), gT_in 43 (by decide +kernel) (by decide +kernel), by decide, ⟨(RX6, TX6, 31), rfl, rfl⟩⟩
set_option maxRecDepth 20000 in
theorem lv_X6_199 : LV RX6 199 yX6_talk 6 := ⟨gT_in 1043 (by decide +kernel) (by decide +kernel), gT_in 1045 (by decide +kernel) (by decide +kernel), gT_in 39 (by decide +kernel) (by decide +kernel), by decide, ⟨(RX6, TX6, 31), rfl, rfl⟩⟩
set_option maxRecDepth 20000 in
theorem lv_X6_203 : LV RX6 203 yX6_speaks 6 := ⟨gT_in 1060 (by decide +kernel) (by decide +kernel), gT_in 1062 (by decide +kernel) (by decide +kernel), gT_in 41 (by decide +kernel) (by decide +kernel), by decide, ⟨(RX6, TX6, 31), rfl, rfl⟩⟩
set_option maxRecDepth 20000 in
theorem lv_X6_207 : LV RX6 207 yX6_judges 6 := ⟨gT_in 1067 (by decide +kernel) (by decide +kernel), gT_in 1069 (by decide +kernel) (by decide +kernel), gT_in 42 (by decide +kernel) (by decide +kernel), by decide, ⟨(RX6, TX6, 31), rfl, rfl⟩⟩
set_option maxRecDepth 20000 in
theorem lv_X6_210 : LV RX6 210 yX6_passes 6 := ⟨gT_in 1036 (by decide +kernel) (by decide +kernel), gT_in 1038 (by decide +kernel) (by decide +kernel), gT_in 38 (by decide +kernel) (by decide +kernel), by decide, ⟨(RX6, TX6, 31), rfl, rfl⟩⟩
set_option maxRecDepth 20000 in
theorem lv_X6_213 : LV RX6 213 yX6_lives 6 := ⟨gT_in 1032 (by decide +kernel) (by decide +kernel), gT_in 1034 (by decide +kernel) (by decide +kernel), gT_in 37 (by decide +kernel) (by decide +kernel), by decide, ⟨(RX6, TX6, 31), rfl, rfl⟩⟩
set_option maxRecDepth 20000 in
theorem lv_X6_216 : LV RX6 216 yX6_find 6 := ⟨gT_in 1028 (by decide +kernel) (by decide +kernel), gT_in 1030 (by decide +kernel) (by decide +kernel), gT_in 36 (by decide +kernel) (by decide +kernel), by decide, ⟨(RX6, TX6, 31), rfl, rfl⟩⟩
set_option maxRecDepth 20000 in
theorem lv_X6_219 : LV RX6 219 yX6_atBy 6 := ⟨gT_in 1075 (by decide +kernel) (by decide +kernel), gT_in 1077 (by decide +kernel) (by decide +kernel), gT_in 44 (by decide +kernel) (by decide +kernel), by decide, ⟨(RX6, TX6, 31), rfl, rfl⟩⟩
set_option maxRecDepth 20000 in
theorem lv_X6_222 : LV RX6 222 yX6_drawerBy 6 := ⟨gT_in 1083 (by decide +kernel) (by decide +kernel), gT_in 1085 (by decide +kernel) (by decide +kernel), gT_in 45 (by decide +kernel) (by decide +kernel), by decide, ⟨(RX6, TX6, 31), rfl, rfl⟩⟩
set_option maxRecDepth 20000 in
theorem lv_X6_225 : LV RX6 225 yX6_isAstray 6 := ⟨gT_in 1099 (by decide +kernel) (by decide +kernel), gT_in 1101 (by decide +kernel) (by decide +kernel), gT_in 47 (by decide +kernel) (by decide +kernel), by decide, ⟨(RX6, TX6, 31), rfl, rfl⟩⟩
set_option maxRecDepth 20000 in
theorem lv_X6_228 : LV RX6 228 yX6_astrayNow 6 := ⟨gT_in 1095 (by decide +kernel) (by decide +kernel), gT_in 1097 (by decide +kernel) (by decide +kernel), gT_in 46 (by decide +kernel) (by decide +kernel), by decide, ⟨(RX6, TX6, 31), rfl, rfl⟩⟩
set_option maxRecDepth 20000 in
theorem lv_X6_231 : LV RX6 231 yX6_crowdNow 6 := ⟨gT_in 1107 (by decide +kernel) (by decide +kernel), gT_in 1109 (by decide +kernel) (by decide +kernel), gT_in 48 (by decide +kernel) (by decide +kernel), by decide, ⟨(RX6, TX6, 31), rfl, rfl⟩⟩
set_option maxRecDepth 20000 in
theorem lv_X6_234 : LV RX6 234 yX6_dressOf 6 := ⟨gT_in 1115 (by decide +kernel) (by decide +kernel), gT_in 1117 (by decide +kernel) (by decide +kernel), gT_in 49 (by decide +kernel) (by decide +kernel), by decide, ⟨(RX6, TX6, 31), rfl, rfl⟩⟩
set_option maxRecDepth 20000 in
theorem lv_X6_238 : LV RX6 238 yX6_homeOf 6 := ⟨gT_in 1123 (by decide +kernel) (by decide +kernel), gT_in 1125 (by decide +kernel) (by decide +kernel), gT_in 50 (by decide +kernel) (by decide +kernel), by decide, ⟨(RX6, TX6, 31), rfl, rfl⟩⟩
set_option maxRecDepth 20000 in
theorem lv_X6_244 : LV RX6 244 yX6_changes 6 := ⟨gT_in 1135 (by decide +kernel) (by decide +kernel), gT_in 1137 (by decide +kernel) (by decide +kernel), gT_in 52 (by decide +kernel) (by decide +kernel), by decide, ⟨(RX6, TX6, 31), rfl, rfl⟩⟩
set_option maxRecDepth 20000 in
theorem lv_X6_250 : LV RX6 250 yX6_trayBy 6 := ⟨gT_in 1131 (by decide +kernel) (by decide +kernel), gT_in 1133 (by decide +kernel) (by decide +kernel), gT_in 51 (by decide +kernel) (by decide +kernel), by decide, ⟨(RX6, TX6, 31), rfl, rfl⟩⟩
set_option maxRecDepth 20000 in
theorem lv_X6_253 : LV RX6 253 yX6_isRight 6 := ⟨gT_in 1154 (by decide +kernel) (by decide +kernel), gT_in 1156 (by decide +kernel) (by decide +kernel), gT_in 54 (by decide +kernel) (by decide +kernel), by decide, ⟨(RX6, TX6, 31), rfl, rfl⟩⟩
set_option maxRecDepth 20000 in
theorem lv_X6_258 : LV RX6 258 yX6_refuseOf 6 := ⟨gT_in 1150 (by decide +kernel) (by decide +kernel), gT_in 1152 (by decide +kernel) (by decide +kernel), gT_in 53 (by decide +kernel) (by decide +kernel), by decide, ⟨(RX6, TX6, 31), rfl, rfl⟩⟩
set_option maxRecDepth 20000 in
theorem lv_X6_268 : LV RX6 268 yX6_isHeard 6 := ⟨gT_in 1176 (by decide +kernel) (by decide +kernel), gT_in 1178 (by decide +kernel) (by decide +kernel), gT_in 56 (by decide +kernel) (by decide +kernel), by decide, ⟨(RX6, TX6, 31), rfl, rfl⟩⟩
set_option maxRecDepth 20000 in
theorem lv_X6_272 : LV RX6 272 yX6_neverNow 6 := ⟨gT_in 1172 (by decide +kernel) (by decide +kernel), gT_in 1174 (by decide +kernel) (by decide +kernel), gT_in 55 (by decide +kernel) (by decide +kernel), by decide, ⟨(RX6, TX6, 31), rfl, rfl⟩⟩
set_option maxRecDepth 20000 in
theorem lv_X6_275 : LV RX6 275 yX6_whoseOf 6 := ⟨gT_in 1188 (by decide +kernel) (by decide +kernel), gT_in 1190 (by decide +kernel) (by decide +kernel), gT_in 58 (by decide +kernel) (by decide +kernel), by decide, ⟨(RX6, TX6, 31), rfl, rfl⟩⟩
set_option maxRecDepth 20000 in
theorem lv_X6_278 : LV RX6 278 yX6_sortOf 6 := ⟨gT_in 1192 (by decide +kernel) (by decide +kernel), gT_in 1194 (by decide +kernel) (by decide +kernel), gT_in 59 (by decide +kernel) (by decide +kernel), by decide, ⟨(RX6, TX6, 31), rfl, rfl⟩⟩
set_option maxRecDepth 20000 in
theorem lv_X6_281 : LV RX6 281 yX6_wasOf 6 := ⟨gT_in 1184 (by decide +kernel) (by decide +kernel), gT_in 1186 (by decide +kernel) (by decide +kernel), gT_in 57 (by decide +kernel) (by decide +kernel), by decide, ⟨(RX6, TX6, 31), rfl, rfl⟩⟩
set_option maxRecDepth 20000 in
theorem lv_X6_284 : LV RX6 284 yX6_alike 6 := ⟨gT_in 1204 (by decide +kernel) (by decide +kernel), gT_in 1206 (by decide +kernel) (by decide +kernel), gT_in 61 (by decide +kernel) (by decide +kernel), by decide, ⟨(RX6, TX6, 31), rfl, rfl⟩⟩
set_option maxRecDepth 20000 in
theorem lv_X6_287 : LV RX6 287 yX6_askOf 6 := ⟨gT_in 1200 (by decide +kernel) (by decide +kernel), gT_in 1202 (by decide +kernel) (by decide +kernel), gT_in 60 (by decide +kernel) (by decide +kernel), by decide, ⟨(RX6, TX6, 31), rfl, rfl⟩⟩
set_option maxRecDepth 20000 in
theorem lv_X6_296 : LV RX6 296 yX6_customOf 6 := ⟨gT_in 1213 (by decide +kernel) (by decide +kernel), gT_in 1215 (by decide +kernel) (by decide +kernel), gT_in 62 (by decide +kernel) (by decide +kernel), by decide, ⟨(RX6, TX6, 31), rfl, rfl⟩⟩
set_option maxRecDepth 20000 in
theorem lv_X6_308 : LV RX6 308 yX6_lot 6 := ⟨gT_in 1233 (by decide +kernel) (by decide +kernel), gT_in 1235 (by decide +kernel) (by decide +kernel), gT_in 64 (by decide +kernel) (by decide +kernel), by decide, ⟨(RX6, TX6, 31), rfl, rfl⟩⟩
set_option maxRecDepth 20000 in
theorem lv_X6_311 : LV RX6 311 yX6_becomeMany 6 := ⟨gT_in 1238 (by decide +kernel) (by decide +kernel), gT_in 1240 (by decide +kernel) (by decide +kernel), gT_in 65 (by decide +kernel) (by decide +kernel), by decide, ⟨(RX6, TX6, 31), rfl, rfl⟩⟩
set_option maxRecDepth 20000 in
theorem lv_X6_316 : LV RX6 316 yX6_yearOf 6 := ⟨gT_in 1229 (by decide +kernel) (by decide +kernel), gT_in 1231 (by decide +kernel) (by decide +kernel), gT_in 63 (by decide +kernel) (by decide +kernel), by decide, ⟨(RX6, TX6, 31), rfl, rfl⟩⟩
set_option maxRecDepth 20000 in
theorem lv_X6_321 : LV RX6 321 yX6_tellsDay 6 := ⟨gT_in 1265 (by decide +kernel) (by decide +kernel), gT_in 1267 (by decide +kernel) (by decide +kernel), gT_in 68 (by decide +kernel) (by decide +kernel), by decide, ⟨(RX6, TX6, 31), rfl, rfl⟩⟩
set_option maxRecDepth 20000 in
theorem lv_X6_327 : LV RX6 327 yX6_count 6 := ⟨gT_in 1256 (by decide +kernel) (by decide +kernel), gT_in 1247 (by decide +kernel) (by decide +kernel), gT_in 1248 (by decide +kernel) (by decide +kernel), by decide, ⟨(RX6, TX6, 31), rfl, rfl⟩⟩
set_option maxRecDepth 20000 in
theorem lv_X6_330 : LV RX6 330 yX6_tellsDrawer 6 := ⟨gT_in 1257 (by decide +kernel) (by decide +kernel), gT_in 1259 (by decide +kernel) (by decide +kernel), gT_in 66 (by decide +kernel) (by decide +kernel), by decide, ⟨(RX6, TX6, 31), rfl, rfl⟩⟩
set_option maxRecDepth 20000 in
theorem lv_X6_333 : LV RX6 333 yX6_tellsPerson 6 := ⟨gT_in 1261 (by decide +kernel) (by decide +kernel), gT_in 1263 (by decide +kernel) (by decide +kernel), gT_in 67 (by decide +kernel) (by decide +kernel), by decide, ⟨(RX6, TX6, 31), rfl, rfl⟩⟩
set_option maxRecDepth 20000 in
theorem ls_X5_82 : LSt RX5 82 yX5_isBelow := ⟨gT_in 299 (by decide +kernel) (by decide +kernel), gT_in 300 (by decide +kernel) (by decide +kernel)⟩
set_option maxRecDepth 20000 in
theorem ls_X5_122 : LSt RX5 122 yX5_mayBeHired := ⟨gT_in 470 (by decide +kernel) (by decide +kernel), gT_in 471 (by decide +kernel) (by decide +kernel)⟩
set_option maxRecDepth 20000 in
theorem ls_X5_209 : LSt RX5 209 yJ6_bitCount_0f7a4 := ⟨gT_in 609 (by decide +kernel) (by decide +kernel), gT_in 610 (by decide +kernel) (by decide +kernel)⟩
set_option maxRecDepth 20000 in
theorem ls_X5_374 : LSt RX5 374 yX5_seedAfter := ⟨gT_in 711 (by decide +kernel) (by decide +kernel), gT_in 712 (by decide +kernel) (by decide +kernel)⟩
set_option maxRecDepth 20000 in
theorem ls_X5_377 : LSt RX5 377 yX5_lot := ⟨gT_in 715 (by decide +kernel) (by decide +kernel), gT_in 716 (by decide +kernel) (by decide +kernel)⟩
set_option maxRecDepth 20000 in
theorem ls_X1_77 : LSt RX1 77 yX1_changed := ⟨gT_in 606 (by decide +kernel) (by decide +kernel), gT_in 607 (by decide +kernel) (by decide +kernel)⟩
set_option maxRecDepth 20000 in
theorem sx_X3_37 : Cond.methodLink RX3 37 yJ0_indexOf_0f7a4 ∈ gT := gT_in 327 (by decide +kernel) (by decide +kernel)
set_option maxRecDepth 20000 in
theorem ls_X4_89 : LSt RX4 89 yX4_towards := ⟨gT_in 524 (by decide +kernel) (by decide +kernel), gT_in 525 (by decide +kernel) (by decide +kernel)⟩
set_option maxRecDepth 20000 in
theorem ls_X6_79 : LSt RX6 79 yX6_in := ⟨gT_in 909 (by decide +kernel) (by decide +kernel), gT_in 910 (by decide +kernel) (by decide +kernel)⟩
set_option maxRecDepth 20000 in
theorem ls_X6_88 : LSt RX6 88 yX6_isSheet := ⟨gT_in 905 (by decide +kernel) (by decide +kernel), gT_in 906 (by decide +kernel) (by decide +kernel)⟩
set_option maxRecDepth 20000 in
theorem ls_X6_102 : LSt RX6 102 yX6_cut := ⟨gT_in 929 (by decide +kernel) (by decide +kernel), gT_in 930 (by decide +kernel) (by decide +kernel)⟩
set_option maxRecDepth 20000 in
theorem ls_X6_107 : LSt RX6 107 yX6_isTwo := ⟨gT_in 945 (by decide +kernel) (by decide +kernel), gT_in 946 (by decide +kernel) (by decide +kernel)⟩
set_option maxRecDepth 20000 in
theorem ls_X6_119 : LSt RX6 119 yX6_accentOf := ⟨gT_in 969 (by decide +kernel) (by decide +kernel), gT_in 970 (by decide +kernel) (by decide +kernel)⟩
set_option maxRecDepth 20000 in
theorem ls_X6_127 : LSt RX6 127 yX6_personOf := ⟨gT_in 978 (by decide +kernel) (by decide +kernel), gT_in 979 (by decide +kernel) (by decide +kernel)⟩
set_option maxRecDepth 20000 in
theorem ls_X6_155 : LSt RX6 155 yX6_isDay := ⟨gT_in 1003 (by decide +kernel) (by decide +kernel), gT_in 1004 (by decide +kernel) (by decide +kernel)⟩
set_option maxRecDepth 20000 in
theorem ls_X6_158 : LSt RX6 158 yX6_isEight := ⟨gT_in 1007 (by decide +kernel) (by decide +kernel), gT_in 1008 (by decide +kernel) (by decide +kernel)⟩
set_option maxRecDepth 20000 in
theorem ls_X6_168 : LSt RX6 168 yX6_lesser := ⟨gT_in 1054 (by decide +kernel) (by decide +kernel), gT_in 1055 (by decide +kernel) (by decide +kernel)⟩
set_option maxRecDepth 20000 in
theorem ls_X6_171 : LSt RX6 171 yX6_greater := ⟨gT_in 1057 (by decide +kernel) (by decide +kernel), gT_in 1058 (by decide +kernel) (by decide +kernel)⟩
set_option maxRecDepth 20000 in
theorem ls_X6_177 : LSt RX6 177 yX6_towards := ⟨gT_in 1051 (by decide +kernel) (by decide +kernel), gT_in 1052 (by decide +kernel) (by decide +kernel)⟩
set_option maxRecDepth 20000 in
theorem ls_X6_180 : LSt RX6 180 yX6_size := ⟨gT_in 1064 (by decide +kernel) (by decide +kernel), gT_in 1065 (by decide +kernel) (by decide +kernel)⟩
set_option maxRecDepth 20000 in
theorem ls_X6_189 : LSt RX6 189 yX6_isIn := ⟨gT_in 1040 (by decide +kernel) (by decide +kernel), gT_in 1041 (by decide +kernel) (by decide +kernel)⟩
set_option maxRecDepth 20000 in
theorem ls_X6_241 : LSt RX6 241 yX6_other := ⟨gT_in 1139 (by decide +kernel) (by decide +kernel), gT_in 1140 (by decide +kernel) (by decide +kernel)⟩
set_option maxRecDepth 20000 in
theorem ls_X6_247 : LSt RX6 247 yX6_ones := ⟨gT_in 1142 (by decide +kernel) (by decide +kernel), gT_in 1143 (by decide +kernel) (by decide +kernel)⟩
set_option maxRecDepth 20000 in
theorem ls_X6_290 : LSt RX6 290 yX6_part := ⟨gT_in 1217 (by decide +kernel) (by decide +kernel), gT_in 1218 (by decide +kernel) (by decide +kernel)⟩
set_option maxRecDepth 20000 in
theorem ls_X6_300 : LSt RX6 300 yX6_no := ⟨gT_in 1220 (by decide +kernel) (by decide +kernel), gT_in 1221 (by decide +kernel) (by decide +kernel)⟩
set_option maxRecDepth 20000 in
theorem is_1 : Cond.static yX5_isBelow ∈ gT := gT_in 300 (by decide +kernel) (by decide +kernel)
set_option maxRecDepth 20000 in
theorem co_X5_238 : Cond.constantLong RX5 238 (-9223372036854775806) ∈ gT := gT_in 689 (by decide +kernel) (by decide +kernel)
set_option maxRecDepth 20000 in
theorem co_X5_247 : Cond.constantLong RX5 247 (2) ∈ gT := gT_in 702 (by decide +kernel) (by decide +kernel)
set_option maxRecDepth 20000 in
theorem co_X5_261 : Cond.constant RX5 261 (-2147483648) ∈ gT := gT_in 747 (by decide +kernel) (by decide +kernel)
set_option maxRecDepth 20000 in
theorem co_X5_274 : Cond.constantLong RX5 274 (17) ∈ gT := gT_in 770 (by decide +kernel) (by decide +kernel)
set_option maxRecDepth 20000 in
theorem co_X5_276 : Cond.constantLong RX5 276 (31) ∈ gT := gT_in 771 (by decide +kernel) (by decide +kernel)
set_option maxRecDepth 20000 in
theorem gs_X5_330 : Cond.fieldLink RX5 330 "AccentShop" "DIGEST_DRAWER_DAYS" "[I" ∈ gT := gT_in 779 (by decide +kernel) (by decide +kernel)
set_option maxRecDepth 20000 in
theorem gs_X5_339 : Cond.fieldLink RX5 339 "AccentShop" "DIGEST_SPEECH_DAYS" "[I" ∈ gT := gT_in 787 (by decide +kernel) (by decide +kernel)
set_option maxRecDepth 20000 in
theorem co_X5_380 : Cond.constant RX5 380 (1103515245) ∈ gT := gT_in 714 (by decide +kernel) (by decide +kernel)
set_option maxRecDepth 20000 in
theorem co_X6_106 : Cond.constant RX6 106 (-2147483648) ∈ gT := gT_in 936 (by decide +kernel) (by decide +kernel)
set_option maxRecDepth 20000 in
theorem co_X6_110 : Cond.constantLong RX6 110 (255) ∈ gT := gT_in 948 (by decide +kernel) (by decide +kernel)
set_option maxRecDepth 20000 in
theorem co_X6_112 : Cond.constantLong RX6 112 (48) ∈ gT := gT_in 972 (by decide +kernel) (by decide +kernel)
set_option maxRecDepth 20000 in
theorem co_X6_114 : Cond.constantLong RX6 114 (57) ∈ gT := gT_in 973 (by decide +kernel) (by decide +kernel)
set_option maxRecDepth 20000 in
theorem co_X6_122 : Cond.constantLong RX6 122 (55) ∈ gT := gT_in 981 (by decide +kernel) (by decide +kernel)
set_option maxRecDepth 20000 in
theorem co_X6_140 : Cond.constantLong RX6 140 (29) ∈ gT := gT_in 1006 (by decide +kernel) (by decide +kernel)
set_option maxRecDepth 20000 in
theorem co_X6_142 : Cond.constantLong RX6 142 (7) ∈ gT := gT_in 1010 (by decide +kernel) (by decide +kernel)
set_option maxRecDepth 20000 in
theorem co_X6_147 : Cond.constantLong RX6 147 (5) ∈ gT := gT_in 990 (by decide +kernel) (by decide +kernel)
set_option maxRecDepth 20000 in
theorem co_X6_256 : Cond.constantLong RX6 256 (-1) ∈ gT := gT_in 1149 (by decide +kernel) (by decide +kernel)
set_option maxRecDepth 20000 in
theorem co_X6_261 : Cond.constantLong RX6 261 (4) ∈ gT := gT_in 1162 (by decide +kernel) (by decide +kernel)
set_option maxRecDepth 20000 in
theorem co_X6_263 : Cond.constantLong RX6 263 (9) ∈ gT := gT_in 1163 (by decide +kernel) (by decide +kernel)
set_option maxRecDepth 20000 in
theorem co_X6_294 : Cond.constantLong RX6 294 (16) ∈ gT := gT_in 1212 (by decide +kernel) (by decide +kernel)
set_option maxRecDepth 20000 in
theorem co_X6_304 : Cond.constant RX6 304 (1103515245) ∈ gT := gT_in 1237 (by decide +kernel) (by decide +kernel)
set_option maxRecDepth 20000 in
theorem co_X6_314 : Cond.constantLong RX6 314 (8) ∈ gT := gT_in 1228 (by decide +kernel) (by decide +kernel)
set_option maxRecDepth 20000 in
theorem co_X6_319 : Cond.constantLong RX6 319 (31) ∈ gT := gT_in 1255 (by decide +kernel) (by decide +kernel)
set_option maxRecDepth 20000 in
theorem co_X6_325 : Cond.constantLong RX6 325 (17) ∈ gT := gT_in 1254 (by decide +kernel) (by decide +kernel)
set_option maxRecDepth 20000 in
theorem co_X6_77 : Cond.constantLong RX6 77 (-9223372036854775808) ∈ gT := gT_in 1223 (by decide +kernel) (by decide +kernel)
set_option maxRecDepth 20000 in
theorem co_X6_86 : Cond.constantLong RX6 86 (3) ∈ gT := gT_in 908 (by decide +kernel) (by decide +kernel)
set_option maxRecDepth 20000 in
theorem co_X6_92 : Cond.constantLong RX6 92 (2) ∈ gT := gT_in 912 (by decide +kernel) (by decide +kernel)
set_option maxRecDepth 20000 in
theorem co_J6_265 : Cond.constant RJ6 265 (1431655765) ∈ gT := gT_in 612 (by decide +kernel) (by decide +kernel)
set_option maxRecDepth 20000 in
theorem co_J6_266 : Cond.constant RJ6 266 (858993459) ∈ gT := gT_in 613 (by decide +kernel) (by decide +kernel)
set_option maxRecDepth 20000 in
theorem co_J6_267 : Cond.constant RJ6 267 (252645135) ∈ gT := gT_in 614 (by decide +kernel) (by decide +kernel)
set_option maxRecDepth 20000 in
theorem ab_X4_96 : Cond.methodLink RX4 96 Lib.Math.abs.name ∈ gT := gT_in 531 (by decide +kernel) (by decide +kernel)
set_option maxRecDepth 20000 in
theorem ab_1 : Cond.static Lib.Math.abs.name ∈ gT := gT_in 532 (by decide +kernel) (by decide +kernel)
set_option maxRecDepth 20000 in
theorem ab_2 : Cond.initialized "java/lang/Math" ∈ gT := gT_in 79 (by decide +kernel) (by decide +kernel)
set_option maxRecDepth 20000 in
theorem ab_3 : Cond.code Lib.Math.abs.name Lib.Math.abs.code 1 (some .int) ∈ gT := gT_in 533 (by decide +kernel) (by decide +kernel)
set_option maxRecDepth 20000 in
theorem cp_X5_265 : Cond.methodLink RX5 265 arraycopyName ∈ gT := gT_in 756 (by decide +kernel) (by decide +kernel)
set_option maxRecDepth 20000 in
theorem cp_X1_59 : Cond.methodLink RX1 59 arraycopyName ∈ gT := gT_in 592 (by decide +kernel) (by decide +kernel)
set_option maxRecDepth 20000 in
theorem cp_X4_35 : Cond.methodLink RX4 35 arraycopyName ∈ gT := gT_in 433 (by decide +kernel) (by decide +kernel)
set_option maxRecDepth 20000 in
theorem cp_1 : Cond.native arraycopyName ∈ gT := gT_in 435 (by decide +kernel) (by decide +kernel)
set_option maxRecDepth 20000 in
theorem cp_2 : Cond.static arraycopyName ∈ gT := gT_in 434 (by decide +kernel) (by decide +kernel)
set_option maxRecDepth 20000 in
theorem cp_3 : Cond.initialized "java/lang/System" ∈ gT := gT_in 83 (by decide +kernel) (by decide +kernel)
theorem Kc_0 : K 0 5 := ⟨by decide, rfl⟩
theorem Kc_1 : K 1 3 := ⟨by decide, rfl⟩
theorem Kc_2 : K 2 7 := ⟨by decide, rfl⟩
theorem Kc_3 : K 3 3 := ⟨by decide, rfl⟩
theorem Kc_4 : K 4 7 := ⟨by decide, rfl⟩
theorem Kc_5 : K 5 1 := ⟨by decide, rfl⟩
theorem Kc_6 : K 6 7 := ⟨by decide, rfl⟩
theorem Kc_7 : K 7 7 := ⟨by decide, rfl⟩
theorem Kc_8 : K 8 7 := ⟨by decide, rfl⟩
theorem Kc_9 : K 9 7 := ⟨by decide, rfl⟩
theorem Kc_10 : K 10 7 := ⟨by decide, rfl⟩
theorem Kc_11 : K 11 7 := ⟨by decide, rfl⟩
theorem Kc_12 : K 12 7 := ⟨by decide, rfl⟩
theorem Kc_13 : K 13 1 := ⟨by decide, rfl⟩
theorem Kc_14 : K 14 7 := ⟨by decide, rfl⟩
theorem Kc_15 : K 15 7 := ⟨by decide, rfl⟩
theorem Kc_16 : K 16 7 := ⟨by decide, rfl⟩
theorem Kc_17 : K 17 7 := ⟨by decide, rfl⟩
theorem Kc_18 : K 18 7 := ⟨by decide, rfl⟩
theorem Kc_19 : K 19 7 := ⟨by decide, rfl⟩
theorem Kc_20 : K 20 7 := ⟨by decide, rfl⟩
theorem Kc_21 : K 21 4 := ⟨by decide, rfl⟩
theorem Kc_22 : K 22 7 := ⟨by decide, rfl⟩
theorem Kc_23 : K 23 7 := ⟨by decide, rfl⟩
theorem Kc_24 : K 24 7 := ⟨by decide, rfl⟩
theorem Kc_25 : K 25 7 := ⟨by decide, rfl⟩
theorem Kc_26 : K 26 4 := ⟨by decide, rfl⟩
theorem Kc_27 : K 27 7 := ⟨by decide, rfl⟩
theorem Kc_28 : K 28 7 := ⟨by decide, rfl⟩
theorem Kc_29 : K 29 7 := ⟨by decide, rfl⟩
theorem Kc_30 : K 30 7 := ⟨by decide, rfl⟩
theorem Kc_31 : K 31 0 := ⟨by decide, rfl⟩
theorem Kc_32 : K 32 7 := ⟨by decide, rfl⟩
theorem Kc_33 : K 33 7 := ⟨by decide, rfl⟩
theorem Kc_34 : K 34 7 := ⟨by decide, rfl⟩
theorem Kc_35 : K 35 7 := ⟨by decide, rfl⟩
theorem Kc_36 : K 36 8 := ⟨by decide, rfl⟩
theorem Kc_37 : K 37 2 := ⟨by decide, rfl⟩
theorem Kc_38 : K 38 7 := ⟨by decide, rfl⟩
theorem Kc_39 : K 39 2 := ⟨by decide, rfl⟩
theorem Kc_40 : K 40 7 := ⟨by decide, rfl⟩
theorem Kc_41 : K 41 2 := ⟨by decide, rfl⟩
theorem Kc_42 : K 42 7 := ⟨by decide, rfl⟩
theorem Kc_43 : K 43 2 := ⟨by decide, rfl⟩
theorem Kc_44 : K 44 7 := ⟨by decide, rfl⟩
theorem Kc_45 : K 45 7 := ⟨by decide, rfl⟩
theorem Kc_46 : K 46 7 := ⟨by decide, rfl⟩
theorem Kc_47 : K 47 7 := ⟨by decide, rfl⟩
theorem Kc_48 : K 48 7 := ⟨by decide, rfl⟩
theorem Kc_49 : K 49 6 := ⟨by decide, rfl⟩
theorem Kc_50 : K 50 7 := ⟨by decide, rfl⟩
theorem Kc_51 : K 51 7 := ⟨by decide, rfl⟩
theorem Kc_52 : K 52 7 := ⟨by decide, rfl⟩
theorem Kc_53 : K 53 7 := ⟨by decide, rfl⟩
theorem Kc_54 : K 54 7 := ⟨by decide, rfl⟩
theorem Kc_55 : K 55 7 := ⟨by decide, rfl⟩
theorem Kc_56 : K 56 7 := ⟨by decide, rfl⟩
theorem Kc_57 : K 57 7 := ⟨by decide, rfl⟩
theorem Kc_58 : K 58 7 := ⟨by decide, rfl⟩
theorem Kc_59 : K 59 7 := ⟨by decide, rfl⟩
theorem Kc_60 : K 60 7 := ⟨by decide, rfl⟩
theorem Kc_61 : K 61 7 := ⟨by decide, rfl⟩
theorem Kc_62 : K 62 7 := ⟨by decide, rfl⟩
theorem Kc_63 : K 63 7 := ⟨by decide, rfl⟩
theorem Kc_64 : K 64 7 := ⟨by decide, rfl⟩
theorem Kc_65 : K 65 7 := ⟨by decide, rfl⟩
theorem Kc_66 : K 66 7 := ⟨by decide, rfl⟩
theorem Kc_67 : K 67 7 := ⟨by decide, rfl⟩
theorem Kc_68 : K 68 7 := ⟨by decide, rfl⟩
theorem Kc_69 : K 69 7 := ⟨by decide, rfl⟩
theorem Kc_70 : K 70 7 := ⟨by decide, rfl⟩
theorem rk_0_1 {w : Nat} (h : K w 0) : K (rf w 1) 7 := (show ∀ w, w < NC → kd w = 0 → (rf w 1 < NC ∧ kd (rf w 1) = 7) by decide +kernel) w h.1 h.2
theorem rl_0_1 {w : Nat} (h : K w 0) : ln (rf w 1) = 8 := (show ∀ w, w < NC → kd w = 0 → ln (rf w 1) = 8 by decide +kernel) w h.1 h.2
theorem rk_0_2 {w : Nat} (h : K w 0) : K (rf w 2) 7 := (show ∀ w, w < NC → kd w = 0 → (rf w 2 < NC ∧ kd (rf w 2) = 7) by decide +kernel) w h.1 h.2
theorem rl_0_2 {w : Nat} (h : K w 0) : ln (rf w 2) = 8 := (show ∀ w, w < NC → kd w = 0 → ln (rf w 2) = 8 by decide +kernel) w h.1 h.2
theorem rk_0_3 {w : Nat} (h : K w 0) : K (rf w 3) 7 := (show ∀ w, w < NC → kd w = 0 → (rf w 3 < NC ∧ kd (rf w 3) = 7) by decide +kernel) w h.1 h.2
theorem rl_0_3 {w : Nat} (h : K w 0) : ln (rf w 3) = 8 := (show ∀ w, w < NC → kd w = 0 → ln (rf w 3) = 8 by decide +kernel) w h.1 h.2
theorem rk_0_4 {w : Nat} (h : K w 0) : K (rf w 4) 7 := (show ∀ w, w < NC → kd w = 0 → (rf w 4 < NC ∧ kd (rf w 4) = 7) by decide +kernel) w h.1 h.2
theorem rl_0_4 {w : Nat} (h : K w 0) : ln (rf w 4) = 8 := (show ∀ w, w < NC → kd w = 0 → ln (rf w 4) = 8 by decide +kernel) w h.1 h.2
theorem rk_1_1 {w : Nat} (h : K w 1) : K (rf w 1) 7 := (show ∀ w, w < NC → kd w = 1 → (rf w 1 < NC ∧ kd (rf w 1) = 7) by decide +kernel) w h.1 h.2
theorem rl_1_1 {w : Nat} (h : K w 1) : ln (rf w 1) = 8 := (show ∀ w, w < NC → kd w = 1 → ln (rf w 1) = 8 by decide +kernel) w h.1 h.2
theorem rk_1_2 {w : Nat} (h : K w 1) : K (rf w 2) 7 := (show ∀ w, w < NC → kd w = 1 → (rf w 2 < NC ∧ kd (rf w 2) = 7) by decide +kernel) w h.1 h.2
theorem rl_1_2 {w : Nat} (h : K w 1) : ln (rf w 2) = 40 := (show ∀ w, w < NC → kd w = 1 → ln (rf w 2) = 40 by decide +kernel) w h.1 h.2
theorem rk_1_4 {w : Nat} (h : K w 1) : K (rf w 4) 7 := (show ∀ w, w < NC → kd w = 1 → (rf w 4 < NC ∧ kd (rf w 4) = 7) by decide +kernel) w h.1 h.2
theorem rl_1_4 {w : Nat} (h : K w 1) : ln (rf w 4) = 8 := (show ∀ w, w < NC → kd w = 1 → ln (rf w 4) = 8 by decide +kernel) w h.1 h.2
theorem rk_1_5 {w : Nat} (h : K w 1) : K (rf w 5) 7 := (show ∀ w, w < NC → kd w = 1 → (rf w 5 < NC ∧ kd (rf w 5) = 7) by decide +kernel) w h.1 h.2
theorem rl_1_5 {w : Nat} (h : K w 1) : ln (rf w 5) = 8 := (show ∀ w, w < NC → kd w = 1 → ln (rf w 5) = 8 by decide +kernel) w h.1 h.2
theorem rk_1_7 {w : Nat} (h : K w 1) : K (rf w 7) 7 := (show ∀ w, w < NC → kd w = 1 → (rf w 7 < NC ∧ kd (rf w 7) = 7) by decide +kernel) w h.1 h.2
theorem rl_1_7 {w : Nat} (h : K w 1) : ln (rf w 7) = 9 := (show ∀ w, w < NC → kd w = 1 → ln (rf w 7) = 9 by decide +kernel) w h.1 h.2
theorem rk_1_8 {w : Nat} (h : K w 1) : K (rf w 8) 7 := (show ∀ w, w < NC → kd w = 1 → (rf w 8 < NC ∧ kd (rf w 8) = 7) by decide +kernel) w h.1 h.2
theorem rl_1_8 {w : Nat} (h : K w 1) : ln (rf w 8) = 9 := (show ∀ w, w < NC → kd w = 1 → ln (rf w 8) = 9 by decide +kernel) w h.1 h.2
theorem rk_1_9 {w : Nat} (h : K w 1) : K (rf w 9) 7 := (show ∀ w, w < NC → kd w = 1 → (rf w 9 < NC ∧ kd (rf w 9) = 7) by decide +kernel) w h.1 h.2
theorem rl_1_9 {w : Nat} (h : K w 1) : ln (rf w 9) = 9 := (show ∀ w, w < NC → kd w = 1 → ln (rf w 9) = 9 by decide +kernel) w h.1 h.2
theorem rk_2_2 {w : Nat} (h : K w 2) : K (rf w 2) 7 := (show ∀ w, w < NC → kd w = 2 → (rf w 2 < NC ∧ kd (rf w 2) = 7) by decide +kernel) w h.1 h.2
theorem rl_2_2 {w : Nat} (h : K w 2) : ln (rf w 2) = 60 := (show ∀ w, w < NC → kd w = 2 → ln (rf w 2) = 60 by decide +kernel) w h.1 h.2
theorem rk_3_0 {w : Nat} (h : K w 3) : K (rf w 0) 7 := (show ∀ w, w < NC → kd w = 3 → (rf w 0 < NC ∧ kd (rf w 0) = 7) by decide +kernel) w h.1 h.2
theorem rk_4_0 {w : Nat} (h : K w 4) : K (rf w 0) 1 := (show ∀ w, w < NC → kd w = 4 → (rf w 0 < NC ∧ kd (rf w 0) = 1) by decide +kernel) w h.1 h.2
theorem rk_4_2 {w : Nat} (h : K w 4) : K (rf w 2) 7 := (show ∀ w, w < NC → kd w = 4 → (rf w 2 < NC ∧ kd (rf w 2) = 7) by decide +kernel) w h.1 h.2
theorem rl_4_2 {w : Nat} (h : K w 4) : ln (rf w 2) = 40 := (show ∀ w, w < NC → kd w = 4 → ln (rf w 2) = 40 by decide +kernel) w h.1 h.2
theorem rk_4_3 {w : Nat} (h : K w 4) : K (rf w 3) 7 := (show ∀ w, w < NC → kd w = 4 → (rf w 3 < NC ∧ kd (rf w 3) = 7) by decide +kernel) w h.1 h.2
theorem rl_4_3 {w : Nat} (h : K w 4) : ln (rf w 3) = 40 := (show ∀ w, w < NC → kd w = 4 → ln (rf w 3) = 40 by decide +kernel) w h.1 h.2
theorem rk_4_4 {w : Nat} (h : K w 4) : K (rf w 4) 7 := (show ∀ w, w < NC → kd w = 4 → (rf w 4 < NC ∧ kd (rf w 4) = 7) by decide +kernel) w h.1 h.2
theorem rl_4_4 {w : Nat} (h : K w 4) : ln (rf w 4) = 8 := (show ∀ w, w < NC → kd w = 4 → ln (rf w 4) = 8 by decide +kernel) w h.1 h.2
theorem rk_4_5 {w : Nat} (h : K w 4) : K (rf w 5) 7 := (show ∀ w, w < NC → kd w = 4 → (rf w 5 < NC ∧ kd (rf w 5) = 7) by decide +kernel) w h.1 h.2
theorem rl_4_5 {w : Nat} (h : K w 4) : ln (rf w 5) = 8 := (show ∀ w, w < NC → kd w = 4 → ln (rf w 5) = 8 by decide +kernel) w h.1 h.2
theorem K_sheet {i : Int32} (h : inb i 4 = true) : K (rf 36 i.toNatClampNeg) 2 := by
  have h1 : i.toNatClampNeg < 4 := Nat.not_le.mp fun q => of_decide_eq_true h (Or.inr q)
  exact (show ∀ j, j < 4 → (rf 36 j < NC ∧ kd (rf 36 j) = 2) by decide +kernel) _ h1
theorem tab_out (x : Int32) (n : Nat) (hn : n < 2 ^ 31) (h : ∀ i, i < n → ¬ x = nI i) : x.toInt < 0 ∨ (n : Int) - 1 < x.toInt := by
  by_cases h0 : x < 0
  · left; exact Int32.lt_iff_toInt_lt.mp h0
  · obtain ⟨j, hj, rfl⟩ := nI_of h0
    right
    rw [nI_toInt hj]
    have : ¬ j < n := fun q => h j q rfl
    omega
