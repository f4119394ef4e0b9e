-- THE CONSTRUCTORS
set_option maxRecDepth 20000 in
theorem oi_2 : Cond.instanceMethod Lib.objectInit ∈ gT := gT_in 91 (by decide +kernel) (by decide +kernel)
set_option maxRecDepth 20000 in
theorem oi_3 : Cond.code Lib.objectInit ⟨#[0xb1]⟩ 1 none ∈ gT := gT_in 92 (by decide +kernel) (by decide +kernel)
set_option maxRecDepth 20000 in
theorem ac_int : Cond.arrayClass .int ∈ gT := gT_in 118 (by decide +kernel) (by decide +kernel)
theorem GB_of {n : Nat} {B : BL} (h : B.all (fun q => decide (q.1 < n) && (decide (rf q.1 q.2 < n) || decide (NC ≤ rf q.1 q.2))) = true) : GB n B := fun q hq => by
  have := List.all_eq_true.mp h q hq
  simp only [Bool.and_eq_true, Bool.or_eq_true, decide_eq_true_eq] at this
  exact this
def B_0 : BL := []
set_option maxRecDepth 20000 in
theorem oi_X5_3 : Cond.methodLink RX5 3 Lib.objectInit ∈ gT := gT_in 90 (by decide +kernel) (by decide +kernel)
set_option maxRecDepth 20000 in
theorem nw_X5_9 : NW RX5 9 3 := ⟨(RX3, TX3, 5), rfl, rfl, by decide, gT_in 93 (by decide +kernel) (by decide +kernel), gT_in 94 (by decide +kernel) (by decide +kernel), gT_in 71 (by decide +kernel) (by decide +kernel), inG3, tyX3, tyX3_ok, fun j hj => by
  have hj : j < 5 := hj
  rcases (show j = 0 ∨ j = 1 ∨ j = 2 ∨ j = 3 ∨ j = 4 by omega) with rfl | rfl | rfl | rfl | rfl <;> rfl⟩
def B_1 : BL := []
set_option maxRecDepth 20000 in
theorem oi_X3_3 : Cond.methodLink RX3 3 Lib.objectInit ∈ gT := gT_in 99 (by decide +kernel) (by decide +kernel)
set_option maxRecDepth 20000 in
theorem ifl_X3_9 : FL RX3 9 3 0 := ⟨(RX3, TX3, 5), rfl, rfl, by decide, by decide, gT_in 100 (by decide +kernel) (by decide +kernel), inG3⟩
theorem ff_3_0 : FF RX3 3 0 true (.array .int) := fun r h => by cases h; exact ⟨rfl, rfl, by decide +kernel⟩
set_option maxRecDepth 20000 in
theorem ifl_X3_15 : FL RX3 15 3 1 := ⟨(RX3, TX3, 5), rfl, rfl, by decide, by decide, gT_in 101 (by decide +kernel) (by decide +kernel), inG3⟩
theorem ff_3_1 : FF RX3 3 1 true (.object "java/lang/String") := fun r h => by cases h; exact ⟨rfl, rfl, by decide +kernel⟩
set_option maxRecDepth 20000 in
theorem ifl_X3_19 : FL RX3 19 3 2 := ⟨(RX3, TX3, 5), rfl, rfl, by decide, by decide, gT_in 102 (by decide +kernel) (by decide +kernel), inG3⟩
theorem ff_3_2 : FF RX3 3 2 true (.int) := fun r h => by cases h; exact ⟨rfl, rfl, by decide +kernel⟩
set_option maxRecDepth 20000 in
theorem ifl_X3_23 : FL RX3 23 3 3 := ⟨(RX3, TX3, 5), rfl, rfl, by decide, by decide, gT_in 103 (by decide +kernel) (by decide +kernel), inG3⟩
theorem ff_3_3 : FF RX3 3 3 true (.int) := fun r h => by cases h; exact ⟨rfl, rfl, by decide +kernel⟩
set_option maxRecDepth 20000 in
theorem ifl_X3_26 : FL RX3 26 3 4 := ⟨(RX3, TX3, 5), rfl, rfl, by decide, by decide, gT_in 104 (by decide +kernel) (by decide +kernel), inG3⟩
theorem ff_3_4 : FF RX3 3 4 false (.int) := fun r h => by cases h; exact ⟨rfl, rfl, by decide +kernel⟩
abbrev rmI_1 : Room := { frames := 1, cells := 0, slots := 0, locals := 20 }
abbrev E_1 : BL := (1, 4) :: (1, 3) :: (1, 2) :: (1, 1) :: (1, 0) :: B_1
set_option maxRecDepth 20000 in
theorem ilm_3 : LM yX3_init cX3_init 5 none 4 := ⟨gT_in 98 (by decide +kernel) (by decide +kernel), gT_in 71 (by decide +kernel) (by decide +kernel), by decide, by decide, by decide +kernel⟩
set_option maxRecDepth 20000 in
theorem iim_3 : Cond.instanceMethod yX3_init ∈ gT := gT_in 97 (by decide +kernel) (by decide +kernel)
theorem mk_1 (Y : EY) : MB Y yX3_init cX3_init 5 rmI_1 (.ref (Y.2.2.2.1 1) :: ((fun ad => [.ref (ad 2), .ref (ad 71), .int 5, .int 57])) Y.2.2.2.1) 3 B_1 3 E_1 := by
  refine MB.of (ls := (fun ad => [(0, .ref (ad 1)), (1, .ref (ad 2)), (2, .ref (ad 71)), (3, .int 5), (4, .int 57)])) (by decide) rfl (Nat.le_of_ble_eq_true rfl) (fun ad h => by simp only [h 1 (Or.inl (by decide)), h 2 (Or.inl (by decide)), h 71 (Or.inr (by decide))]; rfl) (fun X E C => ?_)
  have hin := E.1
  show BW Y X 3 5 0 (fun ad => [(0, .ref (ad 1)), (1, .ref (ad 2)), (2, .ref (ad 71)), (3, .int 5), (4, .int 57)]) (fun _ => []) 3 (B_1) 0 0
  refine b_aload_n C (fun ad => ad 1) dX3_init_0 0 (fun _ => rfl) ?_
  show BW Y X 3 5 1 (fun ad => [(0, .ref (ad 1)), (1, .ref (ad 2)), (2, .ref (ad 71)), (3, .int 5), (4, .int 57)]) (fun ad => [.ref (ad 1)]) 3 (B_1) 0 0
  refine b_objInit (x := fun ad => ad 1) C dX3_init_1 oi_X3_3 oi_2 oi_3 (Nat.le_of_ble_eq_true rfl) (fun _ => Nat.le_of_ble_eq_true rfl) ?_
  show BW Y X 3 5 4 (fun ad => [(0, .ref (ad 1)), (1, .ref (ad 2)), (2, .ref (ad 71)), (3, .int 5), (4, .int 57)]) (fun _ => []) 3 (B_1) 0 0
  refine b_aload_n C (fun ad => ad 1) dX3_init_4 0 (fun _ => rfl) ?_
  show BW Y X 3 5 5 (fun ad => [(0, .ref (ad 1)), (1, .ref (ad 2)), (2, .ref (ad 71)), (3, .int 5), (4, .int 57)]) (fun ad => [.ref (ad 1)]) 3 (B_1) 0 0
  refine b_aload_n C (fun ad => ad 2) dX3_init_5 1 (fun _ => rfl) ?_
  show BW Y X 3 5 6 (fun ad => [(0, .ref (ad 1)), (1, .ref (ad 2)), (2, .ref (ad 71)), (3, .int 5), (4, .int 57)]) (fun ad => [.ref (ad 2), .ref (ad 1)]) 3 (B_1) 0 0
  refine b_put (k0 := 1) (v := fun ad => .ref (ad 2)) C hin dX3_init_6 ifl_X3_9 ff_3_0 Kc_1 (by decide) (fun _ => rfl) (fun _ => rfl) (fun _ => rfl) ?_
  show BW Y X 3 5 9 (fun ad => [(0, .ref (ad 1)), (1, .ref (ad 2)), (2, .ref (ad 71)), (3, .int 5), (4, .int 57)]) (fun _ => []) 3 ((1, 0) :: B_1) 0 0
  refine b_aload_n C (fun ad => ad 1) dX3_init_9 0 (fun _ => rfl) ?_
  show BW Y X 3 5 10 (fun ad => [(0, .ref (ad 1)), (1, .ref (ad 2)), (2, .ref (ad 71)), (3, .int 5), (4, .int 57)]) (fun ad => [.ref (ad 1)]) 3 ((1, 0) :: B_1) 0 0
  refine b_aload_n C (fun ad => ad 71) dX3_init_10 2 (fun _ => rfl) ?_
  show BW Y X 3 5 11 (fun ad => [(0, .ref (ad 1)), (1, .ref (ad 2)), (2, .ref (ad 71)), (3, .int 5), (4, .int 57)]) (fun ad => [.ref (ad 71), .ref (ad 1)]) 3 ((1, 0) :: B_1) 0 0
  refine b_put (k0 := 1) (v := fun ad => .ref (ad 71)) C hin dX3_init_11 ifl_X3_15 ff_3_1 Kc_1 (by decide) (fun _ => rfl) (fun _ => rfl) (fun _ => rfl) ?_
  show BW Y X 3 5 14 (fun ad => [(0, .ref (ad 1)), (1, .ref (ad 2)), (2, .ref (ad 71)), (3, .int 5), (4, .int 57)]) (fun _ => []) 3 ((1, 1) :: (1, 0) :: B_1) 0 0
  refine b_aload_n C (fun ad => ad 1) dX3_init_14 0 (fun _ => rfl) ?_
  show BW Y X 3 5 15 (fun ad => [(0, .ref (ad 1)), (1, .ref (ad 2)), (2, .ref (ad 71)), (3, .int 5), (4, .int 57)]) (fun ad => [.ref (ad 1)]) 3 ((1, 1) :: (1, 0) :: B_1) 0 0
  refine b_iload_n C (5) dX3_init_15 3 (fun _ => rfl) ?_
  show BW Y X 3 5 16 (fun ad => [(0, .ref (ad 1)), (1, .ref (ad 2)), (2, .ref (ad 71)), (3, .int 5), (4, .int 57)]) (fun ad => [.int 5, .ref (ad 1)]) 3 ((1, 1) :: (1, 0) :: B_1) 0 0
  refine b_put (k0 := 1) (v := fun ad => .int 5) C hin dX3_init_16 ifl_X3_19 ff_3_2 Kc_1 (by decide) (fun _ => rfl) (fun _ => rfl) (fun _ => rfl) ?_
  show BW Y X 3 5 19 (fun ad => [(0, .ref (ad 1)), (1, .ref (ad 2)), (2, .ref (ad 71)), (3, .int 5), (4, .int 57)]) (fun _ => []) 3 ((1, 2) :: (1, 1) :: (1, 0) :: B_1) 0 0
  refine b_aload_n C (fun ad => ad 1) dX3_init_19 0 (fun _ => rfl) ?_
  show BW Y X 3 5 20 (fun ad => [(0, .ref (ad 1)), (1, .ref (ad 2)), (2, .ref (ad 71)), (3, .int 5), (4, .int 57)]) (fun ad => [.ref (ad 1)]) 3 ((1, 2) :: (1, 1) :: (1, 0) :: B_1) 0 0
  refine b_iload C (57) dX3_init_20 4 (fun _ => rfl) ?_
  show BW Y X 3 5 22 (fun ad => [(0, .ref (ad 1)), (1, .ref (ad 2)), (2, .ref (ad 71)), (3, .int 5), (4, .int 57)]) (fun ad => [.int 57, .ref (ad 1)]) 3 ((1, 2) :: (1, 1) :: (1, 0) :: B_1) 0 0
  refine b_put (k0 := 1) (v := fun ad => .int 57) C hin dX3_init_22 ifl_X3_23 ff_3_3 Kc_1 (by decide) (fun _ => rfl) (fun _ => rfl) (fun _ => rfl) ?_
  show BW Y X 3 5 25 (fun ad => [(0, .ref (ad 1)), (1, .ref (ad 2)), (2, .ref (ad 71)), (3, .int 5), (4, .int 57)]) (fun _ => []) 3 ((1, 3) :: (1, 2) :: (1, 1) :: (1, 0) :: B_1) 0 0
  refine b_aload_n C (fun ad => ad 1) dX3_init_25 0 (fun _ => rfl) ?_
  show BW Y X 3 5 26 (fun ad => [(0, .ref (ad 1)), (1, .ref (ad 2)), (2, .ref (ad 71)), (3, .int 5), (4, .int 57)]) (fun ad => [.ref (ad 1)]) 3 ((1, 3) :: (1, 2) :: (1, 1) :: (1, 0) :: B_1) 0 0
  refine b_iconst (v := 0) C dX3_init_26 (by decide) ?_
  show BW Y X 3 5 27 (fun ad => [(0, .ref (ad 1)), (1, .ref (ad 2)), (2, .ref (ad 71)), (3, .int 5), (4, .int 57)]) (fun ad => [.int 0, .ref (ad 1)]) 3 ((1, 3) :: (1, 2) :: (1, 1) :: (1, 0) :: B_1) 0 0
  refine b_put (k0 := 1) (v := fun ad => .int 0) C hin dX3_init_27 ifl_X3_26 ff_3_4 Kc_1 (by decide) (fun _ => rfl) (fun _ => rfl) (fun _ => rfl) ?_
  show BW Y X 3 5 30 (fun ad => [(0, .ref (ad 1)), (1, .ref (ad 2)), (2, .ref (ad 71)), (3, .int 5), (4, .int 57)]) (fun _ => []) 3 ((1, 4) :: (1, 3) :: (1, 2) :: (1, 1) :: (1, 0) :: B_1) 0 0
  exact b_vret C dX3_init_30 E rfl rfl rfl rfl
set_option maxRecDepth 20000 in
theorem iml_X5_13 : Cond.methodLink RX5 13 yX3_init ∈ gT := gT_in 96 (by decide +kernel) (by decide +kernel)
set_option maxRecDepth 20000 in
theorem ifl_X5_16 : FL RX5 16 5 0 := ⟨(RX5, TX5, 14), rfl, rfl, by decide, by decide, gT_in 252 (by decide +kernel) (by decide +kernel), inG5⟩
theorem ff_5_0 : FF RX5 5 0 true (.object "AccentShop$Text") := fun r h => by cases h; exact ⟨rfl, rfl, by decide +kernel⟩
def B_3 : BL := [(0, 0), (1, 4), (1, 3), (1, 2), (1, 1), (1, 0)]
abbrev rmI_3 : Room := { frames := 1, cells := 0, slots := 0, locals := 20 }
abbrev E_3 : BL := (3, 4) :: (3, 3) :: (3, 2) :: (3, 1) :: (3, 0) :: B_3
theorem mk_3 (Y : EY) : MB Y yX3_init cX3_init 5 rmI_3 (.ref (Y.2.2.2.1 3) :: ((fun ad => [.ref (ad 4), .ref (ad 72), .int 1, .int 55])) Y.2.2.2.1) 5 B_3 5 E_3 := by
  refine MB.of (ls := (fun ad => [(0, .ref (ad 3)), (1, .ref (ad 4)), (2, .ref (ad 72)), (3, .int 1), (4, .int 55)])) (by decide) rfl (Nat.le_of_ble_eq_true rfl) (fun ad h => by simp only [h 3 (Or.inl (by decide)), h 4 (Or.inl (by decide)), h 72 (Or.inr (by decide))]; rfl) (fun X E C => ?_)
  have hin := E.1
  show BW Y X 5 5 0 (fun ad => [(0, .ref (ad 3)), (1, .ref (ad 4)), (2, .ref (ad 72)), (3, .int 1), (4, .int 55)]) (fun _ => []) 5 (B_3) 0 0
  refine b_aload_n C (fun ad => ad 3) dX3_init_0 0 (fun _ => rfl) ?_
  show BW Y X 5 5 1 (fun ad => [(0, .ref (ad 3)), (1, .ref (ad 4)), (2, .ref (ad 72)), (3, .int 1), (4, .int 55)]) (fun ad => [.ref (ad 3)]) 5 (B_3) 0 0
  refine b_objInit (x := fun ad => ad 3) C dX3_init_1 oi_X3_3 oi_2 oi_3 (Nat.le_of_ble_eq_true rfl) (fun _ => Nat.le_of_ble_eq_true rfl) ?_
  show BW Y X 5 5 4 (fun ad => [(0, .ref (ad 3)), (1, .ref (ad 4)), (2, .ref (ad 72)), (3, .int 1), (4, .int 55)]) (fun _ => []) 5 (B_3) 0 0
  refine b_aload_n C (fun ad => ad 3) dX3_init_4 0 (fun _ => rfl) ?_
  show BW Y X 5 5 5 (fun ad => [(0, .ref (ad 3)), (1, .ref (ad 4)), (2, .ref (ad 72)), (3, .int 1), (4, .int 55)]) (fun ad => [.ref (ad 3)]) 5 (B_3) 0 0
  refine b_aload_n C (fun ad => ad 4) dX3_init_5 1 (fun _ => rfl) ?_
  show BW Y X 5 5 6 (fun ad => [(0, .ref (ad 3)), (1, .ref (ad 4)), (2, .ref (ad 72)), (3, .int 1), (4, .int 55)]) (fun ad => [.ref (ad 4), .ref (ad 3)]) 5 (B_3) 0 0
  refine b_put (k0 := 3) (v := fun ad => .ref (ad 4)) C hin dX3_init_6 ifl_X3_9 ff_3_0 Kc_3 (by decide) (fun _ => rfl) (fun _ => rfl) (fun _ => rfl) ?_
  show BW Y X 5 5 9 (fun ad => [(0, .ref (ad 3)), (1, .ref (ad 4)), (2, .ref (ad 72)), (3, .int 1), (4, .int 55)]) (fun _ => []) 5 ((3, 0) :: B_3) 0 0
  refine b_aload_n C (fun ad => ad 3) dX3_init_9 0 (fun _ => rfl) ?_
  show BW Y X 5 5 10 (fun ad => [(0, .ref (ad 3)), (1, .ref (ad 4)), (2, .ref (ad 72)), (3, .int 1), (4, .int 55)]) (fun ad => [.ref (ad 3)]) 5 ((3, 0) :: B_3) 0 0
  refine b_aload_n C (fun ad => ad 72) dX3_init_10 2 (fun _ => rfl) ?_
  show BW Y X 5 5 11 (fun ad => [(0, .ref (ad 3)), (1, .ref (ad 4)), (2, .ref (ad 72)), (3, .int 1), (4, .int 55)]) (fun ad => [.ref (ad 72), .ref (ad 3)]) 5 ((3, 0) :: B_3) 0 0
  refine b_put (k0 := 3) (v := fun ad => .ref (ad 72)) C hin dX3_init_11 ifl_X3_15 ff_3_1 Kc_3 (by decide) (fun _ => rfl) (fun _ => rfl) (fun _ => rfl) ?_
  show BW Y X 5 5 14 (fun ad => [(0, .ref (ad 3)), (1, .ref (ad 4)), (2, .ref (ad 72)), (3, .int 1), (4, .int 55)]) (fun _ => []) 5 ((3, 1) :: (3, 0) :: B_3) 0 0
  refine b_aload_n C (fun ad => ad 3) dX3_init_14 0 (fun _ => rfl) ?_
  show BW Y X 5 5 15 (fun ad => [(0, .ref (ad 3)), (1, .ref (ad 4)), (2, .ref (ad 72)), (3, .int 1), (4, .int 55)]) (fun ad => [.ref (ad 3)]) 5 ((3, 1) :: (3, 0) :: B_3) 0 0
  refine b_iload_n C (1) dX3_init_15 3 (fun _ => rfl) ?_
  show BW Y X 5 5 16 (fun ad => [(0, .ref (ad 3)), (1, .ref (ad 4)), (2, .ref (ad 72)), (3, .int 1), (4, .int 55)]) (fun ad => [.int 1, .ref (ad 3)]) 5 ((3, 1) :: (3, 0) :: B_3) 0 0
  refine b_put (k0 := 3) (v := fun ad => .int 1) C hin dX3_init_16 ifl_X3_19 ff_3_2 Kc_3 (by decide) (fun _ => rfl) (fun _ => rfl) (fun _ => rfl) ?_
  show BW Y X 5 5 19 (fun ad => [(0, .ref (ad 3)), (1, .ref (ad 4)), (2, .ref (ad 72)), (3, .int 1), (4, .int 55)]) (fun _ => []) 5 ((3, 2) :: (3, 1) :: (3, 0) :: B_3) 0 0
  refine b_aload_n C (fun ad => ad 3) dX3_init_19 0 (fun _ => rfl) ?_
  show BW Y X 5 5 20 (fun ad => [(0, .ref (ad 3)), (1, .ref (ad 4)), (2, .ref (ad 72)), (3, .int 1), (4, .int 55)]) (fun ad => [.ref (ad 3)]) 5 ((3, 2) :: (3, 1) :: (3, 0) :: B_3) 0 0
  refine b_iload C (55) dX3_init_20 4 (fun _ => rfl) ?_
  show BW Y X 5 5 22 (fun ad => [(0, .ref (ad 3)), (1, .ref (ad 4)), (2, .ref (ad 72)), (3, .int 1), (4, .int 55)]) (fun ad => [.int 55, .ref (ad 3)]) 5 ((3, 2) :: (3, 1) :: (3, 0) :: B_3) 0 0
  refine b_put (k0 := 3) (v := fun ad => .int 55) C hin dX3_init_22 ifl_X3_23 ff_3_3 Kc_3 (by decide) (fun _ => rfl) (fun _ => rfl) (fun _ => rfl) ?_
  show BW Y X 5 5 25 (fun ad => [(0, .ref (ad 3)), (1, .ref (ad 4)), (2, .ref (ad 72)), (3, .int 1), (4, .int 55)]) (fun _ => []) 5 ((3, 3) :: (3, 2) :: (3, 1) :: (3, 0) :: B_3) 0 0
  refine b_aload_n C (fun ad => ad 3) dX3_init_25 0 (fun _ => rfl) ?_
  show BW Y X 5 5 26 (fun ad => [(0, .ref (ad 3)), (1, .ref (ad 4)), (2, .ref (ad 72)), (3, .int 1), (4, .int 55)]) (fun ad => [.ref (ad 3)]) 5 ((3, 3) :: (3, 2) :: (3, 1) :: (3, 0) :: B_3) 0 0
  refine b_iconst (v := 0) C dX3_init_26 (by decide) ?_
  show BW Y X 5 5 27 (fun ad => [(0, .ref (ad 3)), (1, .ref (ad 4)), (2, .ref (ad 72)), (3, .int 1), (4, .int 55)]) (fun ad => [.int 0, .ref (ad 3)]) 5 ((3, 3) :: (3, 2) :: (3, 1) :: (3, 0) :: B_3) 0 0
  refine b_put (k0 := 3) (v := fun ad => .int 0) C hin dX3_init_27 ifl_X3_26 ff_3_4 Kc_3 (by decide) (fun _ => rfl) (fun _ => rfl) (fun _ => rfl) ?_
  show BW Y X 5 5 30 (fun ad => [(0, .ref (ad 3)), (1, .ref (ad 4)), (2, .ref (ad 72)), (3, .int 1), (4, .int 55)]) (fun _ => []) 5 ((3, 4) :: (3, 3) :: (3, 2) :: (3, 1) :: (3, 0) :: B_3) 0 0
  exact b_vret C dX3_init_30 E rfl rfl rfl rfl
set_option maxRecDepth 20000 in
theorem ifl_X5_22 : FL RX5 22 5 1 := ⟨(RX5, TX5, 14), rfl, rfl, by decide, by decide, gT_in 253 (by decide +kernel) (by decide +kernel), inG5⟩
theorem ff_5_1 : FF RX5 5 1 true (.object "AccentShop$Text") := fun r h => by cases h; exact ⟨rfl, rfl, by decide +kernel⟩
set_option maxRecDepth 20000 in
theorem nw_X5_25 : NW RX5 25 1 := ⟨(RX1, TX1, 10), rfl, rfl, by decide, gT_in 121 (by decide +kernel) (by decide +kernel), gT_in 122 (by decide +kernel) (by decide +kernel), gT_in 72 (by decide +kernel) (by decide +kernel), inG1, tyX1, tyX1_ok, fun j hj => by
  have hj : j < 10 := hj
  rcases (show j = 0 ∨ j = 1 ∨ j = 2 ∨ j = 3 ∨ j = 4 ∨ j = 5 ∨ j = 6 ∨ j = 7 ∨ j = 8 ∨ j = 9 by omega) with rfl | rfl | rfl | rfl | rfl | rfl | rfl | rfl | rfl | rfl <;> rfl⟩
def B_5 : BL := [(0, 1), (3, 4), (3, 3), (3, 2), (3, 1), (3, 0), (0, 0), (1, 4), (1, 3), (1, 2), (1, 1), (1, 0)]
set_option maxRecDepth 20000 in
theorem oi_X1_3 : Cond.methodLink RX1 3 Lib.objectInit ∈ gT := gT_in 126 (by decide +kernel) (by decide +kernel)
set_option maxRecDepth 20000 in
theorem ifl_X1_9 : FL RX1 9 1 1 := ⟨(RX1, TX1, 10), rfl, rfl, by decide, by decide, gT_in 130 (by decide +kernel) (by decide +kernel), inG1⟩
theorem ff_1_1 : FF RX1 1 1 true (.array .int) := fun r h => by cases h; exact ⟨rfl, rfl, by decide +kernel⟩
set_option maxRecDepth 20000 in
theorem ifl_X1_15 : FL RX1 15 1 2 := ⟨(RX1, TX1, 10), rfl, rfl, by decide, by decide, gT_in 133 (by decide +kernel) (by decide +kernel), inG1⟩
theorem ff_1_2 : FF RX1 1 2 true (.array .int) := fun r h => by cases h; exact ⟨rfl, rfl, by decide +kernel⟩
set_option maxRecDepth 20000 in
theorem ifl_X1_18 : FL RX1 18 1 4 := ⟨(RX1, TX1, 10), rfl, rfl, by decide, by decide, gT_in 139 (by decide +kernel) (by decide +kernel), inG1⟩
theorem ff_1_4 : FF RX1 1 4 true (.array .int) := fun r h => by cases h; exact ⟨rfl, rfl, by decide +kernel⟩
set_option maxRecDepth 20000 in
theorem ifl_X1_21 : FL RX1 21 1 5 := ⟨(RX1, TX1, 10), rfl, rfl, by decide, by decide, gT_in 142 (by decide +kernel) (by decide +kernel), inG1⟩
theorem ff_1_5 : FF RX1 1 5 true (.array .int) := fun r h => by cases h; exact ⟨rfl, rfl, by decide +kernel⟩
set_option maxRecDepth 20000 in
theorem ifl_X1_24 : FL RX1 24 1 7 := ⟨(RX1, TX1, 10), rfl, rfl, by decide, by decide, gT_in 148 (by decide +kernel) (by decide +kernel), inG1⟩
theorem ff_1_7 : FF RX1 1 7 true (.array .int) := fun r h => by cases h; exact ⟨rfl, rfl, by decide +kernel⟩
set_option maxRecDepth 20000 in
theorem ifl_X1_27 : FL RX1 27 1 8 := ⟨(RX1, TX1, 10), rfl, rfl, by decide, by decide, gT_in 150 (by decide +kernel) (by decide +kernel), inG1⟩
theorem ff_1_8 : FF RX1 1 8 true (.array .int) := fun r h => by cases h; exact ⟨rfl, rfl, by decide +kernel⟩
set_option maxRecDepth 20000 in
theorem ifl_X1_30 : FL RX1 30 1 9 := ⟨(RX1, TX1, 10), rfl, rfl, by decide, by decide, gT_in 152 (by decide +kernel) (by decide +kernel), inG1⟩
theorem ff_1_9 : FF RX1 1 9 true (.array .int) := fun r h => by cases h; exact ⟨rfl, rfl, by decide +kernel⟩
abbrev rmI_5 : Room := { frames := 1, cells := 7, slots := 91, locals := 20 }
abbrev E_5 : BL := (5, 9) :: (5, 8) :: (5, 7) :: (5, 5) :: (5, 4) :: (5, 2) :: (5, 1) :: B_5
set_option maxRecDepth 20000 in
theorem ilm_1 : LM yX1_init cX1_init 1 none 0 := ⟨gT_in 125 (by decide +kernel) (by decide +kernel), gT_in 72 (by decide +kernel) (by decide +kernel), by decide, by decide, by decide +kernel⟩
set_option maxRecDepth 20000 in
theorem iim_1 : Cond.instanceMethod yX1_init ∈ gT := gT_in 124 (by decide +kernel) (by decide +kernel)
theorem mk_5 (Y : EY) : MB Y yX1_init cX1_init 1 rmI_5 (.ref (Y.2.2.2.1 5) :: ((fun _ => [])) Y.2.2.2.1) 6 B_5 13 E_5 := by
  refine MB.of (ls := (fun ad => [(0, .ref (ad 5))])) (by decide) rfl (Nat.le_of_ble_eq_true rfl) (fun ad h => by simp only [h 5 (Or.inl (by decide))]; rfl) (fun X E C => ?_)
  have hin := E.1
  show BW Y X 6 1 0 (fun ad => [(0, .ref (ad 5))]) (fun _ => []) 6 (B_5) 0 0
  refine b_aload_n C (fun ad => ad 5) dX1_init_0 0 (fun _ => rfl) ?_
  show BW Y X 6 1 1 (fun ad => [(0, .ref (ad 5))]) (fun ad => [.ref (ad 5)]) 6 (B_5) 0 0
  refine b_objInit (x := fun ad => ad 5) C dX1_init_1 oi_X1_3 oi_2 oi_3 (Nat.le_of_ble_eq_true rfl) (fun _ => Nat.le_of_ble_eq_true rfl) ?_
  show BW Y X 6 1 4 (fun ad => [(0, .ref (ad 5))]) (fun _ => []) 6 (B_5) 0 0
  refine b_aload_n C (fun ad => ad 5) dX1_init_4 0 (fun _ => rfl) ?_
  show BW Y X 6 1 5 (fun ad => [(0, .ref (ad 5))]) (fun ad => [.ref (ad 5)]) 6 (B_5) 0 0
  refine b_bipush (v := 8) C dX1_init_5 (by decide) ?_
  show BW Y X 6 1 7 (fun ad => [(0, .ref (ad 5))]) (fun ad => [.int 8, .ref (ad 5)]) 6 (B_5) 0 0
  refine b_newa C dX1_init_7 ac_int Kc_6 (by decide) (by decide) (by decide) (GB_of (by decide +kernel)) (by decide) (Nat.le_of_ble_eq_true rfl) (Nat.le_of_ble_eq_true rfl) (fun ad ad' h => by simp only [h 5 (Or.inl (by decide))]) (fun ad ad' h => by simp only [h 5 (Or.inl (by decide))]) ?_
  show BW Y X 6 1 9 (fun ad => [(0, .ref (ad 5))]) (fun ad => [.ref (ad 6), .ref (ad 5)]) 7 (B_5) 1 8
  refine b_put (k0 := 5) (v := fun ad => .ref (ad 6)) C hin dX1_init_9 ifl_X1_9 ff_1_1 Kc_5 (by decide) (fun _ => rfl) (fun _ => rfl) (fun _ => rfl) ?_
  show BW Y X 6 1 12 (fun ad => [(0, .ref (ad 5))]) (fun _ => []) 7 ((5, 1) :: B_5) 1 8
  refine b_aload_n C (fun ad => ad 5) dX1_init_12 0 (fun _ => rfl) ?_
  show BW Y X 6 1 13 (fun ad => [(0, .ref (ad 5))]) (fun ad => [.ref (ad 5)]) 7 ((5, 1) :: B_5) 1 8
  refine b_bipush (v := 40) C dX1_init_13 (by decide) ?_
  show BW Y X 6 1 15 (fun ad => [(0, .ref (ad 5))]) (fun ad => [.int 40, .ref (ad 5)]) 7 ((5, 1) :: B_5) 1 8
  refine b_newa C dX1_init_15 ac_int Kc_7 (by decide) (by decide) (by decide) (GB_of (by decide +kernel)) (by decide) (Nat.le_of_ble_eq_true rfl) (Nat.le_of_ble_eq_true rfl) (fun ad ad' h => by simp only [h 5 (Or.inl (by decide))]) (fun ad ad' h => by simp only [h 5 (Or.inl (by decide))]) ?_
  show BW Y X 6 1 17 (fun ad => [(0, .ref (ad 5))]) (fun ad => [.ref (ad 7), .ref (ad 5)]) 8 ((5, 1) :: B_5) 2 48
  refine b_put (k0 := 5) (v := fun ad => .ref (ad 7)) C hin dX1_init_17 ifl_X1_15 ff_1_2 Kc_5 (by decide) (fun _ => rfl) (fun _ => rfl) (fun _ => rfl) ?_
  show BW Y X 6 1 20 (fun ad => [(0, .ref (ad 5))]) (fun _ => []) 8 ((5, 2) :: (5, 1) :: B_5) 2 48
  refine b_aload_n C (fun ad => ad 5) dX1_init_20 0 (fun _ => rfl) ?_
  show BW Y X 6 1 21 (fun ad => [(0, .ref (ad 5))]) (fun ad => [.ref (ad 5)]) 8 ((5, 2) :: (5, 1) :: B_5) 2 48
  refine b_bipush (v := 8) C dX1_init_21 (by decide) ?_
  show BW Y X 6 1 23 (fun ad => [(0, .ref (ad 5))]) (fun ad => [.int 8, .ref (ad 5)]) 8 ((5, 2) :: (5, 1) :: B_5) 2 48
  refine b_newa C dX1_init_23 ac_int Kc_8 (by decide) (by decide) (by decide) (GB_of (by decide +kernel)) (by decide) (Nat.le_of_ble_eq_true rfl) (Nat.le_of_ble_eq_true rfl) (fun ad ad' h => by simp only [h 5 (Or.inl (by decide))]) (fun ad ad' h => by simp only [h 5 (Or.inl (by decide))]) ?_
  show BW Y X 6 1 25 (fun ad => [(0, .ref (ad 5))]) (fun ad => [.ref (ad 8), .ref (ad 5)]) 9 ((5, 2) :: (5, 1) :: B_5) 3 56
  refine b_put (k0 := 5) (v := fun ad => .ref (ad 8)) C hin dX1_init_25 ifl_X1_18 ff_1_4 Kc_5 (by decide) (fun _ => rfl) (fun _ => rfl) (fun _ => rfl) ?_
  show BW Y X 6 1 28 (fun ad => [(0, .ref (ad 5))]) (fun _ => []) 9 ((5, 4) :: (5, 2) :: (5, 1) :: B_5) 3 56
  refine b_aload_n C (fun ad => ad 5) dX1_init_28 0 (fun _ => rfl) ?_
  show BW Y X 6 1 29 (fun ad => [(0, .ref (ad 5))]) (fun ad => [.ref (ad 5)]) 9 ((5, 4) :: (5, 2) :: (5, 1) :: B_5) 3 56
  refine b_bipush (v := 8) C dX1_init_29 (by decide) ?_
  show BW Y X 6 1 31 (fun ad => [(0, .ref (ad 5))]) (fun ad => [.int 8, .ref (ad 5)]) 9 ((5, 4) :: (5, 2) :: (5, 1) :: B_5) 3 56
  refine b_newa C dX1_init_31 ac_int Kc_9 (by decide) (by decide) (by decide) (GB_of (by decide +kernel)) (by decide) (Nat.le_of_ble_eq_true rfl) (Nat.le_of_ble_eq_true rfl) (fun ad ad' h => by simp only [h 5 (Or.inl (by decide))]) (fun ad ad' h => by simp only [h 5 (Or.inl (by decide))]) ?_
  show BW Y X 6 1 33 (fun ad => [(0, .ref (ad 5))]) (fun ad => [.ref (ad 9), .ref (ad 5)]) 10 ((5, 4) :: (5, 2) :: (5, 1) :: B_5) 4 64
  refine b_put (k0 := 5) (v := fun ad => .ref (ad 9)) C hin dX1_init_33 ifl_X1_21 ff_1_5 Kc_5 (by decide) (fun _ => rfl) (fun _ => rfl) (fun _ => rfl) ?_
  show BW Y X 6 1 36 (fun ad => [(0, .ref (ad 5))]) (fun _ => []) 10 ((5, 5) :: (5, 4) :: (5, 2) :: (5, 1) :: B_5) 4 64
  refine b_aload_n C (fun ad => ad 5) dX1_init_36 0 (fun _ => rfl) ?_
  show BW Y X 6 1 37 (fun ad => [(0, .ref (ad 5))]) (fun ad => [.ref (ad 5)]) 10 ((5, 5) :: (5, 4) :: (5, 2) :: (5, 1) :: B_5) 4 64
  refine b_bipush (v := 9) C dX1_init_37 (by decide) ?_
  show BW Y X 6 1 39 (fun ad => [(0, .ref (ad 5))]) (fun ad => [.int 9, .ref (ad 5)]) 10 ((5, 5) :: (5, 4) :: (5, 2) :: (5, 1) :: B_5) 4 64
  refine b_newa C dX1_init_39 ac_int Kc_10 (by decide) (by decide) (by decide) (GB_of (by decide +kernel)) (by decide) (Nat.le_of_ble_eq_true rfl) (Nat.le_of_ble_eq_true rfl) (fun ad ad' h => by simp only [h 5 (Or.inl (by decide))]) (fun ad ad' h => by simp only [h 5 (Or.inl (by decide))]) ?_
  show BW Y X 6 1 41 (fun ad => [(0, .ref (ad 5))]) (fun ad => [.ref (ad 10), .ref (ad 5)]) 11 ((5, 5) :: (5, 4) :: (5, 2) :: (5, 1) :: B_5) 5 73
  refine b_put (k0 := 5) (v := fun ad => .ref (ad 10)) C hin dX1_init_41 ifl_X1_24 ff_1_7 Kc_5 (by decide) (fun _ => rfl) (fun _ => rfl) (fun _ => rfl) ?_
  show BW Y X 6 1 44 (fun ad => [(0, .ref (ad 5))]) (fun _ => []) 11 ((5, 7) :: (5, 5) :: (5, 4) :: (5, 2) :: (5, 1) :: B_5) 5 73
  refine b_aload_n C (fun ad => ad 5) dX1_init_44 0 (fun _ => rfl) ?_
  show BW Y X 6 1 45 (fun ad => [(0, .ref (ad 5))]) (fun ad => [.ref (ad 5)]) 11 ((5, 7) :: (5, 5) :: (5, 4) :: (5, 2) :: (5, 1) :: B_5) 5 73
  refine b_bipush (v := 9) C dX1_init_45 (by decide) ?_
  show BW Y X 6 1 47 (fun ad => [(0, .ref (ad 5))]) (fun ad => [.int 9, .ref (ad 5)]) 11 ((5, 7) :: (5, 5) :: (5, 4) :: (5, 2) :: (5, 1) :: B_5) 5 73
  refine b_newa C dX1_init_47 ac_int Kc_11 (by decide) (by decide) (by decide) (GB_of (by decide +kernel)) (by decide) (Nat.le_of_ble_eq_true rfl) (Nat.le_of_ble_eq_true rfl) (fun ad ad' h => by simp only [h 5 (Or.inl (by decide))]) (fun ad ad' h => by simp only [h 5 (Or.inl (by decide))]) ?_
  show BW Y X 6 1 49 (fun ad => [(0, .ref (ad 5))]) (fun ad => [.ref (ad 11), .ref (ad 5)]) 12 ((5, 7) :: (5, 5) :: (5, 4) :: (5, 2) :: (5, 1) :: B_5) 6 82
  refine b_put (k0 := 5) (v := fun ad => .ref (ad 11)) C hin dX1_init_49 ifl_X1_27 ff_1_8 Kc_5 (by decide) (fun _ => rfl) (fun _ => rfl) (fun _ => rfl) ?_
  show BW Y X 6 1 52 (fun ad => [(0, .ref (ad 5))]) (fun _ => []) 12 ((5, 8) :: (5, 7) :: (5, 5) :: (5, 4) :: (5, 2) :: (5, 1) :: B_5) 6 82
  refine b_aload_n C (fun ad => ad 5) dX1_init_52 0 (fun _ => rfl) ?_
  show BW Y X 6 1 53 (fun ad => [(0, .ref (ad 5))]) (fun ad => [.ref (ad 5)]) 12 ((5, 8) :: (5, 7) :: (5, 5) :: (5, 4) :: (5, 2) :: (5, 1) :: B_5) 6 82
  refine b_bipush (v := 9) C dX1_init_53 (by decide) ?_
  show BW Y X 6 1 55 (fun ad => [(0, .ref (ad 5))]) (fun ad => [.int 9, .ref (ad 5)]) 12 ((5, 8) :: (5, 7) :: (5, 5) :: (5, 4) :: (5, 2) :: (5, 1) :: B_5) 6 82
  refine b_newa C dX1_init_55 ac_int Kc_12 (by decide) (by decide) (by decide) (GB_of (by decide +kernel)) (by decide) (Nat.le_of_ble_eq_true rfl) (Nat.le_of_ble_eq_true rfl) (fun ad ad' h => by simp only [h 5 (Or.inl (by decide))]) (fun ad ad' h => by simp only [h 5 (Or.inl (by decide))]) ?_
  show BW Y X 6 1 57 (fun ad => [(0, .ref (ad 5))]) (fun ad => [.ref (ad 12), .ref (ad 5)]) 13 ((5, 8) :: (5, 7) :: (5, 5) :: (5, 4) :: (5, 2) :: (5, 1) :: B_5) 7 91
  refine b_put (k0 := 5) (v := fun ad => .ref (ad 12)) C hin dX1_init_57 ifl_X1_30 ff_1_9 Kc_5 (by decide) (fun _ => rfl) (fun _ => rfl) (fun _ => rfl) ?_
  show BW Y X 6 1 60 (fun ad => [(0, .ref (ad 5))]) (fun _ => []) 13 ((5, 9) :: (5, 8) :: (5, 7) :: (5, 5) :: (5, 4) :: (5, 2) :: (5, 1) :: B_5) 7 91
  exact b_vret C dX1_init_60 E rfl rfl rfl rfl
set_option maxRecDepth 20000 in
theorem ifl_X5_28 : FL RX5 28 5 2 := ⟨(RX5, TX5, 14), rfl, rfl, by decide, by decide, gT_in 254 (by decide +kernel) (by decide +kernel), inG5⟩
theorem ff_5_2 : FF RX5 5 2 true (.object "AccentShop$Setting") := fun r h => by cases h; exact ⟨rfl, rfl, by decide +kernel⟩
def B_13 : BL := [(0, 2), (5, 9), (5, 8), (5, 7), (5, 5), (5, 4), (5, 2), (5, 1), (0, 1), (3, 4), (3, 3), (3, 2), (3, 1), (3, 0), (0, 0), (1, 4), (1, 3), (1, 2), (1, 1), (1, 0)]
abbrev rmI_13 : Room := { frames := 1, cells := 7, slots := 91, locals := 20 }
abbrev E_13 : BL := (13, 9) :: (13, 8) :: (13, 7) :: (13, 5) :: (13, 4) :: (13, 2) :: (13, 1) :: B_13
theorem mk_13 (Y : EY) : MB Y yX1_init cX1_init 1 rmI_13 (.ref (Y.2.2.2.1 13) :: ((fun _ => [])) Y.2.2.2.1) 14 B_13 21 E_13 := by
  refine MB.of (ls := (fun ad => [(0, .ref (ad 13))])) (by decide) rfl (Nat.le_of_ble_eq_true rfl) (fun ad h => by simp only [h 13 (Or.inl (by decide))]; rfl) (fun X E C => ?_)
  have hin := E.1
  show BW Y X 14 1 0 (fun ad => [(0, .ref (ad 13))]) (fun _ => []) 14 (B_13) 0 0
  refine b_aload_n C (fun ad => ad 13) dX1_init_0 0 (fun _ => rfl) ?_
  show BW Y X 14 1 1 (fun ad => [(0, .ref (ad 13))]) (fun ad => [.ref (ad 13)]) 14 (B_13) 0 0
  refine b_objInit (x := fun ad => ad 13) C dX1_init_1 oi_X1_3 oi_2 oi_3 (Nat.le_of_ble_eq_true rfl) (fun _ => Nat.le_of_ble_eq_true rfl) ?_
  show BW Y X 14 1 4 (fun ad => [(0, .ref (ad 13))]) (fun _ => []) 14 (B_13) 0 0
  refine b_aload_n C (fun ad => ad 13) dX1_init_4 0 (fun _ => rfl) ?_
  show BW Y X 14 1 5 (fun ad => [(0, .ref (ad 13))]) (fun ad => [.ref (ad 13)]) 14 (B_13) 0 0
  refine b_bipush (v := 8) C dX1_init_5 (by decide) ?_
  show BW Y X 14 1 7 (fun ad => [(0, .ref (ad 13))]) (fun ad => [.int 8, .ref (ad 13)]) 14 (B_13) 0 0
  refine b_newa C dX1_init_7 ac_int Kc_14 (by decide) (by decide) (by decide) (GB_of (by decide +kernel)) (by decide) (Nat.le_of_ble_eq_true rfl) (Nat.le_of_ble_eq_true rfl) (fun ad ad' h => by simp only [h 13 (Or.inl (by decide))]) (fun ad ad' h => by simp only [h 13 (Or.inl (by decide))]) ?_
  show BW Y X 14 1 9 (fun ad => [(0, .ref (ad 13))]) (fun ad => [.ref (ad 14), .ref (ad 13)]) 15 (B_13) 1 8
  refine b_put (k0 := 13) (v := fun ad => .ref (ad 14)) C hin dX1_init_9 ifl_X1_9 ff_1_1 Kc_13 (by decide) (fun _ => rfl) (fun _ => rfl) (fun _ => rfl) ?_
  show BW Y X 14 1 12 (fun ad => [(0, .ref (ad 13))]) (fun _ => []) 15 ((13, 1) :: B_13) 1 8
  refine b_aload_n C (fun ad => ad 13) dX1_init_12 0 (fun _ => rfl) ?_
  show BW Y X 14 1 13 (fun ad => [(0, .ref (ad 13))]) (fun ad => [.ref (ad 13)]) 15 ((13, 1) :: B_13) 1 8
  refine b_bipush (v := 40) C dX1_init_13 (by decide) ?_
  show BW Y X 14 1 15 (fun ad => [(0, .ref (ad 13))]) (fun ad => [.int 40, .ref (ad 13)]) 15 ((13, 1) :: B_13) 1 8
  refine b_newa C dX1_init_15 ac_int Kc_15 (by decide) (by decide) (by decide) (GB_of (by decide +kernel)) (by decide) (Nat.le_of_ble_eq_true rfl) (Nat.le_of_ble_eq_true rfl) (fun ad ad' h => by simp only [h 13 (Or.inl (by decide))]) (fun ad ad' h => by simp only [h 13 (Or.inl (by decide))]) ?_
  show BW Y X 14 1 17 (fun ad => [(0, .ref (ad 13))]) (fun ad => [.ref (ad 15), .ref (ad 13)]) 16 ((13, 1) :: B_13) 2 48
  refine b_put (k0 := 13) (v := fun ad => .ref (ad 15)) C hin dX1_init_17 ifl_X1_15 ff_1_2 Kc_13 (by decide) (fun _ => rfl) (fun _ => rfl) (fun _ => rfl) ?_
  show BW Y X 14 1 20 (fun ad => [(0, .ref (ad 13))]) (fun _ => []) 16 ((13, 2) :: (13, 1) :: B_13) 2 48
  refine b_aload_n C (fun ad => ad 13) dX1_init_20 0 (fun _ => rfl) ?_
  show BW Y X 14 1 21 (fun ad => [(0, .ref (ad 13))]) (fun ad => [.ref (ad 13)]) 16 ((13, 2) :: (13, 1) :: B_13) 2 48
  refine b_bipush (v := 8) C dX1_init_21 (by decide) ?_
  show BW Y X 14 1 23 (fun ad => [(0, .ref (ad 13))]) (fun ad => [.int 8, .ref (ad 13)]) 16 ((13, 2) :: (13, 1) :: B_13) 2 48
  refine b_newa C dX1_init_23 ac_int Kc_16 (by decide) (by decide) (by decide) (GB_of (by decide +kernel)) (by decide) (Nat.le_of_ble_eq_true rfl) (Nat.le_of_ble_eq_true rfl) (fun ad ad' h => by simp only [h 13 (Or.inl (by decide))]) (fun ad ad' h => by simp only [h 13 (Or.inl (by decide))]) ?_
  show BW Y X 14 1 25 (fun ad => [(0, .ref (ad 13))]) (fun ad => [.ref (ad 16), .ref (ad 13)]) 17 ((13, 2) :: (13, 1) :: B_13) 3 56
  refine b_put (k0 := 13) (v := fun ad => .ref (ad 16)) C hin dX1_init_25 ifl_X1_18 ff_1_4 Kc_13 (by decide) (fun _ => rfl) (fun _ => rfl) (fun _ => rfl) ?_
  show BW Y X 14 1 28 (fun ad => [(0, .ref (ad 13))]) (fun _ => []) 17 ((13, 4) :: (13, 2) :: (13, 1) :: B_13) 3 56
  refine b_aload_n C (fun ad => ad 13) dX1_init_28 0 (fun _ => rfl) ?_
  show BW Y X 14 1 29 (fun ad => [(0, .ref (ad 13))]) (fun ad => [.ref (ad 13)]) 17 ((13, 4) :: (13, 2) :: (13, 1) :: B_13) 3 56
  refine b_bipush (v := 8) C dX1_init_29 (by decide) ?_
  show BW Y X 14 1 31 (fun ad => [(0, .ref (ad 13))]) (fun ad => [.int 8, .ref (ad 13)]) 17 ((13, 4) :: (13, 2) :: (13, 1) :: B_13) 3 56
  refine b_newa C dX1_init_31 ac_int Kc_17 (by decide) (by decide) (by decide) (GB_of (by decide +kernel)) (by decide) (Nat.le_of_ble_eq_true rfl) (Nat.le_of_ble_eq_true rfl) (fun ad ad' h => by simp only [h 13 (Or.inl (by decide))]) (fun ad ad' h => by simp only [h 13 (Or.inl (by decide))]) ?_
  show BW Y X 14 1 33 (fun ad => [(0, .ref (ad 13))]) (fun ad => [.ref (ad 17), .ref (ad 13)]) 18 ((13, 4) :: (13, 2) :: (13, 1) :: B_13) 4 64
  refine b_put (k0 := 13) (v := fun ad => .ref (ad 17)) C hin dX1_init_33 ifl_X1_21 ff_1_5 Kc_13 (by decide) (fun _ => rfl) (fun _ => rfl) (fun _ => rfl) ?_
  show BW Y X 14 1 36 (fun ad => [(0, .ref (ad 13))]) (fun _ => []) 18 ((13, 5) :: (13, 4) :: (13, 2) :: (13, 1) :: B_13) 4 64
  refine b_aload_n C (fun ad => ad 13) dX1_init_36 0 (fun _ => rfl) ?_
  show BW Y X 14 1 37 (fun ad => [(0, .ref (ad 13))]) (fun ad => [.ref (ad 13)]) 18 ((13, 5) :: (13, 4) :: (13, 2) :: (13, 1) :: B_13) 4 64
  refine b_bipush (v := 9) C dX1_init_37 (by decide) ?_
  show BW Y X 14 1 39 (fun ad => [(0, .ref (ad 13))]) (fun ad => [.int 9, .ref (ad 13)]) 18 ((13, 5) :: (13, 4) :: (13, 2) :: (13, 1) :: B_13) 4 64
  refine b_newa C dX1_init_39 ac_int Kc_18 (by decide) (by decide) (by decide) (GB_of (by decide +kernel)) (by decide) (Nat.le_of_ble_eq_true rfl) (Nat.le_of_ble_eq_true rfl) (fun ad ad' h => by simp only [h 13 (Or.inl (by decide))]) (fun ad ad' h => by simp only [h 13 (Or.inl (by decide))]) ?_
  show BW Y X 14 1 41 (fun ad => [(0, .ref (ad 13))]) (fun ad => [.ref (ad 18), .ref (ad 13)]) 19 ((13, 5) :: (13, 4) :: (13, 2) :: (13, 1) :: B_13) 5 73
  refine b_put (k0 := 13) (v := fun ad => .ref (ad 18)) C hin dX1_init_41 ifl_X1_24 ff_1_7 Kc_13 (by decide) (fun _ => rfl) (fun _ => rfl) (fun _ => rfl) ?_
  show BW Y X 14 1 44 (fun ad => [(0, .ref (ad 13))]) (fun _ => []) 19 ((13, 7) :: (13, 5) :: (13, 4) :: (13, 2) :: (13, 1) :: B_13) 5 73
  refine b_aload_n C (fun ad => ad 13) dX1_init_44 0 (fun _ => rfl) ?_
  show BW Y X 14 1 45 (fun ad => [(0, .ref (ad 13))]) (fun ad => [.ref (ad 13)]) 19 ((13, 7) :: (13, 5) :: (13, 4) :: (13, 2) :: (13, 1) :: B_13) 5 73
  refine b_bipush (v := 9) C dX1_init_45 (by decide) ?_
  show BW Y X 14 1 47 (fun ad => [(0, .ref (ad 13))]) (fun ad => [.int 9, .ref (ad 13)]) 19 ((13, 7) :: (13, 5) :: (13, 4) :: (13, 2) :: (13, 1) :: B_13) 5 73
  refine b_newa C dX1_init_47 ac_int Kc_19 (by decide) (by decide) (by decide) (GB_of (by decide +kernel)) (by decide) (Nat.le_of_ble_eq_true rfl) (Nat.le_of_ble_eq_true rfl) (fun ad ad' h => by simp only [h 13 (Or.inl (by decide))]) (fun ad ad' h => by simp only [h 13 (Or.inl (by decide))]) ?_
  show BW Y X 14 1 49 (fun ad => [(0, .ref (ad 13))]) (fun ad => [.ref (ad 19), .ref (ad 13)]) 20 ((13, 7) :: (13, 5) :: (13, 4) :: (13, 2) :: (13, 1) :: B_13) 6 82
  refine b_put (k0 := 13) (v := fun ad => .ref (ad 19)) C hin dX1_init_49 ifl_X1_27 ff_1_8 Kc_13 (by decide) (fun _ => rfl) (fun _ => rfl) (fun _ => rfl) ?_
  show BW Y X 14 1 52 (fun ad => [(0, .ref (ad 13))]) (fun _ => []) 20 ((13, 8) :: (13, 7) :: (13, 5) :: (13, 4) :: (13, 2) :: (13, 1) :: B_13) 6 82
  refine b_aload_n C (fun ad => ad 13) dX1_init_52 0 (fun _ => rfl) ?_
  show BW Y X 14 1 53 (fun ad => [(0, .ref (ad 13))]) (fun ad => [.ref (ad 13)]) 20 ((13, 8) :: (13, 7) :: (13, 5) :: (13, 4) :: (13, 2) :: (13, 1) :: B_13) 6 82
  refine b_bipush (v := 9) C dX1_init_53 (by decide) ?_
  show BW Y X 14 1 55 (fun ad => [(0, .ref (ad 13))]) (fun ad => [.int 9, .ref (ad 13)]) 20 ((13, 8) :: (13, 7) :: (13, 5) :: (13, 4) :: (13, 2) :: (13, 1) :: B_13) 6 82
  refine b_newa C dX1_init_55 ac_int Kc_20 (by decide) (by decide) (by decide) (GB_of (by decide +kernel)) (by decide) (Nat.le_of_ble_eq_true rfl) (Nat.le_of_ble_eq_true rfl) (fun ad ad' h => by simp only [h 13 (Or.inl (by decide))]) (fun ad ad' h => by simp only [h 13 (Or.inl (by decide))]) ?_
  show BW Y X 14 1 57 (fun ad => [(0, .ref (ad 13))]) (fun ad => [.ref (ad 20), .ref (ad 13)]) 21 ((13, 8) :: (13, 7) :: (13, 5) :: (13, 4) :: (13, 2) :: (13, 1) :: B_13) 7 91
  refine b_put (k0 := 13) (v := fun ad => .ref (ad 20)) C hin dX1_init_57 ifl_X1_30 ff_1_9 Kc_13 (by decide) (fun _ => rfl) (fun _ => rfl) (fun _ => rfl) ?_
  show BW Y X 14 1 60 (fun ad => [(0, .ref (ad 13))]) (fun _ => []) 21 ((13, 9) :: (13, 8) :: (13, 7) :: (13, 5) :: (13, 4) :: (13, 2) :: (13, 1) :: B_13) 7 91
  exact b_vret C dX1_init_60 E rfl rfl rfl rfl
set_option maxRecDepth 20000 in
theorem ifl_X5_32 : FL RX5 32 5 3 := ⟨(RX5, TX5, 14), rfl, rfl, by decide, by decide, gT_in 255 (by decide +kernel) (by decide +kernel), inG5⟩
theorem ff_5_3 : FF RX5 5 3 true (.object "AccentShop$Setting") := fun r h => by cases h; exact ⟨rfl, rfl, by decide +kernel⟩
set_option maxRecDepth 20000 in
theorem nw_X5_35 : NW RX5 35 4 := ⟨(RX4, TX4, 6), rfl, rfl, by decide, gT_in 175 (by decide +kernel) (by decide +kernel), gT_in 176 (by decide +kernel) (by decide +kernel), gT_in 73 (by decide +kernel) (by decide +kernel), inG4, tyX4, tyX4_ok, fun j hj => by
  have hj : j < 6 := hj
  rcases (show j = 0 ∨ j = 1 ∨ j = 2 ∨ j = 3 ∨ j = 4 ∨ j = 5 by omega) with rfl | rfl | rfl | rfl | rfl | rfl <;> rfl⟩
def B_21 : BL := [(0, 3), (13, 9), (13, 8), (13, 7), (13, 5), (13, 4), (13, 2), (13, 1), (0, 2), (5, 9), (5, 8), (5, 7), (5, 5), (5, 4), (5, 2), (5, 1), (0, 1), (3, 4), (3, 3), (3, 2), (3, 1), (3, 0), (0, 0), (1, 4), (1, 3), (1, 2), (1, 1), (1, 0)]
set_option maxRecDepth 20000 in
theorem oi_X4_3 : Cond.methodLink RX4 3 Lib.objectInit ∈ gT := gT_in 180 (by decide +kernel) (by decide +kernel)
set_option maxRecDepth 20000 in
theorem ifl_X4_9 : FL RX4 9 4 2 := ⟨(RX4, TX4, 6), rfl, rfl, by decide, by decide, gT_in 187 (by decide +kernel) (by decide +kernel), inG4⟩
theorem ff_4_2 : FF RX4 4 2 true (.array .int) := fun r h => by cases h; exact ⟨rfl, rfl, by decide +kernel⟩
set_option maxRecDepth 20000 in
theorem ifl_X4_15 : FL RX4 15 4 3 := ⟨(RX4, TX4, 6), rfl, rfl, by decide, by decide, gT_in 189 (by decide +kernel) (by decide +kernel), inG4⟩
theorem ff_4_3 : FF RX4 4 3 true (.array .int) := fun r h => by cases h; exact ⟨rfl, rfl, by decide +kernel⟩
set_option maxRecDepth 20000 in
theorem ifl_X4_18 : FL RX4 18 4 4 := ⟨(RX4, TX4, 6), rfl, rfl, by decide, by decide, gT_in 192 (by decide +kernel) (by decide +kernel), inG4⟩
theorem ff_4_4 : FF RX4 4 4 true (.array .int) := fun r h => by cases h; exact ⟨rfl, rfl, by decide +kernel⟩
set_option maxRecDepth 20000 in
theorem ifl_X4_21 : FL RX4 21 4 5 := ⟨(RX4, TX4, 6), rfl, rfl, by decide, by decide, gT_in 194 (by decide +kernel) (by decide +kernel), inG4⟩
theorem ff_4_5 : FF RX4 4 5 true (.array .int) := fun r h => by cases h; exact ⟨rfl, rfl, by decide +kernel⟩
set_option maxRecDepth 20000 in
theorem ifl_X4_24 : FL RX4 24 4 0 := ⟨(RX4, TX4, 6), rfl, rfl, by decide, by decide, gT_in 181 (by decide +kernel) (by decide +kernel), inG4⟩
theorem ff_4_0 : FF RX4 4 0 true (.object "AccentShop$Setting") := fun r h => by cases h; exact ⟨rfl, rfl, by decide +kernel⟩
set_option maxRecDepth 20000 in
theorem ifl_X4_28 : FL RX4 28 4 1 := ⟨(RX4, TX4, 6), rfl, rfl, by decide, by decide, gT_in 184 (by decide +kernel) (by decide +kernel), inG4⟩
theorem ff_4_1 : FF RX4 4 1 false (.int) := fun r h => by cases h; exact ⟨rfl, rfl, by decide +kernel⟩
abbrev rmI_21 : Room := { frames := 1, cells := 4, slots := 96, locals := 20 }
abbrev E_21 : BL := (21, 1) :: (21, 0) :: (21, 5) :: (21, 4) :: (21, 3) :: (21, 2) :: B_21
set_option maxRecDepth 20000 in
theorem ilm_4 : LM yX4_init cX4_init 2 none 1 := ⟨gT_in 179 (by decide +kernel) (by decide +kernel), gT_in 73 (by decide +kernel) (by decide +kernel), by decide, by decide, by decide +kernel⟩
set_option maxRecDepth 20000 in
theorem iim_4 : Cond.instanceMethod yX4_init ∈ gT := gT_in 178 (by decide +kernel) (by decide +kernel)
theorem mk_21 (Y : EY) : MB Y yX4_init cX4_init 2 rmI_21 (.ref (Y.2.2.2.1 21) :: ((fun ad => [.ref (ad 5)])) Y.2.2.2.1) 22 B_21 26 E_21 := by
  refine MB.of (ls := (fun ad => [(0, .ref (ad 21)), (1, .ref (ad 5))])) (by decide) rfl (Nat.le_of_ble_eq_true rfl) (fun ad h => by simp only [h 5 (Or.inl (by decide)), h 21 (Or.inl (by decide))]; rfl) (fun X E C => ?_)
  have hin := E.1
  show BW Y X 22 2 0 (fun ad => [(0, .ref (ad 21)), (1, .ref (ad 5))]) (fun _ => []) 22 (B_21) 0 0
  refine b_aload_n C (fun ad => ad 21) dX4_init_0 0 (fun _ => rfl) ?_
  show BW Y X 22 2 1 (fun ad => [(0, .ref (ad 21)), (1, .ref (ad 5))]) (fun ad => [.ref (ad 21)]) 22 (B_21) 0 0
  refine b_objInit (x := fun ad => ad 21) C dX4_init_1 oi_X4_3 oi_2 oi_3 (Nat.le_of_ble_eq_true rfl) (fun _ => Nat.le_of_ble_eq_true rfl) ?_
  show BW Y X 22 2 4 (fun ad => [(0, .ref (ad 21)), (1, .ref (ad 5))]) (fun _ => []) 22 (B_21) 0 0
  refine b_aload_n C (fun ad => ad 21) dX4_init_4 0 (fun _ => rfl) ?_
  show BW Y X 22 2 5 (fun ad => [(0, .ref (ad 21)), (1, .ref (ad 5))]) (fun ad => [.ref (ad 21)]) 22 (B_21) 0 0
  refine b_bipush (v := 40) C dX4_init_5 (by decide) ?_
  show BW Y X 22 2 7 (fun ad => [(0, .ref (ad 21)), (1, .ref (ad 5))]) (fun ad => [.int 40, .ref (ad 21)]) 22 (B_21) 0 0
  refine b_newa C dX4_init_7 ac_int Kc_22 (by decide) (by decide) (by decide) (GB_of (by decide +kernel)) (by decide) (Nat.le_of_ble_eq_true rfl) (Nat.le_of_ble_eq_true rfl) (fun ad ad' h => by simp only [h 21 (Or.inl (by decide))]) (fun ad ad' h => by simp only [h 5 (Or.inl (by decide)), h 21 (Or.inl (by decide))]) ?_
  show BW Y X 22 2 9 (fun ad => [(0, .ref (ad 21)), (1, .ref (ad 5))]) (fun ad => [.ref (ad 22), .ref (ad 21)]) 23 (B_21) 1 40
  refine b_put (k0 := 21) (v := fun ad => .ref (ad 22)) C hin dX4_init_9 ifl_X4_9 ff_4_2 Kc_21 (by decide) (fun _ => rfl) (fun _ => rfl) (fun _ => rfl) ?_
  show BW Y X 22 2 12 (fun ad => [(0, .ref (ad 21)), (1, .ref (ad 5))]) (fun _ => []) 23 ((21, 2) :: B_21) 1 40
  refine b_aload_n C (fun ad => ad 21) dX4_init_12 0 (fun _ => rfl) ?_
  show BW Y X 22 2 13 (fun ad => [(0, .ref (ad 21)), (1, .ref (ad 5))]) (fun ad => [.ref (ad 21)]) 23 ((21, 2) :: B_21) 1 40
  refine b_bipush (v := 40) C dX4_init_13 (by decide) ?_
  show BW Y X 22 2 15 (fun ad => [(0, .ref (ad 21)), (1, .ref (ad 5))]) (fun ad => [.int 40, .ref (ad 21)]) 23 ((21, 2) :: B_21) 1 40
  refine b_newa C dX4_init_15 ac_int Kc_23 (by decide) (by decide) (by decide) (GB_of (by decide +kernel)) (by decide) (Nat.le_of_ble_eq_true rfl) (Nat.le_of_ble_eq_true rfl) (fun ad ad' h => by simp only [h 21 (Or.inl (by decide))]) (fun ad ad' h => by simp only [h 5 (Or.inl (by decide)), h 21 (Or.inl (by decide))]) ?_
  show BW Y X 22 2 17 (fun ad => [(0, .ref (ad 21)), (1, .ref (ad 5))]) (fun ad => [.ref (ad 23), .ref (ad 21)]) 24 ((21, 2) :: B_21) 2 80
  refine b_put (k0 := 21) (v := fun ad => .ref (ad 23)) C hin dX4_init_17 ifl_X4_15 ff_4_3 Kc_21 (by decide) (fun _ => rfl) (fun _ => rfl) (fun _ => rfl) ?_
  show BW Y X 22 2 20 (fun ad => [(0, .ref (ad 21)), (1, .ref (ad 5))]) (fun _ => []) 24 ((21, 3) :: (21, 2) :: B_21) 2 80
  refine b_aload_n C (fun ad => ad 21) dX4_init_20 0 (fun _ => rfl) ?_
  show BW Y X 22 2 21 (fun ad => [(0, .ref (ad 21)), (1, .ref (ad 5))]) (fun ad => [.ref (ad 21)]) 24 ((21, 3) :: (21, 2) :: B_21) 2 80
  refine b_bipush (v := 8) C dX4_init_21 (by decide) ?_
  show BW Y X 22 2 23 (fun ad => [(0, .ref (ad 21)), (1, .ref (ad 5))]) (fun ad => [.int 8, .ref (ad 21)]) 24 ((21, 3) :: (21, 2) :: B_21) 2 80
  refine b_newa C dX4_init_23 ac_int Kc_24 (by decide) (by decide) (by decide) (GB_of (by decide +kernel)) (by decide) (Nat.le_of_ble_eq_true rfl) (Nat.le_of_ble_eq_true rfl) (fun ad ad' h => by simp only [h 21 (Or.inl (by decide))]) (fun ad ad' h => by simp only [h 5 (Or.inl (by decide)), h 21 (Or.inl (by decide))]) ?_
  show BW Y X 22 2 25 (fun ad => [(0, .ref (ad 21)), (1, .ref (ad 5))]) (fun ad => [.ref (ad 24), .ref (ad 21)]) 25 ((21, 3) :: (21, 2) :: B_21) 3 88
  refine b_put (k0 := 21) (v := fun ad => .ref (ad 24)) C hin dX4_init_25 ifl_X4_18 ff_4_4 Kc_21 (by decide) (fun _ => rfl) (fun _ => rfl) (fun _ => rfl) ?_
  show BW Y X 22 2 28 (fun ad => [(0, .ref (ad 21)), (1, .ref (ad 5))]) (fun _ => []) 25 ((21, 4) :: (21, 3) :: (21, 2) :: B_21) 3 88
  refine b_aload_n C (fun ad => ad 21) dX4_init_28 0 (fun _ => rfl) ?_
  show BW Y X 22 2 29 (fun ad => [(0, .ref (ad 21)), (1, .ref (ad 5))]) (fun ad => [.ref (ad 21)]) 25 ((21, 4) :: (21, 3) :: (21, 2) :: B_21) 3 88
  refine b_bipush (v := 8) C dX4_init_29 (by decide) ?_
  show BW Y X 22 2 31 (fun ad => [(0, .ref (ad 21)), (1, .ref (ad 5))]) (fun ad => [.int 8, .ref (ad 21)]) 25 ((21, 4) :: (21, 3) :: (21, 2) :: B_21) 3 88
  refine b_newa C dX4_init_31 ac_int Kc_25 (by decide) (by decide) (by decide) (GB_of (by decide +kernel)) (by decide) (Nat.le_of_ble_eq_true rfl) (Nat.le_of_ble_eq_true rfl) (fun ad ad' h => by simp only [h 21 (Or.inl (by decide))]) (fun ad ad' h => by simp only [h 5 (Or.inl (by decide)), h 21 (Or.inl (by decide))]) ?_
  show BW Y X 22 2 33 (fun ad => [(0, .ref (ad 21)), (1, .ref (ad 5))]) (fun ad => [.ref (ad 25), .ref (ad 21)]) 26 ((21, 4) :: (21, 3) :: (21, 2) :: B_21) 4 96
  refine b_put (k0 := 21) (v := fun ad => .ref (ad 25)) C hin dX4_init_33 ifl_X4_21 ff_4_5 Kc_21 (by decide) (fun _ => rfl) (fun _ => rfl) (fun _ => rfl) ?_
  show BW Y X 22 2 36 (fun ad => [(0, .ref (ad 21)), (1, .ref (ad 5))]) (fun _ => []) 26 ((21, 5) :: (21, 4) :: (21, 3) :: (21, 2) :: B_21) 4 96
  refine b_aload_n C (fun ad => ad 21) dX4_init_36 0 (fun _ => rfl) ?_
  show BW Y X 22 2 37 (fun ad => [(0, .ref (ad 21)), (1, .ref (ad 5))]) (fun ad => [.ref (ad 21)]) 26 ((21, 5) :: (21, 4) :: (21, 3) :: (21, 2) :: B_21) 4 96
  refine b_aload_n C (fun ad => ad 5) dX4_init_37 1 (fun _ => rfl) ?_
  show BW Y X 22 2 38 (fun ad => [(0, .ref (ad 21)), (1, .ref (ad 5))]) (fun ad => [.ref (ad 5), .ref (ad 21)]) 26 ((21, 5) :: (21, 4) :: (21, 3) :: (21, 2) :: B_21) 4 96
  refine b_put (k0 := 21) (v := fun ad => .ref (ad 5)) C hin dX4_init_38 ifl_X4_24 ff_4_0 Kc_21 (by decide) (fun _ => rfl) (fun _ => rfl) (fun _ => rfl) ?_
  show BW Y X 22 2 41 (fun ad => [(0, .ref (ad 21)), (1, .ref (ad 5))]) (fun _ => []) 26 ((21, 0) :: (21, 5) :: (21, 4) :: (21, 3) :: (21, 2) :: B_21) 4 96
  refine b_aload_n C (fun ad => ad 21) dX4_init_41 0 (fun _ => rfl) ?_
  show BW Y X 22 2 42 (fun ad => [(0, .ref (ad 21)), (1, .ref (ad 5))]) (fun ad => [.ref (ad 21)]) 26 ((21, 0) :: (21, 5) :: (21, 4) :: (21, 3) :: (21, 2) :: B_21) 4 96
  refine b_iconst (v := -1) C dX4_init_42 (by decide) ?_
  show BW Y X 22 2 43 (fun ad => [(0, .ref (ad 21)), (1, .ref (ad 5))]) (fun ad => [.int (-1), .ref (ad 21)]) 26 ((21, 0) :: (21, 5) :: (21, 4) :: (21, 3) :: (21, 2) :: B_21) 4 96
  refine b_put (k0 := 21) (v := fun ad => .int (-1)) C hin dX4_init_43 ifl_X4_28 ff_4_1 Kc_21 (by decide) (fun _ => rfl) (fun _ => rfl) (fun _ => rfl) ?_
  show BW Y X 22 2 46 (fun ad => [(0, .ref (ad 21)), (1, .ref (ad 5))]) (fun _ => []) 26 ((21, 1) :: (21, 0) :: (21, 5) :: (21, 4) :: (21, 3) :: (21, 2) :: B_21) 4 96
  exact b_vret C dX4_init_46 E rfl rfl rfl rfl
set_option maxRecDepth 20000 in
theorem iml_X5_37 : Cond.methodLink RX5 37 yX4_init ∈ gT := gT_in 177 (by decide +kernel) (by decide +kernel)
set_option maxRecDepth 20000 in
theorem ifl_X5_40 : FL RX5 40 5 4 := ⟨(RX5, TX5, 14), rfl, rfl, by decide, by decide, gT_in 256 (by decide +kernel) (by decide +kernel), inG5⟩
theorem ff_5_4 : FF RX5 5 4 true (.object "AccentShop$Walk") := fun r h => by cases h; exact ⟨rfl, rfl, by decide +kernel⟩
def B_26 : BL := [(0, 4), (21, 1), (21, 0), (21, 5), (21, 4), (21, 3), (21, 2), (0, 3), (13, 9), (13, 8), (13, 7), (13, 5), (13, 4), (13, 2), (13, 1), (0, 2), (5, 9), (5, 8), (5, 7), (5, 5), (5, 4), (5, 2), (5, 1), (0, 1), (3, 4), (3, 3), (3, 2), (3, 1), (3, 0), (0, 0), (1, 4), (1, 3), (1, 2), (1, 1), (1, 0)]
abbrev rmI_26 : Room := { frames := 1, cells := 4, slots := 96, locals := 20 }
abbrev E_26 : BL := (26, 1) :: (26, 0) :: (26, 5) :: (26, 4) :: (26, 3) :: (26, 2) :: B_26
theorem mk_26 (Y : EY) : MB Y yX4_init cX4_init 2 rmI_26 (.ref (Y.2.2.2.1 26) :: ((fun ad => [.ref (ad 13)])) Y.2.2.2.1) 27 B_26 31 E_26 := by
  refine MB.of (ls := (fun ad => [(0, .ref (ad 26)), (1, .ref (ad 13))])) (by decide) rfl (Nat.le_of_ble_eq_true rfl) (fun ad h => by simp only [h 13 (Or.inl (by decide)), h 26 (Or.inl (by decide))]; rfl) (fun X E C => ?_)
  have hin := E.1
  show BW Y X 27 2 0 (fun ad => [(0, .ref (ad 26)), (1, .ref (ad 13))]) (fun _ => []) 27 (B_26) 0 0
  refine b_aload_n C (fun ad => ad 26) dX4_init_0 0 (fun _ => rfl) ?_
  show BW Y X 27 2 1 (fun ad => [(0, .ref (ad 26)), (1, .ref (ad 13))]) (fun ad => [.ref (ad 26)]) 27 (B_26) 0 0
  refine b_objInit (x := fun ad => ad 26) C dX4_init_1 oi_X4_3 oi_2 oi_3 (Nat.le_of_ble_eq_true rfl) (fun _ => Nat.le_of_ble_eq_true rfl) ?_
  show BW Y X 27 2 4 (fun ad => [(0, .ref (ad 26)), (1, .ref (ad 13))]) (fun _ => []) 27 (B_26) 0 0
  refine b_aload_n C (fun ad => ad 26) dX4_init_4 0 (fun _ => rfl) ?_
  show BW Y X 27 2 5 (fun ad => [(0, .ref (ad 26)), (1, .ref (ad 13))]) (fun ad => [.ref (ad 26)]) 27 (B_26) 0 0
  refine b_bipush (v := 40) C dX4_init_5 (by decide) ?_
  show BW Y X 27 2 7 (fun ad => [(0, .ref (ad 26)), (1, .ref (ad 13))]) (fun ad => [.int 40, .ref (ad 26)]) 27 (B_26) 0 0
  refine b_newa C dX4_init_7 ac_int Kc_27 (by decide) (by decide) (by decide) (GB_of (by decide +kernel)) (by decide) (Nat.le_of_ble_eq_true rfl) (Nat.le_of_ble_eq_true rfl) (fun ad ad' h => by simp only [h 26 (Or.inl (by decide))]) (fun ad ad' h => by simp only [h 13 (Or.inl (by decide)), h 26 (Or.inl (by decide))]) ?_
  show BW Y X 27 2 9 (fun ad => [(0, .ref (ad 26)), (1, .ref (ad 13))]) (fun ad => [.ref (ad 27), .ref (ad 26)]) 28 (B_26) 1 40
  refine b_put (k0 := 26) (v := fun ad => .ref (ad 27)) C hin dX4_init_9 ifl_X4_9 ff_4_2 Kc_26 (by decide) (fun _ => rfl) (fun _ => rfl) (fun _ => rfl) ?_
  show BW Y X 27 2 12 (fun ad => [(0, .ref (ad 26)), (1, .ref (ad 13))]) (fun _ => []) 28 ((26, 2) :: B_26) 1 40
  refine b_aload_n C (fun ad => ad 26) dX4_init_12 0 (fun _ => rfl) ?_
  show BW Y X 27 2 13 (fun ad => [(0, .ref (ad 26)), (1, .ref (ad 13))]) (fun ad => [.ref (ad 26)]) 28 ((26, 2) :: B_26) 1 40
  refine b_bipush (v := 40) C dX4_init_13 (by decide) ?_
  show BW Y X 27 2 15 (fun ad => [(0, .ref (ad 26)), (1, .ref (ad 13))]) (fun ad => [.int 40, .ref (ad 26)]) 28 ((26, 2) :: B_26) 1 40
  refine b_newa C dX4_init_15 ac_int Kc_28 (by decide) (by decide) (by decide) (GB_of (by decide +kernel)) (by decide) (Nat.le_of_ble_eq_true rfl) (Nat.le_of_ble_eq_true rfl) (fun ad ad' h => by simp only [h 26 (Or.inl (by decide))]) (fun ad ad' h => by simp only [h 13 (Or.inl (by decide)), h 26 (Or.inl (by decide))]) ?_
  show BW Y X 27 2 17 (fun ad => [(0, .ref (ad 26)), (1, .ref (ad 13))]) (fun ad => [.ref (ad 28), .ref (ad 26)]) 29 ((26, 2) :: B_26) 2 80
  refine b_put (k0 := 26) (v := fun ad => .ref (ad 28)) C hin dX4_init_17 ifl_X4_15 ff_4_3 Kc_26 (by decide) (fun _ => rfl) (fun _ => rfl) (fun _ => rfl) ?_
  show BW Y X 27 2 20 (fun ad => [(0, .ref (ad 26)), (1, .ref (ad 13))]) (fun _ => []) 29 ((26, 3) :: (26, 2) :: B_26) 2 80
  refine b_aload_n C (fun ad => ad 26) dX4_init_20 0 (fun _ => rfl) ?_
  show BW Y X 27 2 21 (fun ad => [(0, .ref (ad 26)), (1, .ref (ad 13))]) (fun ad => [.ref (ad 26)]) 29 ((26, 3) :: (26, 2) :: B_26) 2 80
  refine b_bipush (v := 8) C dX4_init_21 (by decide) ?_
  show BW Y X 27 2 23 (fun ad => [(0, .ref (ad 26)), (1, .ref (ad 13))]) (fun ad => [.int 8, .ref (ad 26)]) 29 ((26, 3) :: (26, 2) :: B_26) 2 80
  refine b_newa C dX4_init_23 ac_int Kc_29 (by decide) (by decide) (by decide) (GB_of (by decide +kernel)) (by decide) (Nat.le_of_ble_eq_true rfl) (Nat.le_of_ble_eq_true rfl) (fun ad ad' h => by simp only [h 26 (Or.inl (by decide))]) (fun ad ad' h => by simp only [h 13 (Or.inl (by decide)), h 26 (Or.inl (by decide))]) ?_
  show BW Y X 27 2 25 (fun ad => [(0, .ref (ad 26)), (1, .ref (ad 13))]) (fun ad => [.ref (ad 29), .ref (ad 26)]) 30 ((26, 3) :: (26, 2) :: B_26) 3 88
  refine b_put (k0 := 26) (v := fun ad => .ref (ad 29)) C hin dX4_init_25 ifl_X4_18 ff_4_4 Kc_26 (by decide) (fun _ => rfl) (fun _ => rfl) (fun _ => rfl) ?_
  show BW Y X 27 2 28 (fun ad => [(0, .ref (ad 26)), (1, .ref (ad 13))]) (fun _ => []) 30 ((26, 4) :: (26, 3) :: (26, 2) :: B_26) 3 88
  refine b_aload_n C (fun ad => ad 26) dX4_init_28 0 (fun _ => rfl) ?_
  show BW Y X 27 2 29 (fun ad => [(0, .ref (ad 26)), (1, .ref (ad 13))]) (fun ad => [.ref (ad 26)]) 30 ((26, 4) :: (26, 3) :: (26, 2) :: B_26) 3 88
  refine b_bipush (v := 8) C dX4_init_29 (by decide) ?_
  show BW Y X 27 2 31 (fun ad => [(0, .ref (ad 26)), (1, .ref (ad 13))]) (fun ad => [.int 8, .ref (ad 26)]) 30 ((26, 4) :: (26, 3) :: (26, 2) :: B_26) 3 88
  refine b_newa C dX4_init_31 ac_int Kc_30 (by decide) (by decide) (by decide) (GB_of (by decide +kernel)) (by decide) (Nat.le_of_ble_eq_true rfl) (Nat.le_of_ble_eq_true rfl) (fun ad ad' h => by simp only [h 26 (Or.inl (by decide))]) (fun ad ad' h => by simp only [h 13 (Or.inl (by decide)), h 26 (Or.inl (by decide))]) ?_
  show BW Y X 27 2 33 (fun ad => [(0, .ref (ad 26)), (1, .ref (ad 13))]) (fun ad => [.ref (ad 30), .ref (ad 26)]) 31 ((26, 4) :: (26, 3) :: (26, 2) :: B_26) 4 96
  refine b_put (k0 := 26) (v := fun ad => .ref (ad 30)) C hin dX4_init_33 ifl_X4_21 ff_4_5 Kc_26 (by decide) (fun _ => rfl) (fun _ => rfl) (fun _ => rfl) ?_
  show BW Y X 27 2 36 (fun ad => [(0, .ref (ad 26)), (1, .ref (ad 13))]) (fun _ => []) 31 ((26, 5) :: (26, 4) :: (26, 3) :: (26, 2) :: B_26) 4 96
  refine b_aload_n C (fun ad => ad 26) dX4_init_36 0 (fun _ => rfl) ?_
  show BW Y X 27 2 37 (fun ad => [(0, .ref (ad 26)), (1, .ref (ad 13))]) (fun ad => [.ref (ad 26)]) 31 ((26, 5) :: (26, 4) :: (26, 3) :: (26, 2) :: B_26) 4 96
  refine b_aload_n C (fun ad => ad 13) dX4_init_37 1 (fun _ => rfl) ?_
  show BW Y X 27 2 38 (fun ad => [(0, .ref (ad 26)), (1, .ref (ad 13))]) (fun ad => [.ref (ad 13), .ref (ad 26)]) 31 ((26, 5) :: (26, 4) :: (26, 3) :: (26, 2) :: B_26) 4 96
  refine b_put (k0 := 26) (v := fun ad => .ref (ad 13)) C hin dX4_init_38 ifl_X4_24 ff_4_0 Kc_26 (by decide) (fun _ => rfl) (fun _ => rfl) (fun _ => rfl) ?_
  show BW Y X 27 2 41 (fun ad => [(0, .ref (ad 26)), (1, .ref (ad 13))]) (fun _ => []) 31 ((26, 0) :: (26, 5) :: (26, 4) :: (26, 3) :: (26, 2) :: B_26) 4 96
  refine b_aload_n C (fun ad => ad 26) dX4_init_41 0 (fun _ => rfl) ?_
  show BW Y X 27 2 42 (fun ad => [(0, .ref (ad 26)), (1, .ref (ad 13))]) (fun ad => [.ref (ad 26)]) 31 ((26, 0) :: (26, 5) :: (26, 4) :: (26, 3) :: (26, 2) :: B_26) 4 96
  refine b_iconst (v := -1) C dX4_init_42 (by decide) ?_
  show BW Y X 27 2 43 (fun ad => [(0, .ref (ad 26)), (1, .ref (ad 13))]) (fun ad => [.int (-1), .ref (ad 26)]) 31 ((26, 0) :: (26, 5) :: (26, 4) :: (26, 3) :: (26, 2) :: B_26) 4 96
  refine b_put (k0 := 26) (v := fun ad => .int (-1)) C hin dX4_init_43 ifl_X4_28 ff_4_1 Kc_26 (by decide) (fun _ => rfl) (fun _ => rfl) (fun _ => rfl) ?_
  show BW Y X 27 2 46 (fun ad => [(0, .ref (ad 26)), (1, .ref (ad 13))]) (fun _ => []) 31 ((26, 1) :: (26, 0) :: (26, 5) :: (26, 4) :: (26, 3) :: (26, 2) :: B_26) 4 96
  exact b_vret C dX4_init_46 E rfl rfl rfl rfl
set_option maxRecDepth 20000 in
theorem ifl_X5_44 : FL RX5 44 5 5 := ⟨(RX5, TX5, 14), rfl, rfl, by decide, by decide, gT_in 257 (by decide +kernel) (by decide +kernel), inG5⟩
theorem ff_5_5 : FF RX5 5 5 true (.object "AccentShop$Walk") := fun r h => by cases h; exact ⟨rfl, rfl, by decide +kernel⟩
set_option maxRecDepth 20000 in
theorem nw_X5_47 : NW RX5 47 0 := ⟨(RX0, TX0, 5), rfl, rfl, by decide, gT_in 209 (by decide +kernel) (by decide +kernel), gT_in 210 (by decide +kernel) (by decide +kernel), gT_in 74 (by decide +kernel) (by decide +kernel), inG0, tyX0, tyX0_ok, fun j hj => by
  have hj : j < 5 := hj
  rcases (show j = 0 ∨ j = 1 ∨ j = 2 ∨ j = 3 ∨ j = 4 by omega) with rfl | rfl | rfl | rfl | rfl <;> rfl⟩
def B_31 : BL := [(0, 5), (26, 1), (26, 0), (26, 5), (26, 4), (26, 3), (26, 2), (0, 4), (21, 1), (21, 0), (21, 5), (21, 4), (21, 3), (21, 2), (0, 3), (13, 9), (13, 8), (13, 7), (13, 5), (13, 4), (13, 2), (13, 1), (0, 2), (5, 9), (5, 8), (5, 7), (5, 5), (5, 4), (5, 2), (5, 1), (0, 1), (3, 4), (3, 3), (3, 2), (3, 1), (3, 0), (0, 0), (1, 4), (1, 3), (1, 2), (1, 1), (1, 0)]
set_option maxRecDepth 20000 in
theorem oi_X0_3 : Cond.methodLink RX0 3 Lib.objectInit ∈ gT := gT_in 214 (by decide +kernel) (by decide +kernel)
set_option maxRecDepth 20000 in
theorem ifl_X0_9 : FL RX0 9 0 1 := ⟨(RX0, TX0, 5), rfl, rfl, by decide, by decide, gT_in 217 (by decide +kernel) (by decide +kernel), inG0⟩
theorem ff_0_1 : FF RX0 0 1 true (.array .int) := fun r h => by cases h; exact ⟨rfl, rfl, by decide +kernel⟩
set_option maxRecDepth 20000 in
theorem ifl_X0_15 : FL RX0 15 0 2 := ⟨(RX0, TX0, 5), rfl, rfl, by decide, by decide, gT_in 218 (by decide +kernel) (by decide +kernel), inG0⟩
theorem ff_0_2 : FF RX0 0 2 true (.array .int) := fun r h => by cases h; exact ⟨rfl, rfl, by decide +kernel⟩
set_option maxRecDepth 20000 in
theorem ifl_X0_18 : FL RX0 18 0 3 := ⟨(RX0, TX0, 5), rfl, rfl, by decide, by decide, gT_in 219 (by decide +kernel) (by decide +kernel), inG0⟩
theorem ff_0_3 : FF RX0 0 3 true (.array .int) := fun r h => by cases h; exact ⟨rfl, rfl, by decide +kernel⟩
set_option maxRecDepth 20000 in
theorem ifl_X0_21 : FL RX0 21 0 4 := ⟨(RX0, TX0, 5), rfl, rfl, by decide, by decide, gT_in 220 (by decide +kernel) (by decide +kernel), inG0⟩
theorem ff_0_4 : FF RX0 0 4 true (.array .int) := fun r h => by cases h; exact ⟨rfl, rfl, by decide +kernel⟩
abbrev rmI_31 : Room := { frames := 1, cells := 4, slots := 32, locals := 20 }
abbrev E_31 : BL := (31, 4) :: (31, 3) :: (31, 2) :: (31, 1) :: B_31
set_option maxRecDepth 20000 in
theorem ilm_0 : LM yX0_init cX0_init 1 none 0 := ⟨gT_in 213 (by decide +kernel) (by decide +kernel), gT_in 74 (by decide +kernel) (by decide +kernel), by decide, by decide, by decide +kernel⟩
set_option maxRecDepth 20000 in
theorem iim_0 : Cond.instanceMethod yX0_init ∈ gT := gT_in 212 (by decide +kernel) (by decide +kernel)
theorem mk_31 (Y : EY) : MB Y yX0_init cX0_init 1 rmI_31 (.ref (Y.2.2.2.1 31) :: ((fun _ => [])) Y.2.2.2.1) 32 B_31 36 E_31 := by
  refine MB.of (ls := (fun ad => [(0, .ref (ad 31))])) (by decide) rfl (Nat.le_of_ble_eq_true rfl) (fun ad h => by simp only [h 31 (Or.inl (by decide))]; rfl) (fun X E C => ?_)
  have hin := E.1
  show BW Y X 32 1 0 (fun ad => [(0, .ref (ad 31))]) (fun _ => []) 32 (B_31) 0 0
  refine b_aload_n C (fun ad => ad 31) dX0_init_0 0 (fun _ => rfl) ?_
  show BW Y X 32 1 1 (fun ad => [(0, .ref (ad 31))]) (fun ad => [.ref (ad 31)]) 32 (B_31) 0 0
  refine b_objInit (x := fun ad => ad 31) C dX0_init_1 oi_X0_3 oi_2 oi_3 (Nat.le_of_ble_eq_true rfl) (fun _ => Nat.le_of_ble_eq_true rfl) ?_
  show BW Y X 32 1 4 (fun ad => [(0, .ref (ad 31))]) (fun _ => []) 32 (B_31) 0 0
  refine b_aload_n C (fun ad => ad 31) dX0_init_4 0 (fun _ => rfl) ?_
  show BW Y X 32 1 5 (fun ad => [(0, .ref (ad 31))]) (fun ad => [.ref (ad 31)]) 32 (B_31) 0 0
  refine b_bipush (v := 8) C dX0_init_5 (by decide) ?_
  show BW Y X 32 1 7 (fun ad => [(0, .ref (ad 31))]) (fun ad => [.int 8, .ref (ad 31)]) 32 (B_31) 0 0
  refine b_newa C dX0_init_7 ac_int Kc_32 (by decide) (by decide) (by decide) (GB_of (by decide +kernel)) (by decide) (Nat.le_of_ble_eq_true rfl) (Nat.le_of_ble_eq_true rfl) (fun ad ad' h => by simp only [h 31 (Or.inl (by decide))]) (fun ad ad' h => by simp only [h 31 (Or.inl (by decide))]) ?_
  show BW Y X 32 1 9 (fun ad => [(0, .ref (ad 31))]) (fun ad => [.ref (ad 32), .ref (ad 31)]) 33 (B_31) 1 8
  refine b_put (k0 := 31) (v := fun ad => .ref (ad 32)) C hin dX0_init_9 ifl_X0_9 ff_0_1 Kc_31 (by decide) (fun _ => rfl) (fun _ => rfl) (fun _ => rfl) ?_
  show BW Y X 32 1 12 (fun ad => [(0, .ref (ad 31))]) (fun _ => []) 33 ((31, 1) :: B_31) 1 8
  refine b_aload_n C (fun ad => ad 31) dX0_init_12 0 (fun _ => rfl) ?_
  show BW Y X 32 1 13 (fun ad => [(0, .ref (ad 31))]) (fun ad => [.ref (ad 31)]) 33 ((31, 1) :: B_31) 1 8
  refine b_bipush (v := 8) C dX0_init_13 (by decide) ?_
  show BW Y X 32 1 15 (fun ad => [(0, .ref (ad 31))]) (fun ad => [.int 8, .ref (ad 31)]) 33 ((31, 1) :: B_31) 1 8
  refine b_newa C dX0_init_15 ac_int Kc_33 (by decide) (by decide) (by decide) (GB_of (by decide +kernel)) (by decide) (Nat.le_of_ble_eq_true rfl) (Nat.le_of_ble_eq_true rfl) (fun ad ad' h => by simp only [h 31 (Or.inl (by decide))]) (fun ad ad' h => by simp only [h 31 (Or.inl (by decide))]) ?_
  show BW Y X 32 1 17 (fun ad => [(0, .ref (ad 31))]) (fun ad => [.ref (ad 33), .ref (ad 31)]) 34 ((31, 1) :: B_31) 2 16
  refine b_put (k0 := 31) (v := fun ad => .ref (ad 33)) C hin dX0_init_17 ifl_X0_15 ff_0_2 Kc_31 (by decide) (fun _ => rfl) (fun _ => rfl) (fun _ => rfl) ?_
  show BW Y X 32 1 20 (fun ad => [(0, .ref (ad 31))]) (fun _ => []) 34 ((31, 2) :: (31, 1) :: B_31) 2 16
  refine b_aload_n C (fun ad => ad 31) dX0_init_20 0 (fun _ => rfl) ?_
  show BW Y X 32 1 21 (fun ad => [(0, .ref (ad 31))]) (fun ad => [.ref (ad 31)]) 34 ((31, 2) :: (31, 1) :: B_31) 2 16
  refine b_bipush (v := 8) C dX0_init_21 (by decide) ?_
  show BW Y X 32 1 23 (fun ad => [(0, .ref (ad 31))]) (fun ad => [.int 8, .ref (ad 31)]) 34 ((31, 2) :: (31, 1) :: B_31) 2 16
  refine b_newa C dX0_init_23 ac_int Kc_34 (by decide) (by decide) (by decide) (GB_of (by decide +kernel)) (by decide) (Nat.le_of_ble_eq_true rfl) (Nat.le_of_ble_eq_true rfl) (fun ad ad' h => by simp only [h 31 (Or.inl (by decide))]) (fun ad ad' h => by simp only [h 31 (Or.inl (by decide))]) ?_
  show BW Y X 32 1 25 (fun ad => [(0, .ref (ad 31))]) (fun ad => [.ref (ad 34), .ref (ad 31)]) 35 ((31, 2) :: (31, 1) :: B_31) 3 24
  refine b_put (k0 := 31) (v := fun ad => .ref (ad 34)) C hin dX0_init_25 ifl_X0_18 ff_0_3 Kc_31 (by decide) (fun _ => rfl) (fun _ => rfl) (fun _ => rfl) ?_
  show BW Y X 32 1 28 (fun ad => [(0, .ref (ad 31))]) (fun _ => []) 35 ((31, 3) :: (31, 2) :: (31, 1) :: B_31) 3 24
  refine b_aload_n C (fun ad => ad 31) dX0_init_28 0 (fun _ => rfl) ?_
  show BW Y X 32 1 29 (fun ad => [(0, .ref (ad 31))]) (fun ad => [.ref (ad 31)]) 35 ((31, 3) :: (31, 2) :: (31, 1) :: B_31) 3 24
  refine b_bipush (v := 8) C dX0_init_29 (by decide) ?_
  show BW Y X 32 1 31 (fun ad => [(0, .ref (ad 31))]) (fun ad => [.int 8, .ref (ad 31)]) 35 ((31, 3) :: (31, 2) :: (31, 1) :: B_31) 3 24
  refine b_newa C dX0_init_31 ac_int Kc_35 (by decide) (by decide) (by decide) (GB_of (by decide +kernel)) (by decide) (Nat.le_of_ble_eq_true rfl) (Nat.le_of_ble_eq_true rfl) (fun ad ad' h => by simp only [h 31 (Or.inl (by decide))]) (fun ad ad' h => by simp only [h 31 (Or.inl (by decide))]) ?_
  show BW Y X 32 1 33 (fun ad => [(0, .ref (ad 31))]) (fun ad => [.ref (ad 35), .ref (ad 31)]) 36 ((31, 3) :: (31, 2) :: (31, 1) :: B_31) 4 32
  refine b_put (k0 := 31) (v := fun ad => .ref (ad 35)) C hin dX0_init_33 ifl_X0_21 ff_0_4 Kc_31 (by decide) (fun _ => rfl) (fun _ => rfl) (fun _ => rfl) ?_
  show BW Y X 32 1 36 (fun ad => [(0, .ref (ad 31))]) (fun _ => []) 36 ((31, 4) :: (31, 3) :: (31, 2) :: (31, 1) :: B_31) 4 32
  exact b_vret C dX0_init_36 E rfl rfl rfl rfl
set_option maxRecDepth 20000 in
theorem ifl_X5_50 : FL RX5 50 5 6 := ⟨(RX5, TX5, 14), rfl, rfl, by decide, by decide, gT_in 258 (by decide +kernel) (by decide +kernel), inG5⟩
theorem ff_5_6 : FF RX5 5 6 true (.object "AccentShop$Heard") := fun r h => by cases h; exact ⟨rfl, rfl, by decide +kernel⟩
set_option maxRecDepth 20000 in
theorem icl_54 : Cond.classLink RX5 54 "AccentShop$Sheet" ∈ gT := gT_in 232 (by decide +kernel) (by decide +kernel)
set_option maxRecDepth 20000 in
theorem ifl_X5_56 : FL RX5 56 5 7 := ⟨(RX5, TX5, 14), rfl, rfl, by decide, by decide, gT_in 259 (by decide +kernel) (by decide +kernel), inG5⟩
theorem ff_5_7 : FF RX5 5 7 true (.array (.object "AccentShop$Sheet")) := fun r h => by cases h; exact ⟨rfl, rfl, by decide +kernel⟩
set_option maxRecDepth 20000 in
theorem nw_X5_54 : NW RX5 54 2 := ⟨(RX2, TX2, 3), rfl, rfl, by decide, gT_in 232 (by decide +kernel) (by decide +kernel), gT_in 234 (by decide +kernel) (by decide +kernel), gT_in 75 (by decide +kernel) (by decide +kernel), inG2, tyX2, tyX2_ok, fun j hj => by
  have hj : j < 3 := hj
  rcases (show j = 0 ∨ j = 1 ∨ j = 2 by omega) with rfl | rfl | rfl <;> rfl⟩
def B_37 : BL := [(0, 7), (0, 6), (31, 4), (31, 3), (31, 2), (31, 1), (0, 5), (26, 1), (26, 0), (26, 5), (26, 4), (26, 3), (26, 2), (0, 4), (21, 1), (21, 0), (21, 5), (21, 4), (21, 3), (21, 2), (0, 3), (13, 9), (13, 8), (13, 7), (13, 5), (13, 4), (13, 2), (13, 1), (0, 2), (5, 9), (5, 8), (5, 7), (5, 5), (5, 4), (5, 2), (5, 1), (0, 1), (3, 4), (3, 3), (3, 2), (3, 1), (3, 0), (0, 0), (1, 4), (1, 3), (1, 2), (1, 1), (1, 0)]
set_option maxRecDepth 20000 in
theorem oi_X2_3 : Cond.methodLink RX2 3 Lib.objectInit ∈ gT := gT_in 238 (by decide +kernel) (by decide +kernel)
set_option maxRecDepth 20000 in
theorem ifl_X2_9 : FL RX2 9 2 0 := ⟨(RX2, TX2, 3), rfl, rfl, by decide, by decide, gT_in 239 (by decide +kernel) (by decide +kernel), inG2⟩
theorem ff_2_0 : FF RX2 2 0 false (.int) := fun r h => by cases h; exact ⟨rfl, rfl, by decide +kernel⟩
set_option maxRecDepth 20000 in
theorem ifl_X2_15 : FL RX2 15 2 1 := ⟨(RX2, TX2, 3), rfl, rfl, by decide, by decide, gT_in 241 (by decide +kernel) (by decide +kernel), inG2⟩
theorem ff_2_1 : FF RX2 2 1 false (.int) := fun r h => by cases h; exact ⟨rfl, rfl, by decide +kernel⟩
set_option maxRecDepth 20000 in
theorem ifl_X2_18 : FL RX2 18 2 2 := ⟨(RX2, TX2, 3), rfl, rfl, by decide, by decide, gT_in 243 (by decide +kernel) (by decide +kernel), inG2⟩
theorem ff_2_2 : FF RX2 2 2 true (.array .int) := fun r h => by cases h; exact ⟨rfl, rfl, by decide +kernel⟩
abbrev rmI_37 : Room := { frames := 1, cells := 1, slots := 60, locals := 20 }
abbrev E_37 : BL := (37, 2) :: (37, 1) :: (37, 0) :: B_37
set_option maxRecDepth 20000 in
theorem ilm_2 : LM yX2_init cX2_init 1 none 0 := ⟨gT_in 237 (by decide +kernel) (by decide +kernel), gT_in 75 (by decide +kernel) (by decide +kernel), by decide, by decide, by decide +kernel⟩
set_option maxRecDepth 20000 in
theorem iim_2 : Cond.instanceMethod yX2_init ∈ gT := gT_in 236 (by decide +kernel) (by decide +kernel)
theorem mk_37 (Y : EY) : MB Y yX2_init cX2_init 1 rmI_37 (.ref (Y.2.2.2.1 37) :: ((fun _ => [])) Y.2.2.2.1) 38 B_37 39 E_37 := by
  refine MB.of (ls := (fun ad => [(0, .ref (ad 37))])) (by decide) rfl (Nat.le_of_ble_eq_true rfl) (fun ad h => by simp only [h 37 (Or.inl (by decide))]; rfl) (fun X E C => ?_)
  have hin := E.1
  show BW Y X 38 1 0 (fun ad => [(0, .ref (ad 37))]) (fun _ => []) 38 (B_37) 0 0
  refine b_aload_n C (fun ad => ad 37) dX2_init_0 0 (fun _ => rfl) ?_
  show BW Y X 38 1 1 (fun ad => [(0, .ref (ad 37))]) (fun ad => [.ref (ad 37)]) 38 (B_37) 0 0
  refine b_objInit (x := fun ad => ad 37) C dX2_init_1 oi_X2_3 oi_2 oi_3 (Nat.le_of_ble_eq_true rfl) (fun _ => Nat.le_of_ble_eq_true rfl) ?_
  show BW Y X 38 1 4 (fun ad => [(0, .ref (ad 37))]) (fun _ => []) 38 (B_37) 0 0
  refine b_aload_n C (fun ad => ad 37) dX2_init_4 0 (fun _ => rfl) ?_
  show BW Y X 38 1 5 (fun ad => [(0, .ref (ad 37))]) (fun ad => [.ref (ad 37)]) 38 (B_37) 0 0
  refine b_iconst (v := -1) C dX2_init_5 (by decide) ?_
  show BW Y X 38 1 6 (fun ad => [(0, .ref (ad 37))]) (fun ad => [.int (-1), .ref (ad 37)]) 38 (B_37) 0 0
  refine b_put (k0 := 37) (v := fun ad => .int (-1)) C hin dX2_init_6 ifl_X2_9 ff_2_0 Kc_37 (by decide) (fun _ => rfl) (fun _ => rfl) (fun _ => rfl) ?_
  show BW Y X 38 1 9 (fun ad => [(0, .ref (ad 37))]) (fun _ => []) 38 ((37, 0) :: B_37) 0 0
  refine b_aload_n C (fun ad => ad 37) dX2_init_9 0 (fun _ => rfl) ?_
  show BW Y X 38 1 10 (fun ad => [(0, .ref (ad 37))]) (fun ad => [.ref (ad 37)]) 38 ((37, 0) :: B_37) 0 0
  refine b_iconst (v := 0) C dX2_init_10 (by decide) ?_
  show BW Y X 38 1 11 (fun ad => [(0, .ref (ad 37))]) (fun ad => [.int 0, .ref (ad 37)]) 38 ((37, 0) :: B_37) 0 0
  refine b_put (k0 := 37) (v := fun ad => .int 0) C hin dX2_init_11 ifl_X2_15 ff_2_1 Kc_37 (by decide) (fun _ => rfl) (fun _ => rfl) (fun _ => rfl) ?_
  show BW Y X 38 1 14 (fun ad => [(0, .ref (ad 37))]) (fun _ => []) 38 ((37, 1) :: (37, 0) :: B_37) 0 0
  refine b_aload_n C (fun ad => ad 37) dX2_init_14 0 (fun _ => rfl) ?_
  show BW Y X 38 1 15 (fun ad => [(0, .ref (ad 37))]) (fun ad => [.ref (ad 37)]) 38 ((37, 1) :: (37, 0) :: B_37) 0 0
  refine b_bipush (v := 60) C dX2_init_15 (by decide) ?_
  show BW Y X 38 1 17 (fun ad => [(0, .ref (ad 37))]) (fun ad => [.int 60, .ref (ad 37)]) 38 ((37, 1) :: (37, 0) :: B_37) 0 0
  refine b_newa C dX2_init_17 ac_int Kc_38 (by decide) (by decide) (by decide) (GB_of (by decide +kernel)) (by decide) (Nat.le_of_ble_eq_true rfl) (Nat.le_of_ble_eq_true rfl) (fun ad ad' h => by simp only [h 37 (Or.inl (by decide))]) (fun ad ad' h => by simp only [h 37 (Or.inl (by decide))]) ?_
  show BW Y X 38 1 19 (fun ad => [(0, .ref (ad 37))]) (fun ad => [.ref (ad 38), .ref (ad 37)]) 39 ((37, 1) :: (37, 0) :: B_37) 1 60
  refine b_put (k0 := 37) (v := fun ad => .ref (ad 38)) C hin dX2_init_19 ifl_X2_18 ff_2_2 Kc_37 (by decide) (fun _ => rfl) (fun _ => rfl) (fun _ => rfl) ?_
  show BW Y X 38 1 22 (fun ad => [(0, .ref (ad 37))]) (fun _ => []) 39 ((37, 2) :: (37, 1) :: (37, 0) :: B_37) 1 60
  exact b_vret C dX2_init_22 E rfl rfl rfl rfl
def B_39 : BL := [(36, 0), (37, 2), (37, 1), (37, 0), (0, 7), (0, 6), (31, 4), (31, 3), (31, 2), (31, 1), (0, 5), (26, 1), (26, 0), (26, 5), (26, 4), (26, 3), (26, 2), (0, 4), (21, 1), (21, 0), (21, 5), (21, 4), (21, 3), (21, 2), (0, 3), (13, 9), (13, 8), (13, 7), (13, 5), (13, 4), (13, 2), (13, 1), (0, 2), (5, 9), (5, 8), (5, 7), (5, 5), (5, 4), (5, 2), (5, 1), (0, 1), (3, 4), (3, 3), (3, 2), (3, 1), (3, 0), (0, 0), (1, 4), (1, 3), (1, 2), (1, 1), (1, 0)]
abbrev rmI_39 : Room := { frames := 1, cells := 1, slots := 60, locals := 20 }
abbrev E_39 : BL := (39, 2) :: (39, 1) :: (39, 0) :: B_39
theorem mk_39 (Y : EY) : MB Y yX2_init cX2_init 1 rmI_39 (.ref (Y.2.2.2.1 39) :: ((fun _ => [])) Y.2.2.2.1) 40 B_39 41 E_39 := by
  refine MB.of (ls := (fun ad => [(0, .ref (ad 39))])) (by decide) rfl (Nat.le_of_ble_eq_true rfl) (fun ad h => by simp only [h 39 (Or.inl (by decide))]; rfl) (fun X E C => ?_)
  have hin := E.1
  show BW Y X 40 1 0 (fun ad => [(0, .ref (ad 39))]) (fun _ => []) 40 (B_39) 0 0
  refine b_aload_n C (fun ad => ad 39) dX2_init_0 0 (fun _ => rfl) ?_
  show BW Y X 40 1 1 (fun ad => [(0, .ref (ad 39))]) (fun ad => [.ref (ad 39)]) 40 (B_39) 0 0
  refine b_objInit (x := fun ad => ad 39) C dX2_init_1 oi_X2_3 oi_2 oi_3 (Nat.le_of_ble_eq_true rfl) (fun _ => Nat.le_of_ble_eq_true rfl) ?_
  show BW Y X 40 1 4 (fun ad => [(0, .ref (ad 39))]) (fun _ => []) 40 (B_39) 0 0
  refine b_aload_n C (fun ad => ad 39) dX2_init_4 0 (fun _ => rfl) ?_
  show BW Y X 40 1 5 (fun ad => [(0, .ref (ad 39))]) (fun ad => [.ref (ad 39)]) 40 (B_39) 0 0
  refine b_iconst (v := -1) C dX2_init_5 (by decide) ?_
  show BW Y X 40 1 6 (fun ad => [(0, .ref (ad 39))]) (fun ad => [.int (-1), .ref (ad 39)]) 40 (B_39) 0 0
  refine b_put (k0 := 39) (v := fun ad => .int (-1)) C hin dX2_init_6 ifl_X2_9 ff_2_0 Kc_39 (by decide) (fun _ => rfl) (fun _ => rfl) (fun _ => rfl) ?_
  show BW Y X 40 1 9 (fun ad => [(0, .ref (ad 39))]) (fun _ => []) 40 ((39, 0) :: B_39) 0 0
  refine b_aload_n C (fun ad => ad 39) dX2_init_9 0 (fun _ => rfl) ?_
  show BW Y X 40 1 10 (fun ad => [(0, .ref (ad 39))]) (fun ad => [.ref (ad 39)]) 40 ((39, 0) :: B_39) 0 0
  refine b_iconst (v := 0) C dX2_init_10 (by decide) ?_
  show BW Y X 40 1 11 (fun ad => [(0, .ref (ad 39))]) (fun ad => [.int 0, .ref (ad 39)]) 40 ((39, 0) :: B_39) 0 0
  refine b_put (k0 := 39) (v := fun ad => .int 0) C hin dX2_init_11 ifl_X2_15 ff_2_1 Kc_39 (by decide) (fun _ => rfl) (fun _ => rfl) (fun _ => rfl) ?_
  show BW Y X 40 1 14 (fun ad => [(0, .ref (ad 39))]) (fun _ => []) 40 ((39, 1) :: (39, 0) :: B_39) 0 0
  refine b_aload_n C (fun ad => ad 39) dX2_init_14 0 (fun _ => rfl) ?_
  show BW Y X 40 1 15 (fun ad => [(0, .ref (ad 39))]) (fun ad => [.ref (ad 39)]) 40 ((39, 1) :: (39, 0) :: B_39) 0 0
  refine b_bipush (v := 60) C dX2_init_15 (by decide) ?_
  show BW Y X 40 1 17 (fun ad => [(0, .ref (ad 39))]) (fun ad => [.int 60, .ref (ad 39)]) 40 ((39, 1) :: (39, 0) :: B_39) 0 0
  refine b_newa C dX2_init_17 ac_int Kc_40 (by decide) (by decide) (by decide) (GB_of (by decide +kernel)) (by decide) (Nat.le_of_ble_eq_true rfl) (Nat.le_of_ble_eq_true rfl) (fun ad ad' h => by simp only [h 39 (Or.inl (by decide))]) (fun ad ad' h => by simp only [h 39 (Or.inl (by decide))]) ?_
  show BW Y X 40 1 19 (fun ad => [(0, .ref (ad 39))]) (fun ad => [.ref (ad 40), .ref (ad 39)]) 41 ((39, 1) :: (39, 0) :: B_39) 1 60
  refine b_put (k0 := 39) (v := fun ad => .ref (ad 40)) C hin dX2_init_19 ifl_X2_18 ff_2_2 Kc_39 (by decide) (fun _ => rfl) (fun _ => rfl) (fun _ => rfl) ?_
  show BW Y X 40 1 22 (fun ad => [(0, .ref (ad 39))]) (fun _ => []) 41 ((39, 2) :: (39, 1) :: (39, 0) :: B_39) 1 60
  exact b_vret C dX2_init_22 E rfl rfl rfl rfl
def B_41 : BL := [(36, 1), (39, 2), (39, 1), (39, 0), (36, 0), (37, 2), (37, 1), (37, 0), (0, 7), (0, 6), (31, 4), (31, 3), (31, 2), (31, 1), (0, 5), (26, 1), (26, 0), (26, 5), (26, 4), (26, 3), (26, 2), (0, 4), (21, 1), (21, 0), (21, 5), (21, 4), (21, 3), (21, 2), (0, 3), (13, 9), (13, 8), (13, 7), (13, 5), (13, 4), (13, 2), (13, 1), (0, 2), (5, 9), (5, 8), (5, 7), (5, 5), (5, 4), (5, 2), (5, 1), (0, 1), (3, 4), (3, 3), (3, 2), (3, 1), (3, 0), (0, 0), (1, 4), (1, 3), (1, 2), (1, 1), (1, 0)]
abbrev rmI_41 : Room := { frames := 1, cells := 1, slots := 60, locals := 20 }
abbrev E_41 : BL := (41, 2) :: (41, 1) :: (41, 0) :: B_41
theorem mk_41 (Y : EY) : MB Y yX2_init cX2_init 1 rmI_41 (.ref (Y.2.2.2.1 41) :: ((fun _ => [])) Y.2.2.2.1) 42 B_41 43 E_41 := by
  refine MB.of (ls := (fun ad => [(0, .ref (ad 41))])) (by decide) rfl (Nat.le_of_ble_eq_true rfl) (fun ad h => by simp only [h 41 (Or.inl (by decide))]; rfl) (fun X E C => ?_)
  have hin := E.1
  show BW Y X 42 1 0 (fun ad => [(0, .ref (ad 41))]) (fun _ => []) 42 (B_41) 0 0
  refine b_aload_n C (fun ad => ad 41) dX2_init_0 0 (fun _ => rfl) ?_
  show BW Y X 42 1 1 (fun ad => [(0, .ref (ad 41))]) (fun ad => [.ref (ad 41)]) 42 (B_41) 0 0
  refine b_objInit (x := fun ad => ad 41) C dX2_init_1 oi_X2_3 oi_2 oi_3 (Nat.le_of_ble_eq_true rfl) (fun _ => Nat.le_of_ble_eq_true rfl) ?_
  show BW Y X 42 1 4 (fun ad => [(0, .ref (ad 41))]) (fun _ => []) 42 (B_41) 0 0
  refine b_aload_n C (fun ad => ad 41) dX2_init_4 0 (fun _ => rfl) ?_
  show BW Y X 42 1 5 (fun ad => [(0, .ref (ad 41))]) (fun ad => [.ref (ad 41)]) 42 (B_41) 0 0
  refine b_iconst (v := -1) C dX2_init_5 (by decide) ?_
  show BW Y X 42 1 6 (fun ad => [(0, .ref (ad 41))]) (fun ad => [.int (-1), .ref (ad 41)]) 42 (B_41) 0 0
  refine b_put (k0 := 41) (v := fun ad => .int (-1)) C hin dX2_init_6 ifl_X2_9 ff_2_0 Kc_41 (by decide) (fun _ => rfl) (fun _ => rfl) (fun _ => rfl) ?_
  show BW Y X 42 1 9 (fun ad => [(0, .ref (ad 41))]) (fun _ => []) 42 ((41, 0) :: B_41) 0 0
  refine b_aload_n C (fun ad => ad 41) dX2_init_9 0 (fun _ => rfl) ?_
  show BW Y X 42 1 10 (fun ad => [(0, .ref (ad 41))]) (fun ad => [.ref (ad 41)]) 42 ((41, 0) :: B_41) 0 0
  refine b_iconst (v := 0) C dX2_init_10 (by decide) ?_
  show BW Y X 42 1 11 (fun ad => [(0, .ref (ad 41))]) (fun ad => [.int 0, .ref (ad 41)]) 42 ((41, 0) :: B_41) 0 0
  refine b_put (k0 := 41) (v := fun ad => .int 0) C hin dX2_init_11 ifl_X2_15 ff_2_1 Kc_41 (by decide) (fun _ => rfl) (fun _ => rfl) (fun _ => rfl) ?_
  show BW Y X 42 1 14 (fun ad => [(0, .ref (ad 41))]) (fun _ => []) 42 ((41, 1) :: (41, 0) :: B_41) 0 0
  refine b_aload_n C (fun ad => ad 41) dX2_init_14 0 (fun _ => rfl) ?_
  show BW Y X 42 1 15 (fun ad => [(0, .ref (ad 41))]) (fun ad => [.ref (ad 41)]) 42 ((41, 1) :: (41, 0) :: B_41) 0 0
  refine b_bipush (v := 60) C dX2_init_15 (by decide) ?_
  show BW Y X 42 1 17 (fun ad => [(0, .ref (ad 41))]) (fun ad => [.int 60, .ref (ad 41)]) 42 ((41, 1) :: (41, 0) :: B_41) 0 0
  refine b_newa C dX2_init_17 ac_int Kc_42 (by decide) (by decide) (by decide) (GB_of (by decide +kernel)) (by decide) (Nat.le_of_ble_eq_true rfl) (Nat.le_of_ble_eq_true rfl) (fun ad ad' h => by simp only [h 41 (Or.inl (by decide))]) (fun ad ad' h => by simp only [h 41 (Or.inl (by decide))]) ?_
  show BW Y X 42 1 19 (fun ad => [(0, .ref (ad 41))]) (fun ad => [.ref (ad 42), .ref (ad 41)]) 43 ((41, 1) :: (41, 0) :: B_41) 1 60
  refine b_put (k0 := 41) (v := fun ad => .ref (ad 42)) C hin dX2_init_19 ifl_X2_18 ff_2_2 Kc_41 (by decide) (fun _ => rfl) (fun _ => rfl) (fun _ => rfl) ?_
  show BW Y X 42 1 22 (fun ad => [(0, .ref (ad 41))]) (fun _ => []) 43 ((41, 2) :: (41, 1) :: (41, 0) :: B_41) 1 60
  exact b_vret C dX2_init_22 E rfl rfl rfl rfl
def B_43 : BL := [(36, 2), (41, 2), (41, 1), (41, 0), (36, 1), (39, 2), (39, 1), (39, 0), (36, 0), (37, 2), (37, 1), (37, 0), (0, 7), (0, 6), (31, 4), (31, 3), (31, 2), (31, 1), (0, 5), (26, 1), (26, 0), (26, 5), (26, 4), (26, 3), (26, 2), (0, 4), (21, 1), (21, 0), (21, 5), (21, 4), (21, 3), (21, 2), (0, 3), (13, 9), (13, 8), (13, 7), (13, 5), (13, 4), (13, 2), (13, 1), (0, 2), (5, 9), (5, 8), (5, 7), (5, 5), (5, 4), (5, 2), (5, 1), (0, 1), (3, 4), (3, 3), (3, 2), (3, 1), (3, 0), (0, 0), (1, 4), (1, 3), (1, 2), (1, 1), (1, 0)]
abbrev rmI_43 : Room := { frames := 1, cells := 1, slots := 60, locals := 20 }
abbrev E_43 : BL := (43, 2) :: (43, 1) :: (43, 0) :: B_43
theorem mk_43 (Y : EY) : MB Y yX2_init cX2_init 1 rmI_43 (.ref (Y.2.2.2.1 43) :: ((fun _ => [])) Y.2.2.2.1) 44 B_43 45 E_43 := by
  refine MB.of (ls := (fun ad => [(0, .ref (ad 43))])) (by decide) rfl (Nat.le_of_ble_eq_true rfl) (fun ad h => by simp only [h 43 (Or.inl (by decide))]; rfl) (fun X E C => ?_)
  have hin := E.1
  show BW Y X 44 1 0 (fun ad => [(0, .ref (ad 43))]) (fun _ => []) 44 (B_43) 0 0
  refine b_aload_n C (fun ad => ad 43) dX2_init_0 0 (fun _ => rfl) ?_
  show BW Y X 44 1 1 (fun ad => [(0, .ref (ad 43))]) (fun ad => [.ref (ad 43)]) 44 (B_43) 0 0
  refine b_objInit (x := fun ad => ad 43) C dX2_init_1 oi_X2_3 oi_2 oi_3 (Nat.le_of_ble_eq_true rfl) (fun _ => Nat.le_of_ble_eq_true rfl) ?_
  show BW Y X 44 1 4 (fun ad => [(0, .ref (ad 43))]) (fun _ => []) 44 (B_43) 0 0
  refine b_aload_n C (fun ad => ad 43) dX2_init_4 0 (fun _ => rfl) ?_
  show BW Y X 44 1 5 (fun ad => [(0, .ref (ad 43))]) (fun ad => [.ref (ad 43)]) 44 (B_43) 0 0
  refine b_iconst (v := -1) C dX2_init_5 (by decide) ?_
  show BW Y X 44 1 6 (fun ad => [(0, .ref (ad 43))]) (fun ad => [.int (-1), .ref (ad 43)]) 44 (B_43) 0 0
  refine b_put (k0 := 43) (v := fun ad => .int (-1)) C hin dX2_init_6 ifl_X2_9 ff_2_0 Kc_43 (by decide) (fun _ => rfl) (fun _ => rfl) (fun _ => rfl) ?_
  show BW Y X 44 1 9 (fun ad => [(0, .ref (ad 43))]) (fun _ => []) 44 ((43, 0) :: B_43) 0 0
  refine b_aload_n C (fun ad => ad 43) dX2_init_9 0 (fun _ => rfl) ?_
  show BW Y X 44 1 10 (fun ad => [(0, .ref (ad 43))]) (fun ad => [.ref (ad 43)]) 44 ((43, 0) :: B_43) 0 0
  refine b_iconst (v := 0) C dX2_init_10 (by decide) ?_
  show BW Y X 44 1 11 (fun ad => [(0, .ref (ad 43))]) (fun ad => [.int 0, .ref (ad 43)]) 44 ((43, 0) :: B_43) 0 0
  refine b_put (k0 := 43) (v := fun ad => .int 0) C hin dX2_init_11 ifl_X2_15 ff_2_1 Kc_43 (by decide) (fun _ => rfl) (fun _ => rfl) (fun _ => rfl) ?_
  show BW Y X 44 1 14 (fun ad => [(0, .ref (ad 43))]) (fun _ => []) 44 ((43, 1) :: (43, 0) :: B_43) 0 0
  refine b_aload_n C (fun ad => ad 43) dX2_init_14 0 (fun _ => rfl) ?_
  show BW Y X 44 1 15 (fun ad => [(0, .ref (ad 43))]) (fun ad => [.ref (ad 43)]) 44 ((43, 1) :: (43, 0) :: B_43) 0 0
  refine b_bipush (v := 60) C dX2_init_15 (by decide) ?_
  show BW Y X 44 1 17 (fun ad => [(0, .ref (ad 43))]) (fun ad => [.int 60, .ref (ad 43)]) 44 ((43, 1) :: (43, 0) :: B_43) 0 0
  refine b_newa C dX2_init_17 ac_int Kc_44 (by decide) (by decide) (by decide) (GB_of (by decide +kernel)) (by decide) (Nat.le_of_ble_eq_true rfl) (Nat.le_of_ble_eq_true rfl) (fun ad ad' h => by simp only [h 43 (Or.inl (by decide))]) (fun ad ad' h => by simp only [h 43 (Or.inl (by decide))]) ?_
  show BW Y X 44 1 19 (fun ad => [(0, .ref (ad 43))]) (fun ad => [.ref (ad 44), .ref (ad 43)]) 45 ((43, 1) :: (43, 0) :: B_43) 1 60
  refine b_put (k0 := 43) (v := fun ad => .ref (ad 44)) C hin dX2_init_19 ifl_X2_18 ff_2_2 Kc_43 (by decide) (fun _ => rfl) (fun _ => rfl) (fun _ => rfl) ?_
  show BW Y X 44 1 22 (fun ad => [(0, .ref (ad 43))]) (fun _ => []) 45 ((43, 2) :: (43, 1) :: (43, 0) :: B_43) 1 60
  exact b_vret C dX2_init_22 E rfl rfl rfl rfl
set_option maxRecDepth 20000 in
theorem ifl_X5_61 : FL RX5 61 5 8 := ⟨(RX5, TX5, 14), rfl, rfl, by decide, by decide, gT_in 260 (by decide +kernel) (by decide +kernel), inG5⟩
theorem ff_5_8 : FF RX5 5 8 true (.array .int) := fun r h => by cases h; exact ⟨rfl, rfl, by decide +kernel⟩
set_option maxRecDepth 20000 in
theorem ifl_X5_65 : FL RX5 65 5 9 := ⟨(RX5, TX5, 14), rfl, rfl, by decide, by decide, gT_in 261 (by decide +kernel) (by decide +kernel), inG5⟩
theorem ff_5_9 : FF RX5 5 9 false (.boolean) := fun r h => by cases h; exact ⟨rfl, rfl, by decide +kernel⟩
set_option maxRecDepth 20000 in
theorem ifl_X5_69 : FL RX5 69 5 10 := ⟨(RX5, TX5, 14), rfl, rfl, by decide, by decide, gT_in 262 (by decide +kernel) (by decide +kernel), inG5⟩
theorem ff_5_10 : FF RX5 5 10 true (.array .int) := fun r h => by cases h; exact ⟨rfl, rfl, by decide +kernel⟩
set_option maxRecDepth 20000 in
theorem ifl_X5_72 : FL RX5 72 5 11 := ⟨(RX5, TX5, 14), rfl, rfl, by decide, by decide, gT_in 263 (by decide +kernel) (by decide +kernel), inG5⟩
theorem ff_5_11 : FF RX5 5 11 true (.array .int) := fun r h => by cases h; exact ⟨rfl, rfl, by decide +kernel⟩
set_option maxRecDepth 20000 in
theorem ifl_X5_75 : FL RX5 75 5 12 := ⟨(RX5, TX5, 14), rfl, rfl, by decide, by decide, gT_in 264 (by decide +kernel) (by decide +kernel), inG5⟩
theorem ff_5_12 : FF RX5 5 12 true (.array .int) := fun r h => by cases h; exact ⟨rfl, rfl, by decide +kernel⟩
set_option maxRecDepth 20000 in
theorem ifl_X5_78 : FL RX5 78 5 13 := ⟨(RX5, TX5, 14), rfl, rfl, by decide, by decide, gT_in 265 (by decide +kernel) (by decide +kernel), inG5⟩
theorem ff_5_13 : FF RX5 5 13 false (.int) := fun r h => by cases h; exact ⟨rfl, rfl, by decide +kernel⟩
abbrev rmI_0 : Room := { frames := 2, cells := 48, slots := 1323, locals := 44 }
abbrev E_0 : BL := (0, 13) :: (0, 12) :: (0, 11) :: (0, 10) :: (0, 9) :: (0, 8) :: (36, 3) :: E_43
set_option maxRecDepth 20000 in
theorem ilm_5 : LM yX5_init cX5_init 2 none 0 := ⟨gT_in 89 (by decide +kernel) (by decide +kernel), gT_in 70 (by decide +kernel) (by decide +kernel), by decide, by decide, by decide +kernel⟩
set_option maxRecDepth 20000 in
theorem iim_5 : Cond.instanceMethod yX5_init ∈ gT := gT_in 88 (by decide +kernel) (by decide +kernel)
theorem mk_0 (Y : EY) : MB Y yX5_init cX5_init 2 rmI_0 (.ref (Y.2.2.2.1 0) :: ((fun _ => [])) Y.2.2.2.1) 1 B_0 49 E_0 := by
  refine MB.of (ls := (fun ad => [(0, .ref (ad 0))])) (by decide) rfl (Nat.le_of_ble_eq_true rfl) (fun ad h => by simp only [h 0 (Or.inl (by decide))]; rfl) (fun X E C => ?_)
  have hin := E.1
  show BW Y X 1 2 0 (fun ad => [(0, .ref (ad 0))]) (fun _ => []) 1 (B_0) 0 0
  refine b_aload_n C (fun ad => ad 0) dX5_init_0 0 (fun _ => rfl) ?_
  show BW Y X 1 2 1 (fun ad => [(0, .ref (ad 0))]) (fun ad => [.ref (ad 0)]) 1 (B_0) 0 0
  refine b_objInit (x := fun ad => ad 0) C dX5_init_1 oi_X5_3 oi_2 oi_3 (Nat.le_of_ble_eq_true rfl) (fun _ => Nat.le_of_ble_eq_true rfl) ?_
  show BW Y X 1 2 4 (fun ad => [(0, .ref (ad 0))]) (fun _ => []) 1 (B_0) 0 0
  refine b_aload_n C (fun ad => ad 0) dX5_init_4 0 (fun _ => rfl) ?_
  show BW Y X 1 2 5 (fun ad => [(0, .ref (ad 0))]) (fun ad => [.ref (ad 0)]) 1 (B_0) 0 0
  refine b_new C dX5_init_5 nw_X5_9 Kc_1 (GB_of (by decide +kernel)) (by decide) (Nat.le_of_ble_eq_true rfl) (Nat.le_of_ble_eq_true rfl) (fun ad ad' h => by simp only [h 0 (Or.inl (by decide))]) (fun ad ad' h => by simp only [h 0 (Or.inl (by decide))]) ?_
  show BW Y X 1 2 8 (fun ad => [(0, .ref (ad 0))]) (fun ad => [.ref (ad 1), .ref (ad 0)]) 2 (B_0) 1 5
  refine b_dup (v := fun ad => ad 1) C dX5_init_8 ?_
  show BW Y X 1 2 9 (fun ad => [(0, .ref (ad 0))]) (fun ad => [.ref (ad 1), .ref (ad 1), .ref (ad 0)]) 2 (B_0) 1 5
  refine b_bipush (v := 55) C dX5_init_9 (by decide) ?_
  show BW Y X 1 2 11 (fun ad => [(0, .ref (ad 0))]) (fun ad => [.int 55, .ref (ad 1), .ref (ad 1), .ref (ad 0)]) 2 (B_0) 1 5
  refine b_newa C dX5_init_11 ac_int Kc_2 (by decide) (by decide) (by decide) (GB_of (by decide +kernel)) (by decide) (Nat.le_of_ble_eq_true rfl) (Nat.le_of_ble_eq_true rfl) (fun ad ad' h => by simp only [h 0 (Or.inl (by decide)), h 1 (Or.inl (by decide))]) (fun ad ad' h => by simp only [h 0 (Or.inl (by decide))]) ?_
  show BW Y X 1 2 13 (fun ad => [(0, .ref (ad 0))]) (fun ad => [.ref (ad 2), .ref (ad 1), .ref (ad 1), .ref (ad 0)]) 3 (B_0) 2 60
  refine b_ldcS (q := 71) C (by decide) C.2.2.2.2.2.2.1.2.1 dX5_init_13 ?_
  show BW Y X 1 2 15 (fun ad => [(0, .ref (ad 0))]) (fun ad => [.ref (ad 71), .ref (ad 2), .ref (ad 1), .ref (ad 1), .ref (ad 0)]) 3 (B_0) 2 60
  refine b_iconst (v := 5) C dX5_init_15 (by decide) ?_
  show BW Y X 1 2 16 (fun ad => [(0, .ref (ad 0))]) (fun ad => [.int 5, .ref (ad 71), .ref (ad 2), .ref (ad 1), .ref (ad 1), .ref (ad 0)]) 3 (B_0) 2 60
  refine b_bipush (v := 57) C dX5_init_16 (by decide) ?_
  show BW Y X 1 2 18 (fun ad => [(0, .ref (ad 0))]) (fun ad => [.int 57, .int 5, .ref (ad 71), .ref (ad 2), .ref (ad 1), .ref (ad 1), .ref (ad 0)]) 3 (B_0) 2 60
  refine b_ctor (y := yX3_init) (k0 := 1) (as := (fun ad => [.ref (ad 2), .ref (ad 71), .int 5, .int 57])) (rest := (fun ad => [.ref (ad 1), .ref (ad 0)])) C dX5_init_18 iml_X5_13 iim_3 rfl ilm_3 mk_1 ⟨Nat.le_of_ble_eq_true rfl, Nat.le_of_ble_eq_true rfl⟩ (fun _ => rfl) (fun _ => rfl) (fun _ => Nat.le_of_ble_eq_true rfl) (by decide) (Nat.le_of_ble_eq_true rfl) (Nat.le_of_ble_eq_true rfl) (fun ad ad' h => by simp only [h 0 (Or.inl (by decide)), h 1 (Or.inl (by decide))]) (fun ad ad' h => by simp only [h 0 (Or.inl (by decide))]) ?_
  show BW Y X 1 2 21 (fun ad => [(0, .ref (ad 0))]) (fun ad => [.ref (ad 1), .ref (ad 0)]) 3 (E_1) 2 60
  refine b_put (k0 := 0) (v := fun ad => .ref (ad 1)) C hin dX5_init_21 ifl_X5_16 ff_5_0 Kc_0 (by decide) (fun _ => rfl) (fun _ => rfl) (fun _ => rfl) ?_
  show BW Y X 1 2 24 (fun ad => [(0, .ref (ad 0))]) (fun _ => []) 3 ((0, 0) :: E_1) 2 60
  refine b_aload_n C (fun ad => ad 0) dX5_init_24 0 (fun _ => rfl) ?_
  show BW Y X 1 2 25 (fun ad => [(0, .ref (ad 0))]) (fun ad => [.ref (ad 0)]) 3 ((0, 0) :: E_1) 2 60
  refine b_new C dX5_init_25 nw_X5_9 Kc_3 (GB_of (by decide +kernel)) (by decide) (Nat.le_of_ble_eq_true rfl) (Nat.le_of_ble_eq_true rfl) (fun ad ad' h => by simp only [h 0 (Or.inl (by decide))]) (fun ad ad' h => by simp only [h 0 (Or.inl (by decide))]) ?_
  show BW Y X 1 2 28 (fun ad => [(0, .ref (ad 0))]) (fun ad => [.ref (ad 3), .ref (ad 0)]) 4 ((0, 0) :: E_1) 3 65
  refine b_dup (v := fun ad => ad 3) C dX5_init_28 ?_
  show BW Y X 1 2 29 (fun ad => [(0, .ref (ad 0))]) (fun ad => [.ref (ad 3), .ref (ad 3), .ref (ad 0)]) 4 ((0, 0) :: E_1) 3 65
  refine b_bipush (v := 23) C dX5_init_29 (by decide) ?_
  show BW Y X 1 2 31 (fun ad => [(0, .ref (ad 0))]) (fun ad => [.int 23, .ref (ad 3), .ref (ad 3), .ref (ad 0)]) 4 ((0, 0) :: E_1) 3 65
  refine b_newa C dX5_init_31 ac_int Kc_4 (by decide) (by decide) (by decide) (GB_of (by decide +kernel)) (by decide) (Nat.le_of_ble_eq_true rfl) (Nat.le_of_ble_eq_true rfl) (fun ad ad' h => by simp only [h 0 (Or.inl (by decide)), h 3 (Or.inl (by decide))]) (fun ad ad' h => by simp only [h 0 (Or.inl (by decide))]) ?_
  show BW Y X 1 2 33 (fun ad => [(0, .ref (ad 0))]) (fun ad => [.ref (ad 4), .ref (ad 3), .ref (ad 3), .ref (ad 0)]) 5 ((0, 0) :: E_1) 4 88
  refine b_ldcS (q := 72) C (by decide) C.2.2.2.2.2.2.1.2.2.1 dX5_init_33 ?_
  show BW Y X 1 2 35 (fun ad => [(0, .ref (ad 0))]) (fun ad => [.ref (ad 72), .ref (ad 4), .ref (ad 3), .ref (ad 3), .ref (ad 0)]) 5 ((0, 0) :: E_1) 4 88
  refine b_iconst (v := 1) C dX5_init_35 (by decide) ?_
  show BW Y X 1 2 36 (fun ad => [(0, .ref (ad 0))]) (fun ad => [.int 1, .ref (ad 72), .ref (ad 4), .ref (ad 3), .ref (ad 3), .ref (ad 0)]) 5 ((0, 0) :: E_1) 4 88
  refine b_bipush (v := 55) C dX5_init_36 (by decide) ?_
  show BW Y X 1 2 38 (fun ad => [(0, .ref (ad 0))]) (fun ad => [.int 55, .int 1, .ref (ad 72), .ref (ad 4), .ref (ad 3), .ref (ad 3), .ref (ad 0)]) 5 ((0, 0) :: E_1) 4 88
  refine b_ctor (y := yX3_init) (k0 := 3) (as := (fun ad => [.ref (ad 4), .ref (ad 72), .int 1, .int 55])) (rest := (fun ad => [.ref (ad 3), .ref (ad 0)])) C dX5_init_38 iml_X5_13 iim_3 rfl ilm_3 mk_3 ⟨Nat.le_of_ble_eq_true rfl, Nat.le_of_ble_eq_true rfl⟩ (fun _ => rfl) (fun _ => rfl) (fun _ => Nat.le_of_ble_eq_true rfl) (by decide) (Nat.le_of_ble_eq_true rfl) (Nat.le_of_ble_eq_true rfl) (fun ad ad' h => by simp only [h 0 (Or.inl (by decide)), h 3 (Or.inl (by decide))]) (fun ad ad' h => by simp only [h 0 (Or.inl (by decide))]) ?_
  show BW Y X 1 2 41 (fun ad => [(0, .ref (ad 0))]) (fun ad => [.ref (ad 3), .ref (ad 0)]) 5 (E_3) 4 88
  refine b_put (k0 := 0) (v := fun ad => .ref (ad 3)) C hin dX5_init_41 ifl_X5_22 ff_5_1 Kc_0 (by decide) (fun _ => rfl) (fun _ => rfl) (fun _ => rfl) ?_
  show BW Y X 1 2 44 (fun ad => [(0, .ref (ad 0))]) (fun _ => []) 5 ((0, 1) :: E_3) 4 88
  refine b_aload_n C (fun ad => ad 0) dX5_init_44 0 (fun _ => rfl) ?_
  show BW Y X 1 2 45 (fun ad => [(0, .ref (ad 0))]) (fun ad => [.ref (ad 0)]) 5 ((0, 1) :: E_3) 4 88
  refine b_new C dX5_init_45 nw_X5_25 Kc_5 (GB_of (by decide +kernel)) (by decide) (Nat.le_of_ble_eq_true rfl) (Nat.le_of_ble_eq_true rfl) (fun ad ad' h => by simp only [h 0 (Or.inl (by decide))]) (fun ad ad' h => by simp only [h 0 (Or.inl (by decide))]) ?_
  show BW Y X 1 2 48 (fun ad => [(0, .ref (ad 0))]) (fun ad => [.ref (ad 5), .ref (ad 0)]) 6 ((0, 1) :: E_3) 5 98
  refine b_dup (v := fun ad => ad 5) C dX5_init_48 ?_
  show BW Y X 1 2 49 (fun ad => [(0, .ref (ad 0))]) (fun ad => [.ref (ad 5), .ref (ad 5), .ref (ad 0)]) 6 ((0, 1) :: E_3) 5 98
  refine b_ctorN (y := yX1_init) (k0 := 5) (as := (fun _ => [])) (rest := (fun ad => [.ref (ad 5), .ref (ad 0)])) C rfl dX5_init_49 (by decide) iim_1 rfl ilm_1 mk_5 ⟨Nat.le_of_ble_eq_true rfl, Nat.le_of_ble_eq_true rfl⟩ (fun _ => rfl) (fun _ => rfl) (fun _ => Nat.le_of_ble_eq_true rfl) (by decide) (Nat.le_of_ble_eq_true rfl) (Nat.le_of_ble_eq_true rfl) (fun ad ad' h => by simp only [h 0 (Or.inl (by decide)), h 5 (Or.inl (by decide))]) (fun ad ad' h => by simp only [h 0 (Or.inl (by decide))]) ?_
  show BW Y X 1 2 52 (fun ad => [(0, .ref (ad 0))]) (fun ad => [.ref (ad 5), .ref (ad 0)]) 13 (E_5) 12 189
  refine b_put (k0 := 0) (v := fun ad => .ref (ad 5)) C hin dX5_init_52 ifl_X5_28 ff_5_2 Kc_0 (by decide) (fun _ => rfl) (fun _ => rfl) (fun _ => rfl) ?_
  show BW Y X 1 2 55 (fun ad => [(0, .ref (ad 0))]) (fun _ => []) 13 ((0, 2) :: E_5) 12 189
  refine b_aload_n C (fun ad => ad 0) dX5_init_55 0 (fun _ => rfl) ?_
  show BW Y X 1 2 56 (fun ad => [(0, .ref (ad 0))]) (fun ad => [.ref (ad 0)]) 13 ((0, 2) :: E_5) 12 189
  refine b_new C dX5_init_56 nw_X5_25 Kc_13 (GB_of (by decide +kernel)) (by decide) (Nat.le_of_ble_eq_true rfl) (Nat.le_of_ble_eq_true rfl) (fun ad ad' h => by simp only [h 0 (Or.inl (by decide))]) (fun ad ad' h => by simp only [h 0 (Or.inl (by decide))]) ?_
  show BW Y X 1 2 59 (fun ad => [(0, .ref (ad 0))]) (fun ad => [.ref (ad 13), .ref (ad 0)]) 14 ((0, 2) :: E_5) 13 199
  refine b_dup (v := fun ad => ad 13) C dX5_init_59 ?_
  show BW Y X 1 2 60 (fun ad => [(0, .ref (ad 0))]) (fun ad => [.ref (ad 13), .ref (ad 13), .ref (ad 0)]) 14 ((0, 2) :: E_5) 13 199
  refine b_ctorN (y := yX1_init) (k0 := 13) (as := (fun _ => [])) (rest := (fun ad => [.ref (ad 13), .ref (ad 0)])) C rfl dX5_init_60 (by decide) iim_1 rfl ilm_1 mk_13 ⟨Nat.le_of_ble_eq_true rfl, Nat.le_of_ble_eq_true rfl⟩ (fun _ => rfl) (fun _ => rfl) (fun _ => Nat.le_of_ble_eq_true rfl) (by decide) (Nat.le_of_ble_eq_true rfl) (Nat.le_of_ble_eq_true rfl) (fun ad ad' h => by simp only [h 0 (Or.inl (by decide)), h 13 (Or.inl (by decide))]) (fun ad ad' h => by simp only [h 0 (Or.inl (by decide))]) ?_
  show BW Y X 1 2 63 (fun ad => [(0, .ref (ad 0))]) (fun ad => [.ref (ad 13), .ref (ad 0)]) 21 (E_13) 20 290
  refine b_put (k0 := 0) (v := fun ad => .ref (ad 13)) C hin dX5_init_63 ifl_X5_32 ff_5_3 Kc_0 (by decide) (fun _ => rfl) (fun _ => rfl) (fun _ => rfl) ?_
  show BW Y X 1 2 66 (fun ad => [(0, .ref (ad 0))]) (fun _ => []) 21 ((0, 3) :: E_13) 20 290
  refine b_aload_n C (fun ad => ad 0) dX5_init_66 0 (fun _ => rfl) ?_
  show BW Y X 1 2 67 (fun ad => [(0, .ref (ad 0))]) (fun ad => [.ref (ad 0)]) 21 ((0, 3) :: E_13) 20 290
  refine b_new C dX5_init_67 nw_X5_35 Kc_21 (GB_of (by decide +kernel)) (by decide) (Nat.le_of_ble_eq_true rfl) (Nat.le_of_ble_eq_true rfl) (fun ad ad' h => by simp only [h 0 (Or.inl (by decide))]) (fun ad ad' h => by simp only [h 0 (Or.inl (by decide))]) ?_
  show BW Y X 1 2 70 (fun ad => [(0, .ref (ad 0))]) (fun ad => [.ref (ad 21), .ref (ad 0)]) 22 ((0, 3) :: E_13) 21 296
  refine b_dup (v := fun ad => ad 21) C dX5_init_70 ?_
  show BW Y X 1 2 71 (fun ad => [(0, .ref (ad 0))]) (fun ad => [.ref (ad 21), .ref (ad 21), .ref (ad 0)]) 22 ((0, 3) :: E_13) 21 296
  refine b_aload_n C (fun ad => ad 0) dX5_init_71 0 (fun _ => rfl) ?_
  show BW Y X 1 2 72 (fun ad => [(0, .ref (ad 0))]) (fun ad => [.ref (ad 0), .ref (ad 21), .ref (ad 21), .ref (ad 0)]) 22 ((0, 3) :: E_13) 21 296
  refine b_getr (k0 := 0) (k1 := 5) C dX5_init_72 ifl_X5_28 rfl Kc_0 (by decide) (by decide +kernel) rfl ?_
  show BW Y X 1 2 75 (fun ad => [(0, .ref (ad 0))]) (fun ad => [.ref (ad 5), .ref (ad 21), .ref (ad 21), .ref (ad 0)]) 22 ((0, 3) :: E_13) 21 296
  refine b_ctor (y := yX4_init) (k0 := 21) (as := (fun ad => [.ref (ad 5)])) (rest := (fun ad => [.ref (ad 21), .ref (ad 0)])) C dX5_init_75 iml_X5_37 iim_4 rfl ilm_4 mk_21 ⟨Nat.le_of_ble_eq_true rfl, Nat.le_of_ble_eq_true rfl⟩ (fun _ => rfl) (fun _ => rfl) (fun _ => Nat.le_of_ble_eq_true rfl) (by decide) (Nat.le_of_ble_eq_true rfl) (Nat.le_of_ble_eq_true rfl) (fun ad ad' h => by simp only [h 0 (Or.inl (by decide)), h 21 (Or.inl (by decide))]) (fun ad ad' h => by simp only [h 0 (Or.inl (by decide))]) ?_
  show BW Y X 1 2 78 (fun ad => [(0, .ref (ad 0))]) (fun ad => [.ref (ad 21), .ref (ad 0)]) 26 (E_21) 25 392
  refine b_put (k0 := 0) (v := fun ad => .ref (ad 21)) C hin dX5_init_78 ifl_X5_40 ff_5_4 Kc_0 (by decide) (fun _ => rfl) (fun _ => rfl) (fun _ => rfl) ?_
  show BW Y X 1 2 81 (fun ad => [(0, .ref (ad 0))]) (fun _ => []) 26 ((0, 4) :: E_21) 25 392
  refine b_aload_n C (fun ad => ad 0) dX5_init_81 0 (fun _ => rfl) ?_
  show BW Y X 1 2 82 (fun ad => [(0, .ref (ad 0))]) (fun ad => [.ref (ad 0)]) 26 ((0, 4) :: E_21) 25 392
  refine b_new C dX5_init_82 nw_X5_35 Kc_26 (GB_of (by decide +kernel)) (by decide) (Nat.le_of_ble_eq_true rfl) (Nat.le_of_ble_eq_true rfl) (fun ad ad' h => by simp only [h 0 (Or.inl (by decide))]) (fun ad ad' h => by simp only [h 0 (Or.inl (by decide))]) ?_
  show BW Y X 1 2 85 (fun ad => [(0, .ref (ad 0))]) (fun ad => [.ref (ad 26), .ref (ad 0)]) 27 ((0, 4) :: E_21) 26 398
  refine b_dup (v := fun ad => ad 26) C dX5_init_85 ?_
  show BW Y X 1 2 86 (fun ad => [(0, .ref (ad 0))]) (fun ad => [.ref (ad 26), .ref (ad 26), .ref (ad 0)]) 27 ((0, 4) :: E_21) 26 398
  refine b_aload_n C (fun ad => ad 0) dX5_init_86 0 (fun _ => rfl) ?_
  show BW Y X 1 2 87 (fun ad => [(0, .ref (ad 0))]) (fun ad => [.ref (ad 0), .ref (ad 26), .ref (ad 26), .ref (ad 0)]) 27 ((0, 4) :: E_21) 26 398
  refine b_getr (k0 := 0) (k1 := 13) C dX5_init_87 ifl_X5_32 rfl Kc_0 (by decide) (by decide +kernel) rfl ?_
  show BW Y X 1 2 90 (fun ad => [(0, .ref (ad 0))]) (fun ad => [.ref (ad 13), .ref (ad 26), .ref (ad 26), .ref (ad 0)]) 27 ((0, 4) :: E_21) 26 398
  refine b_ctor (y := yX4_init) (k0 := 26) (as := (fun ad => [.ref (ad 13)])) (rest := (fun ad => [.ref (ad 26), .ref (ad 0)])) C dX5_init_90 iml_X5_37 iim_4 rfl ilm_4 mk_26 ⟨Nat.le_of_ble_eq_true rfl, Nat.le_of_ble_eq_true rfl⟩ (fun _ => rfl) (fun _ => rfl) (fun _ => Nat.le_of_ble_eq_true rfl) (by decide) (Nat.le_of_ble_eq_true rfl) (Nat.le_of_ble_eq_true rfl) (fun ad ad' h => by simp only [h 0 (Or.inl (by decide)), h 26 (Or.inl (by decide))]) (fun ad ad' h => by simp only [h 0 (Or.inl (by decide))]) ?_
  show BW Y X 1 2 93 (fun ad => [(0, .ref (ad 0))]) (fun ad => [.ref (ad 26), .ref (ad 0)]) 31 (E_26) 30 494
  refine b_put (k0 := 0) (v := fun ad => .ref (ad 26)) C hin dX5_init_93 ifl_X5_44 ff_5_5 Kc_0 (by decide) (fun _ => rfl) (fun _ => rfl) (fun _ => rfl) ?_
  show BW Y X 1 2 96 (fun ad => [(0, .ref (ad 0))]) (fun _ => []) 31 ((0, 5) :: E_26) 30 494
  refine b_aload_n C (fun ad => ad 0) dX5_init_96 0 (fun _ => rfl) ?_
  show BW Y X 1 2 97 (fun ad => [(0, .ref (ad 0))]) (fun ad => [.ref (ad 0)]) 31 ((0, 5) :: E_26) 30 494
  refine b_new C dX5_init_97 nw_X5_47 Kc_31 (GB_of (by decide +kernel)) (by decide) (Nat.le_of_ble_eq_true rfl) (Nat.le_of_ble_eq_true rfl) (fun ad ad' h => by simp only [h 0 (Or.inl (by decide))]) (fun ad ad' h => by simp only [h 0 (Or.inl (by decide))]) ?_
  show BW Y X 1 2 100 (fun ad => [(0, .ref (ad 0))]) (fun ad => [.ref (ad 31), .ref (ad 0)]) 32 ((0, 5) :: E_26) 31 499
  refine b_dup (v := fun ad => ad 31) C dX5_init_100 ?_
  show BW Y X 1 2 101 (fun ad => [(0, .ref (ad 0))]) (fun ad => [.ref (ad 31), .ref (ad 31), .ref (ad 0)]) 32 ((0, 5) :: E_26) 31 499
  refine b_ctorN (y := yX0_init) (k0 := 31) (as := (fun _ => [])) (rest := (fun ad => [.ref (ad 31), .ref (ad 0)])) C rfl dX5_init_101 (by decide) iim_0 rfl ilm_0 mk_31 ⟨Nat.le_of_ble_eq_true rfl, Nat.le_of_ble_eq_true rfl⟩ (fun _ => rfl) (fun _ => rfl) (fun _ => Nat.le_of_ble_eq_true rfl) (by decide) (Nat.le_of_ble_eq_true rfl) (Nat.le_of_ble_eq_true rfl) (fun ad ad' h => by simp only [h 0 (Or.inl (by decide)), h 31 (Or.inl (by decide))]) (fun ad ad' h => by simp only [h 0 (Or.inl (by decide))]) ?_
  show BW Y X 1 2 104 (fun ad => [(0, .ref (ad 0))]) (fun ad => [.ref (ad 31), .ref (ad 0)]) 36 (E_31) 35 531
  refine b_put (k0 := 0) (v := fun ad => .ref (ad 31)) C hin dX5_init_104 ifl_X5_50 ff_5_6 Kc_0 (by decide) (fun _ => rfl) (fun _ => rfl) (fun _ => rfl) ?_
  show BW Y X 1 2 107 (fun ad => [(0, .ref (ad 0))]) (fun _ => []) 36 ((0, 6) :: E_31) 35 531
  refine b_aload_n C (fun ad => ad 0) dX5_init_107 0 (fun _ => rfl) ?_
  show BW Y X 1 2 108 (fun ad => [(0, .ref (ad 0))]) (fun ad => [.ref (ad 0)]) 36 ((0, 6) :: E_31) 35 531
  refine b_iconst (v := 4) C dX5_init_108 (by decide) ?_
  show BW Y X 1 2 109 (fun ad => [(0, .ref (ad 0))]) (fun ad => [.int 4, .ref (ad 0)]) 36 ((0, 6) :: E_31) 35 531
  refine b_newq C dX5_init_109 icl_54 Kc_36 (GB_of (by decide +kernel)) (by decide) (Nat.le_of_ble_eq_true rfl) (Nat.le_of_ble_eq_true rfl) (fun ad ad' h => by simp only [h 0 (Or.inl (by decide))]) (fun ad ad' h => by simp only [h 0 (Or.inl (by decide))]) ?_
  show BW Y X 1 2 112 (fun ad => [(0, .ref (ad 0))]) (fun ad => [.ref (ad 36), .ref (ad 0)]) 37 ((0, 6) :: E_31) 36 535
  refine b_put (k0 := 0) (v := fun ad => .ref (ad 36)) C hin dX5_init_112 ifl_X5_56 ff_5_7 Kc_0 (by decide) (fun _ => rfl) (fun _ => rfl) (fun _ => rfl) ?_
  show BW Y X 1 2 115 (fun ad => [(0, .ref (ad 0))]) (fun _ => []) 37 ((0, 7) :: (0, 6) :: E_31) 36 535
  refine b_iconst (v := 0) C dX5_init_115 (by decide) ?_
  show BW Y X 1 2 116 (fun ad => [(0, .ref (ad 0))]) (fun _ => [.int 0]) 37 ((0, 7) :: (0, 6) :: E_31) 36 535
  refine b_istore_n (lv' := (fun ad => [(1, .int 0), (0, .ref (ad 0))])) C dX5_init_116 rfl (by decide) (fun _ => rfl) ?_
  show BW Y X 1 2 117 (fun ad => [(1, .int 0), (0, .ref (ad 0))]) (fun _ => []) 37 ((0, 7) :: (0, 6) :: E_31) 36 535
  refine b_iload_n C (0) dX5_init_117 0 (fun _ => rfl) ?_
  show BW Y X 1 2 118 (fun ad => [(1, .int 0), (0, .ref (ad 0))]) (fun _ => [.int 0]) 37 ((0, 7) :: (0, 6) :: E_31) 36 535
  refine b_iconst (v := 4) C dX5_init_118 (by decide) ?_
  show BW Y X 1 2 119 (fun ad => [(1, .int 0), (0, .ref (ad 0))]) (fun _ => [.int 4, .int 0]) 37 ((0, 7) :: (0, 6) :: E_31) 36 535
  refine b_icmp_ge (tgt := 141) C dX5_init_119 (by decide) (fun hc => absurd hc (by decide)) (fun _ => ?_)
  show BW Y X 1 2 122 (fun ad => [(1, .int 0), (0, .ref (ad 0))]) (fun _ => []) 37 ((0, 7) :: (0, 6) :: E_31) 36 535
  refine b_aload_n C (fun ad => ad 0) dX5_init_122 1 (fun _ => rfl) ?_
  show BW Y X 1 2 123 (fun ad => [(1, .int 0), (0, .ref (ad 0))]) (fun ad => [.ref (ad 0)]) 37 ((0, 7) :: (0, 6) :: E_31) 36 535
  refine b_getr (k0 := 0) (k1 := 36) C dX5_init_123 ifl_X5_56 rfl Kc_0 (by decide) (by decide +kernel) rfl ?_
  show BW Y X 1 2 126 (fun ad => [(1, .int 0), (0, .ref (ad 0))]) (fun ad => [.ref (ad 36)]) 37 ((0, 7) :: (0, 6) :: E_31) 36 535
  refine b_iload_n C (0) dX5_init_126 0 (fun _ => rfl) ?_
  show BW Y X 1 2 127 (fun ad => [(1, .int 0), (0, .ref (ad 0))]) (fun ad => [.int 0, .ref (ad 36)]) 37 ((0, 7) :: (0, 6) :: E_31) 36 535
  refine b_new C dX5_init_127 nw_X5_54 Kc_37 (GB_of (by decide +kernel)) (by decide) (Nat.le_of_ble_eq_true rfl) (Nat.le_of_ble_eq_true rfl) (fun ad ad' h => by simp only [h 36 (Or.inl (by decide))]) (fun ad ad' h => by simp only [h 0 (Or.inl (by decide))]) ?_
  show BW Y X 1 2 130 (fun ad => [(1, .int 0), (0, .ref (ad 0))]) (fun ad => [.ref (ad 37), .int 0, .ref (ad 36)]) 38 ((0, 7) :: (0, 6) :: E_31) 37 538
  refine b_dup (v := fun ad => ad 37) C dX5_init_130 ?_
  show BW Y X 1 2 131 (fun ad => [(1, .int 0), (0, .ref (ad 0))]) (fun ad => [.ref (ad 37), .ref (ad 37), .int 0, .ref (ad 36)]) 38 ((0, 7) :: (0, 6) :: E_31) 37 538
  refine b_ctorN (y := yX2_init) (k0 := 37) (as := (fun _ => [])) (rest := (fun ad => [.ref (ad 37), .int 0, .ref (ad 36)])) C rfl dX5_init_131 (by decide) iim_2 rfl ilm_2 mk_37 ⟨Nat.le_of_ble_eq_true rfl, Nat.le_of_ble_eq_true rfl⟩ (fun _ => rfl) (fun _ => rfl) (fun _ => Nat.le_of_ble_eq_true rfl) (by decide) (Nat.le_of_ble_eq_true rfl) (Nat.le_of_ble_eq_true rfl) (fun ad ad' h => by simp only [h 36 (Or.inl (by decide)), h 37 (Or.inl (by decide))]) (fun ad ad' h => by simp only [h 0 (Or.inl (by decide))]) ?_
  show BW Y X 1 2 134 (fun ad => [(1, .int 0), (0, .ref (ad 0))]) (fun ad => [.ref (ad 37), .int 0, .ref (ad 36)]) 39 (E_37) 38 598
  refine b_aast (k0 := 36) (k1 := 37) (i := 0) C dX5_init_134 Kc_36 (by decide) Kc_37 (by decide) rfl (by decide) rfl ?_
  show BW Y X 1 2 135 (fun ad => [(1, .int 0), (0, .ref (ad 0))]) (fun _ => []) 39 ((36, 0) :: E_37) 38 598
  refine b_iinc (x := 0) (v := 0) (w := 1) (lv' := (fun ad => [(1, .int 1), (0, .ref (ad 0))])) C dX5_init_135 0 (fun _ => rfl) (by decide) (by decide) (fun _ => rfl) ?_
  show BW Y X 1 2 138 (fun ad => [(1, .int 1), (0, .ref (ad 0))]) (fun _ => []) 39 ((36, 0) :: E_37) 38 598
  refine b_goto (tgt := 117) C dX5_init_138 (by decide) ?_
  show BW Y X 1 2 117 (fun ad => [(1, .int 1), (0, .ref (ad 0))]) (fun _ => []) 39 ((36, 0) :: E_37) 38 598
  refine b_iload_n C (1) dX5_init_117 0 (fun _ => rfl) ?_
  show BW Y X 1 2 118 (fun ad => [(1, .int 1), (0, .ref (ad 0))]) (fun _ => [.int 1]) 39 ((36, 0) :: E_37) 38 598
  refine b_iconst (v := 4) C dX5_init_118 (by decide) ?_
  show BW Y X 1 2 119 (fun ad => [(1, .int 1), (0, .ref (ad 0))]) (fun _ => [.int 4, .int 1]) 39 ((36, 0) :: E_37) 38 598
  refine b_icmp_ge (tgt := 141) C dX5_init_119 (by decide) (fun hc => absurd hc (by decide)) (fun _ => ?_)
  show BW Y X 1 2 122 (fun ad => [(1, .int 1), (0, .ref (ad 0))]) (fun _ => []) 39 ((36, 0) :: E_37) 38 598
  refine b_aload_n C (fun ad => ad 0) dX5_init_122 1 (fun _ => rfl) ?_
  show BW Y X 1 2 123 (fun ad => [(1, .int 1), (0, .ref (ad 0))]) (fun ad => [.ref (ad 0)]) 39 ((36, 0) :: E_37) 38 598
  refine b_getr (k0 := 0) (k1 := 36) C dX5_init_123 ifl_X5_56 rfl Kc_0 (by decide) (by decide +kernel) rfl ?_
  show BW Y X 1 2 126 (fun ad => [(1, .int 1), (0, .ref (ad 0))]) (fun ad => [.ref (ad 36)]) 39 ((36, 0) :: E_37) 38 598
  refine b_iload_n C (1) dX5_init_126 0 (fun _ => rfl) ?_
  show BW Y X 1 2 127 (fun ad => [(1, .int 1), (0, .ref (ad 0))]) (fun ad => [.int 1, .ref (ad 36)]) 39 ((36, 0) :: E_37) 38 598
  refine b_new C dX5_init_127 nw_X5_54 Kc_39 (GB_of (by decide +kernel)) (by decide) (Nat.le_of_ble_eq_true rfl) (Nat.le_of_ble_eq_true rfl) (fun ad ad' h => by simp only [h 36 (Or.inl (by decide))]) (fun ad ad' h => by simp only [h 0 (Or.inl (by decide))]) ?_
  show BW Y X 1 2 130 (fun ad => [(1, .int 1), (0, .ref (ad 0))]) (fun ad => [.ref (ad 39), .int 1, .ref (ad 36)]) 40 ((36, 0) :: E_37) 39 601
  refine b_dup (v := fun ad => ad 39) C dX5_init_130 ?_
  show BW Y X 1 2 131 (fun ad => [(1, .int 1), (0, .ref (ad 0))]) (fun ad => [.ref (ad 39), .ref (ad 39), .int 1, .ref (ad 36)]) 40 ((36, 0) :: E_37) 39 601
  refine b_ctorN (y := yX2_init) (k0 := 39) (as := (fun _ => [])) (rest := (fun ad => [.ref (ad 39), .int 1, .ref (ad 36)])) C rfl dX5_init_131 (by decide) iim_2 rfl ilm_2 mk_39 ⟨Nat.le_of_ble_eq_true rfl, Nat.le_of_ble_eq_true rfl⟩ (fun _ => rfl) (fun _ => rfl) (fun _ => Nat.le_of_ble_eq_true rfl) (by decide) (Nat.le_of_ble_eq_true rfl) (Nat.le_of_ble_eq_true rfl) (fun ad ad' h => by simp only [h 36 (Or.inl (by decide)), h 39 (Or.inl (by decide))]) (fun ad ad' h => by simp only [h 0 (Or.inl (by decide))]) ?_
  show BW Y X 1 2 134 (fun ad => [(1, .int 1), (0, .ref (ad 0))]) (fun ad => [.ref (ad 39), .int 1, .ref (ad 36)]) 41 (E_39) 40 661
  refine b_aast (k0 := 36) (k1 := 39) (i := 1) C dX5_init_134 Kc_36 (by decide) Kc_39 (by decide) rfl (by decide) rfl ?_
  show BW Y X 1 2 135 (fun ad => [(1, .int 1), (0, .ref (ad 0))]) (fun _ => []) 41 ((36, 1) :: E_39) 40 661
  refine b_iinc (x := 1) (v := 0) (w := 2) (lv' := (fun ad => [(1, .int 2), (0, .ref (ad 0))])) C dX5_init_135 0 (fun _ => rfl) (by decide) (by decide) (fun _ => rfl) ?_
  show BW Y X 1 2 138 (fun ad => [(1, .int 2), (0, .ref (ad 0))]) (fun _ => []) 41 ((36, 1) :: E_39) 40 661
  refine b_goto (tgt := 117) C dX5_init_138 (by decide) ?_
  show BW Y X 1 2 117 (fun ad => [(1, .int 2), (0, .ref (ad 0))]) (fun _ => []) 41 ((36, 1) :: E_39) 40 661
  refine b_iload_n C (2) dX5_init_117 0 (fun _ => rfl) ?_
  show BW Y X 1 2 118 (fun ad => [(1, .int 2), (0, .ref (ad 0))]) (fun _ => [.int 2]) 41 ((36, 1) :: E_39) 40 661
  refine b_iconst (v := 4) C dX5_init_118 (by decide) ?_
  show BW Y X 1 2 119 (fun ad => [(1, .int 2), (0, .ref (ad 0))]) (fun _ => [.int 4, .int 2]) 41 ((36, 1) :: E_39) 40 661
  refine b_icmp_ge (tgt := 141) C dX5_init_119 (by decide) (fun hc => absurd hc (by decide)) (fun _ => ?_)
  show BW Y X 1 2 122 (fun ad => [(1, .int 2), (0, .ref (ad 0))]) (fun _ => []) 41 ((36, 1) :: E_39) 40 661
  refine b_aload_n C (fun ad => ad 0) dX5_init_122 1 (fun _ => rfl) ?_
  show BW Y X 1 2 123 (fun ad => [(1, .int 2), (0, .ref (ad 0))]) (fun ad => [.ref (ad 0)]) 41 ((36, 1) :: E_39) 40 661
  refine b_getr (k0 := 0) (k1 := 36) C dX5_init_123 ifl_X5_56 rfl Kc_0 (by decide) (by decide +kernel) rfl ?_
  show BW Y X 1 2 126 (fun ad => [(1, .int 2), (0, .ref (ad 0))]) (fun ad => [.ref (ad 36)]) 41 ((36, 1) :: E_39) 40 661
  refine b_iload_n C (2) dX5_init_126 0 (fun _ => rfl) ?_
  show BW Y X 1 2 127 (fun ad => [(1, .int 2), (0, .ref (ad 0))]) (fun ad => [.int 2, .ref (ad 36)]) 41 ((36, 1) :: E_39) 40 661
  refine b_new C dX5_init_127 nw_X5_54 Kc_41 (GB_of (by decide +kernel)) (by decide) (Nat.le_of_ble_eq_true rfl) (Nat.le_of_ble_eq_true rfl) (fun ad ad' h => by simp only [h 36 (Or.inl (by decide))]) (fun ad ad' h => by simp only [h 0 (Or.inl (by decide))]) ?_
  show BW Y X 1 2 130 (fun ad => [(1, .int 2), (0, .ref (ad 0))]) (fun ad => [.ref (ad 41), .int 2, .ref (ad 36)]) 42 ((36, 1) :: E_39) 41 664
  refine b_dup (v := fun ad => ad 41) C dX5_init_130 ?_
  show BW Y X 1 2 131 (fun ad => [(1, .int 2), (0, .ref (ad 0))]) (fun ad => [.ref (ad 41), .ref (ad 41), .int 2, .ref (ad 36)]) 42 ((36, 1) :: E_39) 41 664
  refine b_ctorN (y := yX2_init) (k0 := 41) (as := (fun _ => [])) (rest := (fun ad => [.ref (ad 41), .int 2, .ref (ad 36)])) C rfl dX5_init_131 (by decide) iim_2 rfl ilm_2 mk_41 ⟨Nat.le_of_ble_eq_true rfl, Nat.le_of_ble_eq_true rfl⟩ (fun _ => rfl) (fun _ => rfl) (fun _ => Nat.le_of_ble_eq_true rfl) (by decide) (Nat.le_of_ble_eq_true rfl) (Nat.le_of_ble_eq_true rfl) (fun ad ad' h => by simp only [h 36 (Or.inl (by decide)), h 41 (Or.inl (by decide))]) (fun ad ad' h => by simp only [h 0 (Or.inl (by decide))]) ?_
  show BW Y X 1 2 134 (fun ad => [(1, .int 2), (0, .ref (ad 0))]) (fun ad => [.ref (ad 41), .int 2, .ref (ad 36)]) 43 (E_41) 42 724
  refine b_aast (k0 := 36) (k1 := 41) (i := 2) C dX5_init_134 Kc_36 (by decide) Kc_41 (by decide) rfl (by decide) rfl ?_
  show BW Y X 1 2 135 (fun ad => [(1, .int 2), (0, .ref (ad 0))]) (fun _ => []) 43 ((36, 2) :: E_41) 42 724
  refine b_iinc (x := 2) (v := 0) (w := 3) (lv' := (fun ad => [(1, .int 3), (0, .ref (ad 0))])) C dX5_init_135 0 (fun _ => rfl) (by decide) (by decide) (fun _ => rfl) ?_
  show BW Y X 1 2 138 (fun ad => [(1, .int 3), (0, .ref (ad 0))]) (fun _ => []) 43 ((36, 2) :: E_41) 42 724
  refine b_goto (tgt := 117) C dX5_init_138 (by decide) ?_
  show BW Y X 1 2 117 (fun ad => [(1, .int 3), (0, .ref (ad 0))]) (fun _ => []) 43 ((36, 2) :: E_41) 42 724
  refine b_iload_n C (3) dX5_init_117 0 (fun _ => rfl) ?_
  show BW Y X 1 2 118 (fun ad => [(1, .int 3), (0, .ref (ad 0))]) (fun _ => [.int 3]) 43 ((36, 2) :: E_41) 42 724
  refine b_iconst (v := 4) C dX5_init_118 (by decide) ?_
  show BW Y X 1 2 119 (fun ad => [(1, .int 3), (0, .ref (ad 0))]) (fun _ => [.int 4, .int 3]) 43 ((36, 2) :: E_41) 42 724
  refine b_icmp_ge (tgt := 141) C dX5_init_119 (by decide) (fun hc => absurd hc (by decide)) (fun _ => ?_)
  show BW Y X 1 2 122 (fun ad => [(1, .int 3), (0, .ref (ad 0))]) (fun _ => []) 43 ((36, 2) :: E_41) 42 724
  refine b_aload_n C (fun ad => ad 0) dX5_init_122 1 (fun _ => rfl) ?_
  show BW Y X 1 2 123 (fun ad => [(1, .int 3), (0, .ref (ad 0))]) (fun ad => [.ref (ad 0)]) 43 ((36, 2) :: E_41) 42 724
  refine b_getr (k0 := 0) (k1 := 36) C dX5_init_123 ifl_X5_56 rfl Kc_0 (by decide) (by decide +kernel) rfl ?_
  show BW Y X 1 2 126 (fun ad => [(1, .int 3), (0, .ref (ad 0))]) (fun ad => [.ref (ad 36)]) 43 ((36, 2) :: E_41) 42 724
  refine b_iload_n C (3) dX5_init_126 0 (fun _ => rfl) ?_
  show BW Y X 1 2 127 (fun ad => [(1, .int 3), (0, .ref (ad 0))]) (fun ad => [.int 3, .ref (ad 36)]) 43 ((36, 2) :: E_41) 42 724
  refine b_new C dX5_init_127 nw_X5_54 Kc_43 (GB_of (by decide +kernel)) (by decide) (Nat.le_of_ble_eq_true rfl) (Nat.le_of_ble_eq_true rfl) (fun ad ad' h => by simp only [h 36 (Or.inl (by decide))]) (fun ad ad' h => by simp only [h 0 (Or.inl (by decide))]) ?_
  show BW Y X 1 2 130 (fun ad => [(1, .int 3), (0, .ref (ad 0))]) (fun ad => [.ref (ad 43), .int 3, .ref (ad 36)]) 44 ((36, 2) :: E_41) 43 727
  refine b_dup (v := fun ad => ad 43) C dX5_init_130 ?_
  show BW Y X 1 2 131 (fun ad => [(1, .int 3), (0, .ref (ad 0))]) (fun ad => [.ref (ad 43), .ref (ad 43), .int 3, .ref (ad 36)]) 44 ((36, 2) :: E_41) 43 727
  refine b_ctorN (y := yX2_init) (k0 := 43) (as := (fun _ => [])) (rest := (fun ad => [.ref (ad 43), .int 3, .ref (ad 36)])) C rfl dX5_init_131 (by decide) iim_2 rfl ilm_2 mk_43 ⟨Nat.le_of_ble_eq_true rfl, Nat.le_of_ble_eq_true rfl⟩ (fun _ => rfl) (fun _ => rfl) (fun _ => Nat.le_of_ble_eq_true rfl) (by decide) (Nat.le_of_ble_eq_true rfl) (Nat.le_of_ble_eq_true rfl) (fun ad ad' h => by simp only [h 36 (Or.inl (by decide)), h 43 (Or.inl (by decide))]) (fun ad ad' h => by simp only [h 0 (Or.inl (by decide))]) ?_
  show BW Y X 1 2 134 (fun ad => [(1, .int 3), (0, .ref (ad 0))]) (fun ad => [.ref (ad 43), .int 3, .ref (ad 36)]) 45 (E_43) 44 787
  refine b_aast (k0 := 36) (k1 := 43) (i := 3) C dX5_init_134 Kc_36 (by decide) Kc_43 (by decide) rfl (by decide) rfl ?_
  show BW Y X 1 2 135 (fun ad => [(1, .int 3), (0, .ref (ad 0))]) (fun _ => []) 45 ((36, 3) :: E_43) 44 787
  refine b_iinc (x := 3) (v := 0) (w := 4) (lv' := (fun ad => [(1, .int 4), (0, .ref (ad 0))])) C dX5_init_135 0 (fun _ => rfl) (by decide) (by decide) (fun _ => rfl) ?_
  show BW Y X 1 2 138 (fun ad => [(1, .int 4), (0, .ref (ad 0))]) (fun _ => []) 45 ((36, 3) :: E_43) 44 787
  refine b_goto (tgt := 117) C dX5_init_138 (by decide) ?_
  show BW Y X 1 2 117 (fun ad => [(1, .int 4), (0, .ref (ad 0))]) (fun _ => []) 45 ((36, 3) :: E_43) 44 787
  refine b_iload_n C (4) dX5_init_117 0 (fun _ => rfl) ?_
  show BW Y X 1 2 118 (fun ad => [(1, .int 4), (0, .ref (ad 0))]) (fun _ => [.int 4]) 45 ((36, 3) :: E_43) 44 787
  refine b_iconst (v := 4) C dX5_init_118 (by decide) ?_
  show BW Y X 1 2 119 (fun ad => [(1, .int 4), (0, .ref (ad 0))]) (fun _ => [.int 4, .int 4]) 45 ((36, 3) :: E_43) 44 787
  refine b_icmp_ge (tgt := 141) C dX5_init_119 (by decide) (fun _ => ?_) (fun hc => absurd (by decide) hc)
  show BW Y X 1 2 141 (fun ad => [(1, .int 4), (0, .ref (ad 0))]) (fun _ => []) 45 ((36, 3) :: E_43) 44 787
  refine b_aload_n C (fun ad => ad 0) dX5_init_141 1 (fun _ => rfl) ?_
  show BW Y X 1 2 142 (fun ad => [(1, .int 4), (0, .ref (ad 0))]) (fun ad => [.ref (ad 0)]) 45 ((36, 3) :: E_43) 44 787
  refine b_sipush (v := 256) C dX5_init_142 (by decide) ?_
  show BW Y X 1 2 145 (fun ad => [(1, .int 4), (0, .ref (ad 0))]) (fun ad => [.int 256, .ref (ad 0)]) 45 ((36, 3) :: E_43) 44 787
  refine b_newa C dX5_init_145 ac_int Kc_45 (by decide) (by decide) (by decide) (GB_of (by decide +kernel)) (by decide) (Nat.le_of_ble_eq_true rfl) (Nat.le_of_ble_eq_true rfl) (fun ad ad' h => by simp only [h 0 (Or.inl (by decide))]) (fun ad ad' h => by simp only [h 0 (Or.inl (by decide))]) ?_
  show BW Y X 1 2 147 (fun ad => [(1, .int 4), (0, .ref (ad 0))]) (fun ad => [.ref (ad 45), .ref (ad 0)]) 46 ((36, 3) :: E_43) 45 1043
  refine b_put (k0 := 0) (v := fun ad => .ref (ad 45)) C hin dX5_init_147 ifl_X5_61 ff_5_8 Kc_0 (by decide) (fun _ => rfl) (fun _ => rfl) (fun _ => rfl) ?_
  show BW Y X 1 2 150 (fun ad => [(1, .int 4), (0, .ref (ad 0))]) (fun _ => []) 46 ((0, 8) :: (36, 3) :: E_43) 45 1043
  refine b_aload_n C (fun ad => ad 0) dX5_init_150 1 (fun _ => rfl) ?_
  show BW Y X 1 2 151 (fun ad => [(1, .int 4), (0, .ref (ad 0))]) (fun ad => [.ref (ad 0)]) 46 ((0, 8) :: (36, 3) :: E_43) 45 1043
  refine b_iconst (v := 0) C dX5_init_151 (by decide) ?_
  show BW Y X 1 2 152 (fun ad => [(1, .int 4), (0, .ref (ad 0))]) (fun ad => [.int 0, .ref (ad 0)]) 46 ((0, 8) :: (36, 3) :: E_43) 45 1043
  refine b_put (k0 := 0) (v := fun ad => .int 0) C hin dX5_init_152 ifl_X5_65 ff_5_9 Kc_0 (by decide) (fun _ => rfl) (fun _ => rfl) (fun _ => rfl) ?_
  show BW Y X 1 2 155 (fun ad => [(1, .int 4), (0, .ref (ad 0))]) (fun _ => []) 46 ((0, 9) :: (0, 8) :: (36, 3) :: E_43) 45 1043
  refine b_aload_n C (fun ad => ad 0) dX5_init_155 1 (fun _ => rfl) ?_
  show BW Y X 1 2 156 (fun ad => [(1, .int 4), (0, .ref (ad 0))]) (fun ad => [.ref (ad 0)]) 46 ((0, 9) :: (0, 8) :: (36, 3) :: E_43) 45 1043
  refine b_bipush (v := 8) C dX5_init_156 (by decide) ?_
  show BW Y X 1 2 158 (fun ad => [(1, .int 4), (0, .ref (ad 0))]) (fun ad => [.int 8, .ref (ad 0)]) 46 ((0, 9) :: (0, 8) :: (36, 3) :: E_43) 45 1043
  refine b_newa C dX5_init_158 ac_int Kc_46 (by decide) (by decide) (by decide) (GB_of (by decide +kernel)) (by decide) (Nat.le_of_ble_eq_true rfl) (Nat.le_of_ble_eq_true rfl) (fun ad ad' h => by simp only [h 0 (Or.inl (by decide))]) (fun ad ad' h => by simp only [h 0 (Or.inl (by decide))]) ?_
  show BW Y X 1 2 160 (fun ad => [(1, .int 4), (0, .ref (ad 0))]) (fun ad => [.ref (ad 46), .ref (ad 0)]) 47 ((0, 9) :: (0, 8) :: (36, 3) :: E_43) 46 1051
  refine b_put (k0 := 0) (v := fun ad => .ref (ad 46)) C hin dX5_init_160 ifl_X5_69 ff_5_10 Kc_0 (by decide) (fun _ => rfl) (fun _ => rfl) (fun _ => rfl) ?_
  show BW Y X 1 2 163 (fun ad => [(1, .int 4), (0, .ref (ad 0))]) (fun _ => []) 47 ((0, 10) :: (0, 9) :: (0, 8) :: (36, 3) :: E_43) 46 1051
  refine b_aload_n C (fun ad => ad 0) dX5_init_163 1 (fun _ => rfl) ?_
  show BW Y X 1 2 164 (fun ad => [(1, .int 4), (0, .ref (ad 0))]) (fun ad => [.ref (ad 0)]) 47 ((0, 10) :: (0, 9) :: (0, 8) :: (36, 3) :: E_43) 46 1051
  refine b_sipush (v := 270) C dX5_init_164 (by decide) ?_
  show BW Y X 1 2 167 (fun ad => [(1, .int 4), (0, .ref (ad 0))]) (fun ad => [.int 270, .ref (ad 0)]) 47 ((0, 10) :: (0, 9) :: (0, 8) :: (36, 3) :: E_43) 46 1051
  refine b_newa C dX5_init_167 ac_int Kc_47 (by decide) (by decide) (by decide) (GB_of (by decide +kernel)) (by decide) (Nat.le_of_ble_eq_true rfl) (Nat.le_of_ble_eq_true rfl) (fun ad ad' h => by simp only [h 0 (Or.inl (by decide))]) (fun ad ad' h => by simp only [h 0 (Or.inl (by decide))]) ?_
  show BW Y X 1 2 169 (fun ad => [(1, .int 4), (0, .ref (ad 0))]) (fun ad => [.ref (ad 47), .ref (ad 0)]) 48 ((0, 10) :: (0, 9) :: (0, 8) :: (36, 3) :: E_43) 47 1321
  refine b_put (k0 := 0) (v := fun ad => .ref (ad 47)) C hin dX5_init_169 ifl_X5_72 ff_5_11 Kc_0 (by decide) (fun _ => rfl) (fun _ => rfl) (fun _ => rfl) ?_
  show BW Y X 1 2 172 (fun ad => [(1, .int 4), (0, .ref (ad 0))]) (fun _ => []) 48 ((0, 11) :: (0, 10) :: (0, 9) :: (0, 8) :: (36, 3) :: E_43) 47 1321
  refine b_aload_n C (fun ad => ad 0) dX5_init_172 1 (fun _ => rfl) ?_
  show BW Y X 1 2 173 (fun ad => [(1, .int 4), (0, .ref (ad 0))]) (fun ad => [.ref (ad 0)]) 48 ((0, 11) :: (0, 10) :: (0, 9) :: (0, 8) :: (36, 3) :: E_43) 47 1321
  refine b_iconst (v := 2) C dX5_init_173 (by decide) ?_
  show BW Y X 1 2 174 (fun ad => [(1, .int 4), (0, .ref (ad 0))]) (fun ad => [.int 2, .ref (ad 0)]) 48 ((0, 11) :: (0, 10) :: (0, 9) :: (0, 8) :: (36, 3) :: E_43) 47 1321
  refine b_newa C dX5_init_174 ac_int Kc_48 (by decide) (by decide) (by decide) (GB_of (by decide +kernel)) (by decide) (Nat.le_of_ble_eq_true rfl) (Nat.le_of_ble_eq_true rfl) (fun ad ad' h => by simp only [h 0 (Or.inl (by decide))]) (fun ad ad' h => by simp only [h 0 (Or.inl (by decide))]) ?_
  show BW Y X 1 2 176 (fun ad => [(1, .int 4), (0, .ref (ad 0))]) (fun ad => [.ref (ad 48), .ref (ad 0)]) 49 ((0, 11) :: (0, 10) :: (0, 9) :: (0, 8) :: (36, 3) :: E_43) 48 1323
  refine b_put (k0 := 0) (v := fun ad => .ref (ad 48)) C hin dX5_init_176 ifl_X5_75 ff_5_12 Kc_0 (by decide) (fun _ => rfl) (fun _ => rfl) (fun _ => rfl) ?_
  show BW Y X 1 2 179 (fun ad => [(1, .int 4), (0, .ref (ad 0))]) (fun _ => []) 49 ((0, 12) :: (0, 11) :: (0, 10) :: (0, 9) :: (0, 8) :: (36, 3) :: E_43) 48 1323
  refine b_aload_n C (fun ad => ad 0) dX5_init_179 1 (fun _ => rfl) ?_
  show BW Y X 1 2 180 (fun ad => [(1, .int 4), (0, .ref (ad 0))]) (fun ad => [.ref (ad 0)]) 49 ((0, 12) :: (0, 11) :: (0, 10) :: (0, 9) :: (0, 8) :: (36, 3) :: E_43) 48 1323
  refine b_iconst (v := 0) C dX5_init_180 (by decide) ?_
  show BW Y X 1 2 181 (fun ad => [(1, .int 4), (0, .ref (ad 0))]) (fun ad => [.int 0, .ref (ad 0)]) 49 ((0, 12) :: (0, 11) :: (0, 10) :: (0, 9) :: (0, 8) :: (36, 3) :: E_43) 48 1323
  refine b_put (k0 := 0) (v := fun ad => .int 0) C hin dX5_init_181 ifl_X5_78 ff_5_13 Kc_0 (by decide) (fun _ => rfl) (fun _ => rfl) (fun _ => rfl) ?_
  show BW Y X 1 2 184 (fun ad => [(1, .int 4), (0, .ref (ad 0))]) (fun _ => []) 49 ((0, 13) :: (0, 12) :: (0, 11) :: (0, 10) :: (0, 9) :: (0, 8) :: (36, 3) :: E_43) 48 1323
  exact b_vret C dX5_init_184 E rfl rfl rfl rfl
def B_49 : BL := E_0
set_option maxRecDepth 20000 in
theorem oi_X6_1 : Cond.methodLink RX6 1 Lib.objectInit ∈ gT := gT_in 806 (by decide +kernel) (by decide +kernel)
set_option maxRecDepth 20000 in
theorem ifl_X6_7 : FL RX6 7 6 0 := ⟨(RX6, TX6, 31), rfl, rfl, by decide, by decide, gT_in 807 (by decide +kernel) (by decide +kernel), inG6⟩
theorem ff_6_0 : FF RX6 6 0 true (.array .int) := fun r h => by cases h; exact ⟨rfl, rfl, by decide +kernel⟩
set_option maxRecDepth 20000 in
theorem ifl_X6_13 : FL RX6 13 6 1 := ⟨(RX6, TX6, 31), rfl, rfl, by decide, by decide, gT_in 808 (by decide +kernel) (by decide +kernel), inG6⟩
theorem ff_6_1 : FF RX6 6 1 true (.array .int) := fun r h => by cases h; exact ⟨rfl, rfl, by decide +kernel⟩
set_option maxRecDepth 20000 in
theorem ifl_X6_16 : FL RX6 16 6 2 := ⟨(RX6, TX6, 31), rfl, rfl, by decide, by decide, gT_in 809 (by decide +kernel) (by decide +kernel), inG6⟩
theorem ff_6_2 : FF RX6 6 2 true (.array .int) := fun r h => by cases h; exact ⟨rfl, rfl, by decide +kernel⟩
set_option maxRecDepth 20000 in
theorem ifl_X6_19 : FL RX6 19 6 3 := ⟨(RX6, TX6, 31), rfl, rfl, by decide, by decide, gT_in 810 (by decide +kernel) (by decide +kernel), inG6⟩
theorem ff_6_3 : FF RX6 6 3 true (.array .int) := fun r h => by cases h; exact ⟨rfl, rfl, by decide +kernel⟩
set_option maxRecDepth 20000 in
theorem ifl_X6_22 : FL RX6 22 6 5 := ⟨(RX6, TX6, 31), rfl, rfl, by decide, by decide, gT_in 812 (by decide +kernel) (by decide +kernel), inG6⟩
theorem ff_6_5 : FF RX6 6 5 true (.array .int) := fun r h => by cases h; exact ⟨rfl, rfl, by decide +kernel⟩
set_option maxRecDepth 20000 in
theorem ifl_X6_25 : FL RX6 25 6 6 := ⟨(RX6, TX6, 31), rfl, rfl, by decide, by decide, gT_in 813 (by decide +kernel) (by decide +kernel), inG6⟩
theorem ff_6_6 : FF RX6 6 6 true (.array .int) := fun r h => by cases h; exact ⟨rfl, rfl, by decide +kernel⟩
set_option maxRecDepth 20000 in
theorem ifl_X6_28 : FL RX6 28 6 8 := ⟨(RX6, TX6, 31), rfl, rfl, by decide, by decide, gT_in 815 (by decide +kernel) (by decide +kernel), inG6⟩
theorem ff_6_8 : FF RX6 6 8 true (.array .int) := fun r h => by cases h; exact ⟨rfl, rfl, by decide +kernel⟩
set_option maxRecDepth 20000 in
theorem ifl_X6_31 : FL RX6 31 6 10 := ⟨(RX6, TX6, 31), rfl, rfl, by decide, by decide, gT_in 817 (by decide +kernel) (by decide +kernel), inG6⟩
theorem ff_6_10 : FF RX6 6 10 true (.array .int) := fun r h => by cases h; exact ⟨rfl, rfl, by decide +kernel⟩
set_option maxRecDepth 20000 in
theorem ifl_X6_34 : FL RX6 34 6 12 := ⟨(RX6, TX6, 31), rfl, rfl, by decide, by decide, gT_in 819 (by decide +kernel) (by decide +kernel), inG6⟩
theorem ff_6_12 : FF RX6 6 12 true (.array .int) := fun r h => by cases h; exact ⟨rfl, rfl, by decide +kernel⟩
set_option maxRecDepth 20000 in
theorem ifl_X6_37 : FL RX6 37 6 17 := ⟨(RX6, TX6, 31), rfl, rfl, by decide, by decide, gT_in 824 (by decide +kernel) (by decide +kernel), inG6⟩
theorem ff_6_17 : FF RX6 6 17 true (.array .int) := fun r h => by cases h; exact ⟨rfl, rfl, by decide +kernel⟩
set_option maxRecDepth 20000 in
theorem ifl_X6_40 : FL RX6 40 6 18 := ⟨(RX6, TX6, 31), rfl, rfl, by decide, by decide, gT_in 825 (by decide +kernel) (by decide +kernel), inG6⟩
theorem ff_6_18 : FF RX6 6 18 true (.array .int) := fun r h => by cases h; exact ⟨rfl, rfl, by decide +kernel⟩
set_option maxRecDepth 20000 in
theorem ifl_X6_43 : FL RX6 43 6 19 := ⟨(RX6, TX6, 31), rfl, rfl, by decide, by decide, gT_in 826 (by decide +kernel) (by decide +kernel), inG6⟩
theorem ff_6_19 : FF RX6 6 19 true (.array .int) := fun r h => by cases h; exact ⟨rfl, rfl, by decide +kernel⟩
set_option maxRecDepth 20000 in
theorem ifl_X6_46 : FL RX6 46 6 20 := ⟨(RX6, TX6, 31), rfl, rfl, by decide, by decide, gT_in 827 (by decide +kernel) (by decide +kernel), inG6⟩
theorem ff_6_20 : FF RX6 6 20 true (.array .int) := fun r h => by cases h; exact ⟨rfl, rfl, by decide +kernel⟩
set_option maxRecDepth 20000 in
theorem ifl_X6_49 : FL RX6 49 6 21 := ⟨(RX6, TX6, 31), rfl, rfl, by decide, by decide, gT_in 828 (by decide +kernel) (by decide +kernel), inG6⟩
theorem ff_6_21 : FF RX6 6 21 true (.array .int) := fun r h => by cases h; exact ⟨rfl, rfl, by decide +kernel⟩
set_option maxRecDepth 20000 in
theorem ifl_X6_52 : FL RX6 52 6 22 := ⟨(RX6, TX6, 31), rfl, rfl, by decide, by decide, gT_in 829 (by decide +kernel) (by decide +kernel), inG6⟩
theorem ff_6_22 : FF RX6 6 22 true (.array .int) := fun r h => by cases h; exact ⟨rfl, rfl, by decide +kernel⟩
set_option maxRecDepth 20000 in
theorem ifl_X6_55 : FL RX6 55 6 23 := ⟨(RX6, TX6, 31), rfl, rfl, by decide, by decide, gT_in 830 (by decide +kernel) (by decide +kernel), inG6⟩
theorem ff_6_23 : FF RX6 6 23 true (.array .int) := fun r h => by cases h; exact ⟨rfl, rfl, by decide +kernel⟩
set_option maxRecDepth 20000 in
theorem ifl_X6_58 : FL RX6 58 6 24 := ⟨(RX6, TX6, 31), rfl, rfl, by decide, by decide, gT_in 831 (by decide +kernel) (by decide +kernel), inG6⟩
theorem ff_6_24 : FF RX6 6 24 true (.array .int) := fun r h => by cases h; exact ⟨rfl, rfl, by decide +kernel⟩
set_option maxRecDepth 20000 in
theorem ifl_X6_61 : FL RX6 61 6 25 := ⟨(RX6, TX6, 31), rfl, rfl, by decide, by decide, gT_in 832 (by decide +kernel) (by decide +kernel), inG6⟩
theorem ff_6_25 : FF RX6 6 25 true (.array .int) := fun r h => by cases h; exact ⟨rfl, rfl, by decide +kernel⟩
set_option maxRecDepth 20000 in
theorem ifl_X6_64 : FL RX6 64 6 27 := ⟨(RX6, TX6, 31), rfl, rfl, by decide, by decide, gT_in 834 (by decide +kernel) (by decide +kernel), inG6⟩
theorem ff_6_27 : FF RX6 6 27 true (.array .int) := fun r h => by cases h; exact ⟨rfl, rfl, by decide +kernel⟩
set_option maxRecDepth 20000 in
theorem ifl_X6_67 : FL RX6 67 6 28 := ⟨(RX6, TX6, 31), rfl, rfl, by decide, by decide, gT_in 835 (by decide +kernel) (by decide +kernel), inG6⟩
theorem ff_6_28 : FF RX6 6 28 true (.array .int) := fun r h => by cases h; exact ⟨rfl, rfl, by decide +kernel⟩
set_option maxRecDepth 20000 in
theorem ifl_X6_70 : FL RX6 70 6 30 := ⟨(RX6, TX6, 31), rfl, rfl, by decide, by decide, gT_in 837 (by decide +kernel) (by decide +kernel), inG6⟩
theorem ff_6_30 : FF RX6 6 30 true (.array .int) := fun r h => by cases h; exact ⟨rfl, rfl, by decide +kernel⟩
set_option maxRecDepth 20000 in
theorem ifl_X6_73 : FL RX6 73 6 14 := ⟨(RX6, TX6, 31), rfl, rfl, by decide, by decide, gT_in 821 (by decide +kernel) (by decide +kernel), inG6⟩
theorem ff_6_14 : FF RX6 6 14 false (.int) := fun r h => by cases h; exact ⟨rfl, rfl, by decide +kernel⟩
abbrev rmI_49 : Room := { frames := 1, cells := 21, slots := 4022, locals := 20 }
abbrev E_49 : BL := (49, 14) :: (50, 3) :: (50, 2) :: (50, 1) :: (50, 0) :: (49, 30) :: (49, 28) :: (49, 27) :: (49, 25) :: (49, 24) :: (49, 23) :: (49, 22) :: (49, 21) :: (49, 20) :: (49, 19) :: (49, 18) :: (49, 17) :: (49, 12) :: (49, 10) :: (49, 8) :: (49, 6) :: (49, 5) :: (49, 3) :: (49, 2) :: (49, 1) :: (49, 0) :: B_49
set_option maxRecDepth 20000 in
theorem ilm_6 : LM yX6_init cX6_init 2 none 0 := ⟨gT_in 805 (by decide +kernel) (by decide +kernel), gT_in 76 (by decide +kernel) (by decide +kernel), by decide, by decide, by decide +kernel⟩
set_option maxRecDepth 20000 in
theorem iim_6 : Cond.instanceMethod yX6_init ∈ gT := gT_in 804 (by decide +kernel) (by decide +kernel)
theorem mk_49 (Y : EY) : MB Y yX6_init cX6_init 2 rmI_49 (.ref (Y.2.2.2.1 49) :: ((fun _ => [])) Y.2.2.2.1) 50 B_49 71 E_49 := by
  refine MB.of (ls := (fun ad => [(0, .ref (ad 49))])) (by decide) rfl (Nat.le_of_ble_eq_true rfl) (fun ad h => by simp only [h 49 (Or.inl (by decide))]; rfl) (fun X E C => ?_)
  have hin := E.1
  show BW Y X 50 2 0 (fun ad => [(0, .ref (ad 49))]) (fun _ => []) 50 (B_49) 0 0
  refine b_aload_n C (fun ad => ad 49) dX6_init_0 0 (fun _ => rfl) ?_
  show BW Y X 50 2 1 (fun ad => [(0, .ref (ad 49))]) (fun ad => [.ref (ad 49)]) 50 (B_49) 0 0
  refine b_objInit (x := fun ad => ad 49) C dX6_init_1 oi_X6_1 oi_2 oi_3 (Nat.le_of_ble_eq_true rfl) (fun _ => Nat.le_of_ble_eq_true rfl) ?_
  show BW Y X 50 2 4 (fun ad => [(0, .ref (ad 49))]) (fun _ => []) 50 (B_49) 0 0
  refine b_aload_n C (fun ad => ad 49) dX6_init_4 0 (fun _ => rfl) ?_
  show BW Y X 50 2 5 (fun ad => [(0, .ref (ad 49))]) (fun ad => [.ref (ad 49)]) 50 (B_49) 0 0
  refine b_iconst (v := 4) C dX6_init_5 (by decide) ?_
  show BW Y X 50 2 6 (fun ad => [(0, .ref (ad 49))]) (fun ad => [.int 4, .ref (ad 49)]) 50 (B_49) 0 0
  refine b_newa C dX6_init_6 ac_int Kc_50 (by decide) (by decide) (by decide) (GB_of (by decide +kernel)) (by decide) (Nat.le_of_ble_eq_true rfl) (Nat.le_of_ble_eq_true rfl) (fun ad ad' h => by simp only [h 49 (Or.inl (by decide))]) (fun ad ad' h => by simp only [h 49 (Or.inl (by decide))]) ?_
  show BW Y X 50 2 8 (fun ad => [(0, .ref (ad 49))]) (fun ad => [.ref (ad 50), .ref (ad 49)]) 51 (B_49) 1 4
  refine b_put (k0 := 49) (v := fun ad => .ref (ad 50)) C hin dX6_init_8 ifl_X6_7 ff_6_0 Kc_49 (by decide) (fun _ => rfl) (fun _ => rfl) (fun _ => rfl) ?_
  show BW Y X 50 2 11 (fun ad => [(0, .ref (ad 49))]) (fun _ => []) 51 ((49, 0) :: B_49) 1 4
  refine b_aload_n C (fun ad => ad 49) dX6_init_11 0 (fun _ => rfl) ?_
  show BW Y X 50 2 12 (fun ad => [(0, .ref (ad 49))]) (fun ad => [.ref (ad 49)]) 51 ((49, 0) :: B_49) 1 4
  refine b_iconst (v := 4) C dX6_init_12 (by decide) ?_
  show BW Y X 50 2 13 (fun ad => [(0, .ref (ad 49))]) (fun ad => [.int 4, .ref (ad 49)]) 51 ((49, 0) :: B_49) 1 4
  refine b_newa C dX6_init_13 ac_int Kc_51 (by decide) (by decide) (by decide) (GB_of (by decide +kernel)) (by decide) (Nat.le_of_ble_eq_true rfl) (Nat.le_of_ble_eq_true rfl) (fun ad ad' h => by simp only [h 49 (Or.inl (by decide))]) (fun ad ad' h => by simp only [h 49 (Or.inl (by decide))]) ?_
  show BW Y X 50 2 15 (fun ad => [(0, .ref (ad 49))]) (fun ad => [.ref (ad 51), .ref (ad 49)]) 52 ((49, 0) :: B_49) 2 8
  refine b_put (k0 := 49) (v := fun ad => .ref (ad 51)) C hin dX6_init_15 ifl_X6_13 ff_6_1 Kc_49 (by decide) (fun _ => rfl) (fun _ => rfl) (fun _ => rfl) ?_
  show BW Y X 50 2 18 (fun ad => [(0, .ref (ad 49))]) (fun _ => []) 52 ((49, 1) :: (49, 0) :: B_49) 2 8
  refine b_aload_n C (fun ad => ad 49) dX6_init_18 0 (fun _ => rfl) ?_
  show BW Y X 50 2 19 (fun ad => [(0, .ref (ad 49))]) (fun ad => [.ref (ad 49)]) 52 ((49, 1) :: (49, 0) :: B_49) 2 8
  refine b_sipush (v := 240) C dX6_init_19 (by decide) ?_
  show BW Y X 50 2 22 (fun ad => [(0, .ref (ad 49))]) (fun ad => [.int 240, .ref (ad 49)]) 52 ((49, 1) :: (49, 0) :: B_49) 2 8
  refine b_newa C dX6_init_22 ac_int Kc_52 (by decide) (by decide) (by decide) (GB_of (by decide +kernel)) (by decide) (Nat.le_of_ble_eq_true rfl) (Nat.le_of_ble_eq_true rfl) (fun ad ad' h => by simp only [h 49 (Or.inl (by decide))]) (fun ad ad' h => by simp only [h 49 (Or.inl (by decide))]) ?_
  show BW Y X 50 2 24 (fun ad => [(0, .ref (ad 49))]) (fun ad => [.ref (ad 52), .ref (ad 49)]) 53 ((49, 1) :: (49, 0) :: B_49) 3 248
  refine b_put (k0 := 49) (v := fun ad => .ref (ad 52)) C hin dX6_init_24 ifl_X6_16 ff_6_2 Kc_49 (by decide) (fun _ => rfl) (fun _ => rfl) (fun _ => rfl) ?_
  show BW Y X 50 2 27 (fun ad => [(0, .ref (ad 49))]) (fun _ => []) 53 ((49, 2) :: (49, 1) :: (49, 0) :: B_49) 3 248
  refine b_aload_n C (fun ad => ad 49) dX6_init_27 0 (fun _ => rfl) ?_
  show BW Y X 50 2 28 (fun ad => [(0, .ref (ad 49))]) (fun ad => [.ref (ad 49)]) 53 ((49, 2) :: (49, 1) :: (49, 0) :: B_49) 3 248
  refine b_bipush (v := 60) C dX6_init_28 (by decide) ?_
  show BW Y X 50 2 30 (fun ad => [(0, .ref (ad 49))]) (fun ad => [.int 60, .ref (ad 49)]) 53 ((49, 2) :: (49, 1) :: (49, 0) :: B_49) 3 248
  refine b_newa C dX6_init_30 ac_int Kc_53 (by decide) (by decide) (by decide) (GB_of (by decide +kernel)) (by decide) (Nat.le_of_ble_eq_true rfl) (Nat.le_of_ble_eq_true rfl) (fun ad ad' h => by simp only [h 49 (Or.inl (by decide))]) (fun ad ad' h => by simp only [h 49 (Or.inl (by decide))]) ?_
  show BW Y X 50 2 32 (fun ad => [(0, .ref (ad 49))]) (fun ad => [.ref (ad 53), .ref (ad 49)]) 54 ((49, 2) :: (49, 1) :: (49, 0) :: B_49) 4 308
  refine b_put (k0 := 49) (v := fun ad => .ref (ad 53)) C hin dX6_init_32 ifl_X6_19 ff_6_3 Kc_49 (by decide) (fun _ => rfl) (fun _ => rfl) (fun _ => rfl) ?_
  show BW Y X 50 2 35 (fun ad => [(0, .ref (ad 49))]) (fun _ => []) 54 ((49, 3) :: (49, 2) :: (49, 1) :: (49, 0) :: B_49) 4 308
  refine b_aload_n C (fun ad => ad 49) dX6_init_35 0 (fun _ => rfl) ?_
  show BW Y X 50 2 36 (fun ad => [(0, .ref (ad 49))]) (fun ad => [.ref (ad 49)]) 54 ((49, 3) :: (49, 2) :: (49, 1) :: (49, 0) :: B_49) 4 308
  refine b_bipush (v := 112) C dX6_init_36 (by decide) ?_
  show BW Y X 50 2 38 (fun ad => [(0, .ref (ad 49))]) (fun ad => [.int 112, .ref (ad 49)]) 54 ((49, 3) :: (49, 2) :: (49, 1) :: (49, 0) :: B_49) 4 308
  refine b_newa C dX6_init_38 ac_int Kc_54 (by decide) (by decide) (by decide) (GB_of (by decide +kernel)) (by decide) (Nat.le_of_ble_eq_true rfl) (Nat.le_of_ble_eq_true rfl) (fun ad ad' h => by simp only [h 49 (Or.inl (by decide))]) (fun ad ad' h => by simp only [h 49 (Or.inl (by decide))]) ?_
  show BW Y X 50 2 40 (fun ad => [(0, .ref (ad 49))]) (fun ad => [.ref (ad 54), .ref (ad 49)]) 55 ((49, 3) :: (49, 2) :: (49, 1) :: (49, 0) :: B_49) 5 420
  refine b_put (k0 := 49) (v := fun ad => .ref (ad 54)) C hin dX6_init_40 ifl_X6_22 ff_6_5 Kc_49 (by decide) (fun _ => rfl) (fun _ => rfl) (fun _ => rfl) ?_
  show BW Y X 50 2 43 (fun ad => [(0, .ref (ad 49))]) (fun _ => []) 55 ((49, 5) :: (49, 3) :: (49, 2) :: (49, 1) :: (49, 0) :: B_49) 5 420
  refine b_aload_n C (fun ad => ad 49) dX6_init_43 0 (fun _ => rfl) ?_
  show BW Y X 50 2 44 (fun ad => [(0, .ref (ad 49))]) (fun ad => [.ref (ad 49)]) 55 ((49, 5) :: (49, 3) :: (49, 2) :: (49, 1) :: (49, 0) :: B_49) 5 420
  refine b_iconst (v := 2) C dX6_init_44 (by decide) ?_
  show BW Y X 50 2 45 (fun ad => [(0, .ref (ad 49))]) (fun ad => [.int 2, .ref (ad 49)]) 55 ((49, 5) :: (49, 3) :: (49, 2) :: (49, 1) :: (49, 0) :: B_49) 5 420
  refine b_newa C dX6_init_45 ac_int Kc_55 (by decide) (by decide) (by decide) (GB_of (by decide +kernel)) (by decide) (Nat.le_of_ble_eq_true rfl) (Nat.le_of_ble_eq_true rfl) (fun ad ad' h => by simp only [h 49 (Or.inl (by decide))]) (fun ad ad' h => by simp only [h 49 (Or.inl (by decide))]) ?_
  show BW Y X 50 2 47 (fun ad => [(0, .ref (ad 49))]) (fun ad => [.ref (ad 55), .ref (ad 49)]) 56 ((49, 5) :: (49, 3) :: (49, 2) :: (49, 1) :: (49, 0) :: B_49) 6 422
  refine b_put (k0 := 49) (v := fun ad => .ref (ad 55)) C hin dX6_init_47 ifl_X6_25 ff_6_6 Kc_49 (by decide) (fun _ => rfl) (fun _ => rfl) (fun _ => rfl) ?_
  show BW Y X 50 2 50 (fun ad => [(0, .ref (ad 49))]) (fun _ => []) 56 ((49, 6) :: (49, 5) :: (49, 3) :: (49, 2) :: (49, 1) :: (49, 0) :: B_49) 6 422
  refine b_aload_n C (fun ad => ad 49) dX6_init_50 0 (fun _ => rfl) ?_
  show BW Y X 50 2 51 (fun ad => [(0, .ref (ad 49))]) (fun ad => [.ref (ad 49)]) 56 ((49, 6) :: (49, 5) :: (49, 3) :: (49, 2) :: (49, 1) :: (49, 0) :: B_49) 6 422
  refine b_bipush (v := 48) C dX6_init_51 (by decide) ?_
  show BW Y X 50 2 53 (fun ad => [(0, .ref (ad 49))]) (fun ad => [.int 48, .ref (ad 49)]) 56 ((49, 6) :: (49, 5) :: (49, 3) :: (49, 2) :: (49, 1) :: (49, 0) :: B_49) 6 422
  refine b_newa C dX6_init_53 ac_int Kc_56 (by decide) (by decide) (by decide) (GB_of (by decide +kernel)) (by decide) (Nat.le_of_ble_eq_true rfl) (Nat.le_of_ble_eq_true rfl) (fun ad ad' h => by simp only [h 49 (Or.inl (by decide))]) (fun ad ad' h => by simp only [h 49 (Or.inl (by decide))]) ?_
  show BW Y X 50 2 55 (fun ad => [(0, .ref (ad 49))]) (fun ad => [.ref (ad 56), .ref (ad 49)]) 57 ((49, 6) :: (49, 5) :: (49, 3) :: (49, 2) :: (49, 1) :: (49, 0) :: B_49) 7 470
  refine b_put (k0 := 49) (v := fun ad => .ref (ad 56)) C hin dX6_init_55 ifl_X6_28 ff_6_8 Kc_49 (by decide) (fun _ => rfl) (fun _ => rfl) (fun _ => rfl) ?_
  show BW Y X 50 2 58 (fun ad => [(0, .ref (ad 49))]) (fun _ => []) 57 ((49, 8) :: (49, 6) :: (49, 5) :: (49, 3) :: (49, 2) :: (49, 1) :: (49, 0) :: B_49) 7 470
  refine b_aload_n C (fun ad => ad 49) dX6_init_58 0 (fun _ => rfl) ?_
  show BW Y X 50 2 59 (fun ad => [(0, .ref (ad 49))]) (fun ad => [.ref (ad 49)]) 57 ((49, 8) :: (49, 6) :: (49, 5) :: (49, 3) :: (49, 2) :: (49, 1) :: (49, 0) :: B_49) 7 470
  refine b_bipush (v := 16) C dX6_init_59 (by decide) ?_
  show BW Y X 50 2 61 (fun ad => [(0, .ref (ad 49))]) (fun ad => [.int 16, .ref (ad 49)]) 57 ((49, 8) :: (49, 6) :: (49, 5) :: (49, 3) :: (49, 2) :: (49, 1) :: (49, 0) :: B_49) 7 470
  refine b_newa C dX6_init_61 ac_int Kc_57 (by decide) (by decide) (by decide) (GB_of (by decide +kernel)) (by decide) (Nat.le_of_ble_eq_true rfl) (Nat.le_of_ble_eq_true rfl) (fun ad ad' h => by simp only [h 49 (Or.inl (by decide))]) (fun ad ad' h => by simp only [h 49 (Or.inl (by decide))]) ?_
  show BW Y X 50 2 63 (fun ad => [(0, .ref (ad 49))]) (fun ad => [.ref (ad 57), .ref (ad 49)]) 58 ((49, 8) :: (49, 6) :: (49, 5) :: (49, 3) :: (49, 2) :: (49, 1) :: (49, 0) :: B_49) 8 486
  refine b_put (k0 := 49) (v := fun ad => .ref (ad 57)) C hin dX6_init_63 ifl_X6_31 ff_6_10 Kc_49 (by decide) (fun _ => rfl) (fun _ => rfl) (fun _ => rfl) ?_
  show BW Y X 50 2 66 (fun ad => [(0, .ref (ad 49))]) (fun _ => []) 58 ((49, 10) :: (49, 8) :: (49, 6) :: (49, 5) :: (49, 3) :: (49, 2) :: (49, 1) :: (49, 0) :: B_49) 8 486
  refine b_aload_n C (fun ad => ad 49) dX6_init_66 0 (fun _ => rfl) ?_
  show BW Y X 50 2 67 (fun ad => [(0, .ref (ad 49))]) (fun ad => [.ref (ad 49)]) 58 ((49, 10) :: (49, 8) :: (49, 6) :: (49, 5) :: (49, 3) :: (49, 2) :: (49, 1) :: (49, 0) :: B_49) 8 486
  refine b_bipush (v := 24) C dX6_init_67 (by decide) ?_
  show BW Y X 50 2 69 (fun ad => [(0, .ref (ad 49))]) (fun ad => [.int 24, .ref (ad 49)]) 58 ((49, 10) :: (49, 8) :: (49, 6) :: (49, 5) :: (49, 3) :: (49, 2) :: (49, 1) :: (49, 0) :: B_49) 8 486
  refine b_newa C dX6_init_69 ac_int Kc_58 (by decide) (by decide) (by decide) (GB_of (by decide +kernel)) (by decide) (Nat.le_of_ble_eq_true rfl) (Nat.le_of_ble_eq_true rfl) (fun ad ad' h => by simp only [h 49 (Or.inl (by decide))]) (fun ad ad' h => by simp only [h 49 (Or.inl (by decide))]) ?_
  show BW Y X 50 2 71 (fun ad => [(0, .ref (ad 49))]) (fun ad => [.ref (ad 58), .ref (ad 49)]) 59 ((49, 10) :: (49, 8) :: (49, 6) :: (49, 5) :: (49, 3) :: (49, 2) :: (49, 1) :: (49, 0) :: B_49) 9 510
  refine b_put (k0 := 49) (v := fun ad => .ref (ad 58)) C hin dX6_init_71 ifl_X6_34 ff_6_12 Kc_49 (by decide) (fun _ => rfl) (fun _ => rfl) (fun _ => rfl) ?_
  show BW Y X 50 2 74 (fun ad => [(0, .ref (ad 49))]) (fun _ => []) 59 ((49, 12) :: (49, 10) :: (49, 8) :: (49, 6) :: (49, 5) :: (49, 3) :: (49, 2) :: (49, 1) :: (49, 0) :: B_49) 9 510
  refine b_aload_n C (fun ad => ad 49) dX6_init_74 0 (fun _ => rfl) ?_
  show BW Y X 50 2 75 (fun ad => [(0, .ref (ad 49))]) (fun ad => [.ref (ad 49)]) 59 ((49, 12) :: (49, 10) :: (49, 8) :: (49, 6) :: (49, 5) :: (49, 3) :: (49, 2) :: (49, 1) :: (49, 0) :: B_49) 9 510
  refine b_bipush (v := 40) C dX6_init_75 (by decide) ?_
  show BW Y X 50 2 77 (fun ad => [(0, .ref (ad 49))]) (fun ad => [.int 40, .ref (ad 49)]) 59 ((49, 12) :: (49, 10) :: (49, 8) :: (49, 6) :: (49, 5) :: (49, 3) :: (49, 2) :: (49, 1) :: (49, 0) :: B_49) 9 510
  refine b_newa C dX6_init_77 ac_int Kc_59 (by decide) (by decide) (by decide) (GB_of (by decide +kernel)) (by decide) (Nat.le_of_ble_eq_true rfl) (Nat.le_of_ble_eq_true rfl) (fun ad ad' h => by simp only [h 49 (Or.inl (by decide))]) (fun ad ad' h => by simp only [h 49 (Or.inl (by decide))]) ?_
  show BW Y X 50 2 79 (fun ad => [(0, .ref (ad 49))]) (fun ad => [.ref (ad 59), .ref (ad 49)]) 60 ((49, 12) :: (49, 10) :: (49, 8) :: (49, 6) :: (49, 5) :: (49, 3) :: (49, 2) :: (49, 1) :: (49, 0) :: B_49) 10 550
  refine b_put (k0 := 49) (v := fun ad => .ref (ad 59)) C hin dX6_init_79 ifl_X6_37 ff_6_17 Kc_49 (by decide) (fun _ => rfl) (fun _ => rfl) (fun _ => rfl) ?_
  show BW Y X 50 2 82 (fun ad => [(0, .ref (ad 49))]) (fun _ => []) 60 ((49, 17) :: (49, 12) :: (49, 10) :: (49, 8) :: (49, 6) :: (49, 5) :: (49, 3) :: (49, 2) :: (49, 1) :: (49, 0) :: B_49) 10 550
  refine b_aload_n C (fun ad => ad 49) dX6_init_82 0 (fun _ => rfl) ?_
  show BW Y X 50 2 83 (fun ad => [(0, .ref (ad 49))]) (fun ad => [.ref (ad 49)]) 60 ((49, 17) :: (49, 12) :: (49, 10) :: (49, 8) :: (49, 6) :: (49, 5) :: (49, 3) :: (49, 2) :: (49, 1) :: (49, 0) :: B_49) 10 550
  refine b_bipush (v := 40) C dX6_init_83 (by decide) ?_
  show BW Y X 50 2 85 (fun ad => [(0, .ref (ad 49))]) (fun ad => [.int 40, .ref (ad 49)]) 60 ((49, 17) :: (49, 12) :: (49, 10) :: (49, 8) :: (49, 6) :: (49, 5) :: (49, 3) :: (49, 2) :: (49, 1) :: (49, 0) :: B_49) 10 550
  refine b_newa C dX6_init_85 ac_int Kc_60 (by decide) (by decide) (by decide) (GB_of (by decide +kernel)) (by decide) (Nat.le_of_ble_eq_true rfl) (Nat.le_of_ble_eq_true rfl) (fun ad ad' h => by simp only [h 49 (Or.inl (by decide))]) (fun ad ad' h => by simp only [h 49 (Or.inl (by decide))]) ?_
  show BW Y X 50 2 87 (fun ad => [(0, .ref (ad 49))]) (fun ad => [.ref (ad 60), .ref (ad 49)]) 61 ((49, 17) :: (49, 12) :: (49, 10) :: (49, 8) :: (49, 6) :: (49, 5) :: (49, 3) :: (49, 2) :: (49, 1) :: (49, 0) :: B_49) 11 590
  refine b_put (k0 := 49) (v := fun ad => .ref (ad 60)) C hin dX6_init_87 ifl_X6_40 ff_6_18 Kc_49 (by decide) (fun _ => rfl) (fun _ => rfl) (fun _ => rfl) ?_
  show BW Y X 50 2 90 (fun ad => [(0, .ref (ad 49))]) (fun _ => []) 61 ((49, 18) :: (49, 17) :: (49, 12) :: (49, 10) :: (49, 8) :: (49, 6) :: (49, 5) :: (49, 3) :: (49, 2) :: (49, 1) :: (49, 0) :: B_49) 11 590
  refine b_aload_n C (fun ad => ad 49) dX6_init_90 0 (fun _ => rfl) ?_
  show BW Y X 50 2 91 (fun ad => [(0, .ref (ad 49))]) (fun ad => [.ref (ad 49)]) 61 ((49, 18) :: (49, 17) :: (49, 12) :: (49, 10) :: (49, 8) :: (49, 6) :: (49, 5) :: (49, 3) :: (49, 2) :: (49, 1) :: (49, 0) :: B_49) 11 590
  refine b_bipush (v := 8) C dX6_init_91 (by decide) ?_
  show BW Y X 50 2 93 (fun ad => [(0, .ref (ad 49))]) (fun ad => [.int 8, .ref (ad 49)]) 61 ((49, 18) :: (49, 17) :: (49, 12) :: (49, 10) :: (49, 8) :: (49, 6) :: (49, 5) :: (49, 3) :: (49, 2) :: (49, 1) :: (49, 0) :: B_49) 11 590
  refine b_newa C dX6_init_93 ac_int Kc_61 (by decide) (by decide) (by decide) (GB_of (by decide +kernel)) (by decide) (Nat.le_of_ble_eq_true rfl) (Nat.le_of_ble_eq_true rfl) (fun ad ad' h => by simp only [h 49 (Or.inl (by decide))]) (fun ad ad' h => by simp only [h 49 (Or.inl (by decide))]) ?_
  show BW Y X 50 2 95 (fun ad => [(0, .ref (ad 49))]) (fun ad => [.ref (ad 61), .ref (ad 49)]) 62 ((49, 18) :: (49, 17) :: (49, 12) :: (49, 10) :: (49, 8) :: (49, 6) :: (49, 5) :: (49, 3) :: (49, 2) :: (49, 1) :: (49, 0) :: B_49) 12 598
  refine b_put (k0 := 49) (v := fun ad => .ref (ad 61)) C hin dX6_init_95 ifl_X6_43 ff_6_19 Kc_49 (by decide) (fun _ => rfl) (fun _ => rfl) (fun _ => rfl) ?_
  show BW Y X 50 2 98 (fun ad => [(0, .ref (ad 49))]) (fun _ => []) 62 ((49, 19) :: (49, 18) :: (49, 17) :: (49, 12) :: (49, 10) :: (49, 8) :: (49, 6) :: (49, 5) :: (49, 3) :: (49, 2) :: (49, 1) :: (49, 0) :: B_49) 12 598
  refine b_aload_n C (fun ad => ad 49) dX6_init_98 0 (fun _ => rfl) ?_
  show BW Y X 50 2 99 (fun ad => [(0, .ref (ad 49))]) (fun ad => [.ref (ad 49)]) 62 ((49, 19) :: (49, 18) :: (49, 17) :: (49, 12) :: (49, 10) :: (49, 8) :: (49, 6) :: (49, 5) :: (49, 3) :: (49, 2) :: (49, 1) :: (49, 0) :: B_49) 12 598
  refine b_sipush (v := 1200) C dX6_init_99 (by decide) ?_
  show BW Y X 50 2 102 (fun ad => [(0, .ref (ad 49))]) (fun ad => [.int 1200, .ref (ad 49)]) 62 ((49, 19) :: (49, 18) :: (49, 17) :: (49, 12) :: (49, 10) :: (49, 8) :: (49, 6) :: (49, 5) :: (49, 3) :: (49, 2) :: (49, 1) :: (49, 0) :: B_49) 12 598
  refine b_newa C dX6_init_102 ac_int Kc_62 (by decide) (by decide) (by decide) (GB_of (by decide +kernel)) (by decide) (Nat.le_of_ble_eq_true rfl) (Nat.le_of_ble_eq_true rfl) (fun ad ad' h => by simp only [h 49 (Or.inl (by decide))]) (fun ad ad' h => by simp only [h 49 (Or.inl (by decide))]) ?_
  show BW Y X 50 2 104 (fun ad => [(0, .ref (ad 49))]) (fun ad => [.ref (ad 62), .ref (ad 49)]) 63 ((49, 19) :: (49, 18) :: (49, 17) :: (49, 12) :: (49, 10) :: (49, 8) :: (49, 6) :: (49, 5) :: (49, 3) :: (49, 2) :: (49, 1) :: (49, 0) :: B_49) 13 1798
  refine b_put (k0 := 49) (v := fun ad => .ref (ad 62)) C hin dX6_init_104 ifl_X6_46 ff_6_20 Kc_49 (by decide) (fun _ => rfl) (fun _ => rfl) (fun _ => rfl) ?_
  show BW Y X 50 2 107 (fun ad => [(0, .ref (ad 49))]) (fun _ => []) 63 ((49, 20) :: (49, 19) :: (49, 18) :: (49, 17) :: (49, 12) :: (49, 10) :: (49, 8) :: (49, 6) :: (49, 5) :: (49, 3) :: (49, 2) :: (49, 1) :: (49, 0) :: B_49) 13 1798
  refine b_aload_n C (fun ad => ad 49) dX6_init_107 0 (fun _ => rfl) ?_
  show BW Y X 50 2 108 (fun ad => [(0, .ref (ad 49))]) (fun ad => [.ref (ad 49)]) 63 ((49, 20) :: (49, 19) :: (49, 18) :: (49, 17) :: (49, 12) :: (49, 10) :: (49, 8) :: (49, 6) :: (49, 5) :: (49, 3) :: (49, 2) :: (49, 1) :: (49, 0) :: B_49) 13 1798
  refine b_sipush (v := 1200) C dX6_init_108 (by decide) ?_
  show BW Y X 50 2 111 (fun ad => [(0, .ref (ad 49))]) (fun ad => [.int 1200, .ref (ad 49)]) 63 ((49, 20) :: (49, 19) :: (49, 18) :: (49, 17) :: (49, 12) :: (49, 10) :: (49, 8) :: (49, 6) :: (49, 5) :: (49, 3) :: (49, 2) :: (49, 1) :: (49, 0) :: B_49) 13 1798
  refine b_newa C dX6_init_111 ac_int Kc_63 (by decide) (by decide) (by decide) (GB_of (by decide +kernel)) (by decide) (Nat.le_of_ble_eq_true rfl) (Nat.le_of_ble_eq_true rfl) (fun ad ad' h => by simp only [h 49 (Or.inl (by decide))]) (fun ad ad' h => by simp only [h 49 (Or.inl (by decide))]) ?_
  show BW Y X 50 2 113 (fun ad => [(0, .ref (ad 49))]) (fun ad => [.ref (ad 63), .ref (ad 49)]) 64 ((49, 20) :: (49, 19) :: (49, 18) :: (49, 17) :: (49, 12) :: (49, 10) :: (49, 8) :: (49, 6) :: (49, 5) :: (49, 3) :: (49, 2) :: (49, 1) :: (49, 0) :: B_49) 14 2998
  refine b_put (k0 := 49) (v := fun ad => .ref (ad 63)) C hin dX6_init_113 ifl_X6_49 ff_6_21 Kc_49 (by decide) (fun _ => rfl) (fun _ => rfl) (fun _ => rfl) ?_
  show BW Y X 50 2 116 (fun ad => [(0, .ref (ad 49))]) (fun _ => []) 64 ((49, 21) :: (49, 20) :: (49, 19) :: (49, 18) :: (49, 17) :: (49, 12) :: (49, 10) :: (49, 8) :: (49, 6) :: (49, 5) :: (49, 3) :: (49, 2) :: (49, 1) :: (49, 0) :: B_49) 14 2998
  refine b_aload_n C (fun ad => ad 49) dX6_init_116 0 (fun _ => rfl) ?_
  show BW Y X 50 2 117 (fun ad => [(0, .ref (ad 49))]) (fun ad => [.ref (ad 49)]) 64 ((49, 21) :: (49, 20) :: (49, 19) :: (49, 18) :: (49, 17) :: (49, 12) :: (49, 10) :: (49, 8) :: (49, 6) :: (49, 5) :: (49, 3) :: (49, 2) :: (49, 1) :: (49, 0) :: B_49) 14 2998
  refine b_sipush (v := 240) C dX6_init_117 (by decide) ?_
  show BW Y X 50 2 120 (fun ad => [(0, .ref (ad 49))]) (fun ad => [.int 240, .ref (ad 49)]) 64 ((49, 21) :: (49, 20) :: (49, 19) :: (49, 18) :: (49, 17) :: (49, 12) :: (49, 10) :: (49, 8) :: (49, 6) :: (49, 5) :: (49, 3) :: (49, 2) :: (49, 1) :: (49, 0) :: B_49) 14 2998
  refine b_newa C dX6_init_120 ac_int Kc_64 (by decide) (by decide) (by decide) (GB_of (by decide +kernel)) (by decide) (Nat.le_of_ble_eq_true rfl) (Nat.le_of_ble_eq_true rfl) (fun ad ad' h => by simp only [h 49 (Or.inl (by decide))]) (fun ad ad' h => by simp only [h 49 (Or.inl (by decide))]) ?_
  show BW Y X 50 2 122 (fun ad => [(0, .ref (ad 49))]) (fun ad => [.ref (ad 64), .ref (ad 49)]) 65 ((49, 21) :: (49, 20) :: (49, 19) :: (49, 18) :: (49, 17) :: (49, 12) :: (49, 10) :: (49, 8) :: (49, 6) :: (49, 5) :: (49, 3) :: (49, 2) :: (49, 1) :: (49, 0) :: B_49) 15 3238
  refine b_put (k0 := 49) (v := fun ad => .ref (ad 64)) C hin dX6_init_122 ifl_X6_52 ff_6_22 Kc_49 (by decide) (fun _ => rfl) (fun _ => rfl) (fun _ => rfl) ?_
  show BW Y X 50 2 125 (fun ad => [(0, .ref (ad 49))]) (fun _ => []) 65 ((49, 22) :: (49, 21) :: (49, 20) :: (49, 19) :: (49, 18) :: (49, 17) :: (49, 12) :: (49, 10) :: (49, 8) :: (49, 6) :: (49, 5) :: (49, 3) :: (49, 2) :: (49, 1) :: (49, 0) :: B_49) 15 3238
  refine b_aload_n C (fun ad => ad 49) dX6_init_125 0 (fun _ => rfl) ?_
  show BW Y X 50 2 126 (fun ad => [(0, .ref (ad 49))]) (fun ad => [.ref (ad 49)]) 65 ((49, 22) :: (49, 21) :: (49, 20) :: (49, 19) :: (49, 18) :: (49, 17) :: (49, 12) :: (49, 10) :: (49, 8) :: (49, 6) :: (49, 5) :: (49, 3) :: (49, 2) :: (49, 1) :: (49, 0) :: B_49) 15 3238
  refine b_sipush (v := 240) C dX6_init_126 (by decide) ?_
  show BW Y X 50 2 129 (fun ad => [(0, .ref (ad 49))]) (fun ad => [.int 240, .ref (ad 49)]) 65 ((49, 22) :: (49, 21) :: (49, 20) :: (49, 19) :: (49, 18) :: (49, 17) :: (49, 12) :: (49, 10) :: (49, 8) :: (49, 6) :: (49, 5) :: (49, 3) :: (49, 2) :: (49, 1) :: (49, 0) :: B_49) 15 3238
  refine b_newa C dX6_init_129 ac_int Kc_65 (by decide) (by decide) (by decide) (GB_of (by decide +kernel)) (by decide) (Nat.le_of_ble_eq_true rfl) (Nat.le_of_ble_eq_true rfl) (fun ad ad' h => by simp only [h 49 (Or.inl (by decide))]) (fun ad ad' h => by simp only [h 49 (Or.inl (by decide))]) ?_
  show BW Y X 50 2 131 (fun ad => [(0, .ref (ad 49))]) (fun ad => [.ref (ad 65), .ref (ad 49)]) 66 ((49, 22) :: (49, 21) :: (49, 20) :: (49, 19) :: (49, 18) :: (49, 17) :: (49, 12) :: (49, 10) :: (49, 8) :: (49, 6) :: (49, 5) :: (49, 3) :: (49, 2) :: (49, 1) :: (49, 0) :: B_49) 16 3478
  refine b_put (k0 := 49) (v := fun ad => .ref (ad 65)) C hin dX6_init_131 ifl_X6_55 ff_6_23 Kc_49 (by decide) (fun _ => rfl) (fun _ => rfl) (fun _ => rfl) ?_
  show BW Y X 50 2 134 (fun ad => [(0, .ref (ad 49))]) (fun _ => []) 66 ((49, 23) :: (49, 22) :: (49, 21) :: (49, 20) :: (49, 19) :: (49, 18) :: (49, 17) :: (49, 12) :: (49, 10) :: (49, 8) :: (49, 6) :: (49, 5) :: (49, 3) :: (49, 2) :: (49, 1) :: (49, 0) :: B_49) 16 3478
  refine b_aload_n C (fun ad => ad 49) dX6_init_134 0 (fun _ => rfl) ?_
  show BW Y X 50 2 135 (fun ad => [(0, .ref (ad 49))]) (fun ad => [.ref (ad 49)]) 66 ((49, 23) :: (49, 22) :: (49, 21) :: (49, 20) :: (49, 19) :: (49, 18) :: (49, 17) :: (49, 12) :: (49, 10) :: (49, 8) :: (49, 6) :: (49, 5) :: (49, 3) :: (49, 2) :: (49, 1) :: (49, 0) :: B_49) 16 3478
  refine b_sipush (v := 240) C dX6_init_135 (by decide) ?_
  show BW Y X 50 2 138 (fun ad => [(0, .ref (ad 49))]) (fun ad => [.int 240, .ref (ad 49)]) 66 ((49, 23) :: (49, 22) :: (49, 21) :: (49, 20) :: (49, 19) :: (49, 18) :: (49, 17) :: (49, 12) :: (49, 10) :: (49, 8) :: (49, 6) :: (49, 5) :: (49, 3) :: (49, 2) :: (49, 1) :: (49, 0) :: B_49) 16 3478
  refine b_newa C dX6_init_138 ac_int Kc_66 (by decide) (by decide) (by decide) (GB_of (by decide +kernel)) (by decide) (Nat.le_of_ble_eq_true rfl) (Nat.le_of_ble_eq_true rfl) (fun ad ad' h => by simp only [h 49 (Or.inl (by decide))]) (fun ad ad' h => by simp only [h 49 (Or.inl (by decide))]) ?_
  show BW Y X 50 2 140 (fun ad => [(0, .ref (ad 49))]) (fun ad => [.ref (ad 66), .ref (ad 49)]) 67 ((49, 23) :: (49, 22) :: (49, 21) :: (49, 20) :: (49, 19) :: (49, 18) :: (49, 17) :: (49, 12) :: (49, 10) :: (49, 8) :: (49, 6) :: (49, 5) :: (49, 3) :: (49, 2) :: (49, 1) :: (49, 0) :: B_49) 17 3718
  refine b_put (k0 := 49) (v := fun ad => .ref (ad 66)) C hin dX6_init_140 ifl_X6_58 ff_6_24 Kc_49 (by decide) (fun _ => rfl) (fun _ => rfl) (fun _ => rfl) ?_
  show BW Y X 50 2 143 (fun ad => [(0, .ref (ad 49))]) (fun _ => []) 67 ((49, 24) :: (49, 23) :: (49, 22) :: (49, 21) :: (49, 20) :: (49, 19) :: (49, 18) :: (49, 17) :: (49, 12) :: (49, 10) :: (49, 8) :: (49, 6) :: (49, 5) :: (49, 3) :: (49, 2) :: (49, 1) :: (49, 0) :: B_49) 17 3718
  refine b_aload_n C (fun ad => ad 49) dX6_init_143 0 (fun _ => rfl) ?_
  show BW Y X 50 2 144 (fun ad => [(0, .ref (ad 49))]) (fun ad => [.ref (ad 49)]) 67 ((49, 24) :: (49, 23) :: (49, 22) :: (49, 21) :: (49, 20) :: (49, 19) :: (49, 18) :: (49, 17) :: (49, 12) :: (49, 10) :: (49, 8) :: (49, 6) :: (49, 5) :: (49, 3) :: (49, 2) :: (49, 1) :: (49, 0) :: B_49) 17 3718
  refine b_bipush (v := 8) C dX6_init_144 (by decide) ?_
  show BW Y X 50 2 146 (fun ad => [(0, .ref (ad 49))]) (fun ad => [.int 8, .ref (ad 49)]) 67 ((49, 24) :: (49, 23) :: (49, 22) :: (49, 21) :: (49, 20) :: (49, 19) :: (49, 18) :: (49, 17) :: (49, 12) :: (49, 10) :: (49, 8) :: (49, 6) :: (49, 5) :: (49, 3) :: (49, 2) :: (49, 1) :: (49, 0) :: B_49) 17 3718
  refine b_newa C dX6_init_146 ac_int Kc_67 (by decide) (by decide) (by decide) (GB_of (by decide +kernel)) (by decide) (Nat.le_of_ble_eq_true rfl) (Nat.le_of_ble_eq_true rfl) (fun ad ad' h => by simp only [h 49 (Or.inl (by decide))]) (fun ad ad' h => by simp only [h 49 (Or.inl (by decide))]) ?_
  show BW Y X 50 2 148 (fun ad => [(0, .ref (ad 49))]) (fun ad => [.ref (ad 67), .ref (ad 49)]) 68 ((49, 24) :: (49, 23) :: (49, 22) :: (49, 21) :: (49, 20) :: (49, 19) :: (49, 18) :: (49, 17) :: (49, 12) :: (49, 10) :: (49, 8) :: (49, 6) :: (49, 5) :: (49, 3) :: (49, 2) :: (49, 1) :: (49, 0) :: B_49) 18 3726
  refine b_put (k0 := 49) (v := fun ad => .ref (ad 67)) C hin dX6_init_148 ifl_X6_61 ff_6_25 Kc_49 (by decide) (fun _ => rfl) (fun _ => rfl) (fun _ => rfl) ?_
  show BW Y X 50 2 151 (fun ad => [(0, .ref (ad 49))]) (fun _ => []) 68 ((49, 25) :: (49, 24) :: (49, 23) :: (49, 22) :: (49, 21) :: (49, 20) :: (49, 19) :: (49, 18) :: (49, 17) :: (49, 12) :: (49, 10) :: (49, 8) :: (49, 6) :: (49, 5) :: (49, 3) :: (49, 2) :: (49, 1) :: (49, 0) :: B_49) 18 3726
  refine b_aload_n C (fun ad => ad 49) dX6_init_151 0 (fun _ => rfl) ?_
  show BW Y X 50 2 152 (fun ad => [(0, .ref (ad 49))]) (fun ad => [.ref (ad 49)]) 68 ((49, 25) :: (49, 24) :: (49, 23) :: (49, 22) :: (49, 21) :: (49, 20) :: (49, 19) :: (49, 18) :: (49, 17) :: (49, 12) :: (49, 10) :: (49, 8) :: (49, 6) :: (49, 5) :: (49, 3) :: (49, 2) :: (49, 1) :: (49, 0) :: B_49) 18 3726
  refine b_bipush (v := 32) C dX6_init_152 (by decide) ?_
  show BW Y X 50 2 154 (fun ad => [(0, .ref (ad 49))]) (fun ad => [.int 32, .ref (ad 49)]) 68 ((49, 25) :: (49, 24) :: (49, 23) :: (49, 22) :: (49, 21) :: (49, 20) :: (49, 19) :: (49, 18) :: (49, 17) :: (49, 12) :: (49, 10) :: (49, 8) :: (49, 6) :: (49, 5) :: (49, 3) :: (49, 2) :: (49, 1) :: (49, 0) :: B_49) 18 3726
  refine b_newa C dX6_init_154 ac_int Kc_68 (by decide) (by decide) (by decide) (GB_of (by decide +kernel)) (by decide) (Nat.le_of_ble_eq_true rfl) (Nat.le_of_ble_eq_true rfl) (fun ad ad' h => by simp only [h 49 (Or.inl (by decide))]) (fun ad ad' h => by simp only [h 49 (Or.inl (by decide))]) ?_
  show BW Y X 50 2 156 (fun ad => [(0, .ref (ad 49))]) (fun ad => [.ref (ad 68), .ref (ad 49)]) 69 ((49, 25) :: (49, 24) :: (49, 23) :: (49, 22) :: (49, 21) :: (49, 20) :: (49, 19) :: (49, 18) :: (49, 17) :: (49, 12) :: (49, 10) :: (49, 8) :: (49, 6) :: (49, 5) :: (49, 3) :: (49, 2) :: (49, 1) :: (49, 0) :: B_49) 19 3758
  refine b_put (k0 := 49) (v := fun ad => .ref (ad 68)) C hin dX6_init_156 ifl_X6_64 ff_6_27 Kc_49 (by decide) (fun _ => rfl) (fun _ => rfl) (fun _ => rfl) ?_
  show BW Y X 50 2 159 (fun ad => [(0, .ref (ad 49))]) (fun _ => []) 69 ((49, 27) :: (49, 25) :: (49, 24) :: (49, 23) :: (49, 22) :: (49, 21) :: (49, 20) :: (49, 19) :: (49, 18) :: (49, 17) :: (49, 12) :: (49, 10) :: (49, 8) :: (49, 6) :: (49, 5) :: (49, 3) :: (49, 2) :: (49, 1) :: (49, 0) :: B_49) 19 3758
  refine b_aload_n C (fun ad => ad 49) dX6_init_159 0 (fun _ => rfl) ?_
  show BW Y X 50 2 160 (fun ad => [(0, .ref (ad 49))]) (fun ad => [.ref (ad 49)]) 69 ((49, 27) :: (49, 25) :: (49, 24) :: (49, 23) :: (49, 22) :: (49, 21) :: (49, 20) :: (49, 19) :: (49, 18) :: (49, 17) :: (49, 12) :: (49, 10) :: (49, 8) :: (49, 6) :: (49, 5) :: (49, 3) :: (49, 2) :: (49, 1) :: (49, 0) :: B_49) 19 3758
  refine b_sipush (v := 240) C dX6_init_160 (by decide) ?_
  show BW Y X 50 2 163 (fun ad => [(0, .ref (ad 49))]) (fun ad => [.int 240, .ref (ad 49)]) 69 ((49, 27) :: (49, 25) :: (49, 24) :: (49, 23) :: (49, 22) :: (49, 21) :: (49, 20) :: (49, 19) :: (49, 18) :: (49, 17) :: (49, 12) :: (49, 10) :: (49, 8) :: (49, 6) :: (49, 5) :: (49, 3) :: (49, 2) :: (49, 1) :: (49, 0) :: B_49) 19 3758
  refine b_newa C dX6_init_163 ac_int Kc_69 (by decide) (by decide) (by decide) (GB_of (by decide +kernel)) (by decide) (Nat.le_of_ble_eq_true rfl) (Nat.le_of_ble_eq_true rfl) (fun ad ad' h => by simp only [h 49 (Or.inl (by decide))]) (fun ad ad' h => by simp only [h 49 (Or.inl (by decide))]) ?_
  show BW Y X 50 2 165 (fun ad => [(0, .ref (ad 49))]) (fun ad => [.ref (ad 69), .ref (ad 49)]) 70 ((49, 27) :: (49, 25) :: (49, 24) :: (49, 23) :: (49, 22) :: (49, 21) :: (49, 20) :: (49, 19) :: (49, 18) :: (49, 17) :: (49, 12) :: (49, 10) :: (49, 8) :: (49, 6) :: (49, 5) :: (49, 3) :: (49, 2) :: (49, 1) :: (49, 0) :: B_49) 20 3998
  refine b_put (k0 := 49) (v := fun ad => .ref (ad 69)) C hin dX6_init_165 ifl_X6_67 ff_6_28 Kc_49 (by decide) (fun _ => rfl) (fun _ => rfl) (fun _ => rfl) ?_
  show BW Y X 50 2 168 (fun ad => [(0, .ref (ad 49))]) (fun _ => []) 70 ((49, 28) :: (49, 27) :: (49, 25) :: (49, 24) :: (49, 23) :: (49, 22) :: (49, 21) :: (49, 20) :: (49, 19) :: (49, 18) :: (49, 17) :: (49, 12) :: (49, 10) :: (49, 8) :: (49, 6) :: (49, 5) :: (49, 3) :: (49, 2) :: (49, 1) :: (49, 0) :: B_49) 20 3998
  refine b_aload_n C (fun ad => ad 49) dX6_init_168 0 (fun _ => rfl) ?_
  show BW Y X 50 2 169 (fun ad => [(0, .ref (ad 49))]) (fun ad => [.ref (ad 49)]) 70 ((49, 28) :: (49, 27) :: (49, 25) :: (49, 24) :: (49, 23) :: (49, 22) :: (49, 21) :: (49, 20) :: (49, 19) :: (49, 18) :: (49, 17) :: (49, 12) :: (49, 10) :: (49, 8) :: (49, 6) :: (49, 5) :: (49, 3) :: (49, 2) :: (49, 1) :: (49, 0) :: B_49) 20 3998
  refine b_bipush (v := 24) C dX6_init_169 (by decide) ?_
  show BW Y X 50 2 171 (fun ad => [(0, .ref (ad 49))]) (fun ad => [.int 24, .ref (ad 49)]) 70 ((49, 28) :: (49, 27) :: (49, 25) :: (49, 24) :: (49, 23) :: (49, 22) :: (49, 21) :: (49, 20) :: (49, 19) :: (49, 18) :: (49, 17) :: (49, 12) :: (49, 10) :: (49, 8) :: (49, 6) :: (49, 5) :: (49, 3) :: (49, 2) :: (49, 1) :: (49, 0) :: B_49) 20 3998
  refine b_newa C dX6_init_171 ac_int Kc_70 (by decide) (by decide) (by decide) (GB_of (by decide +kernel)) (by decide) (Nat.le_of_ble_eq_true rfl) (Nat.le_of_ble_eq_true rfl) (fun ad ad' h => by simp only [h 49 (Or.inl (by decide))]) (fun ad ad' h => by simp only [h 49 (Or.inl (by decide))]) ?_
  show BW Y X 50 2 173 (fun ad => [(0, .ref (ad 49))]) (fun ad => [.ref (ad 70), .ref (ad 49)]) 71 ((49, 28) :: (49, 27) :: (49, 25) :: (49, 24) :: (49, 23) :: (49, 22) :: (49, 21) :: (49, 20) :: (49, 19) :: (49, 18) :: (49, 17) :: (49, 12) :: (49, 10) :: (49, 8) :: (49, 6) :: (49, 5) :: (49, 3) :: (49, 2) :: (49, 1) :: (49, 0) :: B_49) 21 4022
  refine b_put (k0 := 49) (v := fun ad => .ref (ad 70)) C hin dX6_init_173 ifl_X6_70 ff_6_30 Kc_49 (by decide) (fun _ => rfl) (fun _ => rfl) (fun _ => rfl) ?_
  show BW Y X 50 2 176 (fun ad => [(0, .ref (ad 49))]) (fun _ => []) 71 ((49, 30) :: (49, 28) :: (49, 27) :: (49, 25) :: (49, 24) :: (49, 23) :: (49, 22) :: (49, 21) :: (49, 20) :: (49, 19) :: (49, 18) :: (49, 17) :: (49, 12) :: (49, 10) :: (49, 8) :: (49, 6) :: (49, 5) :: (49, 3) :: (49, 2) :: (49, 1) :: (49, 0) :: B_49) 21 4022
  refine b_iconst (v := 0) C dX6_init_176 (by decide) ?_
  show BW Y X 50 2 177 (fun ad => [(0, .ref (ad 49))]) (fun _ => [.int 0]) 71 ((49, 30) :: (49, 28) :: (49, 27) :: (49, 25) :: (49, 24) :: (49, 23) :: (49, 22) :: (49, 21) :: (49, 20) :: (49, 19) :: (49, 18) :: (49, 17) :: (49, 12) :: (49, 10) :: (49, 8) :: (49, 6) :: (49, 5) :: (49, 3) :: (49, 2) :: (49, 1) :: (49, 0) :: B_49) 21 4022
  refine b_istore_n (lv' := (fun ad => [(1, .int 0), (0, .ref (ad 49))])) C dX6_init_177 rfl (by decide) (fun _ => rfl) ?_
  show BW Y X 50 2 178 (fun ad => [(1, .int 0), (0, .ref (ad 49))]) (fun _ => []) 71 ((49, 30) :: (49, 28) :: (49, 27) :: (49, 25) :: (49, 24) :: (49, 23) :: (49, 22) :: (49, 21) :: (49, 20) :: (49, 19) :: (49, 18) :: (49, 17) :: (49, 12) :: (49, 10) :: (49, 8) :: (49, 6) :: (49, 5) :: (49, 3) :: (49, 2) :: (49, 1) :: (49, 0) :: B_49) 21 4022
  refine b_iload_n C (0) dX6_init_178 0 (fun _ => rfl) ?_
  show BW Y X 50 2 179 (fun ad => [(1, .int 0), (0, .ref (ad 49))]) (fun _ => [.int 0]) 71 ((49, 30) :: (49, 28) :: (49, 27) :: (49, 25) :: (49, 24) :: (49, 23) :: (49, 22) :: (49, 21) :: (49, 20) :: (49, 19) :: (49, 18) :: (49, 17) :: (49, 12) :: (49, 10) :: (49, 8) :: (49, 6) :: (49, 5) :: (49, 3) :: (49, 2) :: (49, 1) :: (49, 0) :: B_49) 21 4022
  refine b_iconst (v := 4) C dX6_init_179 (by decide) ?_
  show BW Y X 50 2 180 (fun ad => [(1, .int 0), (0, .ref (ad 49))]) (fun _ => [.int 4, .int 0]) 71 ((49, 30) :: (49, 28) :: (49, 27) :: (49, 25) :: (49, 24) :: (49, 23) :: (49, 22) :: (49, 21) :: (49, 20) :: (49, 19) :: (49, 18) :: (49, 17) :: (49, 12) :: (49, 10) :: (49, 8) :: (49, 6) :: (49, 5) :: (49, 3) :: (49, 2) :: (49, 1) :: (49, 0) :: B_49) 21 4022
  refine b_icmp_ge (tgt := 196) C dX6_init_180 (by decide) (fun hc => absurd hc (by decide)) (fun _ => ?_)
  show BW Y X 50 2 183 (fun ad => [(1, .int 0), (0, .ref (ad 49))]) (fun _ => []) 71 ((49, 30) :: (49, 28) :: (49, 27) :: (49, 25) :: (49, 24) :: (49, 23) :: (49, 22) :: (49, 21) :: (49, 20) :: (49, 19) :: (49, 18) :: (49, 17) :: (49, 12) :: (49, 10) :: (49, 8) :: (49, 6) :: (49, 5) :: (49, 3) :: (49, 2) :: (49, 1) :: (49, 0) :: B_49) 21 4022
  refine b_aload_n C (fun ad => ad 49) dX6_init_183 1 (fun _ => rfl) ?_
  show BW Y X 50 2 184 (fun ad => [(1, .int 0), (0, .ref (ad 49))]) (fun ad => [.ref (ad 49)]) 71 ((49, 30) :: (49, 28) :: (49, 27) :: (49, 25) :: (49, 24) :: (49, 23) :: (49, 22) :: (49, 21) :: (49, 20) :: (49, 19) :: (49, 18) :: (49, 17) :: (49, 12) :: (49, 10) :: (49, 8) :: (49, 6) :: (49, 5) :: (49, 3) :: (49, 2) :: (49, 1) :: (49, 0) :: B_49) 21 4022
  refine b_getr (k0 := 49) (k1 := 50) C dX6_init_184 ifl_X6_7 rfl Kc_49 (by decide) (by decide +kernel) rfl ?_
  show BW Y X 50 2 187 (fun ad => [(1, .int 0), (0, .ref (ad 49))]) (fun ad => [.ref (ad 50)]) 71 ((49, 30) :: (49, 28) :: (49, 27) :: (49, 25) :: (49, 24) :: (49, 23) :: (49, 22) :: (49, 21) :: (49, 20) :: (49, 19) :: (49, 18) :: (49, 17) :: (49, 12) :: (49, 10) :: (49, 8) :: (49, 6) :: (49, 5) :: (49, 3) :: (49, 2) :: (49, 1) :: (49, 0) :: B_49) 21 4022
  refine b_iload_n C (0) dX6_init_187 0 (fun _ => rfl) ?_
  show BW Y X 50 2 188 (fun ad => [(1, .int 0), (0, .ref (ad 49))]) (fun ad => [.int 0, .ref (ad 50)]) 71 ((49, 30) :: (49, 28) :: (49, 27) :: (49, 25) :: (49, 24) :: (49, 23) :: (49, 22) :: (49, 21) :: (49, 20) :: (49, 19) :: (49, 18) :: (49, 17) :: (49, 12) :: (49, 10) :: (49, 8) :: (49, 6) :: (49, 5) :: (49, 3) :: (49, 2) :: (49, 1) :: (49, 0) :: B_49) 21 4022
  refine b_iconst (v := -1) C dX6_init_188 (by decide) ?_
  show BW Y X 50 2 189 (fun ad => [(1, .int 0), (0, .ref (ad 49))]) (fun ad => [.int (-1), .int 0, .ref (ad 50)]) 71 ((49, 30) :: (49, 28) :: (49, 27) :: (49, 25) :: (49, 24) :: (49, 23) :: (49, 22) :: (49, 21) :: (49, 20) :: (49, 19) :: (49, 18) :: (49, 17) :: (49, 12) :: (49, 10) :: (49, 8) :: (49, 6) :: (49, 5) :: (49, 3) :: (49, 2) :: (49, 1) :: (49, 0) :: B_49) 21 4022
  refine b_iast (k0 := 50) (i := 0) C dX6_init_189 Kc_50 (by decide) rfl (by decide) rfl ?_
  show BW Y X 50 2 190 (fun ad => [(1, .int 0), (0, .ref (ad 49))]) (fun _ => []) 71 ((50, 0) :: (49, 30) :: (49, 28) :: (49, 27) :: (49, 25) :: (49, 24) :: (49, 23) :: (49, 22) :: (49, 21) :: (49, 20) :: (49, 19) :: (49, 18) :: (49, 17) :: (49, 12) :: (49, 10) :: (49, 8) :: (49, 6) :: (49, 5) :: (49, 3) :: (49, 2) :: (49, 1) :: (49, 0) :: B_49) 21 4022
  refine b_iinc (x := 0) (v := 0) (w := 1) (lv' := (fun ad => [(1, .int 1), (0, .ref (ad 49))])) C dX6_init_190 0 (fun _ => rfl) (by decide) (by decide) (fun _ => rfl) ?_
  show BW Y X 50 2 193 (fun ad => [(1, .int 1), (0, .ref (ad 49))]) (fun _ => []) 71 ((50, 0) :: (49, 30) :: (49, 28) :: (49, 27) :: (49, 25) :: (49, 24) :: (49, 23) :: (49, 22) :: (49, 21) :: (49, 20) :: (49, 19) :: (49, 18) :: (49, 17) :: (49, 12) :: (49, 10) :: (49, 8) :: (49, 6) :: (49, 5) :: (49, 3) :: (49, 2) :: (49, 1) :: (49, 0) :: B_49) 21 4022
  refine b_goto (tgt := 178) C dX6_init_193 (by decide) ?_
  show BW Y X 50 2 178 (fun ad => [(1, .int 1), (0, .ref (ad 49))]) (fun _ => []) 71 ((50, 0) :: (49, 30) :: (49, 28) :: (49, 27) :: (49, 25) :: (49, 24) :: (49, 23) :: (49, 22) :: (49, 21) :: (49, 20) :: (49, 19) :: (49, 18) :: (49, 17) :: (49, 12) :: (49, 10) :: (49, 8) :: (49, 6) :: (49, 5) :: (49, 3) :: (49, 2) :: (49, 1) :: (49, 0) :: B_49) 21 4022
  refine b_iload_n C (1) dX6_init_178 0 (fun _ => rfl) ?_
  show BW Y X 50 2 179 (fun ad => [(1, .int 1), (0, .ref (ad 49))]) (fun _ => [.int 1]) 71 ((50, 0) :: (49, 30) :: (49, 28) :: (49, 27) :: (49, 25) :: (49, 24) :: (49, 23) :: (49, 22) :: (49, 21) :: (49, 20) :: (49, 19) :: (49, 18) :: (49, 17) :: (49, 12) :: (49, 10) :: (49, 8) :: (49, 6) :: (49, 5) :: (49, 3) :: (49, 2) :: (49, 1) :: (49, 0) :: B_49) 21 4022
  refine b_iconst (v := 4) C dX6_init_179 (by decide) ?_
  show BW Y X 50 2 180 (fun ad => [(1, .int 1), (0, .ref (ad 49))]) (fun _ => [.int 4, .int 1]) 71 ((50, 0) :: (49, 30) :: (49, 28) :: (49, 27) :: (49, 25) :: (49, 24) :: (49, 23) :: (49, 22) :: (49, 21) :: (49, 20) :: (49, 19) :: (49, 18) :: (49, 17) :: (49, 12) :: (49, 10) :: (49, 8) :: (49, 6) :: (49, 5) :: (49, 3) :: (49, 2) :: (49, 1) :: (49, 0) :: B_49) 21 4022
  refine b_icmp_ge (tgt := 196) C dX6_init_180 (by decide) (fun hc => absurd hc (by decide)) (fun _ => ?_)
  show BW Y X 50 2 183 (fun ad => [(1, .int 1), (0, .ref (ad 49))]) (fun _ => []) 71 ((50, 0) :: (49, 30) :: (49, 28) :: (49, 27) :: (49, 25) :: (49, 24) :: (49, 23) :: (49, 22) :: (49, 21) :: (49, 20) :: (49, 19) :: (49, 18) :: (49, 17) :: (49, 12) :: (49, 10) :: (49, 8) :: (49, 6) :: (49, 5) :: (49, 3) :: (49, 2) :: (49, 1) :: (49, 0) :: B_49) 21 4022
  refine b_aload_n C (fun ad => ad 49) dX6_init_183 1 (fun _ => rfl) ?_
  show BW Y X 50 2 184 (fun ad => [(1, .int 1), (0, .ref (ad 49))]) (fun ad => [.ref (ad 49)]) 71 ((50, 0) :: (49, 30) :: (49, 28) :: (49, 27) :: (49, 25) :: (49, 24) :: (49, 23) :: (49, 22) :: (49, 21) :: (49, 20) :: (49, 19) :: (49, 18) :: (49, 17) :: (49, 12) :: (49, 10) :: (49, 8) :: (49, 6) :: (49, 5) :: (49, 3) :: (49, 2) :: (49, 1) :: (49, 0) :: B_49) 21 4022
  refine b_getr (k0 := 49) (k1 := 50) C dX6_init_184 ifl_X6_7 rfl Kc_49 (by decide) (by decide +kernel) rfl ?_
  show BW Y X 50 2 187 (fun ad => [(1, .int 1), (0, .ref (ad 49))]) (fun ad => [.ref (ad 50)]) 71 ((50, 0) :: (49, 30) :: (49, 28) :: (49, 27) :: (49, 25) :: (49, 24) :: (49, 23) :: (49, 22) :: (49, 21) :: (49, 20) :: (49, 19) :: (49, 18) :: (49, 17) :: (49, 12) :: (49, 10) :: (49, 8) :: (49, 6) :: (49, 5) :: (49, 3) :: (49, 2) :: (49, 1) :: (49, 0) :: B_49) 21 4022
  refine b_iload_n C (1) dX6_init_187 0 (fun _ => rfl) ?_
  show BW Y X 50 2 188 (fun ad => [(1, .int 1), (0, .ref (ad 49))]) (fun ad => [.int 1, .ref (ad 50)]) 71 ((50, 0) :: (49, 30) :: (49, 28) :: (49, 27) :: (49, 25) :: (49, 24) :: (49, 23) :: (49, 22) :: (49, 21) :: (49, 20) :: (49, 19) :: (49, 18) :: (49, 17) :: (49, 12) :: (49, 10) :: (49, 8) :: (49, 6) :: (49, 5) :: (49, 3) :: (49, 2) :: (49, 1) :: (49, 0) :: B_49) 21 4022
  refine b_iconst (v := -1) C dX6_init_188 (by decide) ?_
  show BW Y X 50 2 189 (fun ad => [(1, .int 1), (0, .ref (ad 49))]) (fun ad => [.int (-1), .int 1, .ref (ad 50)]) 71 ((50, 0) :: (49, 30) :: (49, 28) :: (49, 27) :: (49, 25) :: (49, 24) :: (49, 23) :: (49, 22) :: (49, 21) :: (49, 20) :: (49, 19) :: (49, 18) :: (49, 17) :: (49, 12) :: (49, 10) :: (49, 8) :: (49, 6) :: (49, 5) :: (49, 3) :: (49, 2) :: (49, 1) :: (49, 0) :: B_49) 21 4022
  refine b_iast (k0 := 50) (i := 1) C dX6_init_189 Kc_50 (by decide) rfl (by decide) rfl ?_
  show BW Y X 50 2 190 (fun ad => [(1, .int 1), (0, .ref (ad 49))]) (fun _ => []) 71 ((50, 1) :: (50, 0) :: (49, 30) :: (49, 28) :: (49, 27) :: (49, 25) :: (49, 24) :: (49, 23) :: (49, 22) :: (49, 21) :: (49, 20) :: (49, 19) :: (49, 18) :: (49, 17) :: (49, 12) :: (49, 10) :: (49, 8) :: (49, 6) :: (49, 5) :: (49, 3) :: (49, 2) :: (49, 1) :: (49, 0) :: B_49) 21 4022
  refine b_iinc (x := 1) (v := 0) (w := 2) (lv' := (fun ad => [(1, .int 2), (0, .ref (ad 49))])) C dX6_init_190 0 (fun _ => rfl) (by decide) (by decide) (fun _ => rfl) ?_
  show BW Y X 50 2 193 (fun ad => [(1, .int 2), (0, .ref (ad 49))]) (fun _ => []) 71 ((50, 1) :: (50, 0) :: (49, 30) :: (49, 28) :: (49, 27) :: (49, 25) :: (49, 24) :: (49, 23) :: (49, 22) :: (49, 21) :: (49, 20) :: (49, 19) :: (49, 18) :: (49, 17) :: (49, 12) :: (49, 10) :: (49, 8) :: (49, 6) :: (49, 5) :: (49, 3) :: (49, 2) :: (49, 1) :: (49, 0) :: B_49) 21 4022
  refine b_goto (tgt := 178) C dX6_init_193 (by decide) ?_
  show BW Y X 50 2 178 (fun ad => [(1, .int 2), (0, .ref (ad 49))]) (fun _ => []) 71 ((50, 1) :: (50, 0) :: (49, 30) :: (49, 28) :: (49, 27) :: (49, 25) :: (49, 24) :: (49, 23) :: (49, 22) :: (49, 21) :: (49, 20) :: (49, 19) :: (49, 18) :: (49, 17) :: (49, 12) :: (49, 10) :: (49, 8) :: (49, 6) :: (49, 5) :: (49, 3) :: (49, 2) :: (49, 1) :: (49, 0) :: B_49) 21 4022
  refine b_iload_n C (2) dX6_init_178 0 (fun _ => rfl) ?_
  show BW Y X 50 2 179 (fun ad => [(1, .int 2), (0, .ref (ad 49))]) (fun _ => [.int 2]) 71 ((50, 1) :: (50, 0) :: (49, 30) :: (49, 28) :: (49, 27) :: (49, 25) :: (49, 24) :: (49, 23) :: (49, 22) :: (49, 21) :: (49, 20) :: (49, 19) :: (49, 18) :: (49, 17) :: (49, 12) :: (49, 10) :: (49, 8) :: (49, 6) :: (49, 5) :: (49, 3) :: (49, 2) :: (49, 1) :: (49, 0) :: B_49) 21 4022
  refine b_iconst (v := 4) C dX6_init_179 (by decide) ?_
  show BW Y X 50 2 180 (fun ad => [(1, .int 2), (0, .ref (ad 49))]) (fun _ => [.int 4, .int 2]) 71 ((50, 1) :: (50, 0) :: (49, 30) :: (49, 28) :: (49, 27) :: (49, 25) :: (49, 24) :: (49, 23) :: (49, 22) :: (49, 21) :: (49, 20) :: (49, 19) :: (49, 18) :: (49, 17) :: (49, 12) :: (49, 10) :: (49, 8) :: (49, 6) :: (49, 5) :: (49, 3) :: (49, 2) :: (49, 1) :: (49, 0) :: B_49) 21 4022
  refine b_icmp_ge (tgt := 196) C dX6_init_180 (by decide) (fun hc => absurd hc (by decide)) (fun _ => ?_)
  show BW Y X 50 2 183 (fun ad => [(1, .int 2), (0, .ref (ad 49))]) (fun _ => []) 71 ((50, 1) :: (50, 0) :: (49, 30) :: (49, 28) :: (49, 27) :: (49, 25) :: (49, 24) :: (49, 23) :: (49, 22) :: (49, 21) :: (49, 20) :: (49, 19) :: (49, 18) :: (49, 17) :: (49, 12) :: (49, 10) :: (49, 8) :: (49, 6) :: (49, 5) :: (49, 3) :: (49, 2) :: (49, 1) :: (49, 0) :: B_49) 21 4022
  refine b_aload_n C (fun ad => ad 49) dX6_init_183 1 (fun _ => rfl) ?_
  show BW Y X 50 2 184 (fun ad => [(1, .int 2), (0, .ref (ad 49))]) (fun ad => [.ref (ad 49)]) 71 ((50, 1) :: (50, 0) :: (49, 30) :: (49, 28) :: (49, 27) :: (49, 25) :: (49, 24) :: (49, 23) :: (49, 22) :: (49, 21) :: (49, 20) :: (49, 19) :: (49, 18) :: (49, 17) :: (49, 12) :: (49, 10) :: (49, 8) :: (49, 6) :: (49, 5) :: (49, 3) :: (49, 2) :: (49, 1) :: (49, 0) :: B_49) 21 4022
  refine b_getr (k0 := 49) (k1 := 50) C dX6_init_184 ifl_X6_7 rfl Kc_49 (by decide) (by decide +kernel) rfl ?_
  show BW Y X 50 2 187 (fun ad => [(1, .int 2), (0, .ref (ad 49))]) (fun ad => [.ref (ad 50)]) 71 ((50, 1) :: (50, 0) :: (49, 30) :: (49, 28) :: (49, 27) :: (49, 25) :: (49, 24) :: (49, 23) :: (49, 22) :: (49, 21) :: (49, 20) :: (49, 19) :: (49, 18) :: (49, 17) :: (49, 12) :: (49, 10) :: (49, 8) :: (49, 6) :: (49, 5) :: (49, 3) :: (49, 2) :: (49, 1) :: (49, 0) :: B_49) 21 4022
  refine b_iload_n C (2) dX6_init_187 0 (fun _ => rfl) ?_
  show BW Y X 50 2 188 (fun ad => [(1, .int 2), (0, .ref (ad 49))]) (fun ad => [.int 2, .ref (ad 50)]) 71 ((50, 1) :: (50, 0) :: (49, 30) :: (49, 28) :: (49, 27) :: (49, 25) :: (49, 24) :: (49, 23) :: (49, 22) :: (49, 21) :: (49, 20) :: (49, 19) :: (49, 18) :: (49, 17) :: (49, 12) :: (49, 10) :: (49, 8) :: (49, 6) :: (49, 5) :: (49, 3) :: (49, 2) :: (49, 1) :: (49, 0) :: B_49) 21 4022
  refine b_iconst (v := -1) C dX6_init_188 (by decide) ?_
  show BW Y X 50 2 189 (fun ad => [(1, .int 2), (0, .ref (ad 49))]) (fun ad => [.int (-1), .int 2, .ref (ad 50)]) 71 ((50, 1) :: (50, 0) :: (49, 30) :: (49, 28) :: (49, 27) :: (49, 25) :: (49, 24) :: (49, 23) :: (49, 22) :: (49, 21) :: (49, 20) :: (49, 19) :: (49, 18) :: (49, 17) :: (49, 12) :: (49, 10) :: (49, 8) :: (49, 6) :: (49, 5) :: (49, 3) :: (49, 2) :: (49, 1) :: (49, 0) :: B_49) 21 4022
  refine b_iast (k0 := 50) (i := 2) C dX6_init_189 Kc_50 (by decide) rfl (by decide) rfl ?_
  show BW Y X 50 2 190 (fun ad => [(1, .int 2), (0, .ref (ad 49))]) (fun _ => []) 71 ((50, 2) :: (50, 1) :: (50, 0) :: (49, 30) :: (49, 28) :: (49, 27) :: (49, 25) :: (49, 24) :: (49, 23) :: (49, 22) :: (49, 21) :: (49, 20) :: (49, 19) :: (49, 18) :: (49, 17) :: (49, 12) :: (49, 10) :: (49, 8) :: (49, 6) :: (49, 5) :: (49, 3) :: (49, 2) :: (49, 1) :: (49, 0) :: B_49) 21 4022
  refine b_iinc (x := 2) (v := 0) (w := 3) (lv' := (fun ad => [(1, .int 3), (0, .ref (ad 49))])) C dX6_init_190 0 (fun _ => rfl) (by decide) (by decide) (fun _ => rfl) ?_
  show BW Y X 50 2 193 (fun ad => [(1, .int 3), (0, .ref (ad 49))]) (fun _ => []) 71 ((50, 2) :: (50, 1) :: (50, 0) :: (49, 30) :: (49, 28) :: (49, 27) :: (49, 25) :: (49, 24) :: (49, 23) :: (49, 22) :: (49, 21) :: (49, 20) :: (49, 19) :: (49, 18) :: (49, 17) :: (49, 12) :: (49, 10) :: (49, 8) :: (49, 6) :: (49, 5) :: (49, 3) :: (49, 2) :: (49, 1) :: (49, 0) :: B_49) 21 4022
  refine b_goto (tgt := 178) C dX6_init_193 (by decide) ?_
  show BW Y X 50 2 178 (fun ad => [(1, .int 3), (0, .ref (ad 49))]) (fun _ => []) 71 ((50, 2) :: (50, 1) :: (50, 0) :: (49, 30) :: (49, 28) :: (49, 27) :: (49, 25) :: (49, 24) :: (49, 23) :: (49, 22) :: (49, 21) :: (49, 20) :: (49, 19) :: (49, 18) :: (49, 17) :: (49, 12) :: (49, 10) :: (49, 8) :: (49, 6) :: (49, 5) :: (49, 3) :: (49, 2) :: (49, 1) :: (49, 0) :: B_49) 21 4022
  refine b_iload_n C (3) dX6_init_178 0 (fun _ => rfl) ?_
  show BW Y X 50 2 179 (fun ad => [(1, .int 3), (0, .ref (ad 49))]) (fun _ => [.int 3]) 71 ((50, 2) :: (50, 1) :: (50, 0) :: (49, 30) :: (49, 28) :: (49, 27) :: (49, 25) :: (49, 24) :: (49, 23) :: (49, 22) :: (49, 21) :: (49, 20) :: (49, 19) :: (49, 18) :: (49, 17) :: (49, 12) :: (49, 10) :: (49, 8) :: (49, 6) :: (49, 5) :: (49, 3) :: (49, 2) :: (49, 1) :: (49, 0) :: B_49) 21 4022
  refine b_iconst (v := 4) C dX6_init_179 (by decide) ?_
  show BW Y X 50 2 180 (fun ad => [(1, .int 3), (0, .ref (ad 49))]) (fun _ => [.int 4, .int 3]) 71 ((50, 2) :: (50, 1) :: (50, 0) :: (49, 30) :: (49, 28) :: (49, 27) :: (49, 25) :: (49, 24) :: (49, 23) :: (49, 22) :: (49, 21) :: (49, 20) :: (49, 19) :: (49, 18) :: (49, 17) :: (49, 12) :: (49, 10) :: (49, 8) :: (49, 6) :: (49, 5) :: (49, 3) :: (49, 2) :: (49, 1) :: (49, 0) :: B_49) 21 4022
  refine b_icmp_ge (tgt := 196) C dX6_init_180 (by decide) (fun hc => absurd hc (by decide)) (fun _ => ?_)
  show BW Y X 50 2 183 (fun ad => [(1, .int 3), (0, .ref (ad 49))]) (fun _ => []) 71 ((50, 2) :: (50, 1) :: (50, 0) :: (49, 30) :: (49, 28) :: (49, 27) :: (49, 25) :: (49, 24) :: (49, 23) :: (49, 22) :: (49, 21) :: (49, 20) :: (49, 19) :: (49, 18) :: (49, 17) :: (49, 12) :: (49, 10) :: (49, 8) :: (49, 6) :: (49, 5) :: (49, 3) :: (49, 2) :: (49, 1) :: (49, 0) :: B_49) 21 4022
  refine b_aload_n C (fun ad => ad 49) dX6_init_183 1 (fun _ => rfl) ?_
  show BW Y X 50 2 184 (fun ad => [(1, .int 3), (0, .ref (ad 49))]) (fun ad => [.ref (ad 49)]) 71 ((50, 2) :: (50, 1) :: (50, 0) :: (49, 30) :: (49, 28) :: (49, 27) :: (49, 25) :: (49, 24) :: (49, 23) :: (49, 22) :: (49, 21) :: (49, 20) :: (49, 19) :: (49, 18) :: (49, 17) :: (49, 12) :: (49, 10) :: (49, 8) :: (49, 6) :: (49, 5) :: (49, 3) :: (49, 2) :: (49, 1) :: (49, 0) :: B_49) 21 4022
  refine b_getr (k0 := 49) (k1 := 50) C dX6_init_184 ifl_X6_7 rfl Kc_49 (by decide) (by decide +kernel) rfl ?_
  show BW Y X 50 2 187 (fun ad => [(1, .int 3), (0, .ref (ad 49))]) (fun ad => [.ref (ad 50)]) 71 ((50, 2) :: (50, 1) :: (50, 0) :: (49, 30) :: (49, 28) :: (49, 27) :: (49, 25) :: (49, 24) :: (49, 23) :: (49, 22) :: (49, 21) :: (49, 20) :: (49, 19) :: (49, 18) :: (49, 17) :: (49, 12) :: (49, 10) :: (49, 8) :: (49, 6) :: (49, 5) :: (49, 3) :: (49, 2) :: (49, 1) :: (49, 0) :: B_49) 21 4022
  refine b_iload_n C (3) dX6_init_187 0 (fun _ => rfl) ?_
  show BW Y X 50 2 188 (fun ad => [(1, .int 3), (0, .ref (ad 49))]) (fun ad => [.int 3, .ref (ad 50)]) 71 ((50, 2) :: (50, 1) :: (50, 0) :: (49, 30) :: (49, 28) :: (49, 27) :: (49, 25) :: (49, 24) :: (49, 23) :: (49, 22) :: (49, 21) :: (49, 20) :: (49, 19) :: (49, 18) :: (49, 17) :: (49, 12) :: (49, 10) :: (49, 8) :: (49, 6) :: (49, 5) :: (49, 3) :: (49, 2) :: (49, 1) :: (49, 0) :: B_49) 21 4022
  refine b_iconst (v := -1) C dX6_init_188 (by decide) ?_
  show BW Y X 50 2 189 (fun ad => [(1, .int 3), (0, .ref (ad 49))]) (fun ad => [.int (-1), .int 3, .ref (ad 50)]) 71 ((50, 2) :: (50, 1) :: (50, 0) :: (49, 30) :: (49, 28) :: (49, 27) :: (49, 25) :: (49, 24) :: (49, 23) :: (49, 22) :: (49, 21) :: (49, 20) :: (49, 19) :: (49, 18) :: (49, 17) :: (49, 12) :: (49, 10) :: (49, 8) :: (49, 6) :: (49, 5) :: (49, 3) :: (49, 2) :: (49, 1) :: (49, 0) :: B_49) 21 4022
  refine b_iast (k0 := 50) (i := 3) C dX6_init_189 Kc_50 (by decide) rfl (by decide) rfl ?_
  show BW Y X 50 2 190 (fun ad => [(1, .int 3), (0, .ref (ad 49))]) (fun _ => []) 71 ((50, 3) :: (50, 2) :: (50, 1) :: (50, 0) :: (49, 30) :: (49, 28) :: (49, 27) :: (49, 25) :: (49, 24) :: (49, 23) :: (49, 22) :: (49, 21) :: (49, 20) :: (49, 19) :: (49, 18) :: (49, 17) :: (49, 12) :: (49, 10) :: (49, 8) :: (49, 6) :: (49, 5) :: (49, 3) :: (49, 2) :: (49, 1) :: (49, 0) :: B_49) 21 4022
  refine b_iinc (x := 3) (v := 0) (w := 4) (lv' := (fun ad => [(1, .int 4), (0, .ref (ad 49))])) C dX6_init_190 0 (fun _ => rfl) (by decide) (by decide) (fun _ => rfl) ?_
  show BW Y X 50 2 193 (fun ad => [(1, .int 4), (0, .ref (ad 49))]) (fun _ => []) 71 ((50, 3) :: (50, 2) :: (50, 1) :: (50, 0) :: (49, 30) :: (49, 28) :: (49, 27) :: (49, 25) :: (49, 24) :: (49, 23) :: (49, 22) :: (49, 21) :: (49, 20) :: (49, 19) :: (49, 18) :: (49, 17) :: (49, 12) :: (49, 10) :: (49, 8) :: (49, 6) :: (49, 5) :: (49, 3) :: (49, 2) :: (49, 1) :: (49, 0) :: B_49) 21 4022
  refine b_goto (tgt := 178) C dX6_init_193 (by decide) ?_
  show BW Y X 50 2 178 (fun ad => [(1, .int 4), (0, .ref (ad 49))]) (fun _ => []) 71 ((50, 3) :: (50, 2) :: (50, 1) :: (50, 0) :: (49, 30) :: (49, 28) :: (49, 27) :: (49, 25) :: (49, 24) :: (49, 23) :: (49, 22) :: (49, 21) :: (49, 20) :: (49, 19) :: (49, 18) :: (49, 17) :: (49, 12) :: (49, 10) :: (49, 8) :: (49, 6) :: (49, 5) :: (49, 3) :: (49, 2) :: (49, 1) :: (49, 0) :: B_49) 21 4022
  refine b_iload_n C (4) dX6_init_178 0 (fun _ => rfl) ?_
  show BW Y X 50 2 179 (fun ad => [(1, .int 4), (0, .ref (ad 49))]) (fun _ => [.int 4]) 71 ((50, 3) :: (50, 2) :: (50, 1) :: (50, 0) :: (49, 30) :: (49, 28) :: (49, 27) :: (49, 25) :: (49, 24) :: (49, 23) :: (49, 22) :: (49, 21) :: (49, 20) :: (49, 19) :: (49, 18) :: (49, 17) :: (49, 12) :: (49, 10) :: (49, 8) :: (49, 6) :: (49, 5) :: (49, 3) :: (49, 2) :: (49, 1) :: (49, 0) :: B_49) 21 4022
  refine b_iconst (v := 4) C dX6_init_179 (by decide) ?_
  show BW Y X 50 2 180 (fun ad => [(1, .int 4), (0, .ref (ad 49))]) (fun _ => [.int 4, .int 4]) 71 ((50, 3) :: (50, 2) :: (50, 1) :: (50, 0) :: (49, 30) :: (49, 28) :: (49, 27) :: (49, 25) :: (49, 24) :: (49, 23) :: (49, 22) :: (49, 21) :: (49, 20) :: (49, 19) :: (49, 18) :: (49, 17) :: (49, 12) :: (49, 10) :: (49, 8) :: (49, 6) :: (49, 5) :: (49, 3) :: (49, 2) :: (49, 1) :: (49, 0) :: B_49) 21 4022
  refine b_icmp_ge (tgt := 196) C dX6_init_180 (by decide) (fun _ => ?_) (fun hc => absurd (by decide) hc)
  show BW Y X 50 2 196 (fun ad => [(1, .int 4), (0, .ref (ad 49))]) (fun _ => []) 71 ((50, 3) :: (50, 2) :: (50, 1) :: (50, 0) :: (49, 30) :: (49, 28) :: (49, 27) :: (49, 25) :: (49, 24) :: (49, 23) :: (49, 22) :: (49, 21) :: (49, 20) :: (49, 19) :: (49, 18) :: (49, 17) :: (49, 12) :: (49, 10) :: (49, 8) :: (49, 6) :: (49, 5) :: (49, 3) :: (49, 2) :: (49, 1) :: (49, 0) :: B_49) 21 4022
  refine b_aload_n C (fun ad => ad 49) dX6_init_196 1 (fun _ => rfl) ?_
  show BW Y X 50 2 197 (fun ad => [(1, .int 4), (0, .ref (ad 49))]) (fun ad => [.ref (ad 49)]) 71 ((50, 3) :: (50, 2) :: (50, 1) :: (50, 0) :: (49, 30) :: (49, 28) :: (49, 27) :: (49, 25) :: (49, 24) :: (49, 23) :: (49, 22) :: (49, 21) :: (49, 20) :: (49, 19) :: (49, 18) :: (49, 17) :: (49, 12) :: (49, 10) :: (49, 8) :: (49, 6) :: (49, 5) :: (49, 3) :: (49, 2) :: (49, 1) :: (49, 0) :: B_49) 21 4022
  refine b_iconst (v := -1) C dX6_init_197 (by decide) ?_
  show BW Y X 50 2 198 (fun ad => [(1, .int 4), (0, .ref (ad 49))]) (fun ad => [.int (-1), .ref (ad 49)]) 71 ((50, 3) :: (50, 2) :: (50, 1) :: (50, 0) :: (49, 30) :: (49, 28) :: (49, 27) :: (49, 25) :: (49, 24) :: (49, 23) :: (49, 22) :: (49, 21) :: (49, 20) :: (49, 19) :: (49, 18) :: (49, 17) :: (49, 12) :: (49, 10) :: (49, 8) :: (49, 6) :: (49, 5) :: (49, 3) :: (49, 2) :: (49, 1) :: (49, 0) :: B_49) 21 4022
  refine b_put (k0 := 49) (v := fun ad => .int (-1)) C hin dX6_init_198 ifl_X6_73 ff_6_14 Kc_49 (by decide) (fun _ => rfl) (fun _ => rfl) (fun _ => rfl) ?_
  show BW Y X 50 2 201 (fun ad => [(1, .int 4), (0, .ref (ad 49))]) (fun _ => []) 71 ((49, 14) :: (50, 3) :: (50, 2) :: (50, 1) :: (50, 0) :: (49, 30) :: (49, 28) :: (49, 27) :: (49, 25) :: (49, 24) :: (49, 23) :: (49, 22) :: (49, 21) :: (49, 20) :: (49, 19) :: (49, 18) :: (49, 17) :: (49, 12) :: (49, 10) :: (49, 8) :: (49, 6) :: (49, 5) :: (49, 3) :: (49, 2) :: (49, 1) :: (49, 0) :: B_49) 21 4022
  exact b_vret C dX6_init_201 E rfl rfl rfl rfl
set_option maxRecDepth 20000 in
theorem iml_L_9 : Cond.methodLink RL 9 yX5_init ∈ gT := gT_in 87 (by decide +kernel) (by decide +kernel)
set_option maxRecDepth 20000 in
theorem iml_L_12 : Cond.methodLink RL 12 yX6_init ∈ gT := gT_in 803 (by decide +kernel) (by decide +kernel)
set_option maxRecDepth 20000 in
theorem nw_L_7 : NW RL 7 5 := ⟨(RX5, TX5, 14), rfl, rfl, by decide, gT_in 85 (by decide +kernel) (by decide +kernel), gT_in 86 (by decide +kernel) (by decide +kernel), gT_in 70 (by decide +kernel) (by decide +kernel), inG5, tyX5, tyX5_ok, fun j hj => by
  have hj : j < 14 := hj
  rcases (show j = 0 ∨ j = 1 ∨ j = 2 ∨ j = 3 ∨ j = 4 ∨ j = 5 ∨ j = 6 ∨ j = 7 ∨ j = 8 ∨ j = 9 ∨ j = 10 ∨ j = 11 ∨ j = 12 ∨ j = 13 by omega) with rfl | rfl | rfl | rfl | rfl | rfl | rfl | rfl | rfl | rfl | rfl | rfl | rfl | rfl <;> rfl⟩
set_option maxRecDepth 20000 in
theorem nw_L_10 : NW RL 10 6 := ⟨(RX6, TX6, 31), rfl, rfl, by decide, gT_in 801 (by decide +kernel) (by decide +kernel), gT_in 802 (by decide +kernel) (by decide +kernel), gT_in 76 (by decide +kernel) (by decide +kernel), inG6, tyX6, tyX6_ok, fun j hj => by
  have hj : j < 31 := hj
  rcases (show j = 0 ∨ j = 1 ∨ j = 2 ∨ j = 3 ∨ j = 4 ∨ j = 5 ∨ j = 6 ∨ j = 7 ∨ j = 8 ∨ j = 9 ∨ j = 10 ∨ j = 11 ∨ j = 12 ∨ j = 13 ∨ j = 14 ∨ j = 15 ∨ j = 16 ∨ j = 17 ∨ j = 18 ∨ j = 19 ∨ j = 20 ∨ j = 21 ∨ j = 22 ∨ j = 23 ∨ j = 24 ∨ j = 25 ∨ j = 26 ∨ j = 27 ∨ j = 28 ∨ j = 29 ∨ j = 30 by omega) with rfl | rfl | rfl | rfl | rfl | rfl | rfl | rfl | rfl | rfl | rfl | rfl | rfl | rfl | rfl | rfl | rfl | rfl | rfl | rfl | rfl | rfl | rfl | rfl | rfl | rfl | rfl | rfl | rfl | rfl | rfl <;> rfl⟩
