abbrev rm_X6_in : Room := { frames := 0, cells := 0, slots := 0, locals := 0 }
noncomputable def f_X6_in (x0 : Int64) (x2 : Int64) (x4 : Int64) : Option (Int32) :=
  (if (lg_cmp x0 x2) < 0 then some (0 : Int32) else (if 0 < (lg_cmp x0 x4) then some (0 : Int32) else some (1 : Int32)))
theorem t_X6_in {Y : EY} {X : CX} (C : CK Y X cX6_in RX6 6 (some .boolean) rm_X6_in) {x0 : Int64} {x2 : Int64} {x4 : Int64} {M : Mem}  {res : Int32} (h : f_X6_in x0 x2 x4 = some res) (hK : RK Y X (some (.int res)) M) : AW Y X 6 0 [(0, .long x0), (2, .long x2), (4, .long x4)] [] M := by
  unfold f_X6_in at h
  refine a_lload_n C dX6_in_0 0 rfl ?_
  refine a_lload_n C dX6_in_1 1 rfl ?_
  refine a_lcmp C dX6_in_2 ?_
  refine a_if_lt (tgt := 17) C dX6_in_3 (by decide) (fun hc => ?_) (fun hc => ?_)
  · replace h := ip hc h
    refine a_iconst (v := 0) C dX6_in_17 (by decide) ?_
    replace h := Option.some.inj h
    subst h
    exact a_zret C dX6_in_18 rfl hK
  · replace h := iq hc h
    refine a_lload_n C dX6_in_6 0 rfl ?_
    refine a_lload C dX6_in_7 2 rfl ?_
    refine a_lcmp C dX6_in_9 ?_
    refine a_if_gt (tgt := 17) C dX6_in_10 (by decide) (fun hc => ?_) (fun hc => ?_)
    · replace h := ip hc h
      refine a_iconst (v := 0) C dX6_in_17 (by decide) ?_
      replace h := Option.some.inj h
      subst h
      exact a_zret C dX6_in_18 rfl hK
    · replace h := iq hc h
      refine a_iconst (v := 1) C dX6_in_13 (by decide) ?_
      refine a_goto (tgt := 18) C dX6_in_14 (by decide) ?_
      replace h := Option.some.inj h
      subst h
      exact a_zret C dX6_in_18 rfl hK
theorem m_X6_in {Y : EY} (hY : HY Y) {x0 : Int64} {x2 : Int64} {x4 : Int64} {M : Mem}  {r : Int32} (h : f_X6_in x0 x2 x4 = some r) : MX Y yX6_in cX6_in 6 (some .boolean) rm_X6_in [.long x0, .long x2, .long x4] M (some (.int r)) M := MX.of hY (by decide) (Nat.le_of_ble_eq_true rfl) (fun _ hR C => a_sub [0, 1, 2] (t_X6_in C  h hR) rfl)
abbrev rm_X6_no : Room := { frames := 0, cells := 0, slots := 0, locals := 0 }
noncomputable def f_X6_no (x0 : Int32) : Option (Int64) :=
  some ((-9223372036854775808 : Int64) - (x0).toInt64)
theorem t_X6_no {Y : EY} {X : CX} (C : CK Y X cX6_no RX6 1 (some .long) rm_X6_no) {x0 : Int32} {M : Mem}  {res : Int64} (h : f_X6_no x0 = some res) (hK : RK Y X (some (.long res)) M) : AW Y X 1 0 [(0, .int x0)] [] M := by
  unfold f_X6_no at h
  refine a_ldc2 C dX6_no_0 co_X6_77 ?_
  refine a_iload_n C dX6_no_3 0 rfl ?_
  refine a_i2l C dX6_no_4 ?_
  refine a_lsub C dX6_no_5 ?_
  replace h := Option.some.inj h
  subst h
  exact a_lret C dX6_no_6 hK
theorem m_X6_no {Y : EY} (hY : HY Y) {x0 : Int32} {M : Mem}  {r : Int64} (h : f_X6_no x0 = some r) : MX Y yX6_no cX6_no 1 (some .long) rm_X6_no [.int x0] M (some (.long r)) M := MX.of hY (by decide) (Nat.le_of_ble_eq_true rfl) (fun _ hR C => a_sub [0] (t_X6_no C  h hR) rfl)
abbrev rm_X6_isTwo : Room := { frames := 1, cells := 0, slots := 0, locals := 25 }
noncomputable def f_X6_isTwo (x0 : Int32) : Option (Int32) :=
  Option.bind (f_X6_in (x0).toInt64 (0 : Int64) (1 : Int64)) (fun r1 => ck (isB r1) (some r1))
theorem t_X6_isTwo {Y : EY} {X : CX} (C : CK Y X cX6_isTwo RX6 1 (some .boolean) rm_X6_isTwo) {x0 : Int32} {M : Mem}  {res : Int32} (h : f_X6_isTwo x0 = some res) (hK : RK Y X (some (.int res)) M) : AW Y X 1 0 [(0, .int x0)] [] M := by
  unfold f_X6_isTwo at h
  refine a_iload_n C dX6_isTwo_0 0 rfl ?_
  refine a_i2l C dX6_isTwo_1 ?_
  refine a_lconst (v := 0) C dX6_isTwo_2 (by decide) ?_
  refine a_lconst (v := 1) C dX6_isTwo_3 (by decide) ?_
  obtain ⟨r1, hcr1, h⟩ := bd_some h
  refine a_callSi C dX6_isTwo_4 ls_X6_79 lm_X6_in ⟨rfl, rfl, by decide, by decide⟩ (m_X6_in C.2.2.2.2.2.2.1 hcr1) rfl rfl (Nat.le_of_ble_eq_true rfl) ?_
  obtain ⟨hb, h⟩ := ck_some h
  replace h := Option.some.inj h
  subst h
  exact a_zret C dX6_isTwo_7 hb hK
theorem m_X6_isTwo {Y : EY} (hY : HY Y) {x0 : Int32} {M : Mem}  {r : Int32} (h : f_X6_isTwo x0 = some r) : MX Y yX6_isTwo cX6_isTwo 1 (some .boolean) rm_X6_isTwo [.int x0] M (some (.int r)) M := MX.of hY (by decide) (Nat.le_of_ble_eq_true rfl) (fun _ hR C => a_sub [0] (t_X6_isTwo C  h hR) rfl)
abbrev rm_X6_isIn : Room := { frames := 0, cells := 0, slots := 0, locals := 0 }
noncomputable def f_X6_isIn (x0 : Int32) (x1 : Int32) : Option (Int32) :=
  (if ((sarI x0 x1) &&& (1 : Int32)) = (1 : Int32) then some (1 : Int32) else some (0 : Int32))
theorem t_X6_isIn {Y : EY} {X : CX} (C : CK Y X cX6_isIn RX6 2 (some .boolean) rm_X6_isIn) {x0 : Int32} {x1 : Int32} {M : Mem}  {res : Int32} (h : f_X6_isIn x0 x1 = some res) (hK : RK Y X (some (.int res)) M) : AW Y X 2 0 [(0, .int x0), (1, .int x1)] [] M := by
  unfold f_X6_isIn at h
  refine a_iload_n C dX6_isIn_0 0 rfl ?_
  refine a_iload_n C dX6_isIn_1 1 rfl ?_
  refine a_ishr C dX6_isIn_2 ?_
  refine a_iconst (v := 1) C dX6_isIn_3 (by decide) ?_
  refine a_iand C dX6_isIn_4 ?_
  refine a_iconst (v := 1) C dX6_isIn_5 (by decide) ?_
  refine a_icmp_ne (tgt := 13) C dX6_isIn_6 (by decide) (fun hc => ?_) (fun hc => ?_)
  · replace h := iq hc h
    refine a_iconst (v := 0) C dX6_isIn_13 (by decide) ?_
    replace h := Option.some.inj h
    subst h
    exact a_zret C dX6_isIn_14 rfl hK
  · replace h := ip hc h
    refine a_iconst (v := 1) C dX6_isIn_9 (by decide) ?_
    refine a_goto (tgt := 14) C dX6_isIn_10 (by decide) ?_
    replace h := Option.some.inj h
    subst h
    exact a_zret C dX6_isIn_14 rfl hK
theorem m_X6_isIn {Y : EY} (hY : HY Y) {x0 : Int32} {x1 : Int32} {M : Mem}  {r : Int32} (h : f_X6_isIn x0 x1 = some r) : MX Y yX6_isIn cX6_isIn 2 (some .boolean) rm_X6_isIn [.int x0, .int x1] M (some (.int r)) M := MX.of hY (by decide) (Nat.le_of_ble_eq_true rfl) (fun _ hR C => a_sub [0, 1] (t_X6_isIn C  h hR) rfl)
abbrev rm_X6_ones : Room := { frames := 0, cells := 0, slots := 0, locals := 0 }
abbrev At_X6_ones_4 (Y : EY) (X : CX) (M : Mem) (s : Int32 × Int32) : Prop := AW Y X 3 4 [(1, .int s.1), (2, .int s.2)] [] M
abbrev Ex_X6_ones_4 (Y : EY) (X : CX) (M : Mem) (s : Int32 × Int32) : Prop := AW Y X 3 20 [(1, .int s.1)] [] M
noncomputable def f_X6_ones_4_4b (x1 : Int32) (x2 : Int32) : Option ((Int32 × Int32) ⊕ (Int32 × Int32)) :=
  (if x2 = 0 then some (.inr (x1, x2)) else some (.inl ((x1 + (1 : Int32)), (x2 &&& (x2 - (1 : Int32))))))
theorem t_X6_ones_4_4b {Y : EY} {X : CX} (C : CK Y X cX6_ones RX6 3 (some .int) rm_X6_ones) {x1 : Int32} {x2 : Int32} {M : Mem}  {res : (Int32 × Int32) ⊕ (Int32 × Int32)} (h : f_X6_ones_4_4b x1 x2 = some res) (hK : KL (At_X6_ones_4 Y X M) (Ex_X6_ones_4 Y X M) res) : AW Y X 3 4 [(1, .int x1), (2, .int x2)] [] M := by
  unfold f_X6_ones_4_4b at h
  refine a_iload_n C dX6_ones_4 1 rfl ?_
  refine a_if_eq (tgt := 20) C dX6_ones_5 (by decide) (fun hc => ?_) (fun hc => ?_)
  · replace h := ip hc h
    replace h := Option.some.inj h
    subst h
    exact a_sub [0] (hK) rfl
  · replace h := iq hc h
    refine a_iinc (v := 1) (lv' := [(1, _), (2, _)]) C dX6_ones_8 0 rfl (by decide) (by decide) rfl ?_
    refine a_iload_n C dX6_ones_11 1 rfl ?_
    refine a_iload_n C dX6_ones_12 1 rfl ?_
    refine a_iconst (v := 1) C dX6_ones_13 (by decide) ?_
    refine a_isub C dX6_ones_14 ?_
    refine a_iand C dX6_ones_15 ?_
    refine a_istore_n (lv' := [(2, _), (1, _)]) C dX6_ones_16 rfl (by decide) rfl ?_
    refine a_goto (tgt := 4) C dX6_ones_17 (by decide) ?_
    replace h := Option.some.inj h
    subst h
    exact a_sub [1, 0] (hK) rfl
noncomputable def f_X6_ones (x0 : Int32) : Option (Int32) :=
  Option.bind (loop (fun s1 : Int32 × Int32 => f_X6_ones_4_4b s1.1 s1.2) ((0 : Int32), x0)) (fun s2 => some s2.1)
theorem t_X6_ones {Y : EY} {X : CX} (C : CK Y X cX6_ones RX6 3 (some .int) rm_X6_ones) {x0 : Int32} {M : Mem}  {res : Int32} (h : f_X6_ones x0 = some res) (hK : RK Y X (some (.int res)) M) : AW Y X 3 0 [(0, .int x0)] [] M := by
  unfold f_X6_ones at h
  refine a_iconst (v := 0) C dX6_ones_0 (by decide) ?_
  refine a_istore_n (lv' := [(1, _), (0, _)]) C dX6_ones_1 rfl (by decide) rfl ?_
  refine a_iload_n C dX6_ones_2 1 rfl ?_
  refine a_istore_n (lv' := [(2, _), (1, _), (0, _)]) C dX6_ones_3 rfl (by decide) rfl ?_
  obtain ⟨s2, hl, h⟩ := bd_some h
  have hE : Ex_X6_ones_4 Y X M s2 := by
    refine a_iload_n C dX6_ones_20 0 rfl ?_
    replace h := Option.some.inj h
    subst h
    exact a_iret C dX6_ones_21 hK
  have hA := aw_loop (At_X6_ones_4 Y X M) (Ex_X6_ones_4 Y X M) (fun _ _ hb hk => t_X6_ones_4_4b C hb hk) hl hE
  exact a_sub [1, 0] (hA) rfl
theorem m_X6_ones {Y : EY} (hY : HY Y) {x0 : Int32} {M : Mem}  {r : Int32} (h : f_X6_ones x0 = some r) : MX Y yX6_ones cX6_ones 3 (some .int) rm_X6_ones [.int x0] M (some (.int r)) M := MX.of hY (by decide) (Nat.le_of_ble_eq_true rfl) (fun _ hR C => a_sub [0] (t_X6_ones C  h hR) rfl)
abbrev rm_X6_lesser : Room := { frames := 0, cells := 0, slots := 0, locals := 0 }
noncomputable def f_X6_lesser (x0 : Int32) (x1 : Int32) : Option (Int32) :=
  (if x1 ≤ x0 then some x1 else some x0)
theorem t_X6_lesser {Y : EY} {X : CX} (C : CK Y X cX6_lesser RX6 2 (some .int) rm_X6_lesser) {x0 : Int32} {x1 : Int32} {M : Mem}  {res : Int32} (h : f_X6_lesser x0 x1 = some res) (hK : RK Y X (some (.int res)) M) : AW Y X 2 0 [(0, .int x0), (1, .int x1)] [] M := by
  unfold f_X6_lesser at h
  refine a_iload_n C dX6_lesser_0 0 rfl ?_
  refine a_iload_n C dX6_lesser_1 1 rfl ?_
  refine a_icmp_ge (tgt := 9) C dX6_lesser_2 (by decide) (fun hc => ?_) (fun hc => ?_)
  · replace h := ip hc h
    refine a_iload_n C dX6_lesser_9 1 rfl ?_
    replace h := Option.some.inj h
    subst h
    exact a_iret C dX6_lesser_10 hK
  · replace h := iq hc h
    refine a_iload_n C dX6_lesser_5 0 rfl ?_
    refine a_goto (tgt := 10) C dX6_lesser_6 (by decide) ?_
    replace h := Option.some.inj h
    subst h
    exact a_iret C dX6_lesser_10 hK
theorem m_X6_lesser {Y : EY} (hY : HY Y) {x0 : Int32} {x1 : Int32} {M : Mem}  {r : Int32} (h : f_X6_lesser x0 x1 = some r) : MX Y yX6_lesser cX6_lesser 2 (some .int) rm_X6_lesser [.int x0, .int x1] M (some (.int r)) M := MX.of hY (by decide) (Nat.le_of_ble_eq_true rfl) (fun _ hR C => a_sub [0, 1] (t_X6_lesser C  h hR) rfl)
abbrev rm_X6_greater : Room := { frames := 0, cells := 0, slots := 0, locals := 0 }
noncomputable def f_X6_greater (x0 : Int32) (x1 : Int32) : Option (Int32) :=
  (if x0 ≤ x1 then some x1 else some x0)
theorem t_X6_greater {Y : EY} {X : CX} (C : CK Y X cX6_greater RX6 2 (some .int) rm_X6_greater) {x0 : Int32} {x1 : Int32} {M : Mem}  {res : Int32} (h : f_X6_greater x0 x1 = some res) (hK : RK Y X (some (.int res)) M) : AW Y X 2 0 [(0, .int x0), (1, .int x1)] [] M := by
  unfold f_X6_greater at h
  refine a_iload_n C dX6_greater_0 0 rfl ?_
  refine a_iload_n C dX6_greater_1 1 rfl ?_
  refine a_icmp_le (tgt := 9) C dX6_greater_2 (by decide) (fun hc => ?_) (fun hc => ?_)
  · replace h := ip hc h
    refine a_iload_n C dX6_greater_9 1 rfl ?_
    replace h := Option.some.inj h
    subst h
    exact a_iret C dX6_greater_10 hK
  · replace h := iq hc h
    refine a_iload_n C dX6_greater_5 0 rfl ?_
    refine a_goto (tgt := 10) C dX6_greater_6 (by decide) ?_
    replace h := Option.some.inj h
    subst h
    exact a_iret C dX6_greater_10 hK
theorem m_X6_greater {Y : EY} (hY : HY Y) {x0 : Int32} {x1 : Int32} {M : Mem}  {r : Int32} (h : f_X6_greater x0 x1 = some r) : MX Y yX6_greater cX6_greater 2 (some .int) rm_X6_greater [.int x0, .int x1] M (some (.int r)) M := MX.of hY (by decide) (Nat.le_of_ble_eq_true rfl) (fun _ hR C => a_sub [0, 1] (t_X6_greater C  h hR) rfl)
abbrev rm_X6_size : Room := { frames := 0, cells := 0, slots := 0, locals := 0 }
noncomputable def f_X6_size (x0 : Int32) : Option (Int32) :=
  (if 0 ≤ x0 then some x0 else some (-x0))
theorem t_X6_size {Y : EY} {X : CX} (C : CK Y X cX6_size RX6 1 (some .int) rm_X6_size) {x0 : Int32} {M : Mem}  {res : Int32} (h : f_X6_size x0 = some res) (hK : RK Y X (some (.int res)) M) : AW Y X 1 0 [(0, .int x0)] [] M := by
  unfold f_X6_size at h
  refine a_iload_n C dX6_size_0 0 rfl ?_
  refine a_if_ge (tgt := 9) C dX6_size_1 (by decide) (fun hc => ?_) (fun hc => ?_)
  · replace h := ip hc h
    refine a_iload_n C dX6_size_9 0 rfl ?_
    replace h := Option.some.inj h
    subst h
    exact a_iret C dX6_size_10 hK
  · replace h := iq hc h
    refine a_iload_n C dX6_size_4 0 rfl ?_
    refine a_ineg C dX6_size_5 ?_
    refine a_goto (tgt := 10) C dX6_size_6 (by decide) ?_
    replace h := Option.some.inj h
    subst h
    exact a_iret C dX6_size_10 hK
theorem m_X6_size {Y : EY} (hY : HY Y) {x0 : Int32} {M : Mem}  {r : Int32} (h : f_X6_size x0 = some r) : MX Y yX6_size cX6_size 1 (some .int) rm_X6_size [.int x0] M (some (.int r)) M := MX.of hY (by decide) (Nat.le_of_ble_eq_true rfl) (fun _ hR C => a_sub [0] (t_X6_size C  h hR) rfl)
abbrev rm_X6_part : Room := { frames := 0, cells := 0, slots := 0, locals := 0 }
abbrev At_X6_part_6 (Y : EY) (X : CX) (x0 : Int64) (x2 : Int64) (x4 : Int32) (M : Mem) (s : Int64 × Int64) : Prop := AW Y X 11 6 [(0, .long x0), (2, .long x2), (4, .int x4), (5, .long s.1), (7, .long s.2)] [] M
abbrev Ex_X6_part_6 (Y : EY) (X : CX) (x0 : Int64) (x2 : Int64) (x4 : Int32) (M : Mem) (s : Int64 × Int64) : Prop := AW Y X 11 31 [(0, .long x0), (2, .long x2), (4, .int x4), (5, .long s.1)] [] M
noncomputable def f_X6_part_6_6b (x0 : Int64) (x2 : Int64) (x4 : Int32) (x5 : Int64) (x7 : Int64) : Option ((Int64 × Int64) ⊕ (Int64 × Int64)) :=
  (if (lg_cmp x7 (0 : Int64)) = 0 then some (.inr (x5, x7)) else ck (nzL x7) (some (.inl (x7, (remL x5 x7)))))
theorem t_X6_part_6_6b {Y : EY} {X : CX} (C : CK Y X cX6_part RX6 11 (some .long) rm_X6_part) {x0 : Int64} {x2 : Int64} {x4 : Int32} {x5 : Int64} {x7 : Int64} {M : Mem}  {res : (Int64 × Int64) ⊕ (Int64 × Int64)} (h : f_X6_part_6_6b x0 x2 x4 x5 x7 = some res) (hK : KL (At_X6_part_6 Y X x0 x2 x4 M) (Ex_X6_part_6 Y X x0 x2 x4 M) res) : AW Y X 11 6 [(0, .long x0), (2, .long x2), (4, .int x4), (5, .long x5), (7, .long x7)] [] M := by
  unfold f_X6_part_6_6b at h
  refine a_lload C dX6_part_6 4 rfl ?_
  refine a_lconst (v := 0) C dX6_part_8 (by decide) ?_
  refine a_lcmp C dX6_part_9 ?_
  refine a_if_eq (tgt := 31) C dX6_part_10 (by decide) (fun hc => ?_) (fun hc => ?_)
  · replace h := ip hc h
    replace h := Option.some.inj h
    subst h
    exact a_sub [0, 1, 2, 3] (hK) rfl
  · replace h := iq hc h
    refine a_lload C dX6_part_13 3 rfl ?_
    refine a_lload C dX6_part_15 4 rfl ?_
    obtain ⟨hb, h⟩ := ck_some h
    refine a_lrem C dX6_part_17 (of_decide_eq_true hb) ?_
    refine a_lstore (lv' := [(9, _), (0, _), (2, _), (4, _), (5, _), (7, _)]) C dX6_part_18 (by decide) rfl ?_
    refine a_lload C dX6_part_20 5 rfl ?_
    refine a_lstore (lv' := [(5, _), (9, _), (0, _), (2, _), (4, _), (7, _)]) C dX6_part_22 (by decide) rfl ?_
    refine a_lload C dX6_part_24 1 rfl ?_
    refine a_lstore (lv' := [(7, _), (5, _), (9, _), (0, _), (2, _), (4, _)]) C dX6_part_26 (by decide) rfl ?_
    refine a_goto (tgt := 6) C dX6_part_28 (by decide) ?_
    replace h := Option.some.inj h
    subst h
    exact a_sub [3, 4, 5, 1, 0] (hK) rfl
noncomputable def f_X6_part (x0 : Int64) (x2 : Int64) (x4 : Int32) : Option (Int64) :=
  Option.bind (loop (fun s1 : Int64 × Int64 => f_X6_part_6_6b x0 x2 x4 s1.1 s1.2) (x0, x2)) (fun s2 => (if x4 = 0 then ck (nzL s2.1) (some (x0 / s2.1)) else ck (nzL s2.1) (some (x2 / s2.1))))
theorem t_X6_part {Y : EY} {X : CX} (C : CK Y X cX6_part RX6 11 (some .long) rm_X6_part) {x0 : Int64} {x2 : Int64} {x4 : Int32} {M : Mem}  {res : Int64} (h : f_X6_part x0 x2 x4 = some res) (hK : RK Y X (some (.long res)) M) : AW Y X 11 0 [(0, .long x0), (2, .long x2), (4, .int x4)] [] M := by
  unfold f_X6_part at h
  refine a_lload_n C dX6_part_0 0 rfl ?_
  refine a_lstore (lv' := [(5, _), (0, _), (2, _), (4, _)]) C dX6_part_1 (by decide) rfl ?_
  refine a_lload_n C dX6_part_3 2 rfl ?_
  refine a_lstore (lv' := [(7, _), (5, _), (0, _), (2, _), (4, _)]) C dX6_part_4 (by decide) rfl ?_
  obtain ⟨s2, hl, h⟩ := bd_some h
  have hE : Ex_X6_part_6 Y X x0 x2 x4 M s2 := by
    refine a_iload C dX6_part_31 2 rfl ?_
    refine a_if_ne (tgt := 40) C dX6_part_33 (by decide) (fun hc => ?_) (fun hc => ?_)
    · replace h := iq hc h
      refine a_lload_n C dX6_part_40 1 rfl ?_
      refine a_lload C dX6_part_41 3 rfl ?_
      obtain ⟨hb, h⟩ := ck_some h
      refine a_ldiv C dX6_part_43 (of_decide_eq_true hb) ?_
      replace h := Option.some.inj h
      subst h
      exact a_lret C dX6_part_44 hK
    · replace h := ip hc h
      refine a_lload_n C dX6_part_36 0 rfl ?_
      refine a_goto (tgt := 41) C dX6_part_37 (by decide) ?_
      refine a_lload C dX6_part_41 3 rfl ?_
      obtain ⟨hb, h⟩ := ck_some h
      refine a_ldiv C dX6_part_43 (of_decide_eq_true hb) ?_
      replace h := Option.some.inj h
      subst h
      exact a_lret C dX6_part_44 hK
  have hA := aw_loop (At_X6_part_6 Y X x0 x2 x4 M) (Ex_X6_part_6 Y X x0 x2 x4 M) (fun _ _ hb hk => t_X6_part_6_6b C hb hk) hl hE
  exact a_sub [2, 3, 4, 1, 0] (hA) rfl
theorem m_X6_part {Y : EY} (hY : HY Y) {x0 : Int64} {x2 : Int64} {x4 : Int32} {M : Mem}  {r : Int64} (h : f_X6_part x0 x2 x4 = some r) : MX Y yX6_part cX6_part 11 (some .long) rm_X6_part [.long x0, .long x2, .int x4] M (some (.long r)) M := MX.of hY (by decide) (Nat.le_of_ble_eq_true rfl) (fun _ hR C => a_sub [0, 1, 2] (t_X6_part C  h hR) rfl)
abbrev rm_X6_finds : Room := { frames := 0, cells := 0, slots := 0, locals := 0 }
noncomputable def f_X6_finds (x1 : Int32) (M : Mem) : Option (Int32 × Mem) :=
  some (((-10 : Int32) - x1), (upM M 49 4 x1))
theorem t_X6_finds {Y : EY} {X : CX} (C : CK Y X cX6_finds RX6 2 (some .int) rm_X6_finds) {x1 : Int32} {M : Mem}  {res : Int32 × Mem} (h : f_X6_finds x1 M = some res) (hK : RK Y X (some (.int res.1)) res.2) : AW Y X 2 0 [(0, .ref (Y.2.2.2.1 49)), (1, .int x1)] [] M := by
  unfold f_X6_finds at h
  refine a_aload_n C dX6_finds_0 0 rfl ?_
  refine a_iload_n C dX6_finds_1 1 rfl ?_
  refine a_put (ty := .int) C dX6_finds_2 fl_X6_83 (fp_6_4) rfl Kc_49 rfl rfl ?_
  refine a_bipush (v := -10) C dX6_finds_5 (by decide) ?_
  refine a_iload_n C dX6_finds_7 1 rfl ?_
  refine a_isub C dX6_finds_8 ?_
  replace h := Option.some.inj h
  subst h
  exact a_iret C dX6_finds_9 hK
theorem m_X6_finds {Y : EY} (hY : HY Y) {x1 : Int32} {M : Mem}  {r : Int32 × Mem} (h : f_X6_finds x1 M = some r) : MX Y yX6_finds cX6_finds 2 (some .int) rm_X6_finds [.ref (Y.2.2.2.1 49), .int x1] M (some (.int r.1)) r.2 := MX.of hY (by decide) (Nat.le_of_ble_eq_true rfl) (fun _ hR C => a_sub [0, 1] (t_X6_finds C  h hR) rfl)
abbrev rm_X6_isSheet : Room := { frames := 1, cells := 0, slots := 0, locals := 25 }
noncomputable def f_X6_isSheet (x0 : Int32) : Option (Int32) :=
  Option.bind (f_X6_in (x0).toInt64 (0 : Int64) (3 : Int64)) (fun r1 => ck (isB r1) (some r1))
theorem t_X6_isSheet {Y : EY} {X : CX} (C : CK Y X cX6_isSheet RX6 1 (some .boolean) rm_X6_isSheet) {x0 : Int32} {M : Mem}  {res : Int32} (h : f_X6_isSheet x0 = some res) (hK : RK Y X (some (.int res)) M) : AW Y X 1 0 [(0, .int x0)] [] M := by
  unfold f_X6_isSheet at h
  refine a_iload_n C dX6_isSheet_0 0 rfl ?_
  refine a_i2l C dX6_isSheet_1 ?_
  refine a_lconst (v := 0) C dX6_isSheet_2 (by decide) ?_
  refine a_ldc2 C dX6_isSheet_3 co_X6_86 ?_
  obtain ⟨r1, hcr1, h⟩ := bd_some h
  refine a_callSi C dX6_isSheet_6 ls_X6_79 lm_X6_in ⟨rfl, rfl, by decide, by decide⟩ (m_X6_in C.2.2.2.2.2.2.1 hcr1) rfl rfl (Nat.le_of_ble_eq_true rfl) ?_
  obtain ⟨hb, h⟩ := ck_some h
  replace h := Option.some.inj h
  subst h
  exact a_zret C dX6_isSheet_9 hb hK
theorem m_X6_isSheet {Y : EY} (hY : HY Y) {x0 : Int32} {M : Mem}  {r : Int32} (h : f_X6_isSheet x0 = some r) : MX Y yX6_isSheet cX6_isSheet 1 (some .boolean) rm_X6_isSheet [.int x0] M (some (.int r)) M := MX.of hY (by decide) (Nat.le_of_ble_eq_true rfl) (fun _ hR C => a_sub [0] (t_X6_isSheet C  h hR) rfl)
abbrev rm_X6_sheet : Room := { frames := 2, cells := 0, slots := 0, locals := 45 }
abbrev At_X6_sheet_55 (Y : EY) (X : CX) (x1 : Int32) (x3 : Int32) (s : Int32 × Mem) : Prop := AW Y X 5 55 [(0, .ref (Y.2.2.2.1 49)), (1, .int x1), (3, .int x3), (4, .int s.1)] [] s.2
abbrev Ex_X6_sheet_55 (Y : EY) (X : CX) (x1 : Int32) (x3 : Int32) (s : Int32 × Mem) : Prop := AW Y X 5 80 [(3, .int x3)] [] s.2
noncomputable def f_X6_sheet_55_55b (x1 : Int32) (x3 : Int32) (x4 : Int32) (M : Mem) : Option ((Int32 × Mem) ⊕ (Int32 × Mem)) :=
  (if x3 ≤ x4 then some (.inr (x4, M)) else ck (inb (((60 : Int32) * x1) + x4) 240) (some (.inl ((x4 + (1 : Int32)), (upM M 52 ((((60 : Int32) * x1) + x4)).toNatClampNeg (0 : Int32))))))
theorem t_X6_sheet_55_55b {Y : EY} {X : CX} (C : CK Y X cX6_sheet RX6 5 (some .int) rm_X6_sheet) {x1 : Int32} {x3 : Int32} {x4 : Int32} {M : Mem}  {res : (Int32 × Mem) ⊕ (Int32 × Mem)} (h : f_X6_sheet_55_55b x1 x3 x4 M = some res) (hK : KL (At_X6_sheet_55 Y X x1 x3) (Ex_X6_sheet_55 Y X x1 x3) res) : AW Y X 5 55 [(0, .ref (Y.2.2.2.1 49)), (1, .int x1), (3, .int x3), (4, .int x4)] [] M := by
  unfold f_X6_sheet_55_55b at h
  refine a_iload C dX6_sheet_55 3 rfl ?_
  refine a_iload_n C dX6_sheet_57 2 rfl ?_
  refine a_icmp_ge (tgt := 80) C dX6_sheet_58 (by decide) (fun hc => ?_) (fun hc => ?_)
  · replace h := ip hc h
    replace h := Option.some.inj h
    subst h
    exact a_sub [2] (hK) rfl
  · replace h := iq hc h
    refine a_aload_n C dX6_sheet_61 0 rfl ?_
    refine a_getr (k1 := 52) C dX6_sheet_62 fl_X6_16 rfl Kc_49 rfl ?_
    refine a_bipush (v := 60) C dX6_sheet_65 (by decide) ?_
    refine a_iload_n C dX6_sheet_67 1 rfl ?_
    refine a_imul C dX6_sheet_68 ?_
    refine a_iload C dX6_sheet_69 3 rfl ?_
    refine a_iadd C dX6_sheet_71 ?_
    refine a_iconst (v := 0) C dX6_sheet_72 (by decide) ?_
    obtain ⟨hb, h⟩ := ck_some h
    refine a_iast C dX6_sheet_73 Kc_52 rfl hb ?_
    refine a_iinc (v := 1) (lv' := [(4, _), (0, _), (1, _), (3, _)]) C dX6_sheet_74 3 rfl (by decide) (by decide) rfl ?_
    refine a_goto (tgt := 55) C dX6_sheet_77 (by decide) ?_
    replace h := Option.some.inj h
    subst h
    exact a_sub [1, 2, 3, 0] (hK) rfl
noncomputable def f_X6_sheet (x1 : Int32) (x2 : Int32) (x3 : Int32) (M : Mem) : Option (Int32 × Mem) :=
  Option.bind (f_X6_isSheet x1) (fun r1 => (if r1 = 0 then some ((-2 : Int32), M) else Option.bind (f_X6_in (x2).toInt64 (0 : Int64) (2 : Int64)) (fun r2 => (if r2 = 0 then some ((-2 : Int32), M) else (if x3 ≤ (60 : Int32) then (if 0 ≤ x3 then ck (inb x1 4) (ck (inb x1 4) (Option.bind (loop (fun s3 : Int32 × Mem => f_X6_sheet_55_55b x1 x3 s3.1 s3.2) ((0 : Int32), (upM (upM M 50 (x1).toNatClampNeg x2) 51 (x1).toNatClampNeg x3))) (fun s4 => some (x3, s4.2)))) else Option.bind (f_X6_finds (5 : Int32) M) (fun r5 => some (r5.1, r5.2))) else some ((-2 : Int32), M))))))
theorem t_X6_sheet {Y : EY} {X : CX} (C : CK Y X cX6_sheet RX6 5 (some .int) rm_X6_sheet) {x1 : Int32} {x2 : Int32} {x3 : Int32} {M : Mem}  {res : Int32 × Mem} (h : f_X6_sheet x1 x2 x3 M = some res) (hK : RK Y X (some (.int res.1)) res.2) : AW Y X 5 0 [(0, .ref (Y.2.2.2.1 49)), (1, .int x1), (2, .int x2), (3, .int x3)] [] M := by
  unfold f_X6_sheet at h
  refine a_iload_n C dX6_sheet_0 1 rfl ?_
  obtain ⟨r1, hcr1, h⟩ := bd_some h
  refine a_callSi C dX6_sheet_1 ls_X6_88 lm_X6_isSheet ⟨rfl, rfl, by decide, by decide⟩ (m_X6_isSheet C.2.2.2.2.2.2.1 hcr1) rfl rfl (Nat.le_of_ble_eq_true rfl) ?_
  refine a_if_eq (tgt := 25) C dX6_sheet_4 (by decide) (fun hc => ?_) (fun hc => ?_)
  · replace h := ip hc h
    refine a_bipush (v := -2) C dX6_sheet_25 (by decide) ?_
    replace h := Option.some.inj h
    subst h
    exact a_iret C dX6_sheet_27 hK
  · replace h := iq hc h
    refine a_iload_n C dX6_sheet_7 2 rfl ?_
    refine a_i2l C dX6_sheet_8 ?_
    refine a_lconst (v := 0) C dX6_sheet_9 (by decide) ?_
    refine a_ldc2 C dX6_sheet_10 co_X6_92 ?_
    obtain ⟨r2, hcr2, h⟩ := bd_some h
    refine a_callSi C dX6_sheet_13 ls_X6_79 lm_X6_in ⟨rfl, rfl, by decide, by decide⟩ (m_X6_in C.2.2.2.2.2.2.1 hcr2) rfl rfl (Nat.le_of_ble_eq_true rfl) ?_
    refine a_if_eq (tgt := 25) C dX6_sheet_16 (by decide) (fun hc => ?_) (fun hc => ?_)
    · replace h := ip hc h
      refine a_bipush (v := -2) C dX6_sheet_25 (by decide) ?_
      replace h := Option.some.inj h
      subst h
      exact a_iret C dX6_sheet_27 hK
    · replace h := iq hc h
      refine a_iload_n C dX6_sheet_19 3 rfl ?_
      refine a_bipush (v := 60) C dX6_sheet_20 (by decide) ?_
      refine a_icmp_le (tgt := 28) C dX6_sheet_22 (by decide) (fun hc => ?_) (fun hc => ?_)
      · replace h := ip hc h
        refine a_iload_n C dX6_sheet_28 3 rfl ?_
        refine a_if_ge (tgt := 38) C dX6_sheet_29 (by decide) (fun hc => ?_) (fun hc => ?_)
        · replace h := ip hc h
          refine a_aload_n C dX6_sheet_38 0 rfl ?_
          refine a_getr (k1 := 50) C dX6_sheet_39 fl_X6_7 rfl Kc_49 rfl ?_
          refine a_iload_n C dX6_sheet_42 1 rfl ?_
          refine a_iload_n C dX6_sheet_43 2 rfl ?_
          obtain ⟨hb, h⟩ := ck_some h
          refine a_iast C dX6_sheet_44 Kc_50 rfl hb ?_
          refine a_aload_n C dX6_sheet_45 0 rfl ?_
          refine a_getr (k1 := 51) C dX6_sheet_46 fl_X6_13 rfl Kc_49 rfl ?_
          refine a_iload_n C dX6_sheet_49 1 rfl ?_
          refine a_iload_n C dX6_sheet_50 3 rfl ?_
          obtain ⟨hb, h⟩ := ck_some h
          refine a_iast C dX6_sheet_51 Kc_51 rfl hb ?_
          refine a_iconst (v := 0) C dX6_sheet_52 (by decide) ?_
          refine a_istore (lv' := [(4, _), (0, _), (1, _), (2, _), (3, _)]) C dX6_sheet_53 (by decide) rfl ?_
          obtain ⟨s4, hl, h⟩ := bd_some h
          have hE : Ex_X6_sheet_55 Y X x1 x3 s4 := by
            refine a_iload_n C dX6_sheet_80 0 rfl ?_
            replace h := Option.some.inj h
            subst h
            exact a_iret C dX6_sheet_81 hK
          have hA := aw_loop (At_X6_sheet_55 Y X x1 x3) (Ex_X6_sheet_55 Y X x1 x3) (fun _ _ hb hk => t_X6_sheet_55_55b C hb hk) hl hE
          exact a_sub [1, 2, 4, 0] (hA) rfl
        · replace h := iq hc h
          refine a_aload_n C dX6_sheet_32 0 rfl ?_
          refine a_iconst (v := 5) C dX6_sheet_33 (by decide) ?_
          obtain ⟨r5, hcr5, h⟩ := bd_some h
          refine a_callVi C dX6_sheet_34 lv_X6_94 lm_X6_finds ⟨rfl, rfl, by decide, by decide⟩ Kc_49 (m_X6_finds C.2.2.2.2.2.2.1 hcr5) rfl rfl (Nat.le_of_ble_eq_true rfl) ?_
          replace h := Option.some.inj h
          subst h
          exact a_iret C dX6_sheet_37 hK
      · replace h := iq hc h
        refine a_bipush (v := -2) C dX6_sheet_25 (by decide) ?_
        replace h := Option.some.inj h
        subst h
        exact a_iret C dX6_sheet_27 hK
theorem m_X6_sheet {Y : EY} (hY : HY Y) {x1 : Int32} {x2 : Int32} {x3 : Int32} {M : Mem}  {r : Int32 × Mem} (h : f_X6_sheet x1 x2 x3 M = some r) : MX Y yX6_sheet cX6_sheet 5 (some .int) rm_X6_sheet [.ref (Y.2.2.2.1 49), .int x1, .int x2, .int x3] M (some (.int r.1)) r.2 := MX.of hY (by decide) (Nat.le_of_ble_eq_true rfl) (fun _ hR C => a_sub [0, 1, 2, 3] (t_X6_sheet C  h hR) rfl)
abbrev rm_X6_lose : Room := { frames := 2, cells := 0, slots := 0, locals := 45 }
noncomputable def f_X6_lose (x1 : Int32) (M : Mem) : Option (Int32 × Mem) :=
  Option.bind (f_X6_isSheet x1) (fun r1 => (if r1 = 0 then some ((-2 : Int32), M) else ck (inb x1 4) ((if 0 ≤ (M 50 (x1).toNatClampNeg) then ck (inb x1 4) (ck (inb x1 4) (some (((upM M 50 (x1).toNatClampNeg (-1 : Int32)) 51 (x1).toNatClampNeg), (upM M 50 (x1).toNatClampNeg (-1 : Int32))))) else Option.bind (f_X6_finds (1 : Int32) M) (fun r2 => some (r2.1, r2.2))))))
theorem t_X6_lose {Y : EY} {X : CX} (C : CK Y X cX6_lose RX6 2 (some .int) rm_X6_lose) {x1 : Int32} {M : Mem}  {res : Int32 × Mem} (h : f_X6_lose x1 M = some res) (hK : RK Y X (some (.int res.1)) res.2) : AW Y X 2 0 [(0, .ref (Y.2.2.2.1 49)), (1, .int x1)] [] M := by
  unfold f_X6_lose at h
  refine a_iload_n C dX6_lose_0 1 rfl ?_
  obtain ⟨r1, hcr1, h⟩ := bd_some h
  refine a_callSi C dX6_lose_1 ls_X6_88 lm_X6_isSheet ⟨rfl, rfl, by decide, by decide⟩ (m_X6_isSheet C.2.2.2.2.2.2.1 hcr1) rfl rfl (Nat.le_of_ble_eq_true rfl) ?_
  refine a_if_ne (tgt := 10) C dX6_lose_4 (by decide) (fun hc => ?_) (fun hc => ?_)
  · replace h := iq hc h
    refine a_aload_n C dX6_lose_10 0 rfl ?_
    refine a_getr (k1 := 50) C dX6_lose_11 fl_X6_7 rfl Kc_49 rfl ?_
    refine a_iload_n C dX6_lose_14 1 rfl ?_
    obtain ⟨hb, h⟩ := ck_some h
    refine a_iald C dX6_lose_15 Kc_50 rfl hb ?_
    refine a_if_ge (tgt := 25) C dX6_lose_16 (by decide) (fun hc => ?_) (fun hc => ?_)
    · replace h := ip hc h
      refine a_aload_n C dX6_lose_25 0 rfl ?_
      refine a_getr (k1 := 50) C dX6_lose_26 fl_X6_7 rfl Kc_49 rfl ?_
      refine a_iload_n C dX6_lose_29 1 rfl ?_
      refine a_iconst (v := -1) C dX6_lose_30 (by decide) ?_
      obtain ⟨hb, h⟩ := ck_some h
      refine a_iast C dX6_lose_31 Kc_50 rfl hb ?_
      refine a_aload_n C dX6_lose_32 0 rfl ?_
      refine a_getr (k1 := 51) C dX6_lose_33 fl_X6_13 rfl Kc_49 rfl ?_
      refine a_iload_n C dX6_lose_36 1 rfl ?_
      obtain ⟨hb, h⟩ := ck_some h
      refine a_iald C dX6_lose_37 Kc_51 rfl hb ?_
      replace h := Option.some.inj h
      subst h
      exact a_iret C dX6_lose_38 hK
    · replace h := iq hc h
      refine a_aload_n C dX6_lose_19 0 rfl ?_
      refine a_iconst (v := 1) C dX6_lose_20 (by decide) ?_
      obtain ⟨r2, hcr2, h⟩ := bd_some h
      refine a_callVi C dX6_lose_21 lv_X6_94 lm_X6_finds ⟨rfl, rfl, by decide, by decide⟩ Kc_49 (m_X6_finds C.2.2.2.2.2.2.1 hcr2) rfl rfl (Nat.le_of_ble_eq_true rfl) ?_
      replace h := Option.some.inj h
      subst h
      exact a_iret C dX6_lose_24 hK
  · replace h := ip hc h
    refine a_bipush (v := -2) C dX6_lose_7 (by decide) ?_
    replace h := Option.some.inj h
    subst h
    exact a_iret C dX6_lose_9 hK
theorem m_X6_lose {Y : EY} (hY : HY Y) {x1 : Int32} {M : Mem}  {r : Int32 × Mem} (h : f_X6_lose x1 M = some r) : MX Y yX6_lose cX6_lose 2 (some .int) rm_X6_lose [.ref (Y.2.2.2.1 49), .int x1] M (some (.int r.1)) r.2 := MX.of hY (by decide) (Nat.le_of_ble_eq_true rfl) (fun _ hR C => a_sub [0, 1] (t_X6_lose C  h hR) rfl)
abbrev rm_X6_lacks : Room := { frames := 1, cells := 0, slots := 0, locals := 25 }
noncomputable def f_X6_lacks (x1 : Int32) (x2 : Int32) (x3 : Int32) (M : Mem) : Option (Int32 × Mem) :=
  ck (inb x1 4) ((if 0 ≤ (M 50 (x1).toNatClampNeg) then ck (inb x1 4) ((if (M 50 (x1).toNatClampNeg) = x2 then ck (inb x1 4) (Option.bind (f_X6_in (x3).toInt64 (0 : Int64) (((M 51 (x1).toNatClampNeg) - (1 : Int32))).toInt64) (fun r1 => (if r1 = 0 then Option.bind (f_X6_finds (2 : Int32) M) (fun r2 => some (r2.1, r2.2)) else some ((0 : Int32), M)))) else Option.bind (f_X6_finds (3 : Int32) M) (fun r3 => some (r3.1, r3.2)))) else Option.bind (f_X6_finds (1 : Int32) M) (fun r4 => some (r4.1, r4.2))))
theorem t_X6_lacks {Y : EY} {X : CX} (C : CK Y X cX6_lacks RX6 4 (some .int) rm_X6_lacks) {x1 : Int32} {x2 : Int32} {x3 : Int32} {M : Mem}  {res : Int32 × Mem} (h : f_X6_lacks x1 x2 x3 M = some res) (hK : RK Y X (some (.int res.1)) res.2) : AW Y X 4 0 [(0, .ref (Y.2.2.2.1 49)), (1, .int x1), (2, .int x2), (3, .int x3)] [] M := by
  unfold f_X6_lacks at h
  refine a_aload_n C dX6_lacks_0 0 rfl ?_
  refine a_getr (k1 := 50) C dX6_lacks_1 fl_X6_7 rfl Kc_49 rfl ?_
  refine a_iload_n C dX6_lacks_4 1 rfl ?_
  obtain ⟨hb, h⟩ := ck_some h
  refine a_iald C dX6_lacks_5 Kc_50 rfl hb ?_
  refine a_if_ge (tgt := 15) C dX6_lacks_6 (by decide) (fun hc => ?_) (fun hc => ?_)
  · replace h := ip hc h
    refine a_aload_n C dX6_lacks_15 0 rfl ?_
    refine a_getr (k1 := 50) C dX6_lacks_16 fl_X6_7 rfl Kc_49 rfl ?_
    refine a_iload_n C dX6_lacks_19 1 rfl ?_
    obtain ⟨hb, h⟩ := ck_some h
    refine a_iald C dX6_lacks_20 Kc_50 rfl hb ?_
    refine a_iload_n C dX6_lacks_21 2 rfl ?_
    refine a_icmp_eq (tgt := 31) C dX6_lacks_22 (by decide) (fun hc => ?_) (fun hc => ?_)
    · replace h := ip hc h
      refine a_iload_n C dX6_lacks_31 3 rfl ?_
      refine a_i2l C dX6_lacks_32 ?_
      refine a_lconst (v := 0) C dX6_lacks_33 (by decide) ?_
      refine a_aload_n C dX6_lacks_34 0 rfl ?_
      refine a_getr (k1 := 51) C dX6_lacks_35 fl_X6_13 rfl Kc_49 rfl ?_
      refine a_iload_n C dX6_lacks_38 1 rfl ?_
      obtain ⟨hb, h⟩ := ck_some h
      refine a_iald C dX6_lacks_39 Kc_51 rfl hb ?_
      refine a_iconst (v := 1) C dX6_lacks_40 (by decide) ?_
      refine a_isub C dX6_lacks_41 ?_
      refine a_i2l C dX6_lacks_42 ?_
      obtain ⟨r1, hcr1, h⟩ := bd_some h
      refine a_callSi C dX6_lacks_43 ls_X6_79 lm_X6_in ⟨rfl, rfl, by decide, by decide⟩ (m_X6_in C.2.2.2.2.2.2.1 hcr1) rfl rfl (Nat.le_of_ble_eq_true rfl) ?_
      refine a_if_eq (tgt := 53) C dX6_lacks_46 (by decide) (fun hc => ?_) (fun hc => ?_)
      · replace h := ip hc h
        refine a_aload_n C dX6_lacks_53 0 rfl ?_
        refine a_iconst (v := 2) C dX6_lacks_54 (by decide) ?_
        obtain ⟨r2, hcr2, h⟩ := bd_some h
        refine a_callVi C dX6_lacks_55 lv_X6_94 lm_X6_finds ⟨rfl, rfl, by decide, by decide⟩ Kc_49 (m_X6_finds C.2.2.2.2.2.2.1 hcr2) rfl rfl (Nat.le_of_ble_eq_true rfl) ?_
        replace h := Option.some.inj h
        subst h
        exact a_iret C dX6_lacks_58 hK
      · replace h := iq hc h
        refine a_iconst (v := 0) C dX6_lacks_49 (by decide) ?_
        refine a_goto (tgt := 58) C dX6_lacks_50 (by decide) ?_
        replace h := Option.some.inj h
        subst h
        exact a_iret C dX6_lacks_58 hK
    · replace h := iq hc h
      refine a_aload_n C dX6_lacks_25 0 rfl ?_
      refine a_iconst (v := 3) C dX6_lacks_26 (by decide) ?_
      obtain ⟨r3, hcr3, h⟩ := bd_some h
      refine a_callVi C dX6_lacks_27 lv_X6_94 lm_X6_finds ⟨rfl, rfl, by decide, by decide⟩ Kc_49 (m_X6_finds C.2.2.2.2.2.2.1 hcr3) rfl rfl (Nat.le_of_ble_eq_true rfl) ?_
      replace h := Option.some.inj h
      subst h
      exact a_iret C dX6_lacks_30 hK
  · replace h := iq hc h
    refine a_aload_n C dX6_lacks_9 0 rfl ?_
    refine a_iconst (v := 1) C dX6_lacks_10 (by decide) ?_
    obtain ⟨r4, hcr4, h⟩ := bd_some h
    refine a_callVi C dX6_lacks_11 lv_X6_94 lm_X6_finds ⟨rfl, rfl, by decide, by decide⟩ Kc_49 (m_X6_finds C.2.2.2.2.2.2.1 hcr4) rfl rfl (Nat.le_of_ble_eq_true rfl) ?_
    replace h := Option.some.inj h
    subst h
    exact a_iret C dX6_lacks_14 hK
theorem m_X6_lacks {Y : EY} (hY : HY Y) {x1 : Int32} {x2 : Int32} {x3 : Int32} {M : Mem}  {r : Int32 × Mem} (h : f_X6_lacks x1 x2 x3 M = some r) : MX Y yX6_lacks cX6_lacks 4 (some .int) rm_X6_lacks [.ref (Y.2.2.2.1 49), .int x1, .int x2, .int x3] M (some (.int r.1)) r.2 := MX.of hY (by decide) (Nat.le_of_ble_eq_true rfl) (fun _ hR C => a_sub [0, 1, 2, 3] (t_X6_lacks C  h hR) rfl)
abbrev rm_X6_cut : Room := { frames := 0, cells := 0, slots := 0, locals := 0 }
noncomputable def f_X6_cut (x0 : Int32) (x1 : Int32) : Option (Int32) :=
  (if x0 = 0 then some (toB x1) else (if x0 = (1 : Int32) then some (toS x1) else some x1))
theorem t_X6_cut {Y : EY} {X : CX} (C : CK Y X cX6_cut RX6 2 (some .int) rm_X6_cut) {x0 : Int32} {x1 : Int32} {M : Mem}  {res : Int32} (h : f_X6_cut x0 x1 = some res) (hK : RK Y X (some (.int res)) M) : AW Y X 2 0 [(0, .int x0), (1, .int x1)] [] M := by
  unfold f_X6_cut at h
  refine a_iload_n C dX6_cut_0 0 rfl ?_
  refine a_if_ne (tgt := 9) C dX6_cut_1 (by decide) (fun hc => ?_) (fun hc => ?_)
  · replace h := iq hc h
    refine a_iload_n C dX6_cut_9 0 rfl ?_
    refine a_iconst (v := 1) C dX6_cut_10 (by decide) ?_
    refine a_icmp_ne (tgt := 19) C dX6_cut_11 (by decide) (fun hc => ?_) (fun hc => ?_)
    · replace h := iq hc h
      refine a_iload_n C dX6_cut_19 1 rfl ?_
      replace h := Option.some.inj h
      subst h
      exact a_iret C dX6_cut_20 hK
    · replace h := ip hc h
      refine a_iload_n C dX6_cut_14 1 rfl ?_
      refine a_i2s C dX6_cut_15 ?_
      refine a_goto (tgt := 20) C dX6_cut_16 (by decide) ?_
      replace h := Option.some.inj h
      subst h
      exact a_iret C dX6_cut_20 hK
  · replace h := ip hc h
    refine a_iload_n C dX6_cut_4 1 rfl ?_
    refine a_i2b C dX6_cut_5 ?_
    refine a_goto (tgt := 20) C dX6_cut_6 (by decide) ?_
    replace h := Option.some.inj h
    subst h
    exact a_iret C dX6_cut_20 hK
theorem m_X6_cut {Y : EY} (hY : HY Y) {x0 : Int32} {x1 : Int32} {M : Mem}  {r : Int32} (h : f_X6_cut x0 x1 = some r) : MX Y yX6_cut cX6_cut 2 (some .int) rm_X6_cut [.int x0, .int x1] M (some (.int r)) M := MX.of hY (by decide) (Nat.le_of_ble_eq_true rfl) (fun _ hR C => a_sub [0, 1] (t_X6_cut C  h hR) rfl)
abbrev rm_X6_lay : Room := { frames := 2, cells := 0, slots := 0, locals := 48 }
noncomputable def f_X6_lay (x1 : Int32) (x2 : Int32) (x3 : Int32) (x4 : Int32) (M : Mem) : Option (Int32 × Mem) :=
  Option.bind (f_X6_isSheet x1) (fun r1 => (if r1 = 0 then some ((-2 : Int32), M) else Option.bind (f_X6_in (x2).toInt64 (0 : Int64) (2 : Int64)) (fun r2 => (if r2 = 0 then some ((-2 : Int32), M) else Option.bind (f_X6_lacks x1 x2 x3 M) (fun r3 => (if r3.1 = 0 then Option.bind (f_X6_cut x2 x4) (fun r4 => ck (inb (((60 : Int32) * x1) + x3) 240) (some ((1 : Int32), (upM r3.2 52 ((((60 : Int32) * x1) + x3)).toNatClampNeg r4)))) else some (r3.1, r3.2)))))))
theorem t_X6_lay {Y : EY} {X : CX} (C : CK Y X cX6_lay RX6 6 (some .int) rm_X6_lay) {x1 : Int32} {x2 : Int32} {x3 : Int32} {x4 : Int32} {M : Mem}  {res : Int32 × Mem} (h : f_X6_lay x1 x2 x3 x4 M = some res) (hK : RK Y X (some (.int res.1)) res.2) : AW Y X 6 0 [(0, .ref (Y.2.2.2.1 49)), (1, .int x1), (2, .int x2), (3, .int x3), (4, .int x4)] [] M := by
  unfold f_X6_lay at h
  refine a_iload_n C dX6_lay_0 1 rfl ?_
  obtain ⟨r1, hcr1, h⟩ := bd_some h
  refine a_callSi C dX6_lay_1 ls_X6_88 lm_X6_isSheet ⟨rfl, rfl, by decide, by decide⟩ (m_X6_isSheet C.2.2.2.2.2.2.1 hcr1) rfl rfl (Nat.le_of_ble_eq_true rfl) ?_
  refine a_if_eq (tgt := 19) C dX6_lay_4 (by decide) (fun hc => ?_) (fun hc => ?_)
  · replace h := ip hc h
    refine a_bipush (v := -2) C dX6_lay_19 (by decide) ?_
    replace h := Option.some.inj h
    subst h
    exact a_iret C dX6_lay_21 hK
  · replace h := iq hc h
    refine a_iload_n C dX6_lay_7 2 rfl ?_
    refine a_i2l C dX6_lay_8 ?_
    refine a_lconst (v := 0) C dX6_lay_9 (by decide) ?_
    refine a_ldc2 C dX6_lay_10 co_X6_92 ?_
    obtain ⟨r2, hcr2, h⟩ := bd_some h
    refine a_callSi C dX6_lay_13 ls_X6_79 lm_X6_in ⟨rfl, rfl, by decide, by decide⟩ (m_X6_in C.2.2.2.2.2.2.1 hcr2) rfl rfl (Nat.le_of_ble_eq_true rfl) ?_
    refine a_if_ne (tgt := 22) C dX6_lay_16 (by decide) (fun hc => ?_) (fun hc => ?_)
    · replace h := iq hc h
      refine a_aload_n C dX6_lay_22 0 rfl ?_
      refine a_iload_n C dX6_lay_23 1 rfl ?_
      refine a_iload_n C dX6_lay_24 2 rfl ?_
      refine a_iload_n C dX6_lay_25 3 rfl ?_
      obtain ⟨r3, hcr3, h⟩ := bd_some h
      refine a_callVi C dX6_lay_26 lv_X6_98 lm_X6_lacks ⟨rfl, rfl, by decide, by decide⟩ Kc_49 (m_X6_lacks C.2.2.2.2.2.2.1 hcr3) rfl rfl (Nat.le_of_ble_eq_true rfl) ?_
      refine a_istore (lv' := [(5, _), (0, _), (1, _), (2, _), (3, _), (4, _)]) C dX6_lay_29 (by decide) rfl ?_
      refine a_iload C dX6_lay_31 0 rfl ?_
      refine a_if_eq (tgt := 39) C dX6_lay_33 (by decide) (fun hc => ?_) (fun hc => ?_)
      · replace h := ip hc h
        refine a_aload_n C dX6_lay_39 1 rfl ?_
        refine a_getr (k1 := 52) C dX6_lay_40 fl_X6_16 rfl Kc_49 rfl ?_
        refine a_bipush (v := 60) C dX6_lay_43 (by decide) ?_
        refine a_iload_n C dX6_lay_45 2 rfl ?_
        refine a_imul C dX6_lay_46 ?_
        refine a_iload_n C dX6_lay_47 4 rfl ?_
        refine a_iadd C dX6_lay_48 ?_
        refine a_iload_n C dX6_lay_49 3 rfl ?_
        refine a_iload C dX6_lay_50 5 rfl ?_
        obtain ⟨r4, hcr4, h⟩ := bd_some h
        refine a_callSi C dX6_lay_52 ls_X6_102 lm_X6_cut ⟨rfl, rfl, by decide, by decide⟩ (m_X6_cut C.2.2.2.2.2.2.1 hcr4) rfl rfl (Nat.le_of_ble_eq_true rfl) ?_
        obtain ⟨hb, h⟩ := ck_some h
        refine a_iast C dX6_lay_55 Kc_52 rfl hb ?_
        refine a_iconst (v := 1) C dX6_lay_56 (by decide) ?_
        replace h := Option.some.inj h
        subst h
        exact a_iret C dX6_lay_57 hK
      · replace h := iq hc h
        refine a_iload C dX6_lay_36 0 rfl ?_
        replace h := Option.some.inj h
        subst h
        exact a_iret C dX6_lay_38 hK
    · replace h := ip hc h
      refine a_bipush (v := -2) C dX6_lay_19 (by decide) ?_
      replace h := Option.some.inj h
      subst h
      exact a_iret C dX6_lay_21 hK
theorem m_X6_lay {Y : EY} (hY : HY Y) {x1 : Int32} {x2 : Int32} {x3 : Int32} {x4 : Int32} {M : Mem}  {r : Int32 × Mem} (h : f_X6_lay x1 x2 x3 x4 M = some r) : MX Y yX6_lay cX6_lay 6 (some .int) rm_X6_lay [.ref (Y.2.2.2.1 49), .int x1, .int x2, .int x3, .int x4] M (some (.int r.1)) r.2 := MX.of hY (by decide) (Nat.le_of_ble_eq_true rfl) (fun _ hR C => a_sub [0, 1, 2, 3, 4] (t_X6_lay C  h hR) rfl)
abbrev rm_X6_get : Room := { frames := 2, cells := 0, slots := 0, locals := 48 }
noncomputable def f_X6_get (x1 : Int32) (x2 : Int32) (x3 : Int32) (M : Mem) : Option (Int32 × Mem) :=
  Option.bind (f_X6_isSheet x1) (fun r1 => (if r1 = 0 then some ((-2147483648 : Int32), M) else Option.bind (f_X6_in (x2).toInt64 (0 : Int64) (2 : Int64)) (fun r2 => (if r2 = 0 then some ((-2147483648 : Int32), M) else Option.bind (f_X6_lacks x1 x2 x3 M) (fun r3 => (if r3.1 = 0 then ck (inb (((60 : Int32) * x1) + x3) 240) (some ((r3.2 52 ((((60 : Int32) * x1) + x3)).toNatClampNeg), r3.2)) else some ((-2147483648 : Int32), r3.2)))))))
theorem t_X6_get {Y : EY} {X : CX} (C : CK Y X cX6_get RX6 4 (some .int) rm_X6_get) {x1 : Int32} {x2 : Int32} {x3 : Int32} {M : Mem}  {res : Int32 × Mem} (h : f_X6_get x1 x2 x3 M = some res) (hK : RK Y X (some (.int res.1)) res.2) : AW Y X 4 0 [(0, .ref (Y.2.2.2.1 49)), (1, .int x1), (2, .int x2), (3, .int x3)] [] M := by
  unfold f_X6_get at h
  refine a_iload_n C dX6_get_0 1 rfl ?_
  obtain ⟨r1, hcr1, h⟩ := bd_some h
  refine a_callSi C dX6_get_1 ls_X6_88 lm_X6_isSheet ⟨rfl, rfl, by decide, by decide⟩ (m_X6_isSheet C.2.2.2.2.2.2.1 hcr1) rfl rfl (Nat.le_of_ble_eq_true rfl) ?_
  refine a_if_eq (tgt := 29) C dX6_get_4 (by decide) (fun hc => ?_) (fun hc => ?_)
  · replace h := ip hc h
    refine a_ldc C dX6_get_29 co_X6_106 ?_
    replace h := Option.some.inj h
    subst h
    exact a_iret C dX6_get_31 hK
  · replace h := iq hc h
    refine a_iload_n C dX6_get_7 2 rfl ?_
    refine a_i2l C dX6_get_8 ?_
    refine a_lconst (v := 0) C dX6_get_9 (by decide) ?_
    refine a_ldc2 C dX6_get_10 co_X6_92 ?_
    obtain ⟨r2, hcr2, h⟩ := bd_some h
    refine a_callSi C dX6_get_13 ls_X6_79 lm_X6_in ⟨rfl, rfl, by decide, by decide⟩ (m_X6_in C.2.2.2.2.2.2.1 hcr2) rfl rfl (Nat.le_of_ble_eq_true rfl) ?_
    refine a_if_eq (tgt := 29) C dX6_get_16 (by decide) (fun hc => ?_) (fun hc => ?_)
    · replace h := ip hc h
      refine a_ldc C dX6_get_29 co_X6_106 ?_
      replace h := Option.some.inj h
      subst h
      exact a_iret C dX6_get_31 hK
    · replace h := iq hc h
      refine a_aload_n C dX6_get_19 0 rfl ?_
      refine a_iload_n C dX6_get_20 1 rfl ?_
      refine a_iload_n C dX6_get_21 2 rfl ?_
      refine a_iload_n C dX6_get_22 3 rfl ?_
      obtain ⟨r3, hcr3, h⟩ := bd_some h
      refine a_callVi C dX6_get_23 lv_X6_98 lm_X6_lacks ⟨rfl, rfl, by decide, by decide⟩ Kc_49 (m_X6_lacks C.2.2.2.2.2.2.1 hcr3) rfl rfl (Nat.le_of_ble_eq_true rfl) ?_
      refine a_if_eq (tgt := 32) C dX6_get_26 (by decide) (fun hc => ?_) (fun hc => ?_)
      · replace h := ip hc h
        refine a_aload_n C dX6_get_32 0 rfl ?_
        refine a_getr (k1 := 52) C dX6_get_33 fl_X6_16 rfl Kc_49 rfl ?_
        refine a_bipush (v := 60) C dX6_get_36 (by decide) ?_
        refine a_iload_n C dX6_get_38 1 rfl ?_
        refine a_imul C dX6_get_39 ?_
        refine a_iload_n C dX6_get_40 3 rfl ?_
        refine a_iadd C dX6_get_41 ?_
        obtain ⟨hb, h⟩ := ck_some h
        refine a_iald C dX6_get_42 Kc_52 rfl hb ?_
        replace h := Option.some.inj h
        subst h
        exact a_iret C dX6_get_43 hK
      · replace h := iq hc h
        refine a_ldc C dX6_get_29 co_X6_106 ?_
        replace h := Option.some.inj h
        subst h
        exact a_iret C dX6_get_31 hK
theorem m_X6_get {Y : EY} (hY : HY Y) {x1 : Int32} {x2 : Int32} {x3 : Int32} {M : Mem}  {r : Int32 × Mem} (h : f_X6_get x1 x2 x3 M = some r) : MX Y yX6_get cX6_get 4 (some .int) rm_X6_get [.ref (Y.2.2.2.1 49), .int x1, .int x2, .int x3] M (some (.int r.1)) r.2 := MX.of hY (by decide) (Nat.le_of_ble_eq_true rfl) (fun _ hR C => a_sub [0, 1, 2, 3] (t_X6_get C  h hR) rfl)
abbrev rm_X6_copy : Room := { frames := 2, cells := 0, slots := 0, locals := 45 }
noncomputable def f_X6_copy_35  (M : Mem) : Option (Int32 × Mem) :=
  Option.bind (f_X6_finds (1 : Int32) M) (fun r3 => some (r3.1, r3.2))
theorem t_X6_copy_35 {Y : EY} {X : CX} (C : CK Y X cX6_copy RX6 7 (some .int) rm_X6_copy)  {M : Mem}  {res : Int32 × Mem} (h : f_X6_copy_35 M = some res) (hK : RK Y X (some (.int res.1)) res.2) : AW Y X 7 35 [(0, .ref (Y.2.2.2.1 49))] [] M := by
  unfold f_X6_copy_35 at h
  refine a_aload_n C dX6_copy_35 0 rfl ?_
  refine a_iconst (v := 1) C dX6_copy_36 (by decide) ?_
  obtain ⟨r3, hcr3, h⟩ := bd_some h
  refine a_callVi C dX6_copy_37 lv_X6_94 lm_X6_finds ⟨rfl, rfl, by decide, by decide⟩ Kc_49 (m_X6_finds C.2.2.2.2.2.2.1 hcr3) rfl rfl (Nat.le_of_ble_eq_true rfl) ?_
  replace h := Option.some.inj h
  subst h
  exact a_iret C dX6_copy_40 hK
noncomputable def f_X6_copy_111  (M : Mem) : Option (Int32 × Mem) :=
  Option.bind (f_X6_finds (2 : Int32) M) (fun r4 => some (r4.1, r4.2))
theorem t_X6_copy_111 {Y : EY} {X : CX} (C : CK Y X cX6_copy RX6 7 (some .int) rm_X6_copy)  {M : Mem}  {res : Int32 × Mem} (h : f_X6_copy_111 M = some res) (hK : RK Y X (some (.int res.1)) res.2) : AW Y X 7 111 [(0, .ref (Y.2.2.2.1 49))] [] M := by
  unfold f_X6_copy_111 at h
  refine a_aload_n C dX6_copy_111 0 rfl ?_
  refine a_iconst (v := 2) C dX6_copy_112 (by decide) ?_
  obtain ⟨r4, hcr4, h⟩ := bd_some h
  refine a_callVi C dX6_copy_113 lv_X6_94 lm_X6_finds ⟨rfl, rfl, by decide, by decide⟩ Kc_49 (m_X6_finds C.2.2.2.2.2.2.1 hcr4) rfl rfl (Nat.le_of_ble_eq_true rfl) ?_
  replace h := Option.some.inj h
  subst h
  exact a_iret C dX6_copy_116 hK
abbrev At_X6_copy_120 (Y : EY) (X : CX) (x1 : Int32) (x2 : Int32) (x3 : Int32) (x4 : Int32) (x5 : Int32) (s : Int32 × Mem) : Prop := AW Y X 7 120 [(0, .ref (Y.2.2.2.1 49)), (1, .int x1), (2, .int x2), (3, .int x3), (4, .int x4), (5, .int x5), (6, .int s.1)] [] s.2
abbrev Ex_X6_copy_120 (Y : EY) (X : CX) (x1 : Int32) (x2 : Int32) (x3 : Int32) (x4 : Int32) (x5 : Int32) (s : Int32 × Mem) : Prop := AW Y X 7 154 [(0, .ref (Y.2.2.2.1 49)), (3, .int x3), (4, .int x4), (5, .int x5)] [] s.2
noncomputable def f_X6_copy_120_120b (x1 : Int32) (x2 : Int32) (x3 : Int32) (x4 : Int32) (x5 : Int32) (x6 : Int32) (M : Mem) : Option ((Int32 × Mem) ⊕ (Int32 × Mem)) :=
  (if x5 ≤ x6 then some (.inr (x6, M)) else ck (inb ((((60 : Int32) * x1) + x2) + x6) 240) (ck (inb x6 60) (some (.inl ((x6 + (1 : Int32)), (upM M 53 (x6).toNatClampNeg (M 52 (((((60 : Int32) * x1) + x2) + x6)).toNatClampNeg)))))))
theorem t_X6_copy_120_120b {Y : EY} {X : CX} (C : CK Y X cX6_copy RX6 7 (some .int) rm_X6_copy) {x1 : Int32} {x2 : Int32} {x3 : Int32} {x4 : Int32} {x5 : Int32} {x6 : Int32} {M : Mem}  {res : (Int32 × Mem) ⊕ (Int32 × Mem)} (h : f_X6_copy_120_120b x1 x2 x3 x4 x5 x6 M = some res) (hK : KL (At_X6_copy_120 Y X x1 x2 x3 x4 x5) (Ex_X6_copy_120 Y X x1 x2 x3 x4 x5) res) : AW Y X 7 120 [(0, .ref (Y.2.2.2.1 49)), (1, .int x1), (2, .int x2), (3, .int x3), (4, .int x4), (5, .int x5), (6, .int x6)] [] M := by
  unfold f_X6_copy_120_120b at h
  refine a_iload C dX6_copy_120 6 rfl ?_
  refine a_iload C dX6_copy_122 5 rfl ?_
  refine a_icmp_ge (tgt := 154) C dX6_copy_124 (by decide) (fun hc => ?_) (fun hc => ?_)
  · replace h := ip hc h
    replace h := Option.some.inj h
    subst h
    exact a_sub [0, 3, 4, 5] (hK) rfl
  · replace h := iq hc h
    refine a_aload_n C dX6_copy_127 0 rfl ?_
    refine a_getr (k1 := 53) C dX6_copy_128 fl_X6_19 rfl Kc_49 rfl ?_
    refine a_iload C dX6_copy_131 6 rfl ?_
    refine a_aload_n C dX6_copy_133 0 rfl ?_
    refine a_getr (k1 := 52) C dX6_copy_134 fl_X6_16 rfl Kc_49 rfl ?_
    refine a_bipush (v := 60) C dX6_copy_137 (by decide) ?_
    refine a_iload_n C dX6_copy_139 1 rfl ?_
    refine a_imul C dX6_copy_140 ?_
    refine a_iload_n C dX6_copy_141 2 rfl ?_
    refine a_iadd C dX6_copy_142 ?_
    refine a_iload C dX6_copy_143 6 rfl ?_
    refine a_iadd C dX6_copy_145 ?_
    obtain ⟨hb, h⟩ := ck_some h
    refine a_iald C dX6_copy_146 Kc_52 rfl hb ?_
    obtain ⟨hb, h⟩ := ck_some h
    refine a_iast C dX6_copy_147 Kc_53 rfl hb ?_
    refine a_iinc (v := 1) (lv' := [(6, _), (0, _), (1, _), (2, _), (3, _), (4, _), (5, _)]) C dX6_copy_148 6 rfl (by decide) (by decide) rfl ?_
    refine a_goto (tgt := 120) C dX6_copy_151 (by decide) ?_
    replace h := Option.some.inj h
    subst h
    exact a_sub [1, 2, 3, 4, 5, 6, 0] (hK) rfl
abbrev At_X6_copy_157 (Y : EY) (X : CX) (x3 : Int32) (x4 : Int32) (x5 : Int32) (s : Int32 × Mem) : Prop := AW Y X 7 157 [(0, .ref (Y.2.2.2.1 49)), (3, .int x3), (4, .int x4), (5, .int x5), (6, .int s.1)] [] s.2
abbrev Ex_X6_copy_157 (Y : EY) (X : CX) (x3 : Int32) (x4 : Int32) (x5 : Int32) (s : Int32 × Mem) : Prop := AW Y X 7 192 [] [] s.2
noncomputable def f_X6_copy_157_157b (x3 : Int32) (x4 : Int32) (x5 : Int32) (x6 : Int32) (M : Mem) : Option ((Int32 × Mem) ⊕ (Int32 × Mem)) :=
  (if x5 ≤ x6 then some (.inr (x6, M)) else ck (inb x6 60) (ck (inb ((((60 : Int32) * x3) + x4) + x6) 240) (some (.inl ((x6 + (1 : Int32)), (upM M 52 (((((60 : Int32) * x3) + x4) + x6)).toNatClampNeg (M 53 (x6).toNatClampNeg)))))))
theorem t_X6_copy_157_157b {Y : EY} {X : CX} (C : CK Y X cX6_copy RX6 7 (some .int) rm_X6_copy) {x3 : Int32} {x4 : Int32} {x5 : Int32} {x6 : Int32} {M : Mem}  {res : (Int32 × Mem) ⊕ (Int32 × Mem)} (h : f_X6_copy_157_157b x3 x4 x5 x6 M = some res) (hK : KL (At_X6_copy_157 Y X x3 x4 x5) (Ex_X6_copy_157 Y X x3 x4 x5) res) : AW Y X 7 157 [(0, .ref (Y.2.2.2.1 49)), (3, .int x3), (4, .int x4), (5, .int x5), (6, .int x6)] [] M := by
  unfold f_X6_copy_157_157b at h
  refine a_iload C dX6_copy_157 4 rfl ?_
  refine a_iload C dX6_copy_159 3 rfl ?_
  refine a_icmp_ge (tgt := 192) C dX6_copy_161 (by decide) (fun hc => ?_) (fun hc => ?_)
  · replace h := ip hc h
    replace h := Option.some.inj h
    subst h
    exact a_sub [] (hK) rfl
  · replace h := iq hc h
    refine a_aload_n C dX6_copy_164 0 rfl ?_
    refine a_getr (k1 := 52) C dX6_copy_165 fl_X6_16 rfl Kc_49 rfl ?_
    refine a_bipush (v := 60) C dX6_copy_168 (by decide) ?_
    refine a_iload_n C dX6_copy_170 1 rfl ?_
    refine a_imul C dX6_copy_171 ?_
    refine a_iload C dX6_copy_172 2 rfl ?_
    refine a_iadd C dX6_copy_174 ?_
    refine a_iload C dX6_copy_175 4 rfl ?_
    refine a_iadd C dX6_copy_177 ?_
    refine a_aload_n C dX6_copy_178 0 rfl ?_
    refine a_getr (k1 := 53) C dX6_copy_179 fl_X6_19 rfl Kc_49 rfl ?_
    refine a_iload C dX6_copy_182 4 rfl ?_
    obtain ⟨hb, h⟩ := ck_some h
    refine a_iald C dX6_copy_184 Kc_53 rfl hb ?_
    obtain ⟨hb, h⟩ := ck_some h
    refine a_iast C dX6_copy_185 Kc_52 rfl hb ?_
    refine a_iinc (v := 1) (lv' := [(6, _), (0, _), (3, _), (4, _), (5, _)]) C dX6_copy_186 4 rfl (by decide) (by decide) rfl ?_
    refine a_goto (tgt := 157) C dX6_copy_189 (by decide) ?_
    replace h := Option.some.inj h
    subst h
    exact a_sub [1, 2, 3, 4, 0] (hK) rfl
noncomputable def f_X6_copy (x1 : Int32) (x2 : Int32) (x3 : Int32) (x4 : Int32) (x5 : Int32) (M : Mem) : Option (Int32 × Mem) :=
  Option.bind (f_X6_isSheet x1) (fun r1 => (if r1 = 0 then some ((-2 : Int32), M) else Option.bind (f_X6_isSheet x3) (fun r2 => (if r2 = 0 then some ((-2 : Int32), M) else ck (inb x1 4) ((if (M 50 (x1).toNatClampNeg) < 0 then f_X6_copy_35 M else ck (inb x3 4) ((if 0 ≤ (M 50 (x3).toNatClampNeg) then ck (inb x1 4) (ck (inb x3 4) ((if (M 50 (x1).toNatClampNeg) = (M 50 (x3).toNatClampNeg) then (if x2 < 0 then f_X6_copy_111 M else (if x4 < 0 then f_X6_copy_111 M else (if x5 < 0 then f_X6_copy_111 M else ck (inb x1 4) ((if 0 < (lg_cmp ((x2).toInt64 + (x5).toInt64) ((M 51 (x1).toNatClampNeg)).toInt64) then f_X6_copy_111 M else ck (inb x3 4) ((if (lg_cmp ((x4).toInt64 + (x5).toInt64) ((M 51 (x3).toNatClampNeg)).toInt64) ≤ 0 then Option.bind (loop (fun s5 : Int32 × Mem => f_X6_copy_120_120b x1 x2 x3 x4 x5 s5.1 s5.2) ((0 : Int32), M)) (fun s6 => Option.bind (loop (fun s7 : Int32 × Mem => f_X6_copy_157_157b x3 x4 x5 s7.1 s7.2) ((0 : Int32), s6.2)) (fun s8 => some ((1 : Int32), s8.2))) else f_X6_copy_111 M))))))) else Option.bind (f_X6_finds (4 : Int32) M) (fun r9 => some (r9.1, r9.2))))) else f_X6_copy_35 M))))))))
theorem t_X6_copy {Y : EY} {X : CX} (C : CK Y X cX6_copy RX6 7 (some .int) rm_X6_copy) {x1 : Int32} {x2 : Int32} {x3 : Int32} {x4 : Int32} {x5 : Int32} {M : Mem}  {res : Int32 × Mem} (h : f_X6_copy x1 x2 x3 x4 x5 M = some res) (hK : RK Y X (some (.int res.1)) res.2) : AW Y X 7 0 [(0, .ref (Y.2.2.2.1 49)), (1, .int x1), (2, .int x2), (3, .int x3), (4, .int x4), (5, .int x5)] [] M := by
  unfold f_X6_copy at h
  refine a_iload_n C dX6_copy_0 1 rfl ?_
  obtain ⟨r1, hcr1, h⟩ := bd_some h
  refine a_callSi C dX6_copy_1 ls_X6_88 lm_X6_isSheet ⟨rfl, rfl, by decide, by decide⟩ (m_X6_isSheet C.2.2.2.2.2.2.1 hcr1) rfl rfl (Nat.le_of_ble_eq_true rfl) ?_
  refine a_if_eq (tgt := 14) C dX6_copy_4 (by decide) (fun hc => ?_) (fun hc => ?_)
  · replace h := ip hc h
    refine a_bipush (v := -2) C dX6_copy_14 (by decide) ?_
    replace h := Option.some.inj h
    subst h
    exact a_iret C dX6_copy_16 hK
  · replace h := iq hc h
    refine a_iload_n C dX6_copy_7 3 rfl ?_
    obtain ⟨r2, hcr2, h⟩ := bd_some h
    refine a_callSi C dX6_copy_8 ls_X6_88 lm_X6_isSheet ⟨rfl, rfl, by decide, by decide⟩ (m_X6_isSheet C.2.2.2.2.2.2.1 hcr2) rfl rfl (Nat.le_of_ble_eq_true rfl) ?_
    refine a_if_ne (tgt := 17) C dX6_copy_11 (by decide) (fun hc => ?_) (fun hc => ?_)
    · replace h := iq hc h
      refine a_aload_n C dX6_copy_17 0 rfl ?_
      refine a_getr (k1 := 50) C dX6_copy_18 fl_X6_7 rfl Kc_49 rfl ?_
      refine a_iload_n C dX6_copy_21 1 rfl ?_
      obtain ⟨hb, h⟩ := ck_some h
      refine a_iald C dX6_copy_22 Kc_50 rfl hb ?_
      refine a_if_lt (tgt := 35) C dX6_copy_23 (by decide) (fun hc => ?_) (fun hc => ?_)
      · replace h := ip hc h
        exact a_sub [0] (t_X6_copy_35 C h hK) rfl
      · replace h := iq hc h
        refine a_aload_n C dX6_copy_26 0 rfl ?_
        refine a_getr (k1 := 50) C dX6_copy_27 fl_X6_7 rfl Kc_49 rfl ?_
        refine a_iload_n C dX6_copy_30 3 rfl ?_
        obtain ⟨hb, h⟩ := ck_some h
        refine a_iald C dX6_copy_31 Kc_50 rfl hb ?_
        refine a_if_ge (tgt := 41) C dX6_copy_32 (by decide) (fun hc => ?_) (fun hc => ?_)
        · replace h := ip hc h
          refine a_aload_n C dX6_copy_41 0 rfl ?_
          refine a_getr (k1 := 50) C dX6_copy_42 fl_X6_7 rfl Kc_49 rfl ?_
          refine a_iload_n C dX6_copy_45 1 rfl ?_
          obtain ⟨hb, h⟩ := ck_some h
          refine a_iald C dX6_copy_46 Kc_50 rfl hb ?_
          refine a_aload_n C dX6_copy_47 0 rfl ?_
          refine a_getr (k1 := 50) C dX6_copy_48 fl_X6_7 rfl Kc_49 rfl ?_
          refine a_iload_n C dX6_copy_51 3 rfl ?_
          obtain ⟨hb, h⟩ := ck_some h
          refine a_iald C dX6_copy_52 Kc_50 rfl hb ?_
          refine a_icmp_eq (tgt := 62) C dX6_copy_53 (by decide) (fun hc => ?_) (fun hc => ?_)
          · replace h := ip hc h
            refine a_iload_n C dX6_copy_62 2 rfl ?_
            refine a_if_lt (tgt := 111) C dX6_copy_63 (by decide) (fun hc => ?_) (fun hc => ?_)
            · replace h := ip hc h
              exact a_sub [0] (t_X6_copy_111 C h hK) rfl
            · replace h := iq hc h
              refine a_iload C dX6_copy_66 4 rfl ?_
              refine a_if_lt (tgt := 111) C dX6_copy_68 (by decide) (fun hc => ?_) (fun hc => ?_)
              · replace h := ip hc h
                exact a_sub [0] (t_X6_copy_111 C h hK) rfl
              · replace h := iq hc h
                refine a_iload C dX6_copy_71 5 rfl ?_
                refine a_if_lt (tgt := 111) C dX6_copy_73 (by decide) (fun hc => ?_) (fun hc => ?_)
                · replace h := ip hc h
                  exact a_sub [0] (t_X6_copy_111 C h hK) rfl
                · replace h := iq hc h
                  refine a_iload_n C dX6_copy_76 2 rfl ?_
                  refine a_i2l C dX6_copy_77 ?_
                  refine a_iload C dX6_copy_78 5 rfl ?_
                  refine a_i2l C dX6_copy_80 ?_
                  refine a_ladd C dX6_copy_81 ?_
                  refine a_aload_n C dX6_copy_82 0 rfl ?_
                  refine a_getr (k1 := 51) C dX6_copy_83 fl_X6_13 rfl Kc_49 rfl ?_
                  refine a_iload_n C dX6_copy_86 1 rfl ?_
                  obtain ⟨hb, h⟩ := ck_some h
                  refine a_iald C dX6_copy_87 Kc_51 rfl hb ?_
                  refine a_i2l C dX6_copy_88 ?_
                  refine a_lcmp C dX6_copy_89 ?_
                  refine a_if_gt (tgt := 111) C dX6_copy_90 (by decide) (fun hc => ?_) (fun hc => ?_)
                  · replace h := ip hc h
                    exact a_sub [0] (t_X6_copy_111 C h hK) rfl
                  · replace h := iq hc h
                    refine a_iload C dX6_copy_93 4 rfl ?_
                    refine a_i2l C dX6_copy_95 ?_
                    refine a_iload C dX6_copy_96 5 rfl ?_
                    refine a_i2l C dX6_copy_98 ?_
                    refine a_ladd C dX6_copy_99 ?_
                    refine a_aload_n C dX6_copy_100 0 rfl ?_
                    refine a_getr (k1 := 51) C dX6_copy_101 fl_X6_13 rfl Kc_49 rfl ?_
                    refine a_iload_n C dX6_copy_104 3 rfl ?_
                    obtain ⟨hb, h⟩ := ck_some h
                    refine a_iald C dX6_copy_105 Kc_51 rfl hb ?_
                    refine a_i2l C dX6_copy_106 ?_
                    refine a_lcmp C dX6_copy_107 ?_
                    refine a_if_le (tgt := 117) C dX6_copy_108 (by decide) (fun hc => ?_) (fun hc => ?_)
                    · replace h := ip hc h
                      refine a_iconst (v := 0) C dX6_copy_117 (by decide) ?_
                      refine a_istore (lv' := [(6, _), (0, _), (1, _), (2, _), (3, _), (4, _), (5, _)]) C dX6_copy_118 (by decide) rfl ?_
                      obtain ⟨s6, hl, h⟩ := bd_some h
                      have hE : Ex_X6_copy_120 Y X x1 x2 x3 x4 x5 s6 := by
                        refine a_iconst (v := 0) C dX6_copy_154 (by decide) ?_
                        refine a_istore (lv' := [(6, _), (0, _), (3, _), (4, _), (5, _)]) C dX6_copy_155 (by decide) rfl ?_
                        obtain ⟨s8, hl, h⟩ := bd_some h
                        have hE : Ex_X6_copy_157 Y X x3 x4 x5 s8 := by
                          refine a_iconst (v := 1) C dX6_copy_192 (by decide) ?_
                          replace h := Option.some.inj h
                          subst h
                          exact a_iret C dX6_copy_193 hK
                        have hA := aw_loop (At_X6_copy_157 Y X x3 x4 x5) (Ex_X6_copy_157 Y X x3 x4 x5) (fun _ _ hb hk => t_X6_copy_157_157b C hb hk) hl hE
                        exact a_sub [1, 2, 3, 4, 0] (hA) rfl
                      have hA := aw_loop (At_X6_copy_120 Y X x1 x2 x3 x4 x5) (Ex_X6_copy_120 Y X x1 x2 x3 x4 x5) (fun _ _ hb hk => t_X6_copy_120_120b C hb hk) hl hE
                      exact a_sub [1, 2, 3, 4, 5, 6, 0] (hA) rfl
                    · replace h := iq hc h
                      exact a_sub [0] (t_X6_copy_111 C h hK) rfl
          · replace h := iq hc h
            refine a_aload_n C dX6_copy_56 0 rfl ?_
            refine a_iconst (v := 4) C dX6_copy_57 (by decide) ?_
            obtain ⟨r9, hcr9, h⟩ := bd_some h
            refine a_callVi C dX6_copy_58 lv_X6_94 lm_X6_finds ⟨rfl, rfl, by decide, by decide⟩ Kc_49 (m_X6_finds C.2.2.2.2.2.2.1 hcr9) rfl rfl (Nat.le_of_ble_eq_true rfl) ?_
            replace h := Option.some.inj h
            subst h
            exact a_iret C dX6_copy_61 hK
        · replace h := iq hc h
          exact a_sub [0] (t_X6_copy_35 C h hK) rfl
    · replace h := ip hc h
      refine a_bipush (v := -2) C dX6_copy_14 (by decide) ?_
      replace h := Option.some.inj h
      subst h
      exact a_iret C dX6_copy_16 hK
theorem m_X6_copy {Y : EY} (hY : HY Y) {x1 : Int32} {x2 : Int32} {x3 : Int32} {x4 : Int32} {x5 : Int32} {M : Mem}  {r : Int32 × Mem} (h : f_X6_copy x1 x2 x3 x4 x5 M = some r) : MX Y yX6_copy cX6_copy 7 (some .int) rm_X6_copy [.ref (Y.2.2.2.1 49), .int x1, .int x2, .int x3, .int x4, .int x5] M (some (.int r.1)) r.2 := MX.of hY (by decide) (Nat.le_of_ble_eq_true rfl) (fun _ hR C => a_sub [0, 1, 2, 3, 4, 5] (t_X6_copy C  h hR) rfl)
abbrev rm_X6_type : Room := { frames := 2, cells := 0, slots := 0, locals := 45 }
noncomputable def f_X6_type_39 (x1 : Int32) (x2 : Int32) (t0 : Int32) (t1 : Int32) (M : Mem) : Option (Int32 × Mem) :=
  (if t0 = t1 then some ((-4 : Int32), M) else ck (inb x1 2) (ck (inb (((56 : Int32) * x1) + (M 55 (x1).toNatClampNeg)) 112) (ck (inb x1 2) (ck (inb x1 2) (ck (inb x1 2) (some (((upM (upM M 54 ((((56 : Int32) * x1) + (M 55 (x1).toNatClampNeg))).toNatClampNeg x2) 55 (x1).toNatClampNeg (((upM M 54 ((((56 : Int32) * x1) + (M 55 (x1).toNatClampNeg))).toNatClampNeg x2) 55 (x1).toNatClampNeg) + (1 : Int32))) 55 (x1).toNatClampNeg), (upM (upM M 54 ((((56 : Int32) * x1) + (M 55 (x1).toNatClampNeg))).toNatClampNeg x2) 55 (x1).toNatClampNeg (((upM M 54 ((((56 : Int32) * x1) + (M 55 (x1).toNatClampNeg))).toNatClampNeg x2) 55 (x1).toNatClampNeg) + (1 : Int32))))))))))
theorem t_X6_type_39 {Y : EY} {X : CX} (C : CK Y X cX6_type RX6 3 (some .int) rm_X6_type) {x1 : Int32} {x2 : Int32} {t0 : Int32} {t1 : Int32} {M : Mem}  {res : Int32 × Mem} (h : f_X6_type_39 x1 x2 t0 t1 M = some res) (hK : RK Y X (some (.int res.1)) res.2) : AW Y X 3 39 [(0, .ref (Y.2.2.2.1 49)), (1, .int x1), (2, .int x2)] [.int t1, .int t0] M := by
  unfold f_X6_type_39 at h
  refine a_icmp_ne (tgt := 45) C dX6_type_39 (by decide) (fun hc => ?_) (fun hc => ?_)
  · replace h := iq hc h
    refine a_aload_n C dX6_type_45 0 rfl ?_
    refine a_getr (k1 := 54) C dX6_type_46 fl_X6_22 rfl Kc_49 rfl ?_
    refine a_bipush (v := 56) C dX6_type_49 (by decide) ?_
    refine a_iload_n C dX6_type_51 1 rfl ?_
    refine a_imul C dX6_type_52 ?_
    refine a_aload_n C dX6_type_53 0 rfl ?_
    refine a_getr (k1 := 55) C dX6_type_54 fl_X6_25 rfl Kc_49 rfl ?_
    refine a_iload_n C dX6_type_57 1 rfl ?_
    obtain ⟨hb, h⟩ := ck_some h
    refine a_iald C dX6_type_58 Kc_55 rfl hb ?_
    refine a_iadd C dX6_type_59 ?_
    refine a_iload_n C dX6_type_60 2 rfl ?_
    obtain ⟨hb, h⟩ := ck_some h
    refine a_iast C dX6_type_61 Kc_54 rfl hb ?_
    refine a_aload_n C dX6_type_62 0 rfl ?_
    refine a_getr (k1 := 55) C dX6_type_63 fl_X6_25 rfl Kc_49 rfl ?_
    refine a_iload_n C dX6_type_66 1 rfl ?_
    refine a_dup2 C dX6_type_67 rfl rfl ?_
    obtain ⟨hb, h⟩ := ck_some h
    refine a_iald C dX6_type_68 Kc_55 rfl hb ?_
    refine a_iconst (v := 1) C dX6_type_69 (by decide) ?_
    refine a_iadd C dX6_type_70 ?_
    obtain ⟨hb, h⟩ := ck_some h
    refine a_iast C dX6_type_71 Kc_55 rfl hb ?_
    refine a_aload_n C dX6_type_72 0 rfl ?_
    refine a_getr (k1 := 55) C dX6_type_73 fl_X6_25 rfl Kc_49 rfl ?_
    refine a_iload_n C dX6_type_76 1 rfl ?_
    obtain ⟨hb, h⟩ := ck_some h
    refine a_iald C dX6_type_77 Kc_55 rfl hb ?_
    replace h := Option.some.inj h
    subst h
    exact a_iret C dX6_type_78 hK
  · replace h := ip hc h
    refine a_bipush (v := -4) C dX6_type_42 (by decide) ?_
    replace h := Option.some.inj h
    subst h
    exact a_iret C dX6_type_44 hK
noncomputable def f_X6_type (x1 : Int32) (x2 : Int32) (M : Mem) : Option (Int32 × Mem) :=
  Option.bind (f_X6_isTwo x1) (fun r1 => (if r1 = 0 then some ((-2 : Int32), M) else Option.bind (f_X6_in (x2).toInt64 (0 : Int64) (255 : Int64)) (fun r2 => (if r2 = 0 then some ((-2 : Int32), M) else ck (inb x1 2) ((if x1 = 0 then f_X6_type_39 x1 x2 (M 55 (x1).toNatClampNeg) (55 : Int32) M else f_X6_type_39 x1 x2 (M 55 (x1).toNatClampNeg) (23 : Int32) M))))))
theorem t_X6_type {Y : EY} {X : CX} (C : CK Y X cX6_type RX6 3 (some .int) rm_X6_type) {x1 : Int32} {x2 : Int32} {M : Mem}  {res : Int32 × Mem} (h : f_X6_type x1 x2 M = some res) (hK : RK Y X (some (.int res.1)) res.2) : AW Y X 3 0 [(0, .ref (Y.2.2.2.1 49)), (1, .int x1), (2, .int x2)] [] M := by
  unfold f_X6_type at h
  refine a_iload_n C dX6_type_0 1 rfl ?_
  obtain ⟨r1, hcr1, h⟩ := bd_some h
  refine a_callSi C dX6_type_1 ls_X6_107 lm_X6_isTwo ⟨rfl, rfl, by decide, by decide⟩ (m_X6_isTwo C.2.2.2.2.2.2.1 hcr1) rfl rfl (Nat.le_of_ble_eq_true rfl) ?_
  refine a_if_eq (tgt := 19) C dX6_type_4 (by decide) (fun hc => ?_) (fun hc => ?_)
  · replace h := ip hc h
    refine a_bipush (v := -2) C dX6_type_19 (by decide) ?_
    replace h := Option.some.inj h
    subst h
    exact a_iret C dX6_type_21 hK
  · replace h := iq hc h
    refine a_iload_n C dX6_type_7 2 rfl ?_
    refine a_i2l C dX6_type_8 ?_
    refine a_lconst (v := 0) C dX6_type_9 (by decide) ?_
    refine a_ldc2 C dX6_type_10 co_X6_110 ?_
    obtain ⟨r2, hcr2, h⟩ := bd_some h
    refine a_callSi C dX6_type_13 ls_X6_79 lm_X6_in ⟨rfl, rfl, by decide, by decide⟩ (m_X6_in C.2.2.2.2.2.2.1 hcr2) rfl rfl (Nat.le_of_ble_eq_true rfl) ?_
    refine a_if_ne (tgt := 22) C dX6_type_16 (by decide) (fun hc => ?_) (fun hc => ?_)
    · replace h := iq hc h
      refine a_aload_n C dX6_type_22 0 rfl ?_
      refine a_getr (k1 := 55) C dX6_type_23 fl_X6_25 rfl Kc_49 rfl ?_
      refine a_iload_n C dX6_type_26 1 rfl ?_
      obtain ⟨hb, h⟩ := ck_some h
      refine a_iald C dX6_type_27 Kc_55 rfl hb ?_
      refine a_iload_n C dX6_type_28 1 rfl ?_
      refine a_if_ne (tgt := 37) C dX6_type_29 (by decide) (fun hc => ?_) (fun hc => ?_)
      · replace h := iq hc h
        refine a_bipush (v := 23) C dX6_type_37 (by decide) ?_
        exact a_sub [0, 1, 2] (t_X6_type_39 C h hK) rfl
      · replace h := ip hc h
        refine a_bipush (v := 55) C dX6_type_32 (by decide) ?_
        refine a_goto (tgt := 39) C dX6_type_34 (by decide) ?_
        exact a_sub [0, 1, 2] (t_X6_type_39 C h hK) rfl
    · replace h := ip hc h
      refine a_bipush (v := -2) C dX6_type_19 (by decide) ?_
      replace h := Option.some.inj h
      subst h
      exact a_iret C dX6_type_21 hK
theorem m_X6_type {Y : EY} (hY : HY Y) {x1 : Int32} {x2 : Int32} {M : Mem}  {r : Int32 × Mem} (h : f_X6_type x1 x2 M = some r) : MX Y yX6_type cX6_type 3 (some .int) rm_X6_type [.ref (Y.2.2.2.1 49), .int x1, .int x2] M (some (.int r.1)) r.2 := MX.of hY (by decide) (Nat.le_of_ble_eq_true rfl) (fun _ hR C => a_sub [0, 1, 2] (t_X6_type C  h hR) rfl)
abbrev rm_X6_wipe : Room := { frames := 2, cells := 0, slots := 0, locals := 45 }
noncomputable def f_X6_wipe (x1 : Int32) (M : Mem) : Option (Int32 × Mem) :=
  Option.bind (f_X6_isTwo x1) (fun r1 => (if r1 = 0 then some ((-2 : Int32), M) else ck (inb x1 2) (ck (inb x1 2) (some ((M 55 (x1).toNatClampNeg), (upM M 55 (x1).toNatClampNeg (0 : Int32)))))))
theorem t_X6_wipe {Y : EY} {X : CX} (C : CK Y X cX6_wipe RX6 3 (some .int) rm_X6_wipe) {x1 : Int32} {M : Mem}  {res : Int32 × Mem} (h : f_X6_wipe x1 M = some res) (hK : RK Y X (some (.int res.1)) res.2) : AW Y X 3 0 [(0, .ref (Y.2.2.2.1 49)), (1, .int x1)] [] M := by
  unfold f_X6_wipe at h
  refine a_iload_n C dX6_wipe_0 1 rfl ?_
  obtain ⟨r1, hcr1, h⟩ := bd_some h
  refine a_callSi C dX6_wipe_1 ls_X6_107 lm_X6_isTwo ⟨rfl, rfl, by decide, by decide⟩ (m_X6_isTwo C.2.2.2.2.2.2.1 hcr1) rfl rfl (Nat.le_of_ble_eq_true rfl) ?_
  refine a_if_ne (tgt := 10) C dX6_wipe_4 (by decide) (fun hc => ?_) (fun hc => ?_)
  · replace h := iq hc h
    refine a_aload_n C dX6_wipe_10 0 rfl ?_
    refine a_getr (k1 := 55) C dX6_wipe_11 fl_X6_25 rfl Kc_49 rfl ?_
    refine a_iload_n C dX6_wipe_14 1 rfl ?_
    obtain ⟨hb, h⟩ := ck_some h
    refine a_iald C dX6_wipe_15 Kc_55 rfl hb ?_
    refine a_istore_n (lv' := [(2, _), (0, _), (1, _)]) C dX6_wipe_16 rfl (by decide) rfl ?_
    refine a_aload_n C dX6_wipe_17 1 rfl ?_
    refine a_getr (k1 := 55) C dX6_wipe_18 fl_X6_25 rfl Kc_49 rfl ?_
    refine a_iload_n C dX6_wipe_21 2 rfl ?_
    refine a_iconst (v := 0) C dX6_wipe_22 (by decide) ?_
    obtain ⟨hb, h⟩ := ck_some h
    refine a_iast C dX6_wipe_23 Kc_55 rfl hb ?_
    refine a_iload_n C dX6_wipe_24 0 rfl ?_
    replace h := Option.some.inj h
    subst h
    exact a_iret C dX6_wipe_25 hK
  · replace h := ip hc h
    refine a_bipush (v := -2) C dX6_wipe_7 (by decide) ?_
    replace h := Option.some.inj h
    subst h
    exact a_iret C dX6_wipe_9 hK
theorem m_X6_wipe {Y : EY} (hY : HY Y) {x1 : Int32} {M : Mem}  {r : Int32 × Mem} (h : f_X6_wipe x1 M = some r) : MX Y yX6_wipe cX6_wipe 3 (some .int) rm_X6_wipe [.ref (Y.2.2.2.1 49), .int x1] M (some (.int r.1)) r.2 := MX.of hY (by decide) (Nat.le_of_ble_eq_true rfl) (fun _ hR C => a_sub [0, 1] (t_X6_wipe C  h hR) rfl)
abbrev rm_X6_undo : Room := { frames := 2, cells := 0, slots := 0, locals := 45 }
noncomputable def f_X6_undo (x1 : Int32) (M : Mem) : Option (Int32 × Mem) :=
  Option.bind (f_X6_isTwo x1) (fun r1 => (if r1 = 0 then some ((-2 : Int32), M) else ck (inb x1 2) ((if (M 55 (x1).toNatClampNeg) = 0 then some ((-3 : Int32), M) else ck (inb x1 2) (ck (inb x1 2) (ck (inb x1 2) (some (((upM M 55 (x1).toNatClampNeg ((M 55 (x1).toNatClampNeg) - (1 : Int32))) 55 (x1).toNatClampNeg), (upM M 55 (x1).toNatClampNeg ((M 55 (x1).toNatClampNeg) - (1 : Int32)))))))))))
theorem t_X6_undo {Y : EY} {X : CX} (C : CK Y X cX6_undo RX6 2 (some .int) rm_X6_undo) {x1 : Int32} {M : Mem}  {res : Int32 × Mem} (h : f_X6_undo x1 M = some res) (hK : RK Y X (some (.int res.1)) res.2) : AW Y X 2 0 [(0, .ref (Y.2.2.2.1 49)), (1, .int x1)] [] M := by
  unfold f_X6_undo at h
  refine a_iload_n C dX6_undo_0 1 rfl ?_
  obtain ⟨r1, hcr1, h⟩ := bd_some h
  refine a_callSi C dX6_undo_1 ls_X6_107 lm_X6_isTwo ⟨rfl, rfl, by decide, by decide⟩ (m_X6_isTwo C.2.2.2.2.2.2.1 hcr1) rfl rfl (Nat.le_of_ble_eq_true rfl) ?_
  refine a_if_ne (tgt := 10) C dX6_undo_4 (by decide) (fun hc => ?_) (fun hc => ?_)
  · replace h := iq hc h
    refine a_aload_n C dX6_undo_10 0 rfl ?_
    refine a_getr (k1 := 55) C dX6_undo_11 fl_X6_25 rfl Kc_49 rfl ?_
    refine a_iload_n C dX6_undo_14 1 rfl ?_
    obtain ⟨hb, h⟩ := ck_some h
    refine a_iald C dX6_undo_15 Kc_55 rfl hb ?_
    refine a_if_ne (tgt := 22) C dX6_undo_16 (by decide) (fun hc => ?_) (fun hc => ?_)
    · replace h := iq hc h
      refine a_aload_n C dX6_undo_22 0 rfl ?_
      refine a_getr (k1 := 55) C dX6_undo_23 fl_X6_25 rfl Kc_49 rfl ?_
      refine a_iload_n C dX6_undo_26 1 rfl ?_
      refine a_dup2 C dX6_undo_27 rfl rfl ?_
      obtain ⟨hb, h⟩ := ck_some h
      refine a_iald C dX6_undo_28 Kc_55 rfl hb ?_
      refine a_iconst (v := 1) C dX6_undo_29 (by decide) ?_
      refine a_isub C dX6_undo_30 ?_
      obtain ⟨hb, h⟩ := ck_some h
      refine a_iast C dX6_undo_31 Kc_55 rfl hb ?_
      refine a_aload_n C dX6_undo_32 0 rfl ?_
      refine a_getr (k1 := 55) C dX6_undo_33 fl_X6_25 rfl Kc_49 rfl ?_
      refine a_iload_n C dX6_undo_36 1 rfl ?_
      obtain ⟨hb, h⟩ := ck_some h
      refine a_iald C dX6_undo_37 Kc_55 rfl hb ?_
      replace h := Option.some.inj h
      subst h
      exact a_iret C dX6_undo_38 hK
    · replace h := ip hc h
      refine a_bipush (v := -3) C dX6_undo_19 (by decide) ?_
      replace h := Option.some.inj h
      subst h
      exact a_iret C dX6_undo_21 hK
  · replace h := ip hc h
    refine a_bipush (v := -2) C dX6_undo_7 (by decide) ?_
    replace h := Option.some.inj h
    subst h
    exact a_iret C dX6_undo_9 hK
theorem m_X6_undo {Y : EY} (hY : HY Y) {x1 : Int32} {M : Mem}  {r : Int32 × Mem} (h : f_X6_undo x1 M = some r) : MX Y yX6_undo cX6_undo 2 (some .int) rm_X6_undo [.ref (Y.2.2.2.1 49), .int x1] M (some (.int r.1)) r.2 := MX.of hY (by decide) (Nat.le_of_ble_eq_true rfl) (fun _ hR C => a_sub [0, 1] (t_X6_undo C  h hR) rfl)
abbrev rm_X6_accentOf : Room := { frames := 1, cells := 0, slots := 0, locals := 25 }
noncomputable def f_X6_accentOf (x0 : Int32) (x1 : Int32) : Option (Int32) :=
  (if x0 = 0 then (if x1 = (107 : Int32) then some (0 : Int32) else (if x1 = (121 : Int32) then some (1 : Int32) else (if x1 = (103 : Int32) then some (2 : Int32) else some (-9 : Int32)))) else (if (6 : Int32) ≤ x0 then (if x1 = (59 : Int32) then some (0 : Int32) else some (-9 : Int32)) else Option.bind (f_X6_in (x1).toInt64 (48 : Int64) (57 : Int64)) (fun r1 => (if r1 = 0 then some (-9 : Int32) else some (x1 - (48 : Int32))))))
theorem t_X6_accentOf {Y : EY} {X : CX} (C : CK Y X cX6_accentOf RX6 2 (some .int) rm_X6_accentOf) {x0 : Int32} {x1 : Int32} {M : Mem}  {res : Int32} (h : f_X6_accentOf x0 x1 = some res) (hK : RK Y X (some (.int res)) M) : AW Y X 2 0 [(0, .int x0), (1, .int x1)] [] M := by
  unfold f_X6_accentOf at h
  refine a_iload_n C dX6_accentOf_0 0 rfl ?_
  refine a_if_ne (tgt := 37) C dX6_accentOf_1 (by decide) (fun hc => ?_) (fun hc => ?_)
  · replace h := iq hc h
    refine a_iload_n C dX6_accentOf_37 0 rfl ?_
    refine a_bipush (v := 6) C dX6_accentOf_38 (by decide) ?_
    refine a_icmp_ge (tgt := 69) C dX6_accentOf_40 (by decide) (fun hc => ?_) (fun hc => ?_)
    · replace h := ip hc h
      refine a_iload_n C dX6_accentOf_69 1 rfl ?_
      refine a_bipush (v := 59) C dX6_accentOf_70 (by decide) ?_
      refine a_icmp_ne (tgt := 79) C dX6_accentOf_72 (by decide) (fun hc => ?_) (fun hc => ?_)
      · replace h := iq hc h
        refine a_bipush (v := -9) C dX6_accentOf_79 (by decide) ?_
        replace h := Option.some.inj h
        subst h
        exact a_iret C dX6_accentOf_81 hK
      · replace h := ip hc h
        refine a_iconst (v := 0) C dX6_accentOf_75 (by decide) ?_
        refine a_goto (tgt := 81) C dX6_accentOf_76 (by decide) ?_
        replace h := Option.some.inj h
        subst h
        exact a_iret C dX6_accentOf_81 hK
    · replace h := iq hc h
      refine a_iload_n C dX6_accentOf_43 1 rfl ?_
      refine a_i2l C dX6_accentOf_44 ?_
      refine a_ldc2 C dX6_accentOf_45 co_X6_112 ?_
      refine a_ldc2 C dX6_accentOf_48 co_X6_114 ?_
      obtain ⟨r1, hcr1, h⟩ := bd_some h
      refine a_callSi C dX6_accentOf_51 ls_X6_79 lm_X6_in ⟨rfl, rfl, by decide, by decide⟩ (m_X6_in C.2.2.2.2.2.2.1 hcr1) rfl rfl (Nat.le_of_ble_eq_true rfl) ?_
      refine a_if_eq (tgt := 64) C dX6_accentOf_54 (by decide) (fun hc => ?_) (fun hc => ?_)
      · replace h := ip hc h
        refine a_bipush (v := -9) C dX6_accentOf_64 (by decide) ?_
        refine a_goto (tgt := 81) C dX6_accentOf_66 (by decide) ?_
        replace h := Option.some.inj h
        subst h
        exact a_iret C dX6_accentOf_81 hK
      · replace h := iq hc h
        refine a_iload_n C dX6_accentOf_57 1 rfl ?_
        refine a_bipush (v := 48) C dX6_accentOf_58 (by decide) ?_
        refine a_isub C dX6_accentOf_60 ?_
        refine a_goto (tgt := 81) C dX6_accentOf_61 (by decide) ?_
        replace h := Option.some.inj h
        subst h
        exact a_iret C dX6_accentOf_81 hK
  · replace h := ip hc h
    refine a_iload_n C dX6_accentOf_4 1 rfl ?_
    refine a_bipush (v := 107) C dX6_accentOf_5 (by decide) ?_
    refine a_icmp_ne (tgt := 14) C dX6_accentOf_7 (by decide) (fun hc => ?_) (fun hc => ?_)
    · replace h := iq hc h
      refine a_iload_n C dX6_accentOf_14 1 rfl ?_
      refine a_bipush (v := 121) C dX6_accentOf_15 (by decide) ?_
      refine a_icmp_ne (tgt := 24) C dX6_accentOf_17 (by decide) (fun hc => ?_) (fun hc => ?_)
      · replace h := iq hc h
        refine a_iload_n C dX6_accentOf_24 1 rfl ?_
        refine a_bipush (v := 103) C dX6_accentOf_25 (by decide) ?_
        refine a_icmp_ne (tgt := 34) C dX6_accentOf_27 (by decide) (fun hc => ?_) (fun hc => ?_)
        · replace h := iq hc h
          refine a_bipush (v := -9) C dX6_accentOf_34 (by decide) ?_
          replace h := Option.some.inj h
          subst h
          exact a_iret C dX6_accentOf_36 hK
        · replace h := ip hc h
          refine a_iconst (v := 2) C dX6_accentOf_30 (by decide) ?_
          refine a_goto (tgt := 36) C dX6_accentOf_31 (by decide) ?_
          replace h := Option.some.inj h
          subst h
          exact a_iret C dX6_accentOf_36 hK
      · replace h := ip hc h
        refine a_iconst (v := 1) C dX6_accentOf_20 (by decide) ?_
        refine a_goto (tgt := 36) C dX6_accentOf_21 (by decide) ?_
        replace h := Option.some.inj h
        subst h
        exact a_iret C dX6_accentOf_36 hK
    · replace h := ip hc h
      refine a_iconst (v := 0) C dX6_accentOf_10 (by decide) ?_
      refine a_goto (tgt := 36) C dX6_accentOf_11 (by decide) ?_
      replace h := Option.some.inj h
      subst h
      exact a_iret C dX6_accentOf_36 hK
theorem m_X6_accentOf {Y : EY} (hY : HY Y) {x0 : Int32} {x1 : Int32} {M : Mem}  {r : Int32} (h : f_X6_accentOf x0 x1 = some r) : MX Y yX6_accentOf cX6_accentOf 2 (some .int) rm_X6_accentOf [.int x0, .int x1] M (some (.int r)) M := MX.of hY (by decide) (Nat.le_of_ble_eq_true rfl) (fun _ hR C => a_sub [0, 1] (t_X6_accentOf C  h hR) rfl)
abbrev rm_X6_readsAccents : Room := { frames := 2, cells := 0, slots := 0, locals := 46 }
abbrev At_X6_readsAccents_14 (Y : EY) (X : CX) (x1 : Int32) (s : Int32 × Mem) : Prop := AW Y X 5 14 [(0, .ref (Y.2.2.2.1 49)), (1, .int x1), (2, .int s.1)] [] s.2
abbrev Ex_X6_readsAccents_14 (Y : EY) (X : CX) (x1 : Int32) : ((Int32 × Mem) ⊕ (Int32 × Mem)) → Prop := KL (fun s : Int32 × Mem => AW Y X 5 97 [(0, .ref (Y.2.2.2.1 49)), (1, .int x1)] [] s.2) (fun res : Int32 × Mem => RK Y X (some (.int res.1)) res.2)
noncomputable def f_X6_readsAccents_87_14 (x1 : Int32) (x2 : Int32) (t1 : Int32) (t2 : Int32) (M : Mem) : Option ((Int32 × Mem) ⊕ ((Int32 × Mem) ⊕ (Int32 × Mem))) :=
  some (.inl ((x2 + (1 : Int32)), (upM M 49 7 (t1 + t2))))
theorem t_X6_readsAccents_87_14 {Y : EY} {X : CX} (C : CK Y X cX6_readsAccents RX6 5 (some .int) rm_X6_readsAccents) {x1 : Int32} {x2 : Int32} {t1 : Int32} {t2 : Int32} {M : Mem}  {res : (Int32 × Mem) ⊕ ((Int32 × Mem) ⊕ (Int32 × Mem))} (h : f_X6_readsAccents_87_14 x1 x2 t1 t2 M = some res) (hK : KL (At_X6_readsAccents_14 Y X x1) (Ex_X6_readsAccents_14 Y X x1) res) : AW Y X 5 87 [(0, .ref (Y.2.2.2.1 49)), (1, .int x1), (2, .int x2)] [.int t2, .int t1, .ref (Y.2.2.2.1 49)] M := by
  unfold f_X6_readsAccents_87_14 at h
  refine a_iadd C dX6_readsAccents_87 ?_
  refine a_put (ty := .int) C dX6_readsAccents_88 fl_X6_116 (fp_6_7) rfl Kc_49 rfl rfl ?_
  refine a_iinc (v := 1) (lv' := [(2, _), (0, _), (1, _)]) C dX6_readsAccents_91 2 rfl (by decide) (by decide) rfl ?_
  refine a_goto (tgt := 14) C dX6_readsAccents_94 (by decide) ?_
  replace h := Option.some.inj h
  subst h
  exact a_sub [1, 2, 0] (hK) rfl
noncomputable def f_X6_readsAccents_72_14 (x1 : Int32) (x2 : Int32) (x3 : Int32) (M : Mem) : Option ((Int32 × Mem) ⊕ ((Int32 × Mem) ⊕ (Int32 × Mem))) :=
  (if x3 = (5 : Int32) then f_X6_readsAccents_87_14 x1 x2 (M 49 7) (1 : Int32) M else f_X6_readsAccents_87_14 x1 x2 (M 49 7) (0 : Int32) M)
theorem t_X6_readsAccents_72_14 {Y : EY} {X : CX} (C : CK Y X cX6_readsAccents RX6 5 (some .int) rm_X6_readsAccents) {x1 : Int32} {x2 : Int32} {x3 : Int32} {M : Mem}  {res : (Int32 × Mem) ⊕ ((Int32 × Mem) ⊕ (Int32 × Mem))} (h : f_X6_readsAccents_72_14 x1 x2 x3 M = some res) (hK : KL (At_X6_readsAccents_14 Y X x1) (Ex_X6_readsAccents_14 Y X x1) res) : AW Y X 5 72 [(0, .ref (Y.2.2.2.1 49)), (1, .int x1), (2, .int x2), (3, .int x3)] [] M := by
  unfold f_X6_readsAccents_72_14 at h
  refine a_aload_n C dX6_readsAccents_72 0 rfl ?_
  refine a_dup C dX6_readsAccents_73 rfl ?_
  refine a_geti C dX6_readsAccents_74 fl_X6_116 rfl Kc_49 ?_
  refine a_iload_n C dX6_readsAccents_77 3 rfl ?_
  refine a_iconst (v := 5) C dX6_readsAccents_78 (by decide) ?_
  refine a_icmp_ne (tgt := 86) C dX6_readsAccents_79 (by decide) (fun hc => ?_) (fun hc => ?_)
  · replace h := iq hc h
    refine a_iconst (v := 0) C dX6_readsAccents_86 (by decide) ?_
    exact a_sub [0, 1, 2] (t_X6_readsAccents_87_14 C h hK) rfl
  · replace h := ip hc h
    refine a_iconst (v := 1) C dX6_readsAccents_82 (by decide) ?_
    refine a_goto (tgt := 87) C dX6_readsAccents_83 (by decide) ?_
    exact a_sub [0, 1, 2] (t_X6_readsAccents_87_14 C h hK) rfl
noncomputable def f_X6_readsAccents_14_14b (x1 : Int32) (x2 : Int32) (M : Mem) : Option ((Int32 × Mem) ⊕ ((Int32 × Mem) ⊕ (Int32 × Mem))) :=
  (if x1 ≤ x2 then some (.inr (.inl (x2, M))) else ck (inb x2 112) (Option.bind (f_X6_accentOf (remI x2 (7 : Int32)) (M 54 (x2).toNatClampNeg)) (fun r1 => (if r1 = (-9 : Int32) then some (.inr (.inr (x2, (upM M 49 7 (0 : Int32))))) else (if (6 : Int32) ≤ (remI x2 (7 : Int32)) then f_X6_readsAccents_72_14 x1 x2 (remI x2 (7 : Int32)) M else ck (inb (((6 : Int32) * (x2 / (7 : Int32))) + (remI x2 (7 : Int32))) 48) (f_X6_readsAccents_72_14 x1 x2 (remI x2 (7 : Int32)) (upM M 56 ((((6 : Int32) * (x2 / (7 : Int32))) + (remI x2 (7 : Int32)))).toNatClampNeg r1)))))))
theorem t_X6_readsAccents_14_14b {Y : EY} {X : CX} (C : CK Y X cX6_readsAccents RX6 5 (some .int) rm_X6_readsAccents) {x1 : Int32} {x2 : Int32} {M : Mem}  {res : (Int32 × Mem) ⊕ ((Int32 × Mem) ⊕ (Int32 × Mem))} (h : f_X6_readsAccents_14_14b x1 x2 M = some res) (hK : KL (At_X6_readsAccents_14 Y X x1) (Ex_X6_readsAccents_14 Y X x1) res) : AW Y X 5 14 [(0, .ref (Y.2.2.2.1 49)), (1, .int x1), (2, .int x2)] [] M := by
  unfold f_X6_readsAccents_14_14b at h
  refine a_iload_n C dX6_readsAccents_14 2 rfl ?_
  refine a_iload_n C dX6_readsAccents_15 1 rfl ?_
  refine a_icmp_ge (tgt := 97) C dX6_readsAccents_16 (by decide) (fun hc => ?_) (fun hc => ?_)
  · replace h := ip hc h
    replace h := Option.some.inj h
    subst h
    exact a_sub [0, 1] (hK) rfl
  · replace h := iq hc h
    refine a_iload_n C dX6_readsAccents_19 2 rfl ?_
    refine a_bipush (v := 7) C dX6_readsAccents_20 (by decide) ?_
    refine a_irem C dX6_readsAccents_22 (by decide) ?_
    refine a_istore_n (lv' := [(3, _), (0, _), (1, _), (2, _)]) C dX6_readsAccents_23 rfl (by decide) rfl ?_
    refine a_iload_n C dX6_readsAccents_24 0 rfl ?_
    refine a_aload_n C dX6_readsAccents_25 1 rfl ?_
    refine a_getr (k1 := 54) C dX6_readsAccents_26 fl_X6_22 rfl Kc_49 rfl ?_
    refine a_iload_n C dX6_readsAccents_29 3 rfl ?_
    obtain ⟨hb, h⟩ := ck_some h
    refine a_iald C dX6_readsAccents_30 Kc_54 rfl hb ?_
    obtain ⟨r1, hcr1, h⟩ := bd_some h
    refine a_callSi C dX6_readsAccents_31 ls_X6_119 lm_X6_accentOf ⟨rfl, rfl, by decide, by decide⟩ (m_X6_accentOf C.2.2.2.2.2.2.1 hcr1) rfl rfl (Nat.le_of_ble_eq_true rfl) ?_
    refine a_istore (lv' := [(4, _), (3, _), (0, _), (1, _), (2, _)]) C dX6_readsAccents_34 (by decide) rfl ?_
    refine a_iload C dX6_readsAccents_36 0 rfl ?_
    refine a_bipush (v := -9) C dX6_readsAccents_38 (by decide) ?_
    refine a_icmp_ne (tgt := 50) C dX6_readsAccents_40 (by decide) (fun hc => ?_) (fun hc => ?_)
    · replace h := iq hc h
      refine a_iload_n C dX6_readsAccents_50 1 rfl ?_
      refine a_bipush (v := 6) C dX6_readsAccents_51 (by decide) ?_
      refine a_icmp_ge (tgt := 72) C dX6_readsAccents_53 (by decide) (fun hc => ?_) (fun hc => ?_)
      · replace h := ip hc h
        exact a_sub [2, 3, 4, 1] (t_X6_readsAccents_72_14 C h hK) rfl
      · replace h := iq hc h
        refine a_aload_n C dX6_readsAccents_56 2 rfl ?_
        refine a_getr (k1 := 56) C dX6_readsAccents_57 fl_X6_28 rfl Kc_49 rfl ?_
        refine a_bipush (v := 6) C dX6_readsAccents_60 (by decide) ?_
        refine a_iload_n C dX6_readsAccents_62 4 rfl ?_
        refine a_bipush (v := 7) C dX6_readsAccents_63 (by decide) ?_
        refine a_idiv C dX6_readsAccents_65 (by decide) ?_
        refine a_imul C dX6_readsAccents_66 ?_
        refine a_iload_n C dX6_readsAccents_67 1 rfl ?_
        refine a_iadd C dX6_readsAccents_68 ?_
        refine a_iload C dX6_readsAccents_69 0 rfl ?_
        obtain ⟨hb, h⟩ := ck_some h
        refine a_iast C dX6_readsAccents_71 Kc_56 rfl hb ?_
        exact a_sub [2, 3, 4, 1] (t_X6_readsAccents_72_14 C h hK) rfl
    · replace h := ip hc h
      refine a_aload_n C dX6_readsAccents_43 2 rfl ?_
      refine a_iconst (v := 0) C dX6_readsAccents_44 (by decide) ?_
      refine a_put (ty := .int) C dX6_readsAccents_45 fl_X6_116 (fp_6_7) rfl Kc_49 rfl rfl ?_
      refine a_iload_n C dX6_readsAccents_48 4 rfl ?_
      replace h := Option.some.inj h
      subst h
      exact a_iret C dX6_readsAccents_49 hK
noncomputable def f_X6_readsAccents  (M : Mem) : Option (Int32 × Mem) :=
  ck (inb (0 : Int32) 2) (Option.bind (loop (fun s2 : Int32 × Mem => f_X6_readsAccents_14_14b ((upM M 49 7 (0 : Int32)) 55 ((0 : Int32)).toNatClampNeg) s2.1 s2.2) ((0 : Int32), (upM M 49 7 (0 : Int32)))) (eo (fun s3 => (if ((upM M 49 7 (0 : Int32)) 55 ((0 : Int32)).toNatClampNeg) ≤ 0 then some ((-1 : Int32), s3.2) else (if (remI ((upM M 49 7 (0 : Int32)) 55 ((0 : Int32)).toNatClampNeg) (7 : Int32)) = (6 : Int32) then some ((-1 : Int32), s3.2) else some (((upM M 49 7 (0 : Int32)) 55 ((0 : Int32)).toNatClampNeg), (upM s3.2 49 7 (0 : Int32)))))) (fun r4 => some r4)))
theorem t_X6_readsAccents {Y : EY} {X : CX} (C : CK Y X cX6_readsAccents RX6 5 (some .int) rm_X6_readsAccents)  {M : Mem}  {res : Int32 × Mem} (h : f_X6_readsAccents M = some res) (hK : RK Y X (some (.int res.1)) res.2) : AW Y X 5 0 [(0, .ref (Y.2.2.2.1 49))] [] M := by
  unfold f_X6_readsAccents at h
  refine a_aload_n C dX6_readsAccents_0 0 rfl ?_
  refine a_iconst (v := 0) C dX6_readsAccents_1 (by decide) ?_
  refine a_put (ty := .int) C dX6_readsAccents_2 fl_X6_116 (fp_6_7) rfl Kc_49 rfl rfl ?_
  refine a_aload_n C dX6_readsAccents_5 0 rfl ?_
  refine a_getr (k1 := 55) C dX6_readsAccents_6 fl_X6_25 rfl Kc_49 rfl ?_
  refine a_iconst (v := 0) C dX6_readsAccents_9 (by decide) ?_
  obtain ⟨hb, h⟩ := ck_some h
  refine a_iald C dX6_readsAccents_10 Kc_55 rfl hb ?_
  refine a_istore_n (lv' := [(1, _), (0, _)]) C dX6_readsAccents_11 rfl (by decide) rfl ?_
  refine a_iconst (v := 0) C dX6_readsAccents_12 (by decide) ?_
  refine a_istore_n (lv' := [(2, _), (1, _), (0, _)]) C dX6_readsAccents_13 rfl (by decide) rfl ?_
  obtain ⟨ee, hl, h⟩ := bd_some h
  have hE : Ex_X6_readsAccents_14 Y X ((upM M 49 7 (0 : Int32)) 55 ((0 : Int32)).toNatClampNeg) ee := by
    cases ee with
    | inl s3 =>
      refine a_iload_n C dX6_readsAccents_97 1 rfl ?_
      refine a_if_le (tgt := 117) C dX6_readsAccents_98 (by decide) (fun hc => ?_) (fun hc => ?_)
      · replace h := ip hc h
        refine a_iconst (v := -1) C dX6_readsAccents_117 (by decide) ?_
        replace h := Option.some.inj h
        subst h
        exact a_iret C dX6_readsAccents_118 hK
      · replace h := iq hc h
        refine a_iload_n C dX6_readsAccents_101 1 rfl ?_
        refine a_bipush (v := 7) C dX6_readsAccents_102 (by decide) ?_
        refine a_irem C dX6_readsAccents_104 (by decide) ?_
        refine a_bipush (v := 6) C dX6_readsAccents_105 (by decide) ?_
        refine a_icmp_eq (tgt := 117) C dX6_readsAccents_107 (by decide) (fun hc => ?_) (fun hc => ?_)
        · replace h := ip hc h
          refine a_iconst (v := -1) C dX6_readsAccents_117 (by decide) ?_
          replace h := Option.some.inj h
          subst h
          exact a_iret C dX6_readsAccents_118 hK
        · replace h := iq hc h
          refine a_aload_n C dX6_readsAccents_110 0 rfl ?_
          refine a_iconst (v := 0) C dX6_readsAccents_111 (by decide) ?_
          refine a_put (ty := .int) C dX6_readsAccents_112 fl_X6_116 (fp_6_7) rfl Kc_49 rfl rfl ?_
          refine a_iload_n C dX6_readsAccents_115 1 rfl ?_
          replace h := Option.some.inj h
          subst h
          exact a_iret C dX6_readsAccents_116 hK
    | inr r4 =>
      replace h := Option.some.inj h
      subst h
      exact hK
  have hA := aw_loop (At_X6_readsAccents_14 Y X ((upM M 49 7 (0 : Int32)) 55 ((0 : Int32)).toNatClampNeg)) (Ex_X6_readsAccents_14 Y X ((upM M 49 7 (0 : Int32)) 55 ((0 : Int32)).toNatClampNeg)) (fun _ _ hb hk => t_X6_readsAccents_14_14b C hb hk) hl hE
  exact a_sub [2, 1, 0] (hA) rfl
theorem m_X6_readsAccents {Y : EY} (hY : HY Y)  {M : Mem}  {r : Int32 × Mem} (h : f_X6_readsAccents M = some r) : MX Y yX6_readsAccents cX6_readsAccents 5 (some .int) rm_X6_readsAccents [.ref (Y.2.2.2.1 49)] M (some (.int r.1)) r.2 := MX.of hY (by decide) (Nat.le_of_ble_eq_true rfl) (fun _ hR C => a_sub [0] (t_X6_readsAccents C  h hR) rfl)
abbrev rm_X6_personOf : Room := { frames := 1, cells := 0, slots := 0, locals := 25 }
noncomputable def f_X6_personOf (x0 : Int32) (x1 : Int32) : Option (Int32) :=
  (if x0 = 0 then (if x1 = (112 : Int32) then some (0 : Int32) else (if x1 = (99 : Int32) then some (1 : Int32) else (if x1 = (108 : Int32) then some (2 : Int32) else some (-9 : Int32)))) else (if x0 = (1 : Int32) then Option.bind (f_X6_in (x1).toInt64 (48 : Int64) (55 : Int64)) (fun r1 => (if r1 = 0 then some (-9 : Int32) else some (x1 - (48 : Int32)))) else (if x1 = (59 : Int32) then some (0 : Int32) else some (-9 : Int32))))
theorem t_X6_personOf {Y : EY} {X : CX} (C : CK Y X cX6_personOf RX6 2 (some .int) rm_X6_personOf) {x0 : Int32} {x1 : Int32} {M : Mem}  {res : Int32} (h : f_X6_personOf x0 x1 = some res) (hK : RK Y X (some (.int res)) M) : AW Y X 2 0 [(0, .int x0), (1, .int x1)] [] M := by
  unfold f_X6_personOf at h
  refine a_iload_n C dX6_personOf_0 0 rfl ?_
  refine a_if_ne (tgt := 37) C dX6_personOf_1 (by decide) (fun hc => ?_) (fun hc => ?_)
  · replace h := iq hc h
    refine a_iload_n C dX6_personOf_37 0 rfl ?_
    refine a_iconst (v := 1) C dX6_personOf_38 (by decide) ?_
    refine a_icmp_ne (tgt := 68) C dX6_personOf_39 (by decide) (fun hc => ?_) (fun hc => ?_)
    · replace h := iq hc h
      refine a_iload_n C dX6_personOf_68 1 rfl ?_
      refine a_bipush (v := 59) C dX6_personOf_69 (by decide) ?_
      refine a_icmp_ne (tgt := 78) C dX6_personOf_71 (by decide) (fun hc => ?_) (fun hc => ?_)
      · replace h := iq hc h
        refine a_bipush (v := -9) C dX6_personOf_78 (by decide) ?_
        replace h := Option.some.inj h
        subst h
        exact a_iret C dX6_personOf_80 hK
      · replace h := ip hc h
        refine a_iconst (v := 0) C dX6_personOf_74 (by decide) ?_
        refine a_goto (tgt := 80) C dX6_personOf_75 (by decide) ?_
        replace h := Option.some.inj h
        subst h
        exact a_iret C dX6_personOf_80 hK
    · replace h := ip hc h
      refine a_iload_n C dX6_personOf_42 1 rfl ?_
      refine a_i2l C dX6_personOf_43 ?_
      refine a_ldc2 C dX6_personOf_44 co_X6_112 ?_
      refine a_ldc2 C dX6_personOf_47 co_X6_122 ?_
      obtain ⟨r1, hcr1, h⟩ := bd_some h
      refine a_callSi C dX6_personOf_50 ls_X6_79 lm_X6_in ⟨rfl, rfl, by decide, by decide⟩ (m_X6_in C.2.2.2.2.2.2.1 hcr1) rfl rfl (Nat.le_of_ble_eq_true rfl) ?_
      refine a_if_eq (tgt := 63) C dX6_personOf_53 (by decide) (fun hc => ?_) (fun hc => ?_)
      · replace h := ip hc h
        refine a_bipush (v := -9) C dX6_personOf_63 (by decide) ?_
        refine a_goto (tgt := 80) C dX6_personOf_65 (by decide) ?_
        replace h := Option.some.inj h
        subst h
        exact a_iret C dX6_personOf_80 hK
      · replace h := iq hc h
        refine a_iload_n C dX6_personOf_56 1 rfl ?_
        refine a_bipush (v := 48) C dX6_personOf_57 (by decide) ?_
        refine a_isub C dX6_personOf_59 ?_
        refine a_goto (tgt := 80) C dX6_personOf_60 (by decide) ?_
        replace h := Option.some.inj h
        subst h
        exact a_iret C dX6_personOf_80 hK
  · replace h := ip hc h
    refine a_iload_n C dX6_personOf_4 1 rfl ?_
    refine a_bipush (v := 112) C dX6_personOf_5 (by decide) ?_
    refine a_icmp_ne (tgt := 14) C dX6_personOf_7 (by decide) (fun hc => ?_) (fun hc => ?_)
    · replace h := iq hc h
      refine a_iload_n C dX6_personOf_14 1 rfl ?_
      refine a_bipush (v := 99) C dX6_personOf_15 (by decide) ?_
      refine a_icmp_ne (tgt := 24) C dX6_personOf_17 (by decide) (fun hc => ?_) (fun hc => ?_)
      · replace h := iq hc h
        refine a_iload_n C dX6_personOf_24 1 rfl ?_
        refine a_bipush (v := 108) C dX6_personOf_25 (by decide) ?_
        refine a_icmp_ne (tgt := 34) C dX6_personOf_27 (by decide) (fun hc => ?_) (fun hc => ?_)
        · replace h := iq hc h
          refine a_bipush (v := -9) C dX6_personOf_34 (by decide) ?_
          replace h := Option.some.inj h
          subst h
          exact a_iret C dX6_personOf_36 hK
        · replace h := ip hc h
          refine a_iconst (v := 2) C dX6_personOf_30 (by decide) ?_
          refine a_goto (tgt := 36) C dX6_personOf_31 (by decide) ?_
          replace h := Option.some.inj h
          subst h
          exact a_iret C dX6_personOf_36 hK
      · replace h := ip hc h
        refine a_iconst (v := 1) C dX6_personOf_20 (by decide) ?_
        refine a_goto (tgt := 36) C dX6_personOf_21 (by decide) ?_
        replace h := Option.some.inj h
        subst h
        exact a_iret C dX6_personOf_36 hK
    · replace h := ip hc h
      refine a_iconst (v := 0) C dX6_personOf_10 (by decide) ?_
      refine a_goto (tgt := 36) C dX6_personOf_11 (by decide) ?_
      replace h := Option.some.inj h
      subst h
      exact a_iret C dX6_personOf_36 hK
theorem m_X6_personOf {Y : EY} (hY : HY Y) {x0 : Int32} {x1 : Int32} {M : Mem}  {r : Int32} (h : f_X6_personOf x0 x1 = some r) : MX Y yX6_personOf cX6_personOf 2 (some .int) rm_X6_personOf [.int x0, .int x1] M (some (.int r)) M := MX.of hY (by decide) (Nat.le_of_ble_eq_true rfl) (fun _ hR C => a_sub [0, 1] (t_X6_personOf C  h hR) rfl)
abbrev rm_X6_readsPeople : Room := { frames := 2, cells := 0, slots := 0, locals := 46 }
abbrev At_X6_readsPeople_14 (Y : EY) (X : CX) (x1 : Int32) (s : Int32 × Mem) : Prop := AW Y X 5 14 [(0, .ref (Y.2.2.2.1 49)), (1, .int x1), (2, .int s.1)] [] s.2
abbrev Ex_X6_readsPeople_14 (Y : EY) (X : CX) (x1 : Int32) : ((Int32 × Mem) ⊕ (Int32 × Mem)) → Prop := KL (fun s : Int32 × Mem => AW Y X 5 96 [(0, .ref (Y.2.2.2.1 49)), (1, .int x1)] [] s.2) (fun res : Int32 × Mem => RK Y X (some (.int res.1)) res.2)
noncomputable def f_X6_readsPeople_86_14 (x1 : Int32) (x2 : Int32) (t1 : Int32) (t2 : Int32) (M : Mem) : Option ((Int32 × Mem) ⊕ ((Int32 × Mem) ⊕ (Int32 × Mem))) :=
  some (.inl ((x2 + (1 : Int32)), (upM M 49 9 (t1 + t2))))
theorem t_X6_readsPeople_86_14 {Y : EY} {X : CX} (C : CK Y X cX6_readsPeople RX6 5 (some .int) rm_X6_readsPeople) {x1 : Int32} {x2 : Int32} {t1 : Int32} {t2 : Int32} {M : Mem}  {res : (Int32 × Mem) ⊕ ((Int32 × Mem) ⊕ (Int32 × Mem))} (h : f_X6_readsPeople_86_14 x1 x2 t1 t2 M = some res) (hK : KL (At_X6_readsPeople_14 Y X x1) (Ex_X6_readsPeople_14 Y X x1) res) : AW Y X 5 86 [(0, .ref (Y.2.2.2.1 49)), (1, .int x1), (2, .int x2)] [.int t2, .int t1, .ref (Y.2.2.2.1 49)] M := by
  unfold f_X6_readsPeople_86_14 at h
  refine a_iadd C dX6_readsPeople_86 ?_
  refine a_put (ty := .int) C dX6_readsPeople_87 fl_X6_124 (fp_6_9) rfl Kc_49 rfl rfl ?_
  refine a_iinc (v := 1) (lv' := [(2, _), (0, _), (1, _)]) C dX6_readsPeople_90 2 rfl (by decide) (by decide) rfl ?_
  refine a_goto (tgt := 14) C dX6_readsPeople_93 (by decide) ?_
  replace h := Option.some.inj h
  subst h
  exact a_sub [1, 2, 0] (hK) rfl
noncomputable def f_X6_readsPeople_71_14 (x1 : Int32) (x2 : Int32) (x3 : Int32) (M : Mem) : Option ((Int32 × Mem) ⊕ ((Int32 × Mem) ⊕ (Int32 × Mem))) :=
  (if x3 = (1 : Int32) then f_X6_readsPeople_86_14 x1 x2 (M 49 9) (1 : Int32) M else f_X6_readsPeople_86_14 x1 x2 (M 49 9) (0 : Int32) M)
theorem t_X6_readsPeople_71_14 {Y : EY} {X : CX} (C : CK Y X cX6_readsPeople RX6 5 (some .int) rm_X6_readsPeople) {x1 : Int32} {x2 : Int32} {x3 : Int32} {M : Mem}  {res : (Int32 × Mem) ⊕ ((Int32 × Mem) ⊕ (Int32 × Mem))} (h : f_X6_readsPeople_71_14 x1 x2 x3 M = some res) (hK : KL (At_X6_readsPeople_14 Y X x1) (Ex_X6_readsPeople_14 Y X x1) res) : AW Y X 5 71 [(0, .ref (Y.2.2.2.1 49)), (1, .int x1), (2, .int x2), (3, .int x3)] [] M := by
  unfold f_X6_readsPeople_71_14 at h
  refine a_aload_n C dX6_readsPeople_71 0 rfl ?_
  refine a_dup C dX6_readsPeople_72 rfl ?_
  refine a_geti C dX6_readsPeople_73 fl_X6_124 rfl Kc_49 ?_
  refine a_iload_n C dX6_readsPeople_76 3 rfl ?_
  refine a_iconst (v := 1) C dX6_readsPeople_77 (by decide) ?_
  refine a_icmp_ne (tgt := 85) C dX6_readsPeople_78 (by decide) (fun hc => ?_) (fun hc => ?_)
  · replace h := iq hc h
    refine a_iconst (v := 0) C dX6_readsPeople_85 (by decide) ?_
    exact a_sub [0, 1, 2] (t_X6_readsPeople_86_14 C h hK) rfl
  · replace h := ip hc h
    refine a_iconst (v := 1) C dX6_readsPeople_81 (by decide) ?_
    refine a_goto (tgt := 86) C dX6_readsPeople_82 (by decide) ?_
    exact a_sub [0, 1, 2] (t_X6_readsPeople_86_14 C h hK) rfl
noncomputable def f_X6_readsPeople_14_14b (x1 : Int32) (x2 : Int32) (M : Mem) : Option ((Int32 × Mem) ⊕ ((Int32 × Mem) ⊕ (Int32 × Mem))) :=
  (if x1 ≤ x2 then some (.inr (.inl (x2, M))) else ck (inb ((56 : Int32) + x2) 112) (Option.bind (f_X6_personOf (remI x2 (3 : Int32)) (M 54 (((56 : Int32) + x2)).toNatClampNeg)) (fun r1 => (if r1 = (-9 : Int32) then some (.inr (.inr (x2, (upM M 49 9 (0 : Int32))))) else (if (2 : Int32) ≤ (remI x2 (3 : Int32)) then f_X6_readsPeople_71_14 x1 x2 (remI x2 (3 : Int32)) M else ck (inb (((2 : Int32) * (x2 / (3 : Int32))) + (remI x2 (3 : Int32))) 16) (f_X6_readsPeople_71_14 x1 x2 (remI x2 (3 : Int32)) (upM M 57 ((((2 : Int32) * (x2 / (3 : Int32))) + (remI x2 (3 : Int32)))).toNatClampNeg r1)))))))
theorem t_X6_readsPeople_14_14b {Y : EY} {X : CX} (C : CK Y X cX6_readsPeople RX6 5 (some .int) rm_X6_readsPeople) {x1 : Int32} {x2 : Int32} {M : Mem}  {res : (Int32 × Mem) ⊕ ((Int32 × Mem) ⊕ (Int32 × Mem))} (h : f_X6_readsPeople_14_14b x1 x2 M = some res) (hK : KL (At_X6_readsPeople_14 Y X x1) (Ex_X6_readsPeople_14 Y X x1) res) : AW Y X 5 14 [(0, .ref (Y.2.2.2.1 49)), (1, .int x1), (2, .int x2)] [] M := by
  unfold f_X6_readsPeople_14_14b at h
  refine a_iload_n C dX6_readsPeople_14 2 rfl ?_
  refine a_iload_n C dX6_readsPeople_15 1 rfl ?_
  refine a_icmp_ge (tgt := 96) C dX6_readsPeople_16 (by decide) (fun hc => ?_) (fun hc => ?_)
  · replace h := ip hc h
    replace h := Option.some.inj h
    subst h
    exact a_sub [0, 1] (hK) rfl
  · replace h := iq hc h
    refine a_iload_n C dX6_readsPeople_19 2 rfl ?_
    refine a_iconst (v := 3) C dX6_readsPeople_20 (by decide) ?_
    refine a_irem C dX6_readsPeople_21 (by decide) ?_
    refine a_istore_n (lv' := [(3, _), (0, _), (1, _), (2, _)]) C dX6_readsPeople_22 rfl (by decide) rfl ?_
    refine a_iload_n C dX6_readsPeople_23 0 rfl ?_
    refine a_aload_n C dX6_readsPeople_24 1 rfl ?_
    refine a_getr (k1 := 54) C dX6_readsPeople_25 fl_X6_22 rfl Kc_49 rfl ?_
    refine a_bipush (v := 56) C dX6_readsPeople_28 (by decide) ?_
    refine a_iload_n C dX6_readsPeople_30 3 rfl ?_
    refine a_iadd C dX6_readsPeople_31 ?_
    obtain ⟨hb, h⟩ := ck_some h
    refine a_iald C dX6_readsPeople_32 Kc_54 rfl hb ?_
    obtain ⟨r1, hcr1, h⟩ := bd_some h
    refine a_callSi C dX6_readsPeople_33 ls_X6_127 lm_X6_personOf ⟨rfl, rfl, by decide, by decide⟩ (m_X6_personOf C.2.2.2.2.2.2.1 hcr1) rfl rfl (Nat.le_of_ble_eq_true rfl) ?_
    refine a_istore (lv' := [(4, _), (3, _), (0, _), (1, _), (2, _)]) C dX6_readsPeople_36 (by decide) rfl ?_
    refine a_iload C dX6_readsPeople_38 0 rfl ?_
    refine a_bipush (v := -9) C dX6_readsPeople_40 (by decide) ?_
    refine a_icmp_ne (tgt := 52) C dX6_readsPeople_42 (by decide) (fun hc => ?_) (fun hc => ?_)
    · replace h := iq hc h
      refine a_iload_n C dX6_readsPeople_52 1 rfl ?_
      refine a_iconst (v := 2) C dX6_readsPeople_53 (by decide) ?_
      refine a_icmp_ge (tgt := 71) C dX6_readsPeople_54 (by decide) (fun hc => ?_) (fun hc => ?_)
      · replace h := ip hc h
        exact a_sub [2, 3, 4, 1] (t_X6_readsPeople_71_14 C h hK) rfl
      · replace h := iq hc h
        refine a_aload_n C dX6_readsPeople_57 2 rfl ?_
        refine a_getr (k1 := 57) C dX6_readsPeople_58 fl_X6_31 rfl Kc_49 rfl ?_
        refine a_iconst (v := 2) C dX6_readsPeople_61 (by decide) ?_
        refine a_iload_n C dX6_readsPeople_62 4 rfl ?_
        refine a_iconst (v := 3) C dX6_readsPeople_63 (by decide) ?_
        refine a_idiv C dX6_readsPeople_64 (by decide) ?_
        refine a_imul C dX6_readsPeople_65 ?_
        refine a_iload_n C dX6_readsPeople_66 1 rfl ?_
        refine a_iadd C dX6_readsPeople_67 ?_
        refine a_iload C dX6_readsPeople_68 0 rfl ?_
        obtain ⟨hb, h⟩ := ck_some h
        refine a_iast C dX6_readsPeople_70 Kc_57 rfl hb ?_
        exact a_sub [2, 3, 4, 1] (t_X6_readsPeople_71_14 C h hK) rfl
    · replace h := ip hc h
      refine a_aload_n C dX6_readsPeople_45 2 rfl ?_
      refine a_iconst (v := 0) C dX6_readsPeople_46 (by decide) ?_
      refine a_put (ty := .int) C dX6_readsPeople_47 fl_X6_124 (fp_6_9) rfl Kc_49 rfl rfl ?_
      refine a_iload_n C dX6_readsPeople_50 4 rfl ?_
      replace h := Option.some.inj h
      subst h
      exact a_iret C dX6_readsPeople_51 hK
noncomputable def f_X6_readsPeople  (M : Mem) : Option (Int32 × Mem) :=
  ck (inb (1 : Int32) 2) (Option.bind (loop (fun s2 : Int32 × Mem => f_X6_readsPeople_14_14b ((upM M 49 9 (0 : Int32)) 55 ((1 : Int32)).toNatClampNeg) s2.1 s2.2) ((0 : Int32), (upM M 49 9 (0 : Int32)))) (eo (fun s3 => (if ((upM M 49 9 (0 : Int32)) 55 ((1 : Int32)).toNatClampNeg) ≤ 0 then some ((-1 : Int32), s3.2) else (if (remI ((upM M 49 9 (0 : Int32)) 55 ((1 : Int32)).toNatClampNeg) (3 : Int32)) = (2 : Int32) then some ((-1 : Int32), s3.2) else some (((upM M 49 9 (0 : Int32)) 55 ((1 : Int32)).toNatClampNeg), (upM s3.2 49 9 (0 : Int32)))))) (fun r4 => some r4)))
theorem t_X6_readsPeople {Y : EY} {X : CX} (C : CK Y X cX6_readsPeople RX6 5 (some .int) rm_X6_readsPeople)  {M : Mem}  {res : Int32 × Mem} (h : f_X6_readsPeople M = some res) (hK : RK Y X (some (.int res.1)) res.2) : AW Y X 5 0 [(0, .ref (Y.2.2.2.1 49))] [] M := by
  unfold f_X6_readsPeople at h
  refine a_aload_n C dX6_readsPeople_0 0 rfl ?_
  refine a_iconst (v := 0) C dX6_readsPeople_1 (by decide) ?_
  refine a_put (ty := .int) C dX6_readsPeople_2 fl_X6_124 (fp_6_9) rfl Kc_49 rfl rfl ?_
  refine a_aload_n C dX6_readsPeople_5 0 rfl ?_
  refine a_getr (k1 := 55) C dX6_readsPeople_6 fl_X6_25 rfl Kc_49 rfl ?_
  refine a_iconst (v := 1) C dX6_readsPeople_9 (by decide) ?_
  obtain ⟨hb, h⟩ := ck_some h
  refine a_iald C dX6_readsPeople_10 Kc_55 rfl hb ?_
  refine a_istore_n (lv' := [(1, _), (0, _)]) C dX6_readsPeople_11 rfl (by decide) rfl ?_
  refine a_iconst (v := 0) C dX6_readsPeople_12 (by decide) ?_
  refine a_istore_n (lv' := [(2, _), (1, _), (0, _)]) C dX6_readsPeople_13 rfl (by decide) rfl ?_
  obtain ⟨ee, hl, h⟩ := bd_some h
  have hE : Ex_X6_readsPeople_14 Y X ((upM M 49 9 (0 : Int32)) 55 ((1 : Int32)).toNatClampNeg) ee := by
    cases ee with
    | inl s3 =>
      refine a_iload_n C dX6_readsPeople_96 1 rfl ?_
      refine a_if_le (tgt := 114) C dX6_readsPeople_97 (by decide) (fun hc => ?_) (fun hc => ?_)
      · replace h := ip hc h
        refine a_iconst (v := -1) C dX6_readsPeople_114 (by decide) ?_
        replace h := Option.some.inj h
        subst h
        exact a_iret C dX6_readsPeople_115 hK
      · replace h := iq hc h
        refine a_iload_n C dX6_readsPeople_100 1 rfl ?_
        refine a_iconst (v := 3) C dX6_readsPeople_101 (by decide) ?_
        refine a_irem C dX6_readsPeople_102 (by decide) ?_
        refine a_iconst (v := 2) C dX6_readsPeople_103 (by decide) ?_
        refine a_icmp_eq (tgt := 114) C dX6_readsPeople_104 (by decide) (fun hc => ?_) (fun hc => ?_)
        · replace h := ip hc h
          refine a_iconst (v := -1) C dX6_readsPeople_114 (by decide) ?_
          replace h := Option.some.inj h
          subst h
          exact a_iret C dX6_readsPeople_115 hK
        · replace h := iq hc h
          refine a_aload_n C dX6_readsPeople_107 0 rfl ?_
          refine a_iconst (v := 0) C dX6_readsPeople_108 (by decide) ?_
          refine a_put (ty := .int) C dX6_readsPeople_109 fl_X6_124 (fp_6_9) rfl Kc_49 rfl rfl ?_
          refine a_iload_n C dX6_readsPeople_112 1 rfl ?_
          replace h := Option.some.inj h
          subst h
          exact a_iret C dX6_readsPeople_113 hK
    | inr r4 =>
      replace h := Option.some.inj h
      subst h
      exact hK
  have hA := aw_loop (At_X6_readsPeople_14 Y X ((upM M 49 9 (0 : Int32)) 55 ((1 : Int32)).toNatClampNeg)) (Ex_X6_readsPeople_14 Y X ((upM M 49 9 (0 : Int32)) 55 ((1 : Int32)).toNatClampNeg)) (fun _ _ hb hk => t_X6_readsPeople_14_14b C hb hk) hl hE
  exact a_sub [2, 1, 0] (hA) rfl
theorem m_X6_readsPeople {Y : EY} (hY : HY Y)  {M : Mem}  {r : Int32 × Mem} (h : f_X6_readsPeople M = some r) : MX Y yX6_readsPeople cX6_readsPeople 5 (some .int) rm_X6_readsPeople [.ref (Y.2.2.2.1 49)] M (some (.int r.1)) r.2 := MX.of hY (by decide) (Nat.le_of_ble_eq_true rfl) (fun _ hR C => a_sub [0] (t_X6_readsPeople C  h hR) rfl)
abbrev rm_X6_readsText : Room := { frames := 3, cells := 0, slots := 0, locals := 70 }
noncomputable def f_X6_readsText (x1 : Int32) (M : Mem) : Option (Int32 × Mem) :=
  (if x1 = 0 then Option.bind (f_X6_readsAccents M) (fun r2 => some (r2.1, r2.2)) else Option.bind (f_X6_readsPeople M) (fun r1 => some (r1.1, r1.2)))
theorem t_X6_readsText {Y : EY} {X : CX} (C : CK Y X cX6_readsText RX6 2 (some .int) rm_X6_readsText) {x1 : Int32} {M : Mem}  {res : Int32 × Mem} (h : f_X6_readsText x1 M = some res) (hK : RK Y X (some (.int res.1)) res.2) : AW Y X 2 0 [(0, .ref (Y.2.2.2.1 49)), (1, .int x1)] [] M := by
  unfold f_X6_readsText at h
  refine a_iload_n C dX6_readsText_0 1 rfl ?_
  refine a_if_ne (tgt := 11) C dX6_readsText_1 (by decide) (fun hc => ?_) (fun hc => ?_)
  · replace h := iq hc h
    refine a_aload_n C dX6_readsText_11 0 rfl ?_
    obtain ⟨r1, hcr1, h⟩ := bd_some h
    refine a_callVi C dX6_readsText_12 lv_X6_134 lm_X6_readsPeople ⟨rfl, rfl, by decide, by decide⟩ Kc_49 (m_X6_readsPeople C.2.2.2.2.2.2.1 hcr1) rfl rfl (Nat.le_of_ble_eq_true rfl) ?_
    replace h := Option.some.inj h
    subst h
    exact a_iret C dX6_readsText_15 hK
  · replace h := ip hc h
    refine a_aload_n C dX6_readsText_4 0 rfl ?_
    obtain ⟨r2, hcr2, h⟩ := bd_some h
    refine a_callVi C dX6_readsText_5 lv_X6_130 lm_X6_readsAccents ⟨rfl, rfl, by decide, by decide⟩ Kc_49 (m_X6_readsAccents C.2.2.2.2.2.2.1 hcr2) rfl rfl (Nat.le_of_ble_eq_true rfl) ?_
    refine a_goto (tgt := 15) C dX6_readsText_8 (by decide) ?_
    replace h := Option.some.inj h
    subst h
    exact a_iret C dX6_readsText_15 hK
theorem m_X6_readsText {Y : EY} (hY : HY Y) {x1 : Int32} {M : Mem}  {r : Int32 × Mem} (h : f_X6_readsText x1 M = some r) : MX Y yX6_readsText cX6_readsText 2 (some .int) rm_X6_readsText [.ref (Y.2.2.2.1 49), .int x1] M (some (.int r.1)) r.2 := MX.of hY (by decide) (Nat.le_of_ble_eq_true rfl) (fun _ hR C => a_sub [0, 1] (t_X6_readsText C  h hR) rfl)
abbrev rm_X6_fault : Room := { frames := 4, cells := 0, slots := 0, locals := 91 }
noncomputable def f_X6_fault (x1 : Int32) (M : Mem) : Option (Int32 × Mem) :=
  Option.bind (f_X6_isTwo x1) (fun r1 => (if r1 = 0 then some ((-2 : Int32), M) else Option.bind (f_X6_readsText x1 M) (fun r2 => some (r2.1, r2.2))))
theorem t_X6_fault {Y : EY} {X : CX} (C : CK Y X cX6_fault RX6 2 (some .int) rm_X6_fault) {x1 : Int32} {M : Mem}  {res : Int32 × Mem} (h : f_X6_fault x1 M = some res) (hK : RK Y X (some (.int res.1)) res.2) : AW Y X 2 0 [(0, .ref (Y.2.2.2.1 49)), (1, .int x1)] [] M := by
  unfold f_X6_fault at h
  refine a_iload_n C dX6_fault_0 1 rfl ?_
  obtain ⟨r1, hcr1, h⟩ := bd_some h
  refine a_callSi C dX6_fault_1 ls_X6_107 lm_X6_isTwo ⟨rfl, rfl, by decide, by decide⟩ (m_X6_isTwo C.2.2.2.2.2.2.1 hcr1) rfl rfl (Nat.le_of_ble_eq_true rfl) ?_
  refine a_if_eq (tgt := 15) C dX6_fault_4 (by decide) (fun hc => ?_) (fun hc => ?_)
  · replace h := ip hc h
    refine a_bipush (v := -2) C dX6_fault_15 (by decide) ?_
    replace h := Option.some.inj h
    subst h
    exact a_iret C dX6_fault_17 hK
  · replace h := iq hc h
    refine a_aload_n C dX6_fault_7 0 rfl ?_
    refine a_iload_n C dX6_fault_8 1 rfl ?_
    obtain ⟨r2, hcr2, h⟩ := bd_some h
    refine a_callVi C dX6_fault_9 lv_X6_137 lm_X6_readsText ⟨rfl, rfl, by decide, by decide⟩ Kc_49 (m_X6_readsText C.2.2.2.2.2.2.1 hcr2) rfl rfl (Nat.le_of_ble_eq_true rfl) ?_
    refine a_goto (tgt := 17) C dX6_fault_12 (by decide) ?_
    replace h := Option.some.inj h
    subst h
    exact a_iret C dX6_fault_17 hK
theorem m_X6_fault {Y : EY} (hY : HY Y) {x1 : Int32} {M : Mem}  {r : Int32 × Mem} (h : f_X6_fault x1 M = some r) : MX Y yX6_fault cX6_fault 2 (some .int) rm_X6_fault [.ref (Y.2.2.2.1 49), .int x1] M (some (.int r.1)) r.2 := MX.of hY (by decide) (Nat.le_of_ble_eq_true rfl) (fun _ hR C => a_sub [0, 1] (t_X6_fault C  h hR) rfl)
abbrev rm_X6_isAccent : Room := { frames := 1, cells := 0, slots := 0, locals := 25 }
noncomputable def f_X6_isAccent (x1 : Int32) (M : Mem) : Option (Int32) :=
  Option.bind (f_X6_in (x1).toInt64 (0 : Int64) (((M 49 7) - (1 : Int32))).toInt64) (fun r1 => ck (isB r1) (some r1))
theorem t_X6_isAccent {Y : EY} {X : CX} (C : CK Y X cX6_isAccent RX6 2 (some .boolean) rm_X6_isAccent) {x1 : Int32} {M : Mem}  {res : Int32} (h : f_X6_isAccent x1 M = some res) (hK : RK Y X (some (.int res)) M) : AW Y X 2 0 [(0, .ref (Y.2.2.2.1 49)), (1, .int x1)] [] M := by
  unfold f_X6_isAccent at h
  refine a_iload_n C dX6_isAccent_0 1 rfl ?_
  refine a_i2l C dX6_isAccent_1 ?_
  refine a_lconst (v := 0) C dX6_isAccent_2 (by decide) ?_
  refine a_aload_n C dX6_isAccent_3 0 rfl ?_
  refine a_geti C dX6_isAccent_4 fl_X6_116 rfl Kc_49 ?_
  refine a_iconst (v := 1) C dX6_isAccent_7 (by decide) ?_
  refine a_isub C dX6_isAccent_8 ?_
  refine a_i2l C dX6_isAccent_9 ?_
  obtain ⟨r1, hcr1, h⟩ := bd_some h
  refine a_callSi C dX6_isAccent_10 ls_X6_79 lm_X6_in ⟨rfl, rfl, by decide, by decide⟩ (m_X6_in C.2.2.2.2.2.2.1 hcr1) rfl rfl (Nat.le_of_ble_eq_true rfl) ?_
  obtain ⟨hb, h⟩ := ck_some h
  replace h := Option.some.inj h
  subst h
  exact a_zret C dX6_isAccent_13 hb hK
theorem m_X6_isAccent {Y : EY} (hY : HY Y) {x1 : Int32} {M : Mem}  {r : Int32} (h : f_X6_isAccent x1 M = some r) : MX Y yX6_isAccent cX6_isAccent 2 (some .boolean) rm_X6_isAccent [.ref (Y.2.2.2.1 49), .int x1] M (some (.int r)) M := MX.of hY (by decide) (Nat.le_of_ble_eq_true rfl) (fun _ hR C => a_sub [0, 1] (t_X6_isAccent C  h hR) rfl)
abbrev rm_X6_isPerson : Room := { frames := 1, cells := 0, slots := 0, locals := 25 }
noncomputable def f_X6_isPerson (x1 : Int32) (M : Mem) : Option (Int32) :=
  Option.bind (f_X6_in (x1).toInt64 (0 : Int64) (((M 49 9) - (1 : Int32))).toInt64) (fun r1 => ck (isB r1) (some r1))
theorem t_X6_isPerson {Y : EY} {X : CX} (C : CK Y X cX6_isPerson RX6 2 (some .boolean) rm_X6_isPerson) {x1 : Int32} {M : Mem}  {res : Int32} (h : f_X6_isPerson x1 M = some res) (hK : RK Y X (some (.int res)) M) : AW Y X 2 0 [(0, .ref (Y.2.2.2.1 49)), (1, .int x1)] [] M := by
  unfold f_X6_isPerson at h
  refine a_iload_n C dX6_isPerson_0 1 rfl ?_
  refine a_i2l C dX6_isPerson_1 ?_
  refine a_lconst (v := 0) C dX6_isPerson_2 (by decide) ?_
  refine a_aload_n C dX6_isPerson_3 0 rfl ?_
  refine a_geti C dX6_isPerson_4 fl_X6_124 rfl Kc_49 ?_
  refine a_iconst (v := 1) C dX6_isPerson_7 (by decide) ?_
  refine a_isub C dX6_isPerson_8 ?_
  refine a_i2l C dX6_isPerson_9 ?_
  obtain ⟨r1, hcr1, h⟩ := bd_some h
  refine a_callSi C dX6_isPerson_10 ls_X6_79 lm_X6_in ⟨rfl, rfl, by decide, by decide⟩ (m_X6_in C.2.2.2.2.2.2.1 hcr1) rfl rfl (Nat.le_of_ble_eq_true rfl) ?_
  obtain ⟨hb, h⟩ := ck_some h
  replace h := Option.some.inj h
  subst h
  exact a_zret C dX6_isPerson_13 hb hK
theorem m_X6_isPerson {Y : EY} (hY : HY Y) {x1 : Int32} {M : Mem}  {r : Int32} (h : f_X6_isPerson x1 M = some r) : MX Y yX6_isPerson cX6_isPerson 2 (some .boolean) rm_X6_isPerson [.ref (Y.2.2.2.1 49), .int x1] M (some (.int r)) M := MX.of hY (by decide) (Nat.le_of_ble_eq_true rfl) (fun _ hR C => a_sub [0, 1] (t_X6_isPerson C  h hR) rfl)
abbrev rm_X6_isDay : Room := { frames := 1, cells := 0, slots := 0, locals := 25 }
noncomputable def f_X6_isDay (x0 : Int32) : Option (Int32) :=
  Option.bind (f_X6_in (x0).toInt64 (0 : Int64) (29 : Int64)) (fun r1 => ck (isB r1) (some r1))
theorem t_X6_isDay {Y : EY} {X : CX} (C : CK Y X cX6_isDay RX6 1 (some .boolean) rm_X6_isDay) {x0 : Int32} {M : Mem}  {res : Int32} (h : f_X6_isDay x0 = some res) (hK : RK Y X (some (.int res)) M) : AW Y X 1 0 [(0, .int x0)] [] M := by
  unfold f_X6_isDay at h
  refine a_iload_n C dX6_isDay_0 0 rfl ?_
  refine a_i2l C dX6_isDay_1 ?_
  refine a_lconst (v := 0) C dX6_isDay_2 (by decide) ?_
  refine a_ldc2 C dX6_isDay_3 co_X6_140 ?_
  obtain ⟨r1, hcr1, h⟩ := bd_some h
  refine a_callSi C dX6_isDay_6 ls_X6_79 lm_X6_in ⟨rfl, rfl, by decide, by decide⟩ (m_X6_in C.2.2.2.2.2.2.1 hcr1) rfl rfl (Nat.le_of_ble_eq_true rfl) ?_
  obtain ⟨hb, h⟩ := ck_some h
  replace h := Option.some.inj h
  subst h
  exact a_zret C dX6_isDay_9 hb hK
theorem m_X6_isDay {Y : EY} (hY : HY Y) {x0 : Int32} {M : Mem}  {r : Int32} (h : f_X6_isDay x0 = some r) : MX Y yX6_isDay cX6_isDay 1 (some .boolean) rm_X6_isDay [.int x0] M (some (.int r)) M := MX.of hY (by decide) (Nat.le_of_ble_eq_true rfl) (fun _ hR C => a_sub [0] (t_X6_isDay C  h hR) rfl)
abbrev rm_X6_isEight : Room := { frames := 1, cells := 0, slots := 0, locals := 25 }
noncomputable def f_X6_isEight (x0 : Int32) : Option (Int32) :=
  Option.bind (f_X6_in (x0).toInt64 (0 : Int64) (7 : Int64)) (fun r1 => ck (isB r1) (some r1))
theorem t_X6_isEight {Y : EY} {X : CX} (C : CK Y X cX6_isEight RX6 1 (some .boolean) rm_X6_isEight) {x0 : Int32} {M : Mem}  {res : Int32} (h : f_X6_isEight x0 = some res) (hK : RK Y X (some (.int res)) M) : AW Y X 1 0 [(0, .int x0)] [] M := by
  unfold f_X6_isEight at h
  refine a_iload_n C dX6_isEight_0 0 rfl ?_
  refine a_i2l C dX6_isEight_1 ?_
  refine a_lconst (v := 0) C dX6_isEight_2 (by decide) ?_
  refine a_ldc2 C dX6_isEight_3 co_X6_142 ?_
  obtain ⟨r1, hcr1, h⟩ := bd_some h
  refine a_callSi C dX6_isEight_6 ls_X6_79 lm_X6_in ⟨rfl, rfl, by decide, by decide⟩ (m_X6_in C.2.2.2.2.2.2.1 hcr1) rfl rfl (Nat.le_of_ble_eq_true rfl) ?_
  obtain ⟨hb, h⟩ := ck_some h
  replace h := Option.some.inj h
  subst h
  exact a_zret C dX6_isEight_9 hb hK
theorem m_X6_isEight {Y : EY} (hY : HY Y) {x0 : Int32} {M : Mem}  {r : Int32} (h : f_X6_isEight x0 = some r) : MX Y yX6_isEight cX6_isEight 1 (some .boolean) rm_X6_isEight [.int x0] M (some (.int r)) M := MX.of hY (by decide) (Nat.le_of_ble_eq_true rfl) (fun _ hR C => a_sub [0] (t_X6_isEight C  h hR) rfl)
abbrev rm_X6_accent : Room := { frames := 3, cells := 0, slots := 0, locals := 70 }
noncomputable def f_X6_accent (x1 : Int32) (x2 : Int32) (M : Mem) : Option (Int32 × Mem) :=
  Option.bind (f_X6_readsAccents M) (fun r1 => Option.bind (f_X6_isAccent x1 r1.2) (fun r2 => (if r2 = 0 then some ((-2 : Int32), r1.2) else Option.bind (f_X6_in (x2).toInt64 (0 : Int64) (5 : Int64)) (fun r3 => (if r3 = 0 then some ((-2 : Int32), r1.2) else ck (inb (((6 : Int32) * x1) + x2) 48) (some ((r1.2 56 ((((6 : Int32) * x1) + x2)).toNatClampNeg), r1.2)))))))
theorem t_X6_accent {Y : EY} {X : CX} (C : CK Y X cX6_accent RX6 3 (some .int) rm_X6_accent) {x1 : Int32} {x2 : Int32} {M : Mem}  {res : Int32 × Mem} (h : f_X6_accent x1 x2 M = some res) (hK : RK Y X (some (.int res.1)) res.2) : AW Y X 3 0 [(0, .ref (Y.2.2.2.1 49)), (1, .int x1), (2, .int x2)] [] M := by
  unfold f_X6_accent at h
  refine a_aload_n C dX6_accent_0 0 rfl ?_
  obtain ⟨r1, hcr1, h⟩ := bd_some h
  refine a_callVi C dX6_accent_1 lv_X6_130 lm_X6_readsAccents ⟨rfl, rfl, by decide, by decide⟩ Kc_49 (m_X6_readsAccents C.2.2.2.2.2.2.1 hcr1) rfl rfl (Nat.le_of_ble_eq_true rfl) ?_
  refine a_pop C dX6_accent_4 rfl ?_
  refine a_aload_n C dX6_accent_5 0 rfl ?_
  refine a_iload_n C dX6_accent_6 1 rfl ?_
  obtain ⟨r2, hcr2, h⟩ := bd_some h
  refine a_callVi C dX6_accent_7 lv_X6_144 lm_X6_isAccent ⟨rfl, rfl, by decide, by decide⟩ Kc_49 (m_X6_isAccent C.2.2.2.2.2.2.1 hcr2) rfl rfl (Nat.le_of_ble_eq_true rfl) ?_
  refine a_if_eq (tgt := 39) C dX6_accent_10 (by decide) (fun hc => ?_) (fun hc => ?_)
  · replace h := ip hc h
    refine a_bipush (v := -2) C dX6_accent_39 (by decide) ?_
    replace h := Option.some.inj h
    subst h
    exact a_iret C dX6_accent_41 hK
  · replace h := iq hc h
    refine a_iload_n C dX6_accent_13 2 rfl ?_
    refine a_i2l C dX6_accent_14 ?_
    refine a_lconst (v := 0) C dX6_accent_15 (by decide) ?_
    refine a_ldc2 C dX6_accent_16 co_X6_147 ?_
    obtain ⟨r3, hcr3, h⟩ := bd_some h
    refine a_callSi C dX6_accent_19 ls_X6_79 lm_X6_in ⟨rfl, rfl, by decide, by decide⟩ (m_X6_in C.2.2.2.2.2.2.1 hcr3) rfl rfl (Nat.le_of_ble_eq_true rfl) ?_
    refine a_if_eq (tgt := 39) C dX6_accent_22 (by decide) (fun hc => ?_) (fun hc => ?_)
    · replace h := ip hc h
      refine a_bipush (v := -2) C dX6_accent_39 (by decide) ?_
      replace h := Option.some.inj h
      subst h
      exact a_iret C dX6_accent_41 hK
    · replace h := iq hc h
      refine a_aload_n C dX6_accent_25 0 rfl ?_
      refine a_getr (k1 := 56) C dX6_accent_26 fl_X6_28 rfl Kc_49 rfl ?_
      refine a_bipush (v := 6) C dX6_accent_29 (by decide) ?_
      refine a_iload_n C dX6_accent_31 1 rfl ?_
      refine a_imul C dX6_accent_32 ?_
      refine a_iload_n C dX6_accent_33 2 rfl ?_
      refine a_iadd C dX6_accent_34 ?_
      obtain ⟨hb, h⟩ := ck_some h
      refine a_iald C dX6_accent_35 Kc_56 rfl hb ?_
      refine a_goto (tgt := 41) C dX6_accent_36 (by decide) ?_
      replace h := Option.some.inj h
      subst h
      exact a_iret C dX6_accent_41 hK
theorem m_X6_accent {Y : EY} (hY : HY Y) {x1 : Int32} {x2 : Int32} {M : Mem}  {r : Int32 × Mem} (h : f_X6_accent x1 x2 M = some r) : MX Y yX6_accent cX6_accent 3 (some .int) rm_X6_accent [.ref (Y.2.2.2.1 49), .int x1, .int x2] M (some (.int r.1)) r.2 := MX.of hY (by decide) (Nat.le_of_ble_eq_true rfl) (fun _ hR C => a_sub [0, 1, 2] (t_X6_accent C  h hR) rfl)
abbrev rm_X6_person : Room := { frames := 3, cells := 0, slots := 0, locals := 70 }
noncomputable def f_X6_person (x1 : Int32) (x2 : Int32) (M : Mem) : Option (Int32 × Mem) :=
  Option.bind (f_X6_readsPeople M) (fun r1 => Option.bind (f_X6_isPerson x1 r1.2) (fun r2 => (if r2 = 0 then some ((-2 : Int32), r1.2) else Option.bind (f_X6_isTwo x2) (fun r3 => (if r3 = 0 then some ((-2 : Int32), r1.2) else ck (inb (((2 : Int32) * x1) + x2) 16) (some ((r1.2 57 ((((2 : Int32) * x1) + x2)).toNatClampNeg), r1.2)))))))
theorem t_X6_person {Y : EY} {X : CX} (C : CK Y X cX6_person RX6 3 (some .int) rm_X6_person) {x1 : Int32} {x2 : Int32} {M : Mem}  {res : Int32 × Mem} (h : f_X6_person x1 x2 M = some res) (hK : RK Y X (some (.int res.1)) res.2) : AW Y X 3 0 [(0, .ref (Y.2.2.2.1 49)), (1, .int x1), (2, .int x2)] [] M := by
  unfold f_X6_person at h
  refine a_aload_n C dX6_person_0 0 rfl ?_
  obtain ⟨r1, hcr1, h⟩ := bd_some h
  refine a_callVi C dX6_person_1 lv_X6_134 lm_X6_readsPeople ⟨rfl, rfl, by decide, by decide⟩ Kc_49 (m_X6_readsPeople C.2.2.2.2.2.2.1 hcr1) rfl rfl (Nat.le_of_ble_eq_true rfl) ?_
  refine a_pop C dX6_person_4 rfl ?_
  refine a_aload_n C dX6_person_5 0 rfl ?_
  refine a_iload_n C dX6_person_6 1 rfl ?_
  obtain ⟨r2, hcr2, h⟩ := bd_some h
  refine a_callVi C dX6_person_7 lv_X6_149 lm_X6_isPerson ⟨rfl, rfl, by decide, by decide⟩ Kc_49 (m_X6_isPerson C.2.2.2.2.2.2.1 hcr2) rfl rfl (Nat.le_of_ble_eq_true rfl) ?_
  refine a_if_eq (tgt := 33) C dX6_person_10 (by decide) (fun hc => ?_) (fun hc => ?_)
  · replace h := ip hc h
    refine a_bipush (v := -2) C dX6_person_33 (by decide) ?_
    replace h := Option.some.inj h
    subst h
    exact a_iret C dX6_person_35 hK
  · replace h := iq hc h
    refine a_iload_n C dX6_person_13 2 rfl ?_
    obtain ⟨r3, hcr3, h⟩ := bd_some h
    refine a_callSi C dX6_person_14 ls_X6_107 lm_X6_isTwo ⟨rfl, rfl, by decide, by decide⟩ (m_X6_isTwo C.2.2.2.2.2.2.1 hcr3) rfl rfl (Nat.le_of_ble_eq_true rfl) ?_
    refine a_if_eq (tgt := 33) C dX6_person_17 (by decide) (fun hc => ?_) (fun hc => ?_)
    · replace h := ip hc h
      refine a_bipush (v := -2) C dX6_person_33 (by decide) ?_
      replace h := Option.some.inj h
      subst h
      exact a_iret C dX6_person_35 hK
    · replace h := iq hc h
      refine a_aload_n C dX6_person_20 0 rfl ?_
      refine a_getr (k1 := 57) C dX6_person_21 fl_X6_31 rfl Kc_49 rfl ?_
      refine a_iconst (v := 2) C dX6_person_24 (by decide) ?_
      refine a_iload_n C dX6_person_25 1 rfl ?_
      refine a_imul C dX6_person_26 ?_
      refine a_iload_n C dX6_person_27 2 rfl ?_
      refine a_iadd C dX6_person_28 ?_
      obtain ⟨hb, h⟩ := ck_some h
      refine a_iald C dX6_person_29 Kc_57 rfl hb ?_
      refine a_goto (tgt := 35) C dX6_person_30 (by decide) ?_
      replace h := Option.some.inj h
      subst h
      exact a_iret C dX6_person_35 hK
theorem m_X6_person {Y : EY} (hY : HY Y) {x1 : Int32} {x2 : Int32} {M : Mem}  {r : Int32 × Mem} (h : f_X6_person x1 x2 M = some r) : MX Y yX6_person cX6_person 3 (some .int) rm_X6_person [.ref (Y.2.2.2.1 49), .int x1, .int x2] M (some (.int r.1)) r.2 := MX.of hY (by decide) (Nat.le_of_ble_eq_true rfl) (fun _ hR C => a_sub [0, 1, 2] (t_X6_person C  h hR) rfl)
abbrev rm_X6_puts : Room := { frames := 0, cells := 0, slots := 0, locals := 0 }
noncomputable def f_X6_puts (x1 : Int32) (x2 : Int32) (x3 : Int32) (M : Mem) : Option (Mem) :=
  ck (inb ((3 : Int32) * (M 49 11)) 24) (ck (inb (((3 : Int32) * ((upM M 58 (((3 : Int32) * (M 49 11))).toNatClampNeg x1) 49 11)) + (1 : Int32)) 24) (ck (inb (((3 : Int32) * ((upM (upM M 58 (((3 : Int32) * (M 49 11))).toNatClampNeg x1) 58 ((((3 : Int32) * ((upM M 58 (((3 : Int32) * (M 49 11))).toNatClampNeg x1) 49 11)) + (1 : Int32))).toNatClampNeg x2) 49 11)) + (2 : Int32)) 24) (some (upM (upM (upM (upM M 58 (((3 : Int32) * (M 49 11))).toNatClampNeg x1) 58 ((((3 : Int32) * ((upM M 58 (((3 : Int32) * (M 49 11))).toNatClampNeg x1) 49 11)) + (1 : Int32))).toNatClampNeg x2) 58 ((((3 : Int32) * ((upM (upM M 58 (((3 : Int32) * (M 49 11))).toNatClampNeg x1) 58 ((((3 : Int32) * ((upM M 58 (((3 : Int32) * (M 49 11))).toNatClampNeg x1) 49 11)) + (1 : Int32))).toNatClampNeg x2) 49 11)) + (2 : Int32))).toNatClampNeg x3) 49 11 (((upM (upM (upM M 58 (((3 : Int32) * (M 49 11))).toNatClampNeg x1) 58 ((((3 : Int32) * ((upM M 58 (((3 : Int32) * (M 49 11))).toNatClampNeg x1) 49 11)) + (1 : Int32))).toNatClampNeg x2) 58 ((((3 : Int32) * ((upM (upM M 58 (((3 : Int32) * (M 49 11))).toNatClampNeg x1) 58 ((((3 : Int32) * ((upM M 58 (((3 : Int32) * (M 49 11))).toNatClampNeg x1) 49 11)) + (1 : Int32))).toNatClampNeg x2) 49 11)) + (2 : Int32))).toNatClampNeg x3) 49 11) + (1 : Int32))))))
theorem t_X6_puts {Y : EY} {X : CX} (C : CK Y X cX6_puts RX6 4 none rm_X6_puts) {x1 : Int32} {x2 : Int32} {x3 : Int32} {M : Mem}  {res : Mem} (h : f_X6_puts x1 x2 x3 M = some res) (hK : RK Y X none res) : AW Y X 4 0 [(0, .ref (Y.2.2.2.1 49)), (1, .int x1), (2, .int x2), (3, .int x3)] [] M := by
  unfold f_X6_puts at h
  refine a_aload_n C dX6_puts_0 0 rfl ?_
  refine a_getr (k1 := 58) C dX6_puts_1 fl_X6_34 rfl Kc_49 rfl ?_
  refine a_iconst (v := 3) C dX6_puts_4 (by decide) ?_
  refine a_aload_n C dX6_puts_5 0 rfl ?_
  refine a_geti C dX6_puts_6 fl_X6_152 rfl Kc_49 ?_
  refine a_imul C dX6_puts_9 ?_
  refine a_iload_n C dX6_puts_10 1 rfl ?_
  obtain ⟨hb, h⟩ := ck_some h
  refine a_iast C dX6_puts_11 Kc_58 rfl hb ?_
  refine a_aload_n C dX6_puts_12 0 rfl ?_
  refine a_getr (k1 := 58) C dX6_puts_13 fl_X6_34 rfl Kc_49 rfl ?_
  refine a_iconst (v := 3) C dX6_puts_16 (by decide) ?_
  refine a_aload_n C dX6_puts_17 0 rfl ?_
  refine a_geti C dX6_puts_18 fl_X6_152 rfl Kc_49 ?_
  refine a_imul C dX6_puts_21 ?_
  refine a_iconst (v := 1) C dX6_puts_22 (by decide) ?_
  refine a_iadd C dX6_puts_23 ?_
  refine a_iload_n C dX6_puts_24 2 rfl ?_
  obtain ⟨hb, h⟩ := ck_some h
  refine a_iast C dX6_puts_25 Kc_58 rfl hb ?_
  refine a_aload_n C dX6_puts_26 0 rfl ?_
  refine a_getr (k1 := 58) C dX6_puts_27 fl_X6_34 rfl Kc_49 rfl ?_
  refine a_iconst (v := 3) C dX6_puts_30 (by decide) ?_
  refine a_aload_n C dX6_puts_31 0 rfl ?_
  refine a_geti C dX6_puts_32 fl_X6_152 rfl Kc_49 ?_
  refine a_imul C dX6_puts_35 ?_
  refine a_iconst (v := 2) C dX6_puts_36 (by decide) ?_
  refine a_iadd C dX6_puts_37 ?_
  refine a_iload_n C dX6_puts_38 3 rfl ?_
  obtain ⟨hb, h⟩ := ck_some h
  refine a_iast C dX6_puts_39 Kc_58 rfl hb ?_
  refine a_aload_n C dX6_puts_40 0 rfl ?_
  refine a_dup C dX6_puts_41 rfl ?_
  refine a_geti C dX6_puts_42 fl_X6_152 rfl Kc_49 ?_
  refine a_iconst (v := 1) C dX6_puts_45 (by decide) ?_
  refine a_iadd C dX6_puts_46 ?_
  refine a_put (ty := .int) C dX6_puts_47 fl_X6_152 (fp_6_11) rfl Kc_49 rfl rfl ?_
  replace h := Option.some.inj h
  subst h
  exact a_vret C dX6_puts_50 hK
theorem m_X6_puts {Y : EY} (hY : HY Y) {x1 : Int32} {x2 : Int32} {x3 : Int32} {M : Mem}  {r : Mem} (h : f_X6_puts x1 x2 x3 M = some r) : MX Y yX6_puts cX6_puts 4 none rm_X6_puts [.ref (Y.2.2.2.1 49), .int x1, .int x2, .int x3] M (none) r := MX.of hY (by decide) (Nat.le_of_ble_eq_true rfl) (fun _ hR C => a_sub [0, 1, 2, 3] (t_X6_puts C  h hR) rfl)
abbrev rm_X6_hire : Room := { frames := 2, cells := 0, slots := 0, locals := 45 }
noncomputable def f_X6_hire (x1 : Int32) (x2 : Int32) (x3 : Int32) (M : Mem) : Option (Int32 × Mem) :=
  Option.bind (f_X6_isDay x1) (fun r1 => (if r1 = 0 then some ((-2 : Int32), M) else Option.bind (f_X6_isEight x2) (fun r2 => (if r2 = 0 then some ((-2 : Int32), M) else Option.bind (f_X6_isEight x3) (fun r3 => (if r3 = 0 then some ((-2 : Int32), M) else (if (M 49 11) = (8 : Int32) then some ((-4 : Int32), M) else Option.bind (f_X6_puts x1 x2 x3 M) (fun r4 => some ((r4 49 11), r4)))))))))
theorem t_X6_hire {Y : EY} {X : CX} (C : CK Y X cX6_hire RX6 4 (some .int) rm_X6_hire) {x1 : Int32} {x2 : Int32} {x3 : Int32} {M : Mem}  {res : Int32 × Mem} (h : f_X6_hire x1 x2 x3 M = some res) (hK : RK Y X (some (.int res.1)) res.2) : AW Y X 4 0 [(0, .ref (Y.2.2.2.1 49)), (1, .int x1), (2, .int x2), (3, .int x3)] [] M := by
  unfold f_X6_hire at h
  refine a_iload_n C dX6_hire_0 1 rfl ?_
  obtain ⟨r1, hcr1, h⟩ := bd_some h
  refine a_callSi C dX6_hire_1 ls_X6_155 lm_X6_isDay ⟨rfl, rfl, by decide, by decide⟩ (m_X6_isDay C.2.2.2.2.2.2.1 hcr1) rfl rfl (Nat.le_of_ble_eq_true rfl) ?_
  refine a_if_eq (tgt := 21) C dX6_hire_4 (by decide) (fun hc => ?_) (fun hc => ?_)
  · replace h := ip hc h
    refine a_bipush (v := -2) C dX6_hire_21 (by decide) ?_
    replace h := Option.some.inj h
    subst h
    exact a_iret C dX6_hire_23 hK
  · replace h := iq hc h
    refine a_iload_n C dX6_hire_7 2 rfl ?_
    obtain ⟨r2, hcr2, h⟩ := bd_some h
    refine a_callSi C dX6_hire_8 ls_X6_158 lm_X6_isEight ⟨rfl, rfl, by decide, by decide⟩ (m_X6_isEight C.2.2.2.2.2.2.1 hcr2) rfl rfl (Nat.le_of_ble_eq_true rfl) ?_
    refine a_if_eq (tgt := 21) C dX6_hire_11 (by decide) (fun hc => ?_) (fun hc => ?_)
    · replace h := ip hc h
      refine a_bipush (v := -2) C dX6_hire_21 (by decide) ?_
      replace h := Option.some.inj h
      subst h
      exact a_iret C dX6_hire_23 hK
    · replace h := iq hc h
      refine a_iload_n C dX6_hire_14 3 rfl ?_
      obtain ⟨r3, hcr3, h⟩ := bd_some h
      refine a_callSi C dX6_hire_15 ls_X6_158 lm_X6_isEight ⟨rfl, rfl, by decide, by decide⟩ (m_X6_isEight C.2.2.2.2.2.2.1 hcr3) rfl rfl (Nat.le_of_ble_eq_true rfl) ?_
      refine a_if_ne (tgt := 24) C dX6_hire_18 (by decide) (fun hc => ?_) (fun hc => ?_)
      · replace h := iq hc h
        refine a_aload_n C dX6_hire_24 0 rfl ?_
        refine a_geti C dX6_hire_25 fl_X6_152 rfl Kc_49 ?_
        refine a_bipush (v := 8) C dX6_hire_28 (by decide) ?_
        refine a_icmp_ne (tgt := 36) C dX6_hire_30 (by decide) (fun hc => ?_) (fun hc => ?_)
        · replace h := iq hc h
          refine a_aload_n C dX6_hire_36 0 rfl ?_
          refine a_iload_n C dX6_hire_37 1 rfl ?_
          refine a_iload_n C dX6_hire_38 2 rfl ?_
          refine a_iload_n C dX6_hire_39 3 rfl ?_
          obtain ⟨r4, hcr4, h⟩ := bd_some h
          refine a_callVv C dX6_hire_40 lv_X6_161 lm_X6_puts ⟨rfl, rfl, by decide, by decide⟩ Kc_49 (m_X6_puts C.2.2.2.2.2.2.1 hcr4) rfl rfl (Nat.le_of_ble_eq_true rfl) ?_
          refine a_aload_n C dX6_hire_43 0 rfl ?_
          refine a_geti C dX6_hire_44 fl_X6_152 rfl Kc_49 ?_
          replace h := Option.some.inj h
          subst h
          exact a_iret C dX6_hire_47 hK
        · replace h := ip hc h
          refine a_bipush (v := -4) C dX6_hire_33 (by decide) ?_
          replace h := Option.some.inj h
          subst h
          exact a_iret C dX6_hire_35 hK
      · replace h := ip hc h
        refine a_bipush (v := -2) C dX6_hire_21 (by decide) ?_
        replace h := Option.some.inj h
        subst h
        exact a_iret C dX6_hire_23 hK
theorem m_X6_hire {Y : EY} (hY : HY Y) {x1 : Int32} {x2 : Int32} {x3 : Int32} {M : Mem}  {r : Int32 × Mem} (h : f_X6_hire x1 x2 x3 M = some r) : MX Y yX6_hire cX6_hire 4 (some .int) rm_X6_hire [.ref (Y.2.2.2.1 49), .int x1, .int x2, .int x3] M (some (.int r.1)) r.2 := MX.of hY (by decide) (Nat.le_of_ble_eq_true rfl) (fun _ hR C => a_sub [0, 1, 2, 3] (t_X6_hire C  h hR) rfl)
abbrev rm_X6_back : Room := { frames := 0, cells := 0, slots := 0, locals := 0 }
noncomputable def f_X6_back  (M : Mem) : Option (Int32 × Mem) :=
  (if (M 49 11) = 0 then some ((-3 : Int32), M) else some (((upM M 49 11 ((M 49 11) - (1 : Int32))) 49 11), (upM M 49 11 ((M 49 11) - (1 : Int32)))))
theorem t_X6_back {Y : EY} {X : CX} (C : CK Y X cX6_back RX6 1 (some .int) rm_X6_back)  {M : Mem}  {res : Int32 × Mem} (h : f_X6_back M = some res) (hK : RK Y X (some (.int res.1)) res.2) : AW Y X 1 0 [(0, .ref (Y.2.2.2.1 49))] [] M := by
  unfold f_X6_back at h
  refine a_aload_n C dX6_back_0 0 rfl ?_
  refine a_geti C dX6_back_1 fl_X6_152 rfl Kc_49 ?_
  refine a_if_ne (tgt := 10) C dX6_back_4 (by decide) (fun hc => ?_) (fun hc => ?_)
  · replace h := iq hc h
    refine a_aload_n C dX6_back_10 0 rfl ?_
    refine a_dup C dX6_back_11 rfl ?_
    refine a_geti C dX6_back_12 fl_X6_152 rfl Kc_49 ?_
    refine a_iconst (v := 1) C dX6_back_15 (by decide) ?_
    refine a_isub C dX6_back_16 ?_
    refine a_put (ty := .int) C dX6_back_17 fl_X6_152 (fp_6_11) rfl Kc_49 rfl rfl ?_
    refine a_aload_n C dX6_back_20 0 rfl ?_
    refine a_geti C dX6_back_21 fl_X6_152 rfl Kc_49 ?_
    replace h := Option.some.inj h
    subst h
    exact a_iret C dX6_back_24 hK
  · replace h := ip hc h
    refine a_bipush (v := -3) C dX6_back_7 (by decide) ?_
    replace h := Option.some.inj h
    subst h
    exact a_iret C dX6_back_9 hK
theorem m_X6_back {Y : EY} (hY : HY Y)  {M : Mem}  {r : Int32 × Mem} (h : f_X6_back M = some r) : MX Y yX6_back cX6_back 1 (some .int) rm_X6_back [.ref (Y.2.2.2.1 49)] M (some (.int r.1)) r.2 := MX.of hY (by decide) (Nat.le_of_ble_eq_true rfl) (fun _ hR C => a_sub [0] (t_X6_back C  h hR) rfl)
