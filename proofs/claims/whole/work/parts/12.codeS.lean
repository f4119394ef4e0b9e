abbrev rm_X5_isBelow : Room := { frames := 0, cells := 0, slots := 0, locals := 0 }
noncomputable def f_X5_isBelow (x0 : Int32) (x1 : Int32) : Option (Int32) :=
  (if x0 < 0 then some (0 : Int32) else (if x1 ≤ x0 then some (0 : Int32) else some (1 : Int32)))
theorem t_X5_isBelow {Y : EY} {X : CX} (C : CK Y X cX5_isBelow RX5 2 (some .boolean) rm_X5_isBelow) {x0 : Int32} {x1 : Int32} {M : Mem}  {res : Int32} (h : f_X5_isBelow x0 x1 = some res) (hK : RK Y X (some (.int res)) M) : AW Y X 2 0 [(0, .int x0), (1, .int x1)] [] M := by
  unfold f_X5_isBelow at h
  refine a_iload_n C dX5_isBelow_0 0 rfl ?_
  refine a_if_lt (tgt := 13) C dX5_isBelow_1 (by decide) (fun hc => ?_) (fun hc => ?_)
  · replace h := ip hc h
    refine a_iconst (v := 0) C dX5_isBelow_13 (by decide) ?_
    replace h := Option.some.inj h
    subst h
    exact a_zret C dX5_isBelow_14 rfl hK
  · replace h := iq hc h
    refine a_iload_n C dX5_isBelow_4 0 rfl ?_
    refine a_iload_n C dX5_isBelow_5 1 rfl ?_
    refine a_icmp_ge (tgt := 13) C dX5_isBelow_6 (by decide) (fun hc => ?_) (fun hc => ?_)
    · replace h := ip hc h
      refine a_iconst (v := 0) C dX5_isBelow_13 (by decide) ?_
      replace h := Option.some.inj h
      subst h
      exact a_zret C dX5_isBelow_14 rfl hK
    · replace h := iq hc h
      refine a_iconst (v := 1) C dX5_isBelow_9 (by decide) ?_
      refine a_goto (tgt := 14) C dX5_isBelow_10 (by decide) ?_
      replace h := Option.some.inj h
      subst h
      exact a_zret C dX5_isBelow_14 rfl hK
theorem m_X5_isBelow {Y : EY} (hY : HY Y) {x0 : Int32} {x1 : Int32} {M : Mem}  {r : Int32} (h : f_X5_isBelow x0 x1 = some r) : MX Y yX5_isBelow cX5_isBelow 2 (some .boolean) rm_X5_isBelow [.int x0, .int x1] M (some (.int r)) M := MX.of hY (by decide) (Nat.le_of_ble_eq_true rfl) (fun _ hR C => a_sub [0, 1] (t_X5_isBelow C  h hR) rfl)
abbrev rm_X0_add : Room := { frames := 1, cells := 0, slots := 0, locals := 21 }
noncomputable def f_X0_add (x0 : Nat) (x1 : Int32) (x2 : Int32) (x3 : Int32) (x4 : Int32) (M : Mem) : Option (Int32 × Mem) :=
  Option.bind (f_X5_isBelow (M x0 0) (8 : Int32)) (fun r1 => (if r1 = 0 then some ((0 : Int32), M) else ck (inb (M x0 0) 8) (ck (inb ((upM M (rf x0 1) ((M x0 0)).toNatClampNeg x1) x0 0) 8) (ck (inb ((upM (upM M (rf x0 1) ((M x0 0)).toNatClampNeg x1) (rf x0 2) (((upM M (rf x0 1) ((M x0 0)).toNatClampNeg x1) x0 0)).toNatClampNeg x2) x0 0) 8) (ck (inb ((upM (upM (upM M (rf x0 1) ((M x0 0)).toNatClampNeg x1) (rf x0 2) (((upM M (rf x0 1) ((M x0 0)).toNatClampNeg x1) x0 0)).toNatClampNeg x2) (rf x0 3) (((upM (upM M (rf x0 1) ((M x0 0)).toNatClampNeg x1) (rf x0 2) (((upM M (rf x0 1) ((M x0 0)).toNatClampNeg x1) x0 0)).toNatClampNeg x2) x0 0)).toNatClampNeg x3) x0 0) 8) (some ((1 : Int32), (upM (upM (upM (upM (upM M (rf x0 1) ((M x0 0)).toNatClampNeg x1) (rf x0 2) (((upM M (rf x0 1) ((M x0 0)).toNatClampNeg x1) x0 0)).toNatClampNeg x2) (rf x0 3) (((upM (upM M (rf x0 1) ((M x0 0)).toNatClampNeg x1) (rf x0 2) (((upM M (rf x0 1) ((M x0 0)).toNatClampNeg x1) x0 0)).toNatClampNeg x2) x0 0)).toNatClampNeg x3) (rf x0 4) (((upM (upM (upM M (rf x0 1) ((M x0 0)).toNatClampNeg x1) (rf x0 2) (((upM M (rf x0 1) ((M x0 0)).toNatClampNeg x1) x0 0)).toNatClampNeg x2) (rf x0 3) (((upM (upM M (rf x0 1) ((M x0 0)).toNatClampNeg x1) (rf x0 2) (((upM M (rf x0 1) ((M x0 0)).toNatClampNeg x1) x0 0)).toNatClampNeg x2) x0 0)).toNatClampNeg x3) x0 0)).toNatClampNeg x4) x0 0 (((upM (upM (upM (upM M (rf x0 1) ((M x0 0)).toNatClampNeg x1) (rf x0 2) (((upM M (rf x0 1) ((M x0 0)).toNatClampNeg x1) x0 0)).toNatClampNeg x2) (rf x0 3) (((upM (upM M (rf x0 1) ((M x0 0)).toNatClampNeg x1) (rf x0 2) (((upM M (rf x0 1) ((M x0 0)).toNatClampNeg x1) x0 0)).toNatClampNeg x2) x0 0)).toNatClampNeg x3) (rf x0 4) (((upM (upM (upM M (rf x0 1) ((M x0 0)).toNatClampNeg x1) (rf x0 2) (((upM M (rf x0 1) ((M x0 0)).toNatClampNeg x1) x0 0)).toNatClampNeg x2) (rf x0 3) (((upM (upM M (rf x0 1) ((M x0 0)).toNatClampNeg x1) (rf x0 2) (((upM M (rf x0 1) ((M x0 0)).toNatClampNeg x1) x0 0)).toNatClampNeg x2) x0 0)).toNatClampNeg x3) x0 0)).toNatClampNeg x4) x0 0) + (1 : Int32))))))))))
theorem t_X0_add {Y : EY} {X : CX} (C : CK Y X cX0_add RX0 5 (some .boolean) rm_X0_add) {x0 : Nat} {x1 : Int32} {x2 : Int32} {x3 : Int32} {x4 : Int32} {M : Mem} (k0 : K x0 0) {res : Int32 × Mem} (h : f_X0_add x0 x1 x2 x3 x4 M = some res) (hK : RK Y X (some (.int res.1)) res.2) : AW Y X 5 0 [(0, .ref (Y.2.2.2.1 x0)), (1, .int x1), (2, .int x2), (3, .int x3), (4, .int x4)] [] M := by
  unfold f_X0_add at h
  refine a_aload_n C dX0_add_0 0 rfl ?_
  refine a_geti C dX0_add_1 fl_X0_24 rfl k0 ?_
  refine a_bipush (v := 8) C dX0_add_4 (by decide) ?_
  obtain ⟨r1, hcr1, h⟩ := bd_some h
  refine a_callNi C dX0_add_6 (by decide) is_1 lm_X5_isBelow ⟨rfl, rfl, by decide, by decide⟩ (m_X5_isBelow C.2.2.2.2.2.2.1 hcr1) rfl rfl (Nat.le_of_ble_eq_true rfl) ?_
  refine a_if_ne (tgt := 14) C dX0_add_9 (by decide) (fun hc => ?_) (fun hc => ?_)
  · replace h := iq hc h
    refine a_aload_n C dX0_add_14 0 rfl ?_
    refine a_getr (k1 := (rf x0 1)) C dX0_add_15 fl_X0_9 rfl k0 rfl ?_
    refine a_aload_n C dX0_add_18 0 rfl ?_
    refine a_geti C dX0_add_19 fl_X0_24 rfl k0 ?_
    refine a_iload_n C dX0_add_22 1 rfl ?_
    obtain ⟨hb, h⟩ := ck_some h
    refine a_iast C dX0_add_23 (rk_0_1 k0) (rl_0_1 k0) hb ?_
    refine a_aload_n C dX0_add_24 0 rfl ?_
    refine a_getr (k1 := (rf x0 2)) C dX0_add_25 fl_X0_15 rfl k0 rfl ?_
    refine a_aload_n C dX0_add_28 0 rfl ?_
    refine a_geti C dX0_add_29 fl_X0_24 rfl k0 ?_
    refine a_iload_n C dX0_add_32 2 rfl ?_
    obtain ⟨hb, h⟩ := ck_some h
    refine a_iast C dX0_add_33 (rk_0_2 k0) (rl_0_2 k0) hb ?_
    refine a_aload_n C dX0_add_34 0 rfl ?_
    refine a_getr (k1 := (rf x0 3)) C dX0_add_35 fl_X0_18 rfl k0 rfl ?_
    refine a_aload_n C dX0_add_38 0 rfl ?_
    refine a_geti C dX0_add_39 fl_X0_24 rfl k0 ?_
    refine a_iload_n C dX0_add_42 3 rfl ?_
    obtain ⟨hb, h⟩ := ck_some h
    refine a_iast C dX0_add_43 (rk_0_3 k0) (rl_0_3 k0) hb ?_
    refine a_aload_n C dX0_add_44 0 rfl ?_
    refine a_getr (k1 := (rf x0 4)) C dX0_add_45 fl_X0_21 rfl k0 rfl ?_
    refine a_aload_n C dX0_add_48 0 rfl ?_
    refine a_geti C dX0_add_49 fl_X0_24 rfl k0 ?_
    refine a_iload C dX0_add_52 4 rfl ?_
    obtain ⟨hb, h⟩ := ck_some h
    refine a_iast C dX0_add_54 (rk_0_4 k0) (rl_0_4 k0) hb ?_
    refine a_aload_n C dX0_add_55 0 rfl ?_
    refine a_dup C dX0_add_56 rfl ?_
    refine a_geti C dX0_add_57 fl_X0_24 rfl k0 ?_
    refine a_iconst (v := 1) C dX0_add_60 (by decide) ?_
    refine a_iadd C dX0_add_61 ?_
    refine a_put (ty := .int) C dX0_add_62 fl_X0_24 (fp_0_0) rfl k0 rfl rfl ?_
    refine a_iconst (v := 1) C dX0_add_65 (by decide) ?_
    replace h := Option.some.inj h
    subst h
    exact a_zret C dX0_add_66 rfl hK
  · replace h := ip hc h
    refine a_iconst (v := 0) C dX0_add_12 (by decide) ?_
    replace h := Option.some.inj h
    subst h
    exact a_zret C dX0_add_13 rfl hK
theorem m_X0_add {Y : EY} (hY : HY Y) {x0 : Nat} {x1 : Int32} {x2 : Int32} {x3 : Int32} {x4 : Int32} {M : Mem} (k0 : K x0 0) {r : Int32 × Mem} (h : f_X0_add x0 x1 x2 x3 x4 M = some r) : MX Y yX0_add cX0_add 5 (some .boolean) rm_X0_add [.ref (Y.2.2.2.1 x0), .int x1, .int x2, .int x3, .int x4] M (some (.int r.1)) r.2 := MX.of hY (by decide) (Nat.le_of_ble_eq_true rfl) (fun _ hR C => a_sub [0, 1, 2, 3, 4] (t_X0_add C k0 h hR) rfl)
abbrev rm_X0_latestDay : Room := { frames := 0, cells := 0, slots := 0, locals := 0 }
abbrev At_X0_latestDay_4 (Y : EY) (X : CX) (x0 : Nat) (M : Mem) (s : Int32 × Int32) : Prop := AW Y X 3 4 [(0, .ref (Y.2.2.2.1 x0)), (1, .int s.1), (2, .int s.2)] [] M
abbrev Ex_X0_latestDay_4 (Y : EY) (X : CX) (x0 : Nat) (M : Mem) (s : Int32 × Int32) : Prop := AW Y X 3 35 [(1, .int s.1)] [] M
noncomputable def f_X0_latestDay_29_4 (x0 : Nat) (x1 : Int32) (x2 : Int32) (M : Mem) : Option ((Int32 × Int32) ⊕ (Int32 × Int32)) :=
  some (.inl (x1, (x2 + (1 : Int32))))
theorem t_X0_latestDay_29_4 {Y : EY} {X : CX} (C : CK Y X cX0_latestDay RX0 3 (some .int) rm_X0_latestDay) {x0 : Nat} {x1 : Int32} {x2 : Int32} {M : Mem} (k0 : K x0 0) {res : (Int32 × Int32) ⊕ (Int32 × Int32)} (h : f_X0_latestDay_29_4 x0 x1 x2 M = some res) (hK : KL (At_X0_latestDay_4 Y X x0 M) (Ex_X0_latestDay_4 Y X x0 M) res) : AW Y X 3 29 [(0, .ref (Y.2.2.2.1 x0)), (1, .int x1), (2, .int x2)] [] M := by
  unfold f_X0_latestDay_29_4 at h
  refine a_iinc (v := 1) (lv' := [(2, _), (0, _), (1, _)]) C dX0_latestDay_29 2 rfl (by decide) (by decide) rfl ?_
  refine a_goto (tgt := 4) C dX0_latestDay_32 (by decide) ?_
  replace h := Option.some.inj h
  subst h
  exact a_sub [1, 2, 0] (hK) rfl
noncomputable def f_X0_latestDay_4_4b (x0 : Nat) (x1 : Int32) (x2 : Int32) (M : Mem) : Option ((Int32 × Int32) ⊕ (Int32 × Int32)) :=
  (if (M x0 0) ≤ x2 then some (.inr (x1, x2)) else ck (inb x2 8) ((if (M (rf x0 1) (x2).toNatClampNeg) ≤ x1 then f_X0_latestDay_29_4 x0 x1 x2 M else ck (inb x2 8) (f_X0_latestDay_29_4 x0 (M (rf x0 1) (x2).toNatClampNeg) x2 M))))
theorem t_X0_latestDay_4_4b {Y : EY} {X : CX} (C : CK Y X cX0_latestDay RX0 3 (some .int) rm_X0_latestDay) {x0 : Nat} {x1 : Int32} {x2 : Int32} {M : Mem} (k0 : K x0 0) {res : (Int32 × Int32) ⊕ (Int32 × Int32)} (h : f_X0_latestDay_4_4b x0 x1 x2 M = some res) (hK : KL (At_X0_latestDay_4 Y X x0 M) (Ex_X0_latestDay_4 Y X x0 M) res) : AW Y X 3 4 [(0, .ref (Y.2.2.2.1 x0)), (1, .int x1), (2, .int x2)] [] M := by
  unfold f_X0_latestDay_4_4b at h
  refine a_iload_n C dX0_latestDay_4 2 rfl ?_
  refine a_aload_n C dX0_latestDay_5 0 rfl ?_
  refine a_geti C dX0_latestDay_6 fl_X0_24 rfl k0 ?_
  refine a_icmp_ge (tgt := 35) C dX0_latestDay_9 (by decide) (fun hc => ?_) (fun hc => ?_)
  · replace h := ip hc h
    replace h := Option.some.inj h
    subst h
    exact a_sub [1] (hK) rfl
  · replace h := iq hc h
    refine a_aload_n C dX0_latestDay_12 0 rfl ?_
    refine a_getr (k1 := (rf x0 1)) C dX0_latestDay_13 fl_X0_9 rfl k0 rfl ?_
    refine a_iload_n C dX0_latestDay_16 2 rfl ?_
    obtain ⟨hb, h⟩ := ck_some h
    refine a_iald C dX0_latestDay_17 (rk_0_1 k0) (rl_0_1 k0) hb ?_
    refine a_iload_n C dX0_latestDay_18 1 rfl ?_
    refine a_icmp_le (tgt := 29) C dX0_latestDay_19 (by decide) (fun hc => ?_) (fun hc => ?_)
    · replace h := ip hc h
      exact a_sub [0, 1, 2] (t_X0_latestDay_29_4 C k0 h hK) rfl
    · replace h := iq hc h
      refine a_aload_n C dX0_latestDay_22 0 rfl ?_
      refine a_getr (k1 := (rf x0 1)) C dX0_latestDay_23 fl_X0_9 rfl k0 rfl ?_
      refine a_iload_n C dX0_latestDay_26 2 rfl ?_
      obtain ⟨hb, h⟩ := ck_some h
      refine a_iald C dX0_latestDay_27 (rk_0_1 k0) (rl_0_1 k0) hb ?_
      refine a_istore_n (lv' := [(1, _), (0, _), (2, _)]) C dX0_latestDay_28 rfl (by decide) rfl ?_
      exact a_sub [1, 0, 2] (t_X0_latestDay_29_4 C k0 h hK) rfl
noncomputable def f_X0_latestDay (x0 : Nat) (M : Mem) : Option (Int32) :=
  Option.bind (loop (fun s1 : Int32 × Int32 => f_X0_latestDay_4_4b x0 s1.1 s1.2 M) ((-1 : Int32), (0 : Int32))) (fun s2 => some s2.1)
theorem t_X0_latestDay {Y : EY} {X : CX} (C : CK Y X cX0_latestDay RX0 3 (some .int) rm_X0_latestDay) {x0 : Nat} {M : Mem} (k0 : K x0 0) {res : Int32} (h : f_X0_latestDay x0 M = some res) (hK : RK Y X (some (.int res)) M) : AW Y X 3 0 [(0, .ref (Y.2.2.2.1 x0))] [] M := by
  unfold f_X0_latestDay at h
  refine a_iconst (v := -1) C dX0_latestDay_0 (by decide) ?_
  refine a_istore_n (lv' := [(1, _), (0, _)]) C dX0_latestDay_1 rfl (by decide) rfl ?_
  refine a_iconst (v := 0) C dX0_latestDay_2 (by decide) ?_
  refine a_istore_n (lv' := [(2, _), (1, _), (0, _)]) C dX0_latestDay_3 rfl (by decide) rfl ?_
  obtain ⟨s2, hl, h⟩ := bd_some h
  have hE : Ex_X0_latestDay_4 Y X x0 M s2 := by
    refine a_iload_n C dX0_latestDay_35 0 rfl ?_
    replace h := Option.some.inj h
    subst h
    exact a_iret C dX0_latestDay_36 hK
  have hA := aw_loop (At_X0_latestDay_4 Y X x0 M) (Ex_X0_latestDay_4 Y X x0 M) (fun _ _ hb hk => t_X0_latestDay_4_4b C k0 hb hk) hl hE
  exact a_sub [2, 1, 0] (hA) rfl
theorem m_X0_latestDay {Y : EY} (hY : HY Y) {x0 : Nat} {M : Mem} (k0 : K x0 0) {r : Int32} (h : f_X0_latestDay x0 M = some r) : MX Y yX0_latestDay cX0_latestDay 3 (some .int) rm_X0_latestDay [.ref (Y.2.2.2.1 x0)] M (some (.int r)) M := MX.of hY (by decide) (Nat.le_of_ble_eq_true rfl) (fun _ hR C => a_sub [0] (t_X0_latestDay C k0 h hR) rfl)
abbrev rm_X1_hasPerson : Room := { frames := 0, cells := 0, slots := 0, locals := 0 }
noncomputable def f_X1_hasPerson (x0 : Nat) (x1 : Int32) (M : Mem) : Option (Int32) :=
  (if x1 < 0 then some (0 : Int32) else (if (M x0 3) ≤ x1 then some (0 : Int32) else some (1 : Int32)))
theorem t_X1_hasPerson {Y : EY} {X : CX} (C : CK Y X cX1_hasPerson RX1 2 (some .boolean) rm_X1_hasPerson) {x0 : Nat} {x1 : Int32} {M : Mem} (k0 : K x0 1) {res : Int32} (h : f_X1_hasPerson x0 x1 M = some res) (hK : RK Y X (some (.int res)) M) : AW Y X 2 0 [(0, .ref (Y.2.2.2.1 x0)), (1, .int x1)] [] M := by
  unfold f_X1_hasPerson at h
  refine a_iload_n C dX1_hasPerson_0 1 rfl ?_
  refine a_if_lt (tgt := 16) C dX1_hasPerson_1 (by decide) (fun hc => ?_) (fun hc => ?_)
  · replace h := ip hc h
    refine a_iconst (v := 0) C dX1_hasPerson_16 (by decide) ?_
    replace h := Option.some.inj h
    subst h
    exact a_zret C dX1_hasPerson_17 rfl hK
  · replace h := iq hc h
    refine a_iload_n C dX1_hasPerson_4 1 rfl ?_
    refine a_aload_n C dX1_hasPerson_5 0 rfl ?_
    refine a_geti C dX1_hasPerson_6 fl_X1_37 rfl k0 ?_
    refine a_icmp_ge (tgt := 16) C dX1_hasPerson_9 (by decide) (fun hc => ?_) (fun hc => ?_)
    · replace h := ip hc h
      refine a_iconst (v := 0) C dX1_hasPerson_16 (by decide) ?_
      replace h := Option.some.inj h
      subst h
      exact a_zret C dX1_hasPerson_17 rfl hK
    · replace h := iq hc h
      refine a_iconst (v := 1) C dX1_hasPerson_12 (by decide) ?_
      refine a_goto (tgt := 17) C dX1_hasPerson_13 (by decide) ?_
      replace h := Option.some.inj h
      subst h
      exact a_zret C dX1_hasPerson_17 rfl hK
theorem m_X1_hasPerson {Y : EY} (hY : HY Y) {x0 : Nat} {x1 : Int32} {M : Mem} (k0 : K x0 1) {r : Int32} (h : f_X1_hasPerson x0 x1 M = some r) : MX Y yX1_hasPerson cX1_hasPerson 2 (some .boolean) rm_X1_hasPerson [.ref (Y.2.2.2.1 x0), .int x1] M (some (.int r)) M := MX.of hY (by decide) (Nat.le_of_ble_eq_true rfl) (fun _ hR C => a_sub [0, 1] (t_X1_hasPerson C k0 h hR) rfl)
abbrev rm_X0_isSo : Room := { frames := 1, cells := 0, slots := 0, locals := 21 }
noncomputable def f_X0_isSo (x0 : Nat) (x1 : Nat) (x2 : Int32) (M : Mem) : Option (Int32) :=
  ck (inb x2 8) (Option.bind (f_X1_hasPerson (rf x1 0) (M (rf x0 2) (x2).toNatClampNeg) M) (fun r1 => (if r1 = 0 then some (0 : Int32) else ck (inb x2 8) (ck (inb x2 8) (ck (inb (((M (rf x0 2) (x2).toNatClampNeg) * (5 : Int32)) + (M (rf x0 3) (x2).toNatClampNeg)) 40) (ck (inb x2 8) ((if (M (rf x1 3) ((((M (rf x0 2) (x2).toNatClampNeg) * (5 : Int32)) + (M (rf x0 3) (x2).toNatClampNeg))).toNatClampNeg) = (M (rf x0 4) (x2).toNatClampNeg) then some (1 : Int32) else some (0 : Int32)))))))))
theorem t_X0_isSo {Y : EY} {X : CX} (C : CK Y X cX0_isSo RX0 3 (some .boolean) rm_X0_isSo) {x0 : Nat} {x1 : Nat} {x2 : Int32} {M : Mem} (k0 : K x0 0) (k1 : K x1 4) {res : Int32} (h : f_X0_isSo x0 x1 x2 M = some res) (hK : RK Y X (some (.int res)) M) : AW Y X 3 0 [(0, .ref (Y.2.2.2.1 x0)), (1, .ref (Y.2.2.2.1 x1)), (2, .int x2)] [] M := by
  unfold f_X0_isSo at h
  refine a_aload_n C dX0_isSo_0 1 rfl ?_
  refine a_getr (k1 := (rf x1 0)) C dX0_isSo_1 fl_X0_41 rfl k1 rfl ?_
  refine a_aload_n C dX0_isSo_4 0 rfl ?_
  refine a_getr (k1 := (rf x0 2)) C dX0_isSo_5 fl_X0_15 rfl k0 rfl ?_
  refine a_iload_n C dX0_isSo_8 2 rfl ?_
  obtain ⟨hb, h⟩ := ck_some h
  refine a_iald C dX0_isSo_9 (rk_0_2 k0) (rl_0_2 k0) hb ?_
  obtain ⟨r1, hcr1, h⟩ := bd_some h
  refine a_callVi C dX0_isSo_10 lv_X0_45 lm_X1_hasPerson ⟨rfl, rfl, by decide, by decide⟩ (rk_4_0 k1) (m_X1_hasPerson C.2.2.2.2.2.2.1 (rk_4_0 k1) hcr1) rfl rfl (Nat.le_of_ble_eq_true rfl) ?_
  refine a_if_eq (tgt := 49) C dX0_isSo_13 (by decide) (fun hc => ?_) (fun hc => ?_)
  · replace h := ip hc h
    refine a_iconst (v := 0) C dX0_isSo_49 (by decide) ?_
    replace h := Option.some.inj h
    subst h
    exact a_zret C dX0_isSo_50 rfl hK
  · replace h := iq hc h
    refine a_aload_n C dX0_isSo_16 1 rfl ?_
    refine a_getr (k1 := (rf x1 3)) C dX0_isSo_17 fl_X0_51 rfl k1 rfl ?_
    refine a_aload_n C dX0_isSo_20 0 rfl ?_
    refine a_getr (k1 := (rf x0 2)) C dX0_isSo_21 fl_X0_15 rfl k0 rfl ?_
    refine a_iload_n C dX0_isSo_24 2 rfl ?_
    obtain ⟨hb, h⟩ := ck_some h
    refine a_iald C dX0_isSo_25 (rk_0_2 k0) (rl_0_2 k0) hb ?_
    refine a_iconst (v := 5) C dX0_isSo_26 (by decide) ?_
    refine a_imul C dX0_isSo_27 ?_
    refine a_aload_n C dX0_isSo_28 0 rfl ?_
    refine a_getr (k1 := (rf x0 3)) C dX0_isSo_29 fl_X0_18 rfl k0 rfl ?_
    refine a_iload_n C dX0_isSo_32 2 rfl ?_
    obtain ⟨hb, h⟩ := ck_some h
    refine a_iald C dX0_isSo_33 (rk_0_3 k0) (rl_0_3 k0) hb ?_
    refine a_iadd C dX0_isSo_34 ?_
    obtain ⟨hb, h⟩ := ck_some h
    refine a_iald C dX0_isSo_35 (rk_4_3 k1) (rl_4_3 k1) hb ?_
    refine a_aload_n C dX0_isSo_36 0 rfl ?_
    refine a_getr (k1 := (rf x0 4)) C dX0_isSo_37 fl_X0_21 rfl k0 rfl ?_
    refine a_iload_n C dX0_isSo_40 2 rfl ?_
    obtain ⟨hb, h⟩ := ck_some h
    refine a_iald C dX0_isSo_41 (rk_0_4 k0) (rl_0_4 k0) hb ?_
    refine a_icmp_ne (tgt := 49) C dX0_isSo_42 (by decide) (fun hc => ?_) (fun hc => ?_)
    · replace h := iq hc h
      refine a_iconst (v := 0) C dX0_isSo_49 (by decide) ?_
      replace h := Option.some.inj h
      subst h
      exact a_zret C dX0_isSo_50 rfl hK
    · replace h := ip hc h
      refine a_iconst (v := 1) C dX0_isSo_45 (by decide) ?_
      refine a_goto (tgt := 50) C dX0_isSo_46 (by decide) ?_
      replace h := Option.some.inj h
      subst h
      exact a_zret C dX0_isSo_50 rfl hK
theorem m_X0_isSo {Y : EY} (hY : HY Y) {x0 : Nat} {x1 : Nat} {x2 : Int32} {M : Mem} (k0 : K x0 0) (k1 : K x1 4) {r : Int32} (h : f_X0_isSo x0 x1 x2 M = some r) : MX Y yX0_isSo cX0_isSo 3 (some .boolean) rm_X0_isSo [.ref (Y.2.2.2.1 x0), .ref (Y.2.2.2.1 x1), .int x2] M (some (.int r)) M := MX.of hY (by decide) (Nat.le_of_ble_eq_true rfl) (fun _ hR C => a_sub [0, 1, 2] (t_X0_isSo C k0 k1 h hR) rfl)
abbrev rm_X0_agreesWith : Room := { frames := 2, cells := 0, slots := 0, locals := 43 }
abbrev At_X0_agreesWith_2 (Y : EY) (X : CX) (x0 : Nat) (x1 : Nat) (M : Mem) (s : Int32) : Prop := AW Y X 3 2 [(0, .ref (Y.2.2.2.1 x0)), (1, .ref (Y.2.2.2.1 x1)), (2, .int s)] [] M
abbrev Ex_X0_agreesWith_2 (Y : EY) (X : CX) (x0 : Nat) (x1 : Nat) (M : Mem) : ((Int32) ⊕ (Int32)) → Prop := KL (fun s : Int32 => AW Y X 3 40 [] [] M) (fun res : Int32 => RK Y X (some (.int res)) M)
noncomputable def f_X0_agreesWith_34_2 (x0 : Nat) (x1 : Nat) (x2 : Int32) (M : Mem) : Option ((Int32) ⊕ ((Int32) ⊕ (Int32))) :=
  some (.inl (x2 + (1 : Int32)))
theorem t_X0_agreesWith_34_2 {Y : EY} {X : CX} (C : CK Y X cX0_agreesWith RX0 3 (some .boolean) rm_X0_agreesWith) {x0 : Nat} {x1 : Nat} {x2 : Int32} {M : Mem} (k0 : K x0 0) (k1 : K x1 4) {res : (Int32) ⊕ ((Int32) ⊕ (Int32))} (h : f_X0_agreesWith_34_2 x0 x1 x2 M = some res) (hK : KL (At_X0_agreesWith_2 Y X x0 x1 M) (Ex_X0_agreesWith_2 Y X x0 x1 M) res) : AW Y X 3 34 [(0, .ref (Y.2.2.2.1 x0)), (1, .ref (Y.2.2.2.1 x1)), (2, .int x2)] [] M := by
  unfold f_X0_agreesWith_34_2 at h
  refine a_iinc (v := 1) (lv' := [(2, _), (0, _), (1, _)]) C dX0_agreesWith_34 2 rfl (by decide) (by decide) rfl ?_
  refine a_goto (tgt := 2) C dX0_agreesWith_37 (by decide) ?_
  replace h := Option.some.inj h
  subst h
  exact a_sub [1, 2, 0] (hK) rfl
noncomputable def f_X0_agreesWith_2_2b (x0 : Nat) (x1 : Nat) (x2 : Int32) (M : Mem) : Option ((Int32) ⊕ ((Int32) ⊕ (Int32))) :=
  (if (M x0 0) ≤ x2 then some (.inr (.inl x2)) else ck (inb x2 8) ((if (M (rf x0 1) (x2).toNatClampNeg) = (M x1 1) then Option.bind (f_X0_isSo x0 x1 x2 M) (fun r1 => (if r1 = 0 then some (.inr (.inr (0 : Int32))) else f_X0_agreesWith_34_2 x0 x1 x2 M)) else f_X0_agreesWith_34_2 x0 x1 x2 M)))
theorem t_X0_agreesWith_2_2b {Y : EY} {X : CX} (C : CK Y X cX0_agreesWith RX0 3 (some .boolean) rm_X0_agreesWith) {x0 : Nat} {x1 : Nat} {x2 : Int32} {M : Mem} (k0 : K x0 0) (k1 : K x1 4) {res : (Int32) ⊕ ((Int32) ⊕ (Int32))} (h : f_X0_agreesWith_2_2b x0 x1 x2 M = some res) (hK : KL (At_X0_agreesWith_2 Y X x0 x1 M) (Ex_X0_agreesWith_2 Y X x0 x1 M) res) : AW Y X 3 2 [(0, .ref (Y.2.2.2.1 x0)), (1, .ref (Y.2.2.2.1 x1)), (2, .int x2)] [] M := by
  unfold f_X0_agreesWith_2_2b at h
  refine a_iload_n C dX0_agreesWith_2 2 rfl ?_
  refine a_aload_n C dX0_agreesWith_3 0 rfl ?_
  refine a_geti C dX0_agreesWith_4 fl_X0_24 rfl k0 ?_
  refine a_icmp_ge (tgt := 40) C dX0_agreesWith_7 (by decide) (fun hc => ?_) (fun hc => ?_)
  · replace h := ip hc h
    replace h := Option.some.inj h
    subst h
    exact a_sub [] (hK) rfl
  · replace h := iq hc h
    refine a_aload_n C dX0_agreesWith_10 0 rfl ?_
    refine a_getr (k1 := (rf x0 1)) C dX0_agreesWith_11 fl_X0_9 rfl k0 rfl ?_
    refine a_iload_n C dX0_agreesWith_14 2 rfl ?_
    obtain ⟨hb, h⟩ := ck_some h
    refine a_iald C dX0_agreesWith_15 (rk_0_1 k0) (rl_0_1 k0) hb ?_
    refine a_aload_n C dX0_agreesWith_16 1 rfl ?_
    refine a_geti C dX0_agreesWith_17 fl_X0_32 rfl k1 ?_
    refine a_icmp_ne (tgt := 34) C dX0_agreesWith_20 (by decide) (fun hc => ?_) (fun hc => ?_)
    · replace h := iq hc h
      exact a_sub [0, 1, 2] (t_X0_agreesWith_34_2 C k0 k1 h hK) rfl
    · replace h := ip hc h
      refine a_aload_n C dX0_agreesWith_23 0 rfl ?_
      refine a_aload_n C dX0_agreesWith_24 1 rfl ?_
      refine a_iload_n C dX0_agreesWith_25 2 rfl ?_
      obtain ⟨r1, hcr1, h⟩ := bd_some h
      refine a_callVi C dX0_agreesWith_26 lv_X0_37 lm_X0_isSo ⟨rfl, rfl, by decide, by decide⟩ k0 (m_X0_isSo C.2.2.2.2.2.2.1 k0 k1 hcr1) rfl rfl (Nat.le_of_ble_eq_true rfl) ?_
      refine a_if_ne (tgt := 34) C dX0_agreesWith_29 (by decide) (fun hc => ?_) (fun hc => ?_)
      · replace h := iq hc h
        exact a_sub [0, 1, 2] (t_X0_agreesWith_34_2 C k0 k1 h hK) rfl
      · replace h := ip hc h
        refine a_iconst (v := 0) C dX0_agreesWith_32 (by decide) ?_
        replace h := Option.some.inj h
        subst h
        exact a_zret C dX0_agreesWith_33 rfl hK
noncomputable def f_X0_agreesWith (x0 : Nat) (x1 : Nat) (M : Mem) : Option (Int32) :=
  Option.bind (loop (fun s2 : Int32 => f_X0_agreesWith_2_2b x0 x1 s2 M) (0 : Int32)) (eo (fun s3 => some (1 : Int32)) (fun r4 => some r4))
theorem t_X0_agreesWith {Y : EY} {X : CX} (C : CK Y X cX0_agreesWith RX0 3 (some .boolean) rm_X0_agreesWith) {x0 : Nat} {x1 : Nat} {M : Mem} (k0 : K x0 0) (k1 : K x1 4) {res : Int32} (h : f_X0_agreesWith x0 x1 M = some res) (hK : RK Y X (some (.int res)) M) : AW Y X 3 0 [(0, .ref (Y.2.2.2.1 x0)), (1, .ref (Y.2.2.2.1 x1))] [] M := by
  unfold f_X0_agreesWith at h
  refine a_iconst (v := 0) C dX0_agreesWith_0 (by decide) ?_
  refine a_istore_n (lv' := [(2, _), (0, _), (1, _)]) C dX0_agreesWith_1 rfl (by decide) rfl ?_
  obtain ⟨ee, hl, h⟩ := bd_some h
  have hE : Ex_X0_agreesWith_2 Y X x0 x1 M ee := by
    cases ee with
    | inl s3 =>
      refine a_iconst (v := 1) C dX0_agreesWith_40 (by decide) ?_
      replace h := Option.some.inj h
      subst h
      exact a_zret C dX0_agreesWith_41 rfl hK
    | inr r4 =>
      replace h := Option.some.inj h
      subst h
      exact hK
  have hA := aw_loop (At_X0_agreesWith_2 Y X x0 x1 M) (Ex_X0_agreesWith_2 Y X x0 x1 M) (fun _ _ hb hk => t_X0_agreesWith_2_2b C k0 k1 hb hk) hl hE
  exact a_sub [1, 2, 0] (hA) rfl
theorem m_X0_agreesWith {Y : EY} (hY : HY Y) {x0 : Nat} {x1 : Nat} {M : Mem} (k0 : K x0 0) (k1 : K x1 4) {r : Int32} (h : f_X0_agreesWith x0 x1 M = some r) : MX Y yX0_agreesWith cX0_agreesWith 3 (some .boolean) rm_X0_agreesWith [.ref (Y.2.2.2.1 x0), .ref (Y.2.2.2.1 x1)] M (some (.int r)) M := MX.of hY (by decide) (Nat.le_of_ble_eq_true rfl) (fun _ hR C => a_sub [0, 1] (t_X0_agreesWith C k0 k1 h hR) rfl)
abbrev rm_X1_hasAccent : Room := { frames := 0, cells := 0, slots := 0, locals := 0 }
noncomputable def f_X1_hasAccent (x0 : Nat) (x1 : Int32) (M : Mem) : Option (Int32) :=
  (if x1 < 0 then some (0 : Int32) else (if (M x0 0) ≤ x1 then some (0 : Int32) else some (1 : Int32)))
theorem t_X1_hasAccent {Y : EY} {X : CX} (C : CK Y X cX1_hasAccent RX1 2 (some .boolean) rm_X1_hasAccent) {x0 : Nat} {x1 : Int32} {M : Mem} (k0 : K x0 1) {res : Int32} (h : f_X1_hasAccent x0 x1 M = some res) (hK : RK Y X (some (.int res)) M) : AW Y X 2 0 [(0, .ref (Y.2.2.2.1 x0)), (1, .int x1)] [] M := by
  unfold f_X1_hasAccent at h
  refine a_iload_n C dX1_hasAccent_0 1 rfl ?_
  refine a_if_lt (tgt := 16) C dX1_hasAccent_1 (by decide) (fun hc => ?_) (fun hc => ?_)
  · replace h := ip hc h
    refine a_iconst (v := 0) C dX1_hasAccent_16 (by decide) ?_
    replace h := Option.some.inj h
    subst h
    exact a_zret C dX1_hasAccent_17 rfl hK
  · replace h := iq hc h
    refine a_iload_n C dX1_hasAccent_4 1 rfl ?_
    refine a_aload_n C dX1_hasAccent_5 0 rfl ?_
    refine a_geti C dX1_hasAccent_6 fl_X1_33 rfl k0 ?_
    refine a_icmp_ge (tgt := 16) C dX1_hasAccent_9 (by decide) (fun hc => ?_) (fun hc => ?_)
    · replace h := ip hc h
      refine a_iconst (v := 0) C dX1_hasAccent_16 (by decide) ?_
      replace h := Option.some.inj h
      subst h
      exact a_zret C dX1_hasAccent_17 rfl hK
    · replace h := iq hc h
      refine a_iconst (v := 1) C dX1_hasAccent_12 (by decide) ?_
      refine a_goto (tgt := 17) C dX1_hasAccent_13 (by decide) ?_
      replace h := Option.some.inj h
      subst h
      exact a_zret C dX1_hasAccent_17 rfl hK
theorem m_X1_hasAccent {Y : EY} (hY : HY Y) {x0 : Nat} {x1 : Int32} {M : Mem} (k0 : K x0 1) {r : Int32} (h : f_X1_hasAccent x0 x1 M = some r) : MX Y yX1_hasAccent cX1_hasAccent 2 (some .boolean) rm_X1_hasAccent [.ref (Y.2.2.2.1 x0), .int x1] M (some (.int r)) M := MX.of hY (by decide) (Nat.le_of_ble_eq_true rfl) (fun _ hR C => a_sub [0, 1] (t_X1_hasAccent C k0 h hR) rfl)
abbrev rm_X3_figureAt : Room := { frames := 1, cells := 0, slots := 0, locals := 21 }
noncomputable def f_X3_figureAt (x0 : Nat) (x1 : Int32) (M : Mem) : Option (Int32) :=
  Option.bind (f_X5_isBelow x1 (M x0 4)) (fun r1 => (if r1 = 0 then some (-1 : Int32) else ck (inb x1 (ln (rf x0 0))) (some ((M (rf x0 0) (x1).toNatClampNeg) - (48 : Int32)))))
theorem t_X3_figureAt {Y : EY} {X : CX} (C : CK Y X cX3_figureAt RX3 2 (some .int) rm_X3_figureAt) {x0 : Nat} {x1 : Int32} {M : Mem} (k0 : K x0 3) {res : Int32} (h : f_X3_figureAt x0 x1 M = some res) (hK : RK Y X (some (.int res)) M) : AW Y X 2 0 [(0, .ref (Y.2.2.2.1 x0)), (1, .int x1)] [] M := by
  unfold f_X3_figureAt at h
  refine a_iload_n C dX3_figureAt_0 1 rfl ?_
  refine a_aload_n C dX3_figureAt_1 0 rfl ?_
  refine a_geti C dX3_figureAt_2 fl_X3_26 rfl k0 ?_
  obtain ⟨r1, hcr1, h⟩ := bd_some h
  refine a_callNi C dX3_figureAt_5 (by decide) is_1 lm_X5_isBelow ⟨rfl, rfl, by decide, by decide⟩ (m_X5_isBelow C.2.2.2.2.2.2.1 hcr1) rfl rfl (Nat.le_of_ble_eq_true rfl) ?_
  refine a_if_eq (tgt := 23) C dX3_figureAt_8 (by decide) (fun hc => ?_) (fun hc => ?_)
  · replace h := ip hc h
    refine a_iconst (v := -1) C dX3_figureAt_23 (by decide) ?_
    replace h := Option.some.inj h
    subst h
    exact a_iret C dX3_figureAt_24 hK
  · replace h := iq hc h
    refine a_aload_n C dX3_figureAt_11 0 rfl ?_
    refine a_getr (k1 := (rf x0 0)) C dX3_figureAt_12 fl_X3_9 rfl k0 rfl ?_
    refine a_iload_n C dX3_figureAt_15 1 rfl ?_
    obtain ⟨hb, h⟩ := ck_some h
    refine a_iald C dX3_figureAt_16 (rk_3_0 k0) rfl hb ?_
    refine a_bipush (v := 48) C dX3_figureAt_17 (by decide) ?_
    refine a_isub C dX3_figureAt_19 ?_
    refine a_goto (tgt := 24) C dX3_figureAt_20 (by decide) ?_
    replace h := Option.some.inj h
    subst h
    exact a_iret C dX3_figureAt_24 hK
theorem m_X3_figureAt {Y : EY} (hY : HY Y) {x0 : Nat} {x1 : Int32} {M : Mem} (k0 : K x0 3) {r : Int32} (h : f_X3_figureAt x0 x1 M = some r) : MX Y yX3_figureAt cX3_figureAt 2 (some .int) rm_X3_figureAt [.ref (Y.2.2.2.1 x0), .int x1] M (some (.int r)) M := MX.of hY (by decide) (Nat.le_of_ble_eq_true rfl) (fun _ hR C => a_sub [0, 1] (t_X3_figureAt C k0 h hR) rfl)
abbrev rm_X3_fits : Room := { frames := 7, cells := 0, slots := 0, locals := 171 }
noncomputable def f_X3_fits_54  (M : Mem) : Option (Int32) :=
  some (0 : Int32)
theorem t_X3_fits_54 {Y : EY} {X : CX} (C : CK Y X cX3_fits RX3 4 (some .boolean) rm_X3_fits)  {M : Mem}  {res : Int32} (h : f_X3_fits_54 M = some res) (hK : RK Y X (some (.int res)) M) : AW Y X 4 54 [] [] M := by
  unfold f_X3_fits_54 at h
  refine a_iconst (v := 0) C dX3_fits_54 (by decide) ?_
  refine a_goto (tgt := 69) C dX3_fits_55 (by decide) ?_
  replace h := Option.some.inj h
  subst h
  exact a_zret C dX3_fits_69 rfl hK
noncomputable def f_X3_fits (x0 : Nat) (x1 : Int32) (x2 : Int32) (x3 : Int32) (M : Mem) : Option (Int32) :=
  (if x2 = 0 then (if (8 : Int32) ≤ x3 then some (0 : Int32) else (if (sIdx (rf x0 1) (toC x1)) < 0 then some (0 : Int32) else some (1 : Int32))) else (if (M x0 2) < x2 then (if x1 = (59 : Int32) then some (1 : Int32) else some (0 : Int32)) else (if x1 < (48 : Int32) then f_X3_fits_54 M else (if (M x0 3) < x1 then f_X3_fits_54 M else some (1 : Int32)))))
theorem t_X3_fits {Y : EY} {X : CX} (C : CK Y X cX3_fits RX3 4 (some .boolean) rm_X3_fits) {x0 : Nat} {x1 : Int32} {x2 : Int32} {x3 : Int32} {M : Mem} (k0 : K x0 3) {res : Int32} (h : f_X3_fits x0 x1 x2 x3 M = some res) (hK : RK Y X (some (.int res)) M) : AW Y X 4 0 [(0, .ref (Y.2.2.2.1 x0)), (1, .int x1), (2, .int x2), (3, .int x3)] [] M := by
  unfold f_X3_fits at h
  refine a_iload_n C dX3_fits_0 2 rfl ?_
  refine a_if_ne (tgt := 28) C dX3_fits_1 (by decide) (fun hc => ?_) (fun hc => ?_)
  · replace h := iq hc h
    refine a_iload_n C dX3_fits_28 2 rfl ?_
    refine a_aload_n C dX3_fits_29 0 rfl ?_
    refine a_geti C dX3_fits_30 fl_X3_19 rfl k0 ?_
    refine a_icmp_gt (tgt := 58) C dX3_fits_33 (by decide) (fun hc => ?_) (fun hc => ?_)
    · replace h := ip hc h
      refine a_iload_n C dX3_fits_58 1 rfl ?_
      refine a_bipush (v := 59) C dX3_fits_59 (by decide) ?_
      refine a_icmp_ne (tgt := 68) C dX3_fits_61 (by decide) (fun hc => ?_) (fun hc => ?_)
      · replace h := iq hc h
        refine a_iconst (v := 0) C dX3_fits_68 (by decide) ?_
        replace h := Option.some.inj h
        subst h
        exact a_zret C dX3_fits_69 rfl hK
      · replace h := ip hc h
        refine a_iconst (v := 1) C dX3_fits_64 (by decide) ?_
        refine a_goto (tgt := 69) C dX3_fits_65 (by decide) ?_
        replace h := Option.some.inj h
        subst h
        exact a_zret C dX3_fits_69 rfl hK
    · replace h := iq hc h
      refine a_iload_n C dX3_fits_36 1 rfl ?_
      refine a_bipush (v := 48) C dX3_fits_37 (by decide) ?_
      refine a_icmp_lt (tgt := 54) C dX3_fits_39 (by decide) (fun hc => ?_) (fun hc => ?_)
      · replace h := ip hc h
        exact a_sub [] (t_X3_fits_54 C h hK) rfl
      · replace h := iq hc h
        refine a_iload_n C dX3_fits_42 1 rfl ?_
        refine a_aload_n C dX3_fits_43 0 rfl ?_
        refine a_geti C dX3_fits_44 fl_X3_23 rfl k0 ?_
        refine a_icmp_gt (tgt := 54) C dX3_fits_47 (by decide) (fun hc => ?_) (fun hc => ?_)
        · replace h := ip hc h
          exact a_sub [] (t_X3_fits_54 C h hK) rfl
        · replace h := iq hc h
          refine a_iconst (v := 1) C dX3_fits_50 (by decide) ?_
          refine a_goto (tgt := 69) C dX3_fits_51 (by decide) ?_
          replace h := Option.some.inj h
          subst h
          exact a_zret C dX3_fits_69 rfl hK
  · replace h := ip hc h
    refine a_iload_n C dX3_fits_4 3 rfl ?_
    refine a_bipush (v := 8) C dX3_fits_5 (by decide) ?_
    refine a_icmp_ge (tgt := 26) C dX3_fits_7 (by decide) (fun hc => ?_) (fun hc => ?_)
    · replace h := ip hc h
      refine a_iconst (v := 0) C dX3_fits_26 (by decide) ?_
      replace h := Option.some.inj h
      subst h
      exact a_zret C dX3_fits_27 rfl hK
    · replace h := iq hc h
      refine a_aload_n C dX3_fits_10 0 rfl ?_
      refine a_getr (k1 := (rf x0 1)) C dX3_fits_11 fl_X3_15 rfl k0 rfl ?_
      refine a_iload_n C dX3_fits_14 1 rfl ?_
      refine a_i2c C dX3_fits_15 ?_
      refine a_sidx C dX3_fits_16 sx_X3_37 k0 ⟨rfl, rfl, by decide, by decide⟩ (Nat.le_of_ble_eq_true rfl) ?_
      refine a_if_lt (tgt := 26) C dX3_fits_19 (by decide) (fun hc => ?_) (fun hc => ?_)
      · replace h := ip hc h
        refine a_iconst (v := 0) C dX3_fits_26 (by decide) ?_
        replace h := Option.some.inj h
        subst h
        exact a_zret C dX3_fits_27 rfl hK
      · replace h := iq hc h
        refine a_iconst (v := 1) C dX3_fits_22 (by decide) ?_
        refine a_goto (tgt := 27) C dX3_fits_23 (by decide) ?_
        replace h := Option.some.inj h
        subst h
        exact a_zret C dX3_fits_27 rfl hK
theorem m_X3_fits {Y : EY} (hY : HY Y) {x0 : Nat} {x1 : Int32} {x2 : Int32} {x3 : Int32} {M : Mem} (k0 : K x0 3) {r : Int32} (h : f_X3_fits x0 x1 x2 x3 M = some r) : MX Y yX3_fits cX3_fits 4 (some .boolean) rm_X3_fits [.ref (Y.2.2.2.1 x0), .int x1, .int x2, .int x3] M (some (.int r)) M := MX.of hY (by decide) (Nat.le_of_ble_eq_true rfl) (fun _ hR C => a_sub [0, 1, 2, 3] (t_X3_fits C k0 h hR) rfl)
abbrev rm_X3_firstFault : Room := { frames := 8, cells := 0, slots := 0, locals := 194 }
abbrev At_X3_firstFault_15 (Y : EY) (X : CX) (x0 : Nat) (M : Mem) (s : Int32 × Int32 × Int32) : Prop := AW Y X 4 15 [(0, .ref (Y.2.2.2.1 x0)), (1, .int s.1), (2, .int s.2.1), (3, .int s.2.2)] [] M
abbrev Ex_X3_firstFault_15 (Y : EY) (X : CX) (x0 : Nat) (M : Mem) : ((Int32 × Int32 × Int32) ⊕ (Int32)) → Prop := KL (fun s : Int32 × Int32 × Int32 => AW Y X 4 78 [(0, .ref (Y.2.2.2.1 x0)), (2, .int s.2.1)] [] M) (fun res : Int32 => RK Y X (some (.int res)) M)
noncomputable def f_X3_firstFault_71_15 (x0 : Nat) (x1 : Int32) (x3 : Int32) (t0 : Int32) (M : Mem) : Option ((Int32 × Int32 × Int32) ⊕ ((Int32 × Int32 × Int32) ⊕ (Int32))) :=
  some (.inl (x1, t0, (x3 + (1 : Int32))))
theorem t_X3_firstFault_71_15 {Y : EY} {X : CX} (C : CK Y X cX3_firstFault RX3 4 (some .int) rm_X3_firstFault) {x0 : Nat} {x1 : Int32} {x3 : Int32} {t0 : Int32} {M : Mem} (k0 : K x0 3) {res : (Int32 × Int32 × Int32) ⊕ ((Int32 × Int32 × Int32) ⊕ (Int32))} (h : f_X3_firstFault_71_15 x0 x1 x3 t0 M = some res) (hK : KL (At_X3_firstFault_15 Y X x0 M) (Ex_X3_firstFault_15 Y X x0 M) res) : AW Y X 4 71 [(0, .ref (Y.2.2.2.1 x0)), (1, .int x1), (3, .int x3)] [.int t0] M := by
  unfold f_X3_firstFault_71_15 at h
  refine a_istore_n (lv' := [(2, _), (0, _), (1, _), (3, _)]) C dX3_firstFault_71 rfl (by decide) rfl ?_
  refine a_iinc (v := 1) (lv' := [(3, _), (2, _), (0, _), (1, _)]) C dX3_firstFault_72 3 rfl (by decide) (by decide) rfl ?_
  refine a_goto (tgt := 15) C dX3_firstFault_75 (by decide) ?_
  replace h := Option.some.inj h
  subst h
  exact a_sub [2, 3, 1, 0] (hK) rfl
noncomputable def f_X3_firstFault_56_15 (x0 : Nat) (x1 : Int32) (x2 : Int32) (x3 : Int32) (M : Mem) : Option ((Int32 × Int32 × Int32) ⊕ ((Int32 × Int32 × Int32) ⊕ (Int32))) :=
  (if x2 ≤ (M x0 2) then f_X3_firstFault_71_15 x0 x1 x3 (x2 + (1 : Int32)) M else f_X3_firstFault_71_15 x0 x1 x3 (0 : Int32) M)
theorem t_X3_firstFault_56_15 {Y : EY} {X : CX} (C : CK Y X cX3_firstFault RX3 4 (some .int) rm_X3_firstFault) {x0 : Nat} {x1 : Int32} {x2 : Int32} {x3 : Int32} {M : Mem} (k0 : K x0 3) {res : (Int32 × Int32 × Int32) ⊕ ((Int32 × Int32 × Int32) ⊕ (Int32))} (h : f_X3_firstFault_56_15 x0 x1 x2 x3 M = some res) (hK : KL (At_X3_firstFault_15 Y X x0 M) (Ex_X3_firstFault_15 Y X x0 M) res) : AW Y X 4 56 [(0, .ref (Y.2.2.2.1 x0)), (1, .int x1), (2, .int x2), (3, .int x3)] [] M := by
  unfold f_X3_firstFault_56_15 at h
  refine a_iload_n C dX3_firstFault_56 2 rfl ?_
  refine a_aload_n C dX3_firstFault_57 0 rfl ?_
  refine a_geti C dX3_firstFault_58 fl_X3_19 rfl k0 ?_
  refine a_icmp_le (tgt := 68) C dX3_firstFault_61 (by decide) (fun hc => ?_) (fun hc => ?_)
  · replace h := ip hc h
    refine a_iload_n C dX3_firstFault_68 2 rfl ?_
    refine a_iconst (v := 1) C dX3_firstFault_69 (by decide) ?_
    refine a_iadd C dX3_firstFault_70 ?_
    exact a_sub [0, 1, 3] (t_X3_firstFault_71_15 C k0 h hK) rfl
  · replace h := iq hc h
    refine a_iconst (v := 0) C dX3_firstFault_64 (by decide) ?_
    refine a_goto (tgt := 71) C dX3_firstFault_65 (by decide) ?_
    exact a_sub [0, 1, 3] (t_X3_firstFault_71_15 C k0 h hK) rfl
noncomputable def f_X3_firstFault_15_15b (x0 : Nat) (x1 : Int32) (x2 : Int32) (x3 : Int32) (M : Mem) : Option ((Int32 × Int32 × Int32) ⊕ ((Int32 × Int32 × Int32) ⊕ (Int32))) :=
  (if (M x0 4) ≤ x3 then some (.inr (.inl (x1, x2, x3))) else (if (Int32.ofNat (ln (rf x0 0))) ≤ x3 then some (.inr (.inl (x1, x2, x3))) else ck (inb x3 (ln (rf x0 0))) (Option.bind (f_X3_fits x0 (M (rf x0 0) (x3).toNatClampNeg) x2 x1 M) (fun r1 => (if r1 = 0 then some (.inr (.inr x3)) else (if x2 = 0 then f_X3_firstFault_56_15 x0 (x1 + (1 : Int32)) x2 x3 M else f_X3_firstFault_56_15 x0 x1 x2 x3 M))))))
theorem t_X3_firstFault_15_15b {Y : EY} {X : CX} (C : CK Y X cX3_firstFault RX3 4 (some .int) rm_X3_firstFault) {x0 : Nat} {x1 : Int32} {x2 : Int32} {x3 : Int32} {M : Mem} (k0 : K x0 3) {res : (Int32 × Int32 × Int32) ⊕ ((Int32 × Int32 × Int32) ⊕ (Int32))} (h : f_X3_firstFault_15_15b x0 x1 x2 x3 M = some res) (hK : KL (At_X3_firstFault_15 Y X x0 M) (Ex_X3_firstFault_15 Y X x0 M) res) : AW Y X 4 15 [(0, .ref (Y.2.2.2.1 x0)), (1, .int x1), (2, .int x2), (3, .int x3)] [] M := by
  unfold f_X3_firstFault_15_15b at h
  refine a_iload_n C dX3_firstFault_15 3 rfl ?_
  refine a_aload_n C dX3_firstFault_16 0 rfl ?_
  refine a_geti C dX3_firstFault_17 fl_X3_26 rfl k0 ?_
  refine a_icmp_ge (tgt := 78) C dX3_firstFault_20 (by decide) (fun hc => ?_) (fun hc => ?_)
  · replace h := ip hc h
    replace h := Option.some.inj h
    subst h
    exact a_sub [0, 2] (hK) rfl
  · replace h := iq hc h
    refine a_iload_n C dX3_firstFault_23 3 rfl ?_
    refine a_aload_n C dX3_firstFault_24 0 rfl ?_
    refine a_getr (k1 := (rf x0 0)) C dX3_firstFault_25 fl_X3_9 rfl k0 rfl ?_
    refine a_alen (v := Int32.ofNat (ln (rf x0 0))) C dX3_firstFault_28 (rk_3_0 k0) rfl ?_
    refine a_icmp_ge (tgt := 78) C dX3_firstFault_29 (by decide) (fun hc => ?_) (fun hc => ?_)
    · replace h := ip hc h
      replace h := Option.some.inj h
      subst h
      exact a_sub [0, 2] (hK) rfl
    · replace h := iq hc h
      refine a_aload_n C dX3_firstFault_32 0 rfl ?_
      refine a_aload_n C dX3_firstFault_33 0 rfl ?_
      refine a_getr (k1 := (rf x0 0)) C dX3_firstFault_34 fl_X3_9 rfl k0 rfl ?_
      refine a_iload_n C dX3_firstFault_37 3 rfl ?_
      obtain ⟨hb, h⟩ := ck_some h
      refine a_iald C dX3_firstFault_38 (rk_3_0 k0) rfl hb ?_
      refine a_iload_n C dX3_firstFault_39 2 rfl ?_
      refine a_iload_n C dX3_firstFault_40 1 rfl ?_
      obtain ⟨r1, hcr1, h⟩ := bd_some h
      refine a_callVi C dX3_firstFault_41 lv_X3_33 lm_X3_fits ⟨rfl, rfl, by decide, by decide⟩ k0 (m_X3_fits C.2.2.2.2.2.2.1 k0 hcr1) rfl rfl (Nat.le_of_ble_eq_true rfl) ?_
      refine a_if_ne (tgt := 49) C dX3_firstFault_44 (by decide) (fun hc => ?_) (fun hc => ?_)
      · replace h := iq hc h
        refine a_iload_n C dX3_firstFault_49 2 rfl ?_
        refine a_if_ne (tgt := 56) C dX3_firstFault_50 (by decide) (fun hc => ?_) (fun hc => ?_)
        · replace h := iq hc h
          exact a_sub [0, 1, 2, 3] (t_X3_firstFault_56_15 C k0 h hK) rfl
        · replace h := ip hc h
          refine a_iinc (v := 1) (lv' := [(1, _), (0, _), (2, _), (3, _)]) C dX3_firstFault_53 1 rfl (by decide) (by decide) rfl ?_
          exact a_sub [1, 0, 2, 3] (t_X3_firstFault_56_15 C k0 h hK) rfl
      · replace h := ip hc h
        refine a_iload_n C dX3_firstFault_47 3 rfl ?_
        replace h := Option.some.inj h
        subst h
        exact a_iret C dX3_firstFault_48 hK
noncomputable def f_X3_firstFault_78 (x0 : Nat) (x2 : Int32) (M : Mem) : Option (Int32) :=
  (if x2 = ((M x0 2) + (1 : Int32)) then some (-1 : Int32) else some (M x0 4))
theorem t_X3_firstFault_78 {Y : EY} {X : CX} (C : CK Y X cX3_firstFault RX3 4 (some .int) rm_X3_firstFault) {x0 : Nat} {x2 : Int32} {M : Mem} (k0 : K x0 3) {res : Int32} (h : f_X3_firstFault_78 x0 x2 M = some res) (hK : RK Y X (some (.int res)) M) : AW Y X 4 78 [(0, .ref (Y.2.2.2.1 x0)), (2, .int x2)] [] M := by
  unfold f_X3_firstFault_78 at h
  refine a_iload_n C dX3_firstFault_78 1 rfl ?_
  refine a_aload_n C dX3_firstFault_79 0 rfl ?_
  refine a_geti C dX3_firstFault_80 fl_X3_19 rfl k0 ?_
  refine a_iconst (v := 1) C dX3_firstFault_83 (by decide) ?_
  refine a_iadd C dX3_firstFault_84 ?_
  refine a_icmp_ne (tgt := 92) C dX3_firstFault_85 (by decide) (fun hc => ?_) (fun hc => ?_)
  · replace h := iq hc h
    refine a_aload_n C dX3_firstFault_92 0 rfl ?_
    refine a_geti C dX3_firstFault_93 fl_X3_26 rfl k0 ?_
    replace h := Option.some.inj h
    subst h
    exact a_iret C dX3_firstFault_96 hK
  · replace h := ip hc h
    refine a_iconst (v := -1) C dX3_firstFault_88 (by decide) ?_
    refine a_goto (tgt := 96) C dX3_firstFault_89 (by decide) ?_
    replace h := Option.some.inj h
    subst h
    exact a_iret C dX3_firstFault_96 hK
noncomputable def f_X3_firstFault (x0 : Nat) (M : Mem) : Option (Int32) :=
  (if (M x0 4) = 0 then some (-1 : Int32) else Option.bind (loop (fun s2 : Int32 × Int32 × Int32 => f_X3_firstFault_15_15b x0 s2.1 s2.2.1 s2.2.2 M) ((0 : Int32), (0 : Int32), (0 : Int32))) (eo (fun s3 => f_X3_firstFault_78 x0 s3.2.1 M) (fun r4 => some r4)))
theorem t_X3_firstFault {Y : EY} {X : CX} (C : CK Y X cX3_firstFault RX3 4 (some .int) rm_X3_firstFault) {x0 : Nat} {M : Mem} (k0 : K x0 3) {res : Int32} (h : f_X3_firstFault x0 M = some res) (hK : RK Y X (some (.int res)) M) : AW Y X 4 0 [(0, .ref (Y.2.2.2.1 x0))] [] M := by
  unfold f_X3_firstFault at h
  refine a_aload_n C dX3_firstFault_0 0 rfl ?_
  refine a_geti C dX3_firstFault_1 fl_X3_26 rfl k0 ?_
  refine a_if_ne (tgt := 9) C dX3_firstFault_4 (by decide) (fun hc => ?_) (fun hc => ?_)
  · replace h := iq hc h
    refine a_iconst (v := 0) C dX3_firstFault_9 (by decide) ?_
    refine a_istore_n (lv' := [(1, _), (0, _)]) C dX3_firstFault_10 rfl (by decide) rfl ?_
    refine a_iconst (v := 0) C dX3_firstFault_11 (by decide) ?_
    refine a_istore_n (lv' := [(2, _), (1, _), (0, _)]) C dX3_firstFault_12 rfl (by decide) rfl ?_
    refine a_iconst (v := 0) C dX3_firstFault_13 (by decide) ?_
    refine a_istore_n (lv' := [(3, _), (2, _), (1, _), (0, _)]) C dX3_firstFault_14 rfl (by decide) rfl ?_
    obtain ⟨ee, hl, h⟩ := bd_some h
    have hE : Ex_X3_firstFault_15 Y X x0 M ee := by
      cases ee with
      | inl s3 =>
        exact a_sub [0, 1] (t_X3_firstFault_78 C k0 h hK) rfl
      | inr r4 =>
        replace h := Option.some.inj h
        subst h
        exact hK
    have hA := aw_loop (At_X3_firstFault_15 Y X x0 M) (Ex_X3_firstFault_15 Y X x0 M) (fun _ _ hb hk => t_X3_firstFault_15_15b C k0 hb hk) hl hE
    exact a_sub [3, 2, 1, 0] (hA) rfl
  · replace h := ip hc h
    refine a_iconst (v := -1) C dX3_firstFault_7 (by decide) ?_
    replace h := Option.some.inj h
    subst h
    exact a_iret C dX3_firstFault_8 hK
theorem m_X3_firstFault {Y : EY} (hY : HY Y) {x0 : Nat} {M : Mem} (k0 : K x0 3) {r : Int32} (h : f_X3_firstFault x0 M = some r) : MX Y yX3_firstFault cX3_firstFault 4 (some .int) rm_X3_firstFault [.ref (Y.2.2.2.1 x0)] M (some (.int r)) M := MX.of hY (by decide) (Nat.le_of_ble_eq_true rfl) (fun _ hR C => a_sub [0] (t_X3_firstFault C k0 h hR) rfl)
abbrev rm_X3_sortAt : Room := { frames := 7, cells := 0, slots := 0, locals := 171 }
noncomputable def f_X3_sortAt (x0 : Nat) (x1 : Int32) (M : Mem) : Option (Int32) :=
  Option.bind (f_X5_isBelow x1 (M x0 4)) (fun r1 => (if r1 = 0 then some (-1 : Int32) else ck (inb x1 (ln (rf x0 0))) (some (sIdx (rf x0 1) (toC (M (rf x0 0) (x1).toNatClampNeg))))))
theorem t_X3_sortAt {Y : EY} {X : CX} (C : CK Y X cX3_sortAt RX3 2 (some .int) rm_X3_sortAt) {x0 : Nat} {x1 : Int32} {M : Mem} (k0 : K x0 3) {res : Int32} (h : f_X3_sortAt x0 x1 M = some res) (hK : RK Y X (some (.int res)) M) : AW Y X 2 0 [(0, .ref (Y.2.2.2.1 x0)), (1, .int x1)] [] M := by
  unfold f_X3_sortAt at h
  refine a_iload_n C dX3_sortAt_0 1 rfl ?_
  refine a_aload_n C dX3_sortAt_1 0 rfl ?_
  refine a_geti C dX3_sortAt_2 fl_X3_26 rfl k0 ?_
  obtain ⟨r1, hcr1, h⟩ := bd_some h
  refine a_callNi C dX3_sortAt_5 (by decide) is_1 lm_X5_isBelow ⟨rfl, rfl, by decide, by decide⟩ (m_X5_isBelow C.2.2.2.2.2.2.1 hcr1) rfl rfl (Nat.le_of_ble_eq_true rfl) ?_
  refine a_if_eq (tgt := 28) C dX3_sortAt_8 (by decide) (fun hc => ?_) (fun hc => ?_)
  · replace h := ip hc h
    refine a_iconst (v := -1) C dX3_sortAt_28 (by decide) ?_
    replace h := Option.some.inj h
    subst h
    exact a_iret C dX3_sortAt_29 hK
  · replace h := iq hc h
    refine a_aload_n C dX3_sortAt_11 0 rfl ?_
    refine a_getr (k1 := (rf x0 1)) C dX3_sortAt_12 fl_X3_15 rfl k0 rfl ?_
    refine a_aload_n C dX3_sortAt_15 0 rfl ?_
    refine a_getr (k1 := (rf x0 0)) C dX3_sortAt_16 fl_X3_9 rfl k0 rfl ?_
    refine a_iload_n C dX3_sortAt_19 1 rfl ?_
    obtain ⟨hb, h⟩ := ck_some h
    refine a_iald C dX3_sortAt_20 (rk_3_0 k0) rfl hb ?_
    refine a_i2c C dX3_sortAt_21 ?_
    refine a_sidx C dX3_sortAt_22 sx_X3_37 k0 ⟨rfl, rfl, by decide, by decide⟩ (Nat.le_of_ble_eq_true rfl) ?_
    refine a_goto (tgt := 29) C dX3_sortAt_25 (by decide) ?_
    replace h := Option.some.inj h
    subst h
    exact a_iret C dX3_sortAt_29 hK
theorem m_X3_sortAt {Y : EY} (hY : HY Y) {x0 : Nat} {x1 : Int32} {M : Mem} (k0 : K x0 3) {r : Int32} (h : f_X3_sortAt x0 x1 M = some r) : MX Y yX3_sortAt cX3_sortAt 2 (some .int) rm_X3_sortAt [.ref (Y.2.2.2.1 x0), .int x1] M (some (.int r)) M := MX.of hY (by decide) (Nat.le_of_ble_eq_true rfl) (fun _ hR C => a_sub [0, 1] (t_X3_sortAt C k0 h hR) rfl)
abbrev rm_X1_takeAccents : Room := { frames := 9, cells := 0, slots := 0, locals := 217 }
abbrev At_X1_takeAccents_18 (Y : EY) (X : CX) (x0 : Nat) (x1 : Nat) (s : Int32 × Int32 × Mem) : Prop := AW Y X 5 18 [(0, .ref (Y.2.2.2.1 x0)), (1, .ref (Y.2.2.2.1 x1)), (2, .int s.1), (3, .int s.2.1)] [] s.2.2
abbrev Ex_X1_takeAccents_18 (Y : EY) (X : CX) (x0 : Nat) (x1 : Nat) (s : Int32 × Int32 × Mem) : Prop := AW Y X 5 98 [] [] s.2.2
abbrev At_X1_takeAccents_46 (Y : EY) (X : CX) (x0 : Nat) (x1 : Nat) (x2 : Int32) (x3 : Int32) (s : Int32 × Mem) : Prop := AW Y X 5 46 [(0, .ref (Y.2.2.2.1 x0)), (1, .ref (Y.2.2.2.1 x1)), (2, .int x2), (3, .int x3), (4, .int s.1)] [] s.2
abbrev Ex_X1_takeAccents_46 (Y : EY) (X : CX) (x0 : Nat) (x1 : Nat) (x2 : Int32) (x3 : Int32) (s : Int32 × Mem) : Prop := AW Y X 5 79 [(0, .ref (Y.2.2.2.1 x0)), (1, .ref (Y.2.2.2.1 x1)), (2, .int x2), (3, .int x3)] [] s.2
noncomputable def f_X1_takeAccents_46_46b (x0 : Nat) (x1 : Nat) (x2 : Int32) (x3 : Int32) (x4 : Int32) (M : Mem) : Option ((Int32 × Mem) ⊕ (Int32 × Mem)) :=
  (if (5 : Int32) ≤ x4 then some (.inr (x4, M)) else Option.bind (f_X3_figureAt x1 ((x2 + (1 : Int32)) + x4) M) (fun r3 => ck (inb ((x3 * (5 : Int32)) + x4) 40) (some (.inl ((x4 + (1 : Int32)), (upM M (rf x0 2) (((x3 * (5 : Int32)) + x4)).toNatClampNeg r3))))))
theorem t_X1_takeAccents_46_46b {Y : EY} {X : CX} (C : CK Y X cX1_takeAccents RX1 5 none rm_X1_takeAccents) {x0 : Nat} {x1 : Nat} {x2 : Int32} {x3 : Int32} {x4 : Int32} {M : Mem} (k0 : K x0 1) (k1 : K x1 3) {res : (Int32 × Mem) ⊕ (Int32 × Mem)} (h : f_X1_takeAccents_46_46b x0 x1 x2 x3 x4 M = some res) (hK : KL (At_X1_takeAccents_46 Y X x0 x1 x2 x3) (Ex_X1_takeAccents_46 Y X x0 x1 x2 x3) res) : AW Y X 5 46 [(0, .ref (Y.2.2.2.1 x0)), (1, .ref (Y.2.2.2.1 x1)), (2, .int x2), (3, .int x3), (4, .int x4)] [] M := by
  unfold f_X1_takeAccents_46_46b at h
  refine a_iload C dX1_takeAccents_46 4 rfl ?_
  refine a_iconst (v := 5) C dX1_takeAccents_48 (by decide) ?_
  refine a_icmp_ge (tgt := 79) C dX1_takeAccents_49 (by decide) (fun hc => ?_) (fun hc => ?_)
  · replace h := ip hc h
    replace h := Option.some.inj h
    subst h
    exact a_sub [0, 1, 2, 3] (hK) rfl
  · replace h := iq hc h
    refine a_aload_n C dX1_takeAccents_52 0 rfl ?_
    refine a_getr (k1 := (rf x0 2)) C dX1_takeAccents_53 fl_X1_15 rfl k0 rfl ?_
    refine a_iload_n C dX1_takeAccents_56 3 rfl ?_
    refine a_iconst (v := 5) C dX1_takeAccents_57 (by decide) ?_
    refine a_imul C dX1_takeAccents_58 ?_
    refine a_iload C dX1_takeAccents_59 4 rfl ?_
    refine a_iadd C dX1_takeAccents_61 ?_
    refine a_aload_n C dX1_takeAccents_62 1 rfl ?_
    refine a_iload_n C dX1_takeAccents_63 2 rfl ?_
    refine a_iconst (v := 1) C dX1_takeAccents_64 (by decide) ?_
    refine a_iadd C dX1_takeAccents_65 ?_
    refine a_iload C dX1_takeAccents_66 4 rfl ?_
    refine a_iadd C dX1_takeAccents_68 ?_
    obtain ⟨r3, hcr3, h⟩ := bd_some h
    refine a_callVi C dX1_takeAccents_69 lv_X1_53 lm_X3_figureAt ⟨rfl, rfl, by decide, by decide⟩ k1 (m_X3_figureAt C.2.2.2.2.2.2.1 k1 hcr3) rfl rfl (Nat.le_of_ble_eq_true rfl) ?_
    obtain ⟨hb, h⟩ := ck_some h
    refine a_iast C dX1_takeAccents_72 (rk_1_2 k0) (rl_1_2 k0) hb ?_
    refine a_iinc (v := 1) (lv' := [(4, _), (0, _), (1, _), (2, _), (3, _)]) C dX1_takeAccents_73 4 rfl (by decide) (by decide) rfl ?_
    refine a_goto (tgt := 46) C dX1_takeAccents_76 (by decide) ?_
    replace h := Option.some.inj h
    subst h
    exact a_sub [1, 2, 3, 4, 0] (hK) rfl
noncomputable def f_X1_takeAccents_18_18b (x0 : Nat) (x1 : Nat) (x2 : Int32) (x3 : Int32) (M : Mem) : Option ((Int32 × Int32 × Mem) ⊕ (Int32 × Int32 × Mem)) :=
  (if (8 : Int32) ≤ x3 then some (.inr (x2, x3, M)) else (if (M x1 4) ≤ x2 then some (.inr (x2, x3, M)) else Option.bind (f_X3_sortAt x1 x2 M) (fun r2 => ck (inb x3 8) (Option.bind (loop (fun s4 : Int32 × Mem => f_X1_takeAccents_46_46b x0 x1 x2 x3 s4.1 s4.2) ((0 : Int32), (upM M (rf x0 1) (x3).toNatClampNeg r2))) (fun s5 => some (.inl ((x2 + (7 : Int32)), (x3 + (1 : Int32)), (upM s5.2 x0 0 ((s5.2 x0 0) + (1 : Int32))))))))))
theorem t_X1_takeAccents_18_18b {Y : EY} {X : CX} (C : CK Y X cX1_takeAccents RX1 5 none rm_X1_takeAccents) {x0 : Nat} {x1 : Nat} {x2 : Int32} {x3 : Int32} {M : Mem} (k0 : K x0 1) (k1 : K x1 3) {res : (Int32 × Int32 × Mem) ⊕ (Int32 × Int32 × Mem)} (h : f_X1_takeAccents_18_18b x0 x1 x2 x3 M = some res) (hK : KL (At_X1_takeAccents_18 Y X x0 x1) (Ex_X1_takeAccents_18 Y X x0 x1) res) : AW Y X 5 18 [(0, .ref (Y.2.2.2.1 x0)), (1, .ref (Y.2.2.2.1 x1)), (2, .int x2), (3, .int x3)] [] M := by
  unfold f_X1_takeAccents_18_18b at h
  refine a_iload_n C dX1_takeAccents_18 3 rfl ?_
  refine a_bipush (v := 8) C dX1_takeAccents_19 (by decide) ?_
  refine a_icmp_ge (tgt := 98) C dX1_takeAccents_21 (by decide) (fun hc => ?_) (fun hc => ?_)
  · replace h := ip hc h
    replace h := Option.some.inj h
    subst h
    exact a_sub [] (hK) rfl
  · replace h := iq hc h
    refine a_iload_n C dX1_takeAccents_24 2 rfl ?_
    refine a_aload_n C dX1_takeAccents_25 1 rfl ?_
    refine a_geti C dX1_takeAccents_26 fl_X1_46 rfl k1 ?_
    refine a_icmp_ge (tgt := 98) C dX1_takeAccents_29 (by decide) (fun hc => ?_) (fun hc => ?_)
    · replace h := ip hc h
      replace h := Option.some.inj h
      subst h
      exact a_sub [] (hK) rfl
    · replace h := iq hc h
      refine a_aload_n C dX1_takeAccents_32 0 rfl ?_
      refine a_getr (k1 := (rf x0 1)) C dX1_takeAccents_33 fl_X1_9 rfl k0 rfl ?_
      refine a_iload_n C dX1_takeAccents_36 3 rfl ?_
      refine a_aload_n C dX1_takeAccents_37 1 rfl ?_
      refine a_iload_n C dX1_takeAccents_38 2 rfl ?_
      obtain ⟨r2, hcr2, h⟩ := bd_some h
      refine a_callVi C dX1_takeAccents_39 lv_X1_49 lm_X3_sortAt ⟨rfl, rfl, by decide, by decide⟩ k1 (m_X3_sortAt C.2.2.2.2.2.2.1 k1 hcr2) rfl rfl (Nat.le_of_ble_eq_true rfl) ?_
      obtain ⟨hb, h⟩ := ck_some h
      refine a_iast C dX1_takeAccents_42 (rk_1_1 k0) (rl_1_1 k0) hb ?_
      refine a_iconst (v := 0) C dX1_takeAccents_43 (by decide) ?_
      refine a_istore (lv' := [(4, _), (0, _), (1, _), (2, _), (3, _)]) C dX1_takeAccents_44 (by decide) rfl ?_
      obtain ⟨s5, hl, h⟩ := bd_some h
      have hE : Ex_X1_takeAccents_46 Y X x0 x1 x2 x3 s5 := by
        refine a_iinc (v := 7) (lv' := [(2, _), (0, _), (1, _), (3, _)]) C dX1_takeAccents_79 2 rfl (by decide) (by decide) rfl ?_
        refine a_aload_n C dX1_takeAccents_82 1 rfl ?_
        refine a_dup C dX1_takeAccents_83 rfl ?_
        refine a_geti C dX1_takeAccents_84 fl_X1_33 rfl k0 ?_
        refine a_iconst (v := 1) C dX1_takeAccents_87 (by decide) ?_
        refine a_iadd C dX1_takeAccents_88 ?_
        refine a_put (ty := .int) C dX1_takeAccents_89 fl_X1_33 (fp_1_0) rfl k0 rfl rfl ?_
        refine a_iinc (v := 1) (lv' := [(3, _), (2, _), (0, _), (1, _)]) C dX1_takeAccents_92 3 rfl (by decide) (by decide) rfl ?_
        refine a_goto (tgt := 18) C dX1_takeAccents_95 (by decide) ?_
        replace h := Option.some.inj h
        subst h
        exact a_sub [2, 3, 1, 0] (hK) rfl
      have hA := aw_loop (At_X1_takeAccents_46 Y X x0 x1 x2 x3) (Ex_X1_takeAccents_46 Y X x0 x1 x2 x3) (fun _ _ hb hk => t_X1_takeAccents_46_46b C k0 k1 hb hk) hl hE
      exact a_sub [1, 2, 3, 4, 0] (hA) rfl
noncomputable def f_X1_takeAccents (x0 : Nat) (x1 : Nat) (M : Mem) : Option (Mem) :=
  Option.bind (f_X3_firstFault x1 (upM M x0 0 (0 : Int32))) (fun r1 => (if r1 = (-1 : Int32) then Option.bind (loop (fun s6 : Int32 × Int32 × Mem => f_X1_takeAccents_18_18b x0 x1 s6.1 s6.2.1 s6.2.2) ((0 : Int32), (0 : Int32), (upM M x0 0 (0 : Int32)))) (fun s7 => some s7.2.2) else some (upM M x0 0 (0 : Int32))))
theorem t_X1_takeAccents {Y : EY} {X : CX} (C : CK Y X cX1_takeAccents RX1 5 none rm_X1_takeAccents) {x0 : Nat} {x1 : Nat} {M : Mem} (k0 : K x0 1) (k1 : K x1 3) {res : Mem} (h : f_X1_takeAccents x0 x1 M = some res) (hK : RK Y X none res) : AW Y X 5 0 [(0, .ref (Y.2.2.2.1 x0)), (1, .ref (Y.2.2.2.1 x1))] [] M := by
  unfold f_X1_takeAccents at h
  refine a_aload_n C dX1_takeAccents_0 0 rfl ?_
  refine a_iconst (v := 0) C dX1_takeAccents_1 (by decide) ?_
  refine a_put (ty := .int) C dX1_takeAccents_2 fl_X1_33 (fp_1_0) rfl k0 rfl rfl ?_
  refine a_aload_n C dX1_takeAccents_5 1 rfl ?_
  obtain ⟨r1, hcr1, h⟩ := bd_some h
  refine a_callVi C dX1_takeAccents_6 lv_X1_40 lm_X3_firstFault ⟨rfl, rfl, by decide, by decide⟩ k1 (m_X3_firstFault C.2.2.2.2.2.2.1 k1 hcr1) rfl rfl (Nat.le_of_ble_eq_true rfl) ?_
  refine a_iconst (v := -1) C dX1_takeAccents_9 (by decide) ?_
  refine a_icmp_eq (tgt := 14) C dX1_takeAccents_10 (by decide) (fun hc => ?_) (fun hc => ?_)
  · replace h := ip hc h
    refine a_iconst (v := 0) C dX1_takeAccents_14 (by decide) ?_
    refine a_istore_n (lv' := [(2, _), (0, _), (1, _)]) C dX1_takeAccents_15 rfl (by decide) rfl ?_
    refine a_iconst (v := 0) C dX1_takeAccents_16 (by decide) ?_
    refine a_istore_n (lv' := [(3, _), (2, _), (0, _), (1, _)]) C dX1_takeAccents_17 rfl (by decide) rfl ?_
    obtain ⟨s7, hl, h⟩ := bd_some h
    have hE : Ex_X1_takeAccents_18 Y X x0 x1 s7 := by
      replace h := Option.some.inj h
      subst h
      exact a_vret C dX1_takeAccents_98 hK
    have hA := aw_loop (At_X1_takeAccents_18 Y X x0 x1) (Ex_X1_takeAccents_18 Y X x0 x1) (fun _ _ hb hk => t_X1_takeAccents_18_18b C k0 k1 hb hk) hl hE
    exact a_sub [2, 3, 1, 0] (hA) rfl
  · replace h := iq hc h
    replace h := Option.some.inj h
    subst h
    exact a_vret C dX1_takeAccents_13 hK
theorem m_X1_takeAccents {Y : EY} (hY : HY Y) {x0 : Nat} {x1 : Nat} {M : Mem} (k0 : K x0 1) (k1 : K x1 3) {r : Mem} (h : f_X1_takeAccents x0 x1 M = some r) : MX Y yX1_takeAccents cX1_takeAccents 5 none rm_X1_takeAccents [.ref (Y.2.2.2.1 x0), .ref (Y.2.2.2.1 x1)] M (none) r := MX.of hY (by decide) (Nat.le_of_ble_eq_true rfl) (fun _ hR C => a_sub [0, 1] (t_X1_takeAccents C k0 k1 h hR) rfl)
abbrev rm_X1_takePeople : Room := { frames := 9, cells := 0, slots := 0, locals := 217 }
abbrev At_X1_takePeople_18 (Y : EY) (X : CX) (x0 : Nat) (x1 : Nat) (s : Int32 × Int32 × Mem) : Prop := AW Y X 4 18 [(0, .ref (Y.2.2.2.1 x0)), (1, .ref (Y.2.2.2.1 x1)), (2, .int s.1), (3, .int s.2.1)] [] s.2.2
abbrev Ex_X1_takePeople_18 (Y : EY) (X : CX) (x0 : Nat) (x1 : Nat) (s : Int32 × Int32 × Mem) : Prop := AW Y X 4 75 [] [] s.2.2
noncomputable def f_X1_takePeople_18_18b (x0 : Nat) (x1 : Nat) (x2 : Int32) (x3 : Int32) (M : Mem) : Option ((Int32 × Int32 × Mem) ⊕ (Int32 × Int32 × Mem)) :=
  (if (8 : Int32) ≤ x3 then some (.inr (x2, x3, M)) else (if (M x1 4) ≤ x2 then some (.inr (x2, x3, M)) else Option.bind (f_X3_sortAt x1 x2 M) (fun r2 => ck (inb x3 8) (Option.bind (f_X3_figureAt x1 (x2 + (1 : Int32)) (upM M (rf x0 4) (x3).toNatClampNeg r2)) (fun r3 => ck (inb x3 8) (some (.inl ((x2 + (3 : Int32)), (x3 + (1 : Int32)), (upM (upM (upM M (rf x0 4) (x3).toNatClampNeg r2) (rf x0 5) (x3).toNatClampNeg r3) x0 3 (((upM (upM M (rf x0 4) (x3).toNatClampNeg r2) (rf x0 5) (x3).toNatClampNeg r3) x0 3) + (1 : Int32)))))))))))
theorem t_X1_takePeople_18_18b {Y : EY} {X : CX} (C : CK Y X cX1_takePeople RX1 4 none rm_X1_takePeople) {x0 : Nat} {x1 : Nat} {x2 : Int32} {x3 : Int32} {M : Mem} (k0 : K x0 1) (k1 : K x1 3) {res : (Int32 × Int32 × Mem) ⊕ (Int32 × Int32 × Mem)} (h : f_X1_takePeople_18_18b x0 x1 x2 x3 M = some res) (hK : KL (At_X1_takePeople_18 Y X x0 x1) (Ex_X1_takePeople_18 Y X x0 x1) res) : AW Y X 4 18 [(0, .ref (Y.2.2.2.1 x0)), (1, .ref (Y.2.2.2.1 x1)), (2, .int x2), (3, .int x3)] [] M := by
  unfold f_X1_takePeople_18_18b at h
  refine a_iload_n C dX1_takePeople_18 3 rfl ?_
  refine a_bipush (v := 8) C dX1_takePeople_19 (by decide) ?_
  refine a_icmp_ge (tgt := 75) C dX1_takePeople_21 (by decide) (fun hc => ?_) (fun hc => ?_)
  · replace h := ip hc h
    replace h := Option.some.inj h
    subst h
    exact a_sub [] (hK) rfl
  · replace h := iq hc h
    refine a_iload_n C dX1_takePeople_24 2 rfl ?_
    refine a_aload_n C dX1_takePeople_25 1 rfl ?_
    refine a_geti C dX1_takePeople_26 fl_X1_46 rfl k1 ?_
    refine a_icmp_ge (tgt := 75) C dX1_takePeople_29 (by decide) (fun hc => ?_) (fun hc => ?_)
    · replace h := ip hc h
      replace h := Option.some.inj h
      subst h
      exact a_sub [] (hK) rfl
    · replace h := iq hc h
      refine a_aload_n C dX1_takePeople_32 0 rfl ?_
      refine a_getr (k1 := (rf x0 4)) C dX1_takePeople_33 fl_X1_18 rfl k0 rfl ?_
      refine a_iload_n C dX1_takePeople_36 3 rfl ?_
      refine a_aload_n C dX1_takePeople_37 1 rfl ?_
      refine a_iload_n C dX1_takePeople_38 2 rfl ?_
      obtain ⟨r2, hcr2, h⟩ := bd_some h
      refine a_callVi C dX1_takePeople_39 lv_X1_49 lm_X3_sortAt ⟨rfl, rfl, by decide, by decide⟩ k1 (m_X3_sortAt C.2.2.2.2.2.2.1 k1 hcr2) rfl rfl (Nat.le_of_ble_eq_true rfl) ?_
      obtain ⟨hb, h⟩ := ck_some h
      refine a_iast C dX1_takePeople_42 (rk_1_4 k0) (rl_1_4 k0) hb ?_
      refine a_aload_n C dX1_takePeople_43 0 rfl ?_
      refine a_getr (k1 := (rf x0 5)) C dX1_takePeople_44 fl_X1_21 rfl k0 rfl ?_
      refine a_iload_n C dX1_takePeople_47 3 rfl ?_
      refine a_aload_n C dX1_takePeople_48 1 rfl ?_
      refine a_iload_n C dX1_takePeople_49 2 rfl ?_
      refine a_iconst (v := 1) C dX1_takePeople_50 (by decide) ?_
      refine a_iadd C dX1_takePeople_51 ?_
      obtain ⟨r3, hcr3, h⟩ := bd_some h
      refine a_callVi C dX1_takePeople_52 lv_X1_53 lm_X3_figureAt ⟨rfl, rfl, by decide, by decide⟩ k1 (m_X3_figureAt C.2.2.2.2.2.2.1 k1 hcr3) rfl rfl (Nat.le_of_ble_eq_true rfl) ?_
      obtain ⟨hb, h⟩ := ck_some h
      refine a_iast C dX1_takePeople_55 (rk_1_5 k0) (rl_1_5 k0) hb ?_
      refine a_iinc (v := 3) (lv' := [(2, _), (0, _), (1, _), (3, _)]) C dX1_takePeople_56 2 rfl (by decide) (by decide) rfl ?_
      refine a_aload_n C dX1_takePeople_59 1 rfl ?_
      refine a_dup C dX1_takePeople_60 rfl ?_
      refine a_geti C dX1_takePeople_61 fl_X1_37 rfl k0 ?_
      refine a_iconst (v := 1) C dX1_takePeople_64 (by decide) ?_
      refine a_iadd C dX1_takePeople_65 ?_
      refine a_put (ty := .int) C dX1_takePeople_66 fl_X1_37 (fp_1_3) rfl k0 rfl rfl ?_
      refine a_iinc (v := 1) (lv' := [(3, _), (2, _), (0, _), (1, _)]) C dX1_takePeople_69 3 rfl (by decide) (by decide) rfl ?_
      refine a_goto (tgt := 18) C dX1_takePeople_72 (by decide) ?_
      replace h := Option.some.inj h
      subst h
      exact a_sub [2, 3, 1, 0] (hK) rfl
noncomputable def f_X1_takePeople (x0 : Nat) (x1 : Nat) (M : Mem) : Option (Mem) :=
  Option.bind (f_X3_firstFault x1 (upM M x0 3 (0 : Int32))) (fun r1 => (if r1 = (-1 : Int32) then Option.bind (loop (fun s4 : Int32 × Int32 × Mem => f_X1_takePeople_18_18b x0 x1 s4.1 s4.2.1 s4.2.2) ((0 : Int32), (0 : Int32), (upM M x0 3 (0 : Int32)))) (fun s5 => some s5.2.2) else some (upM M x0 3 (0 : Int32))))
theorem t_X1_takePeople {Y : EY} {X : CX} (C : CK Y X cX1_takePeople RX1 4 none rm_X1_takePeople) {x0 : Nat} {x1 : Nat} {M : Mem} (k0 : K x0 1) (k1 : K x1 3) {res : Mem} (h : f_X1_takePeople x0 x1 M = some res) (hK : RK Y X none res) : AW Y X 4 0 [(0, .ref (Y.2.2.2.1 x0)), (1, .ref (Y.2.2.2.1 x1))] [] M := by
  unfold f_X1_takePeople at h
  refine a_aload_n C dX1_takePeople_0 0 rfl ?_
  refine a_iconst (v := 0) C dX1_takePeople_1 (by decide) ?_
  refine a_put (ty := .int) C dX1_takePeople_2 fl_X1_37 (fp_1_3) rfl k0 rfl rfl ?_
  refine a_aload_n C dX1_takePeople_5 1 rfl ?_
  obtain ⟨r1, hcr1, h⟩ := bd_some h
  refine a_callVi C dX1_takePeople_6 lv_X1_40 lm_X3_firstFault ⟨rfl, rfl, by decide, by decide⟩ k1 (m_X3_firstFault C.2.2.2.2.2.2.1 k1 hcr1) rfl rfl (Nat.le_of_ble_eq_true rfl) ?_
  refine a_iconst (v := -1) C dX1_takePeople_9 (by decide) ?_
  refine a_icmp_eq (tgt := 14) C dX1_takePeople_10 (by decide) (fun hc => ?_) (fun hc => ?_)
  · replace h := ip hc h
    refine a_iconst (v := 0) C dX1_takePeople_14 (by decide) ?_
    refine a_istore_n (lv' := [(2, _), (0, _), (1, _)]) C dX1_takePeople_15 rfl (by decide) rfl ?_
    refine a_iconst (v := 0) C dX1_takePeople_16 (by decide) ?_
    refine a_istore_n (lv' := [(3, _), (2, _), (0, _), (1, _)]) C dX1_takePeople_17 rfl (by decide) rfl ?_
    obtain ⟨s5, hl, h⟩ := bd_some h
    have hE : Ex_X1_takePeople_18 Y X x0 x1 s5 := by
      replace h := Option.some.inj h
      subst h
      exact a_vret C dX1_takePeople_75 hK
    have hA := aw_loop (At_X1_takePeople_18 Y X x0 x1) (Ex_X1_takePeople_18 Y X x0 x1) (fun _ _ hb hk => t_X1_takePeople_18_18b C k0 k1 hb hk) hl hE
    exact a_sub [2, 3, 1, 0] (hA) rfl
  · replace h := iq hc h
    replace h := Option.some.inj h
    subst h
    exact a_vret C dX1_takePeople_13 hK
theorem m_X1_takePeople {Y : EY} (hY : HY Y) {x0 : Nat} {x1 : Nat} {M : Mem} (k0 : K x0 1) (k1 : K x1 3) {r : Mem} (h : f_X1_takePeople x0 x1 M = some r) : MX Y yX1_takePeople cX1_takePeople 4 none rm_X1_takePeople [.ref (Y.2.2.2.1 x0), .ref (Y.2.2.2.1 x1)] M (none) r := MX.of hY (by decide) (Nat.le_of_ble_eq_true rfl) (fun _ hR C => a_sub [0, 1] (t_X1_takePeople C k0 k1 h hR) rfl)
abbrev rm_X1_become : Room := { frames := 1, cells := 0, slots := 0, locals := 40 }
noncomputable def f_X1_become (x0 : Nat) (x1 : Nat) (M : Mem) : Option (Mem) :=
  ck (cpb (0 : Int32) (0 : Int32) (8 : Int32) 8 8) (ck (cpb (0 : Int32) (0 : Int32) (40 : Int32) 40 40) (ck (cpb (0 : Int32) (0 : Int32) (8 : Int32) 8 8) (ck (cpb (0 : Int32) (0 : Int32) (8 : Int32) 8 8) (ck (cpb (0 : Int32) (0 : Int32) (9 : Int32) 9 9) (ck (cpb (0 : Int32) (0 : Int32) (9 : Int32) 9 9) (ck (cpb (0 : Int32) (0 : Int32) (9 : Int32) 9 9) (some (cpM (cpM (cpM (cpM (cpM (cpM (cpM (upM (upM (upM M x0 0 (M x1 0)) x0 3 ((upM M x0 0 (M x1 0)) x1 3)) x0 6 ((upM (upM M x0 0 (M x1 0)) x0 3 ((upM M x0 0 (M x1 0)) x1 3)) x1 6)) (rf x1 1) ((0 : Int32)).toNatClampNeg (rf x0 1) ((0 : Int32)).toNatClampNeg ((8 : Int32)).toNatClampNeg) (rf x1 2) ((0 : Int32)).toNatClampNeg (rf x0 2) ((0 : Int32)).toNatClampNeg ((40 : Int32)).toNatClampNeg) (rf x1 4) ((0 : Int32)).toNatClampNeg (rf x0 4) ((0 : Int32)).toNatClampNeg ((8 : Int32)).toNatClampNeg) (rf x1 5) ((0 : Int32)).toNatClampNeg (rf x0 5) ((0 : Int32)).toNatClampNeg ((8 : Int32)).toNatClampNeg) (rf x1 7) ((0 : Int32)).toNatClampNeg (rf x0 7) ((0 : Int32)).toNatClampNeg ((9 : Int32)).toNatClampNeg) (rf x1 8) ((0 : Int32)).toNatClampNeg (rf x0 8) ((0 : Int32)).toNatClampNeg ((9 : Int32)).toNatClampNeg) (rf x1 9) ((0 : Int32)).toNatClampNeg (rf x0 9) ((0 : Int32)).toNatClampNeg ((9 : Int32)).toNatClampNeg))))))))
theorem t_X1_become {Y : EY} {X : CX} (C : CK Y X cX1_become RX1 2 none rm_X1_become) {x0 : Nat} {x1 : Nat} {M : Mem} (k0 : K x0 1) (k1 : K x1 1) {res : Mem} (h : f_X1_become x0 x1 M = some res) (hK : RK Y X none res) : AW Y X 2 0 [(0, .ref (Y.2.2.2.1 x0)), (1, .ref (Y.2.2.2.1 x1))] [] M := by
  unfold f_X1_become at h
  refine a_aload_n C dX1_become_0 0 rfl ?_
  refine a_aload_n C dX1_become_1 1 rfl ?_
  refine a_geti C dX1_become_2 fl_X1_33 rfl k1 ?_
  refine a_put (ty := .int) C dX1_become_5 fl_X1_33 (fp_1_0) rfl k0 rfl rfl ?_
  refine a_aload_n C dX1_become_8 0 rfl ?_
  refine a_aload_n C dX1_become_9 1 rfl ?_
  refine a_geti C dX1_become_10 fl_X1_37 rfl k1 ?_
  refine a_put (ty := .int) C dX1_become_13 fl_X1_37 (fp_1_3) rfl k0 rfl rfl ?_
  refine a_aload_n C dX1_become_16 0 rfl ?_
  refine a_aload_n C dX1_become_17 1 rfl ?_
  refine a_geti C dX1_become_18 fl_X1_56 rfl k1 ?_
  refine a_put (ty := .int) C dX1_become_21 fl_X1_56 (fp_1_6) rfl k0 rfl rfl ?_
  refine a_aload_n C dX1_become_24 1 rfl ?_
  refine a_getr (k1 := (rf x1 1)) C dX1_become_25 fl_X1_9 rfl k1 rfl ?_
  refine a_iconst (v := 0) C dX1_become_28 (by decide) ?_
  refine a_aload_n C dX1_become_29 0 rfl ?_
  refine a_getr (k1 := (rf x0 1)) C dX1_become_30 fl_X1_9 rfl k0 rfl ?_
  refine a_iconst (v := 0) C dX1_become_33 (by decide) ?_
  refine a_bipush (v := 8) C dX1_become_34 (by decide) ?_
  obtain ⟨hb, h⟩ := ck_some h
  refine a_copy C dX1_become_36 cp_X1_59 cp_1 cp_2 cp_3 (rk_1_1 k1) (rk_1_1 k0) (rl_1_1 k1) (rl_1_1 k0) hb (by decide) (Nat.le_of_ble_eq_true rfl) ?_
  refine a_aload_n C dX1_become_39 1 rfl ?_
  refine a_getr (k1 := (rf x1 2)) C dX1_become_40 fl_X1_15 rfl k1 rfl ?_
  refine a_iconst (v := 0) C dX1_become_43 (by decide) ?_
  refine a_aload_n C dX1_become_44 0 rfl ?_
  refine a_getr (k1 := (rf x0 2)) C dX1_become_45 fl_X1_15 rfl k0 rfl ?_
  refine a_iconst (v := 0) C dX1_become_48 (by decide) ?_
  refine a_bipush (v := 40) C dX1_become_49 (by decide) ?_
  obtain ⟨hb, h⟩ := ck_some h
  refine a_copy C dX1_become_51 cp_X1_59 cp_1 cp_2 cp_3 (rk_1_2 k1) (rk_1_2 k0) (rl_1_2 k1) (rl_1_2 k0) hb (by decide) (Nat.le_of_ble_eq_true rfl) ?_
  refine a_aload_n C dX1_become_54 1 rfl ?_
  refine a_getr (k1 := (rf x1 4)) C dX1_become_55 fl_X1_18 rfl k1 rfl ?_
  refine a_iconst (v := 0) C dX1_become_58 (by decide) ?_
  refine a_aload_n C dX1_become_59 0 rfl ?_
  refine a_getr (k1 := (rf x0 4)) C dX1_become_60 fl_X1_18 rfl k0 rfl ?_
  refine a_iconst (v := 0) C dX1_become_63 (by decide) ?_
  refine a_bipush (v := 8) C dX1_become_64 (by decide) ?_
  obtain ⟨hb, h⟩ := ck_some h
  refine a_copy C dX1_become_66 cp_X1_59 cp_1 cp_2 cp_3 (rk_1_4 k1) (rk_1_4 k0) (rl_1_4 k1) (rl_1_4 k0) hb (by decide) (Nat.le_of_ble_eq_true rfl) ?_
  refine a_aload_n C dX1_become_69 1 rfl ?_
  refine a_getr (k1 := (rf x1 5)) C dX1_become_70 fl_X1_21 rfl k1 rfl ?_
  refine a_iconst (v := 0) C dX1_become_73 (by decide) ?_
  refine a_aload_n C dX1_become_74 0 rfl ?_
  refine a_getr (k1 := (rf x0 5)) C dX1_become_75 fl_X1_21 rfl k0 rfl ?_
  refine a_iconst (v := 0) C dX1_become_78 (by decide) ?_
  refine a_bipush (v := 8) C dX1_become_79 (by decide) ?_
  obtain ⟨hb, h⟩ := ck_some h
  refine a_copy C dX1_become_81 cp_X1_59 cp_1 cp_2 cp_3 (rk_1_5 k1) (rk_1_5 k0) (rl_1_5 k1) (rl_1_5 k0) hb (by decide) (Nat.le_of_ble_eq_true rfl) ?_
  refine a_aload_n C dX1_become_84 1 rfl ?_
  refine a_getr (k1 := (rf x1 7)) C dX1_become_85 fl_X1_24 rfl k1 rfl ?_
  refine a_iconst (v := 0) C dX1_become_88 (by decide) ?_
  refine a_aload_n C dX1_become_89 0 rfl ?_
  refine a_getr (k1 := (rf x0 7)) C dX1_become_90 fl_X1_24 rfl k0 rfl ?_
  refine a_iconst (v := 0) C dX1_become_93 (by decide) ?_
  refine a_bipush (v := 9) C dX1_become_94 (by decide) ?_
  obtain ⟨hb, h⟩ := ck_some h
  refine a_copy C dX1_become_96 cp_X1_59 cp_1 cp_2 cp_3 (rk_1_7 k1) (rk_1_7 k0) (rl_1_7 k1) (rl_1_7 k0) hb (by decide) (Nat.le_of_ble_eq_true rfl) ?_
  refine a_aload_n C dX1_become_99 1 rfl ?_
  refine a_getr (k1 := (rf x1 8)) C dX1_become_100 fl_X1_27 rfl k1 rfl ?_
  refine a_iconst (v := 0) C dX1_become_103 (by decide) ?_
  refine a_aload_n C dX1_become_104 0 rfl ?_
  refine a_getr (k1 := (rf x0 8)) C dX1_become_105 fl_X1_27 rfl k0 rfl ?_
  refine a_iconst (v := 0) C dX1_become_108 (by decide) ?_
  refine a_bipush (v := 9) C dX1_become_109 (by decide) ?_
  obtain ⟨hb, h⟩ := ck_some h
  refine a_copy C dX1_become_111 cp_X1_59 cp_1 cp_2 cp_3 (rk_1_8 k1) (rk_1_8 k0) (rl_1_8 k1) (rl_1_8 k0) hb (by decide) (Nat.le_of_ble_eq_true rfl) ?_
  refine a_aload_n C dX1_become_114 1 rfl ?_
  refine a_getr (k1 := (rf x1 9)) C dX1_become_115 fl_X1_30 rfl k1 rfl ?_
  refine a_iconst (v := 0) C dX1_become_118 (by decide) ?_
  refine a_aload_n C dX1_become_119 0 rfl ?_
  refine a_getr (k1 := (rf x0 9)) C dX1_become_120 fl_X1_30 rfl k0 rfl ?_
  refine a_iconst (v := 0) C dX1_become_123 (by decide) ?_
  refine a_bipush (v := 9) C dX1_become_124 (by decide) ?_
  obtain ⟨hb, h⟩ := ck_some h
  refine a_copy C dX1_become_126 cp_X1_59 cp_1 cp_2 cp_3 (rk_1_9 k1) (rk_1_9 k0) (rl_1_9 k1) (rl_1_9 k0) hb (by decide) (Nat.le_of_ble_eq_true rfl) ?_
  replace h := Option.some.inj h
  subst h
  exact a_vret C dX1_become_129 hK
theorem m_X1_become {Y : EY} (hY : HY Y) {x0 : Nat} {x1 : Nat} {M : Mem} (k0 : K x0 1) (k1 : K x1 1) {r : Mem} (h : f_X1_become x0 x1 M = some r) : MX Y yX1_become cX1_become 2 none rm_X1_become [.ref (Y.2.2.2.1 x0), .ref (Y.2.2.2.1 x1)] M (none) r := MX.of hY (by decide) (Nat.le_of_ble_eq_true rfl) (fun _ hR C => a_sub [0, 1] (t_X1_become C k0 k1 h hR) rfl)
abbrev rm_X1_addHiring : Room := { frames := 1, cells := 0, slots := 0, locals := 21 }
noncomputable def f_X1_addHiring (x0 : Nat) (x1 : Int32) (x2 : Int32) (x3 : Int32) (M : Mem) : Option (Mem) :=
  Option.bind (f_X5_isBelow (M x0 6) (9 : Int32)) (fun r1 => (if r1 = 0 then some M else ck (inb (M x0 6) 9) (ck (inb ((upM M (rf x0 7) ((M x0 6)).toNatClampNeg x1) x0 6) 9) (ck (inb ((upM (upM M (rf x0 7) ((M x0 6)).toNatClampNeg x1) (rf x0 8) (((upM M (rf x0 7) ((M x0 6)).toNatClampNeg x1) x0 6)).toNatClampNeg x2) x0 6) 9) (some (upM (upM (upM (upM M (rf x0 7) ((M x0 6)).toNatClampNeg x1) (rf x0 8) (((upM M (rf x0 7) ((M x0 6)).toNatClampNeg x1) x0 6)).toNatClampNeg x2) (rf x0 9) (((upM (upM M (rf x0 7) ((M x0 6)).toNatClampNeg x1) (rf x0 8) (((upM M (rf x0 7) ((M x0 6)).toNatClampNeg x1) x0 6)).toNatClampNeg x2) x0 6)).toNatClampNeg x3) x0 6 (((upM (upM (upM M (rf x0 7) ((M x0 6)).toNatClampNeg x1) (rf x0 8) (((upM M (rf x0 7) ((M x0 6)).toNatClampNeg x1) x0 6)).toNatClampNeg x2) (rf x0 9) (((upM (upM M (rf x0 7) ((M x0 6)).toNatClampNeg x1) (rf x0 8) (((upM M (rf x0 7) ((M x0 6)).toNatClampNeg x1) x0 6)).toNatClampNeg x2) x0 6)).toNatClampNeg x3) x0 6) + (1 : Int32))))))))
theorem t_X1_addHiring {Y : EY} {X : CX} (C : CK Y X cX1_addHiring RX1 4 none rm_X1_addHiring) {x0 : Nat} {x1 : Int32} {x2 : Int32} {x3 : Int32} {M : Mem} (k0 : K x0 1) {res : Mem} (h : f_X1_addHiring x0 x1 x2 x3 M = some res) (hK : RK Y X none res) : AW Y X 4 0 [(0, .ref (Y.2.2.2.1 x0)), (1, .int x1), (2, .int x2), (3, .int x3)] [] M := by
  unfold f_X1_addHiring at h
  refine a_aload_n C dX1_addHiring_0 0 rfl ?_
  refine a_geti C dX1_addHiring_1 fl_X1_56 rfl k0 ?_
  refine a_aload_n C dX1_addHiring_4 0 rfl ?_
  refine a_getr (k1 := (rf x0 7)) C dX1_addHiring_5 fl_X1_24 rfl k0 rfl ?_
  refine a_alen (v := 9) C dX1_addHiring_8 (rk_1_7 k0) (by rw [show ln (rf x0 7) = 9 from (rl_1_7 k0)]; rfl) ?_
  obtain ⟨r1, hcr1, h⟩ := bd_some h
  refine a_callNi C dX1_addHiring_9 (by decide) is_1 lm_X5_isBelow ⟨rfl, rfl, by decide, by decide⟩ (m_X5_isBelow C.2.2.2.2.2.2.1 hcr1) rfl rfl (Nat.le_of_ble_eq_true rfl) ?_
  refine a_if_ne (tgt := 16) C dX1_addHiring_12 (by decide) (fun hc => ?_) (fun hc => ?_)
  · replace h := iq hc h
    refine a_aload_n C dX1_addHiring_16 0 rfl ?_
    refine a_getr (k1 := (rf x0 7)) C dX1_addHiring_17 fl_X1_24 rfl k0 rfl ?_
    refine a_aload_n C dX1_addHiring_20 0 rfl ?_
    refine a_geti C dX1_addHiring_21 fl_X1_56 rfl k0 ?_
    refine a_iload_n C dX1_addHiring_24 1 rfl ?_
    obtain ⟨hb, h⟩ := ck_some h
    refine a_iast C dX1_addHiring_25 (rk_1_7 k0) (rl_1_7 k0) hb ?_
    refine a_aload_n C dX1_addHiring_26 0 rfl ?_
    refine a_getr (k1 := (rf x0 8)) C dX1_addHiring_27 fl_X1_27 rfl k0 rfl ?_
    refine a_aload_n C dX1_addHiring_30 0 rfl ?_
    refine a_geti C dX1_addHiring_31 fl_X1_56 rfl k0 ?_
    refine a_iload_n C dX1_addHiring_34 2 rfl ?_
    obtain ⟨hb, h⟩ := ck_some h
    refine a_iast C dX1_addHiring_35 (rk_1_8 k0) (rl_1_8 k0) hb ?_
    refine a_aload_n C dX1_addHiring_36 0 rfl ?_
    refine a_getr (k1 := (rf x0 9)) C dX1_addHiring_37 fl_X1_30 rfl k0 rfl ?_
    refine a_aload_n C dX1_addHiring_40 0 rfl ?_
    refine a_geti C dX1_addHiring_41 fl_X1_56 rfl k0 ?_
    refine a_iload_n C dX1_addHiring_44 3 rfl ?_
    obtain ⟨hb, h⟩ := ck_some h
    refine a_iast C dX1_addHiring_45 (rk_1_9 k0) (rl_1_9 k0) hb ?_
    refine a_aload_n C dX1_addHiring_46 0 rfl ?_
    refine a_dup C dX1_addHiring_47 rfl ?_
    refine a_geti C dX1_addHiring_48 fl_X1_56 rfl k0 ?_
    refine a_iconst (v := 1) C dX1_addHiring_51 (by decide) ?_
    refine a_iadd C dX1_addHiring_52 ?_
    refine a_put (ty := .int) C dX1_addHiring_53 fl_X1_56 (fp_1_6) rfl k0 rfl rfl ?_
    replace h := Option.some.inj h
    subst h
    exact a_vret C dX1_addHiring_56 hK
  · replace h := ip hc h
    replace h := Option.some.inj h
    subst h
    exact a_vret C dX1_addHiring_15 hK
theorem m_X1_addHiring {Y : EY} (hY : HY Y) {x0 : Nat} {x1 : Int32} {x2 : Int32} {x3 : Int32} {M : Mem} (k0 : K x0 1) {r : Mem} (h : f_X1_addHiring x0 x1 x2 x3 M = some r) : MX Y yX1_addHiring cX1_addHiring 4 none rm_X1_addHiring [.ref (Y.2.2.2.1 x0), .int x1, .int x2, .int x3] M (none) r := MX.of hY (by decide) (Nat.le_of_ble_eq_true rfl) (fun _ hR C => a_sub [0, 1, 2, 3] (t_X1_addHiring C k0 h hR) rfl)
abbrev rm_X1_moveHiring : Room := { frames := 0, cells := 0, slots := 0, locals := 0 }
noncomputable def f_X1_moveHiring (x0 : Nat) (x1 : Int32) (x2 : Int32) (M : Mem) : Option (Mem) :=
  ck (inb x1 9) (ck (inb x2 9) (ck (inb x1 9) (ck (inb x2 9) (ck (inb x1 9) (ck (inb x2 9) (some (upM (upM (upM M (rf x0 7) (x2).toNatClampNeg (M (rf x0 7) (x1).toNatClampNeg)) (rf x0 8) (x2).toNatClampNeg ((upM M (rf x0 7) (x2).toNatClampNeg (M (rf x0 7) (x1).toNatClampNeg)) (rf x0 8) (x1).toNatClampNeg)) (rf x0 9) (x2).toNatClampNeg ((upM (upM M (rf x0 7) (x2).toNatClampNeg (M (rf x0 7) (x1).toNatClampNeg)) (rf x0 8) (x2).toNatClampNeg ((upM M (rf x0 7) (x2).toNatClampNeg (M (rf x0 7) (x1).toNatClampNeg)) (rf x0 8) (x1).toNatClampNeg)) (rf x0 9) (x1).toNatClampNeg))))))))
theorem t_X1_moveHiring {Y : EY} {X : CX} (C : CK Y X cX1_moveHiring RX1 3 none rm_X1_moveHiring) {x0 : Nat} {x1 : Int32} {x2 : Int32} {M : Mem} (k0 : K x0 1) {res : Mem} (h : f_X1_moveHiring x0 x1 x2 M = some res) (hK : RK Y X none res) : AW Y X 3 0 [(0, .ref (Y.2.2.2.1 x0)), (1, .int x1), (2, .int x2)] [] M := by
  unfold f_X1_moveHiring at h
  refine a_aload_n C dX1_moveHiring_0 0 rfl ?_
  refine a_getr (k1 := (rf x0 7)) C dX1_moveHiring_1 fl_X1_24 rfl k0 rfl ?_
  refine a_iload_n C dX1_moveHiring_4 2 rfl ?_
  refine a_aload_n C dX1_moveHiring_5 0 rfl ?_
  refine a_getr (k1 := (rf x0 7)) C dX1_moveHiring_6 fl_X1_24 rfl k0 rfl ?_
  refine a_iload_n C dX1_moveHiring_9 1 rfl ?_
  obtain ⟨hb, h⟩ := ck_some h
  refine a_iald C dX1_moveHiring_10 (rk_1_7 k0) (rl_1_7 k0) hb ?_
  obtain ⟨hb, h⟩ := ck_some h
  refine a_iast C dX1_moveHiring_11 (rk_1_7 k0) (rl_1_7 k0) hb ?_
  refine a_aload_n C dX1_moveHiring_12 0 rfl ?_
  refine a_getr (k1 := (rf x0 8)) C dX1_moveHiring_13 fl_X1_27 rfl k0 rfl ?_
  refine a_iload_n C dX1_moveHiring_16 2 rfl ?_
  refine a_aload_n C dX1_moveHiring_17 0 rfl ?_
  refine a_getr (k1 := (rf x0 8)) C dX1_moveHiring_18 fl_X1_27 rfl k0 rfl ?_
  refine a_iload_n C dX1_moveHiring_21 1 rfl ?_
  obtain ⟨hb, h⟩ := ck_some h
  refine a_iald C dX1_moveHiring_22 (rk_1_8 k0) (rl_1_8 k0) hb ?_
  obtain ⟨hb, h⟩ := ck_some h
  refine a_iast C dX1_moveHiring_23 (rk_1_8 k0) (rl_1_8 k0) hb ?_
  refine a_aload_n C dX1_moveHiring_24 0 rfl ?_
  refine a_getr (k1 := (rf x0 9)) C dX1_moveHiring_25 fl_X1_30 rfl k0 rfl ?_
  refine a_iload_n C dX1_moveHiring_28 2 rfl ?_
  refine a_aload_n C dX1_moveHiring_29 0 rfl ?_
  refine a_getr (k1 := (rf x0 9)) C dX1_moveHiring_30 fl_X1_30 rfl k0 rfl ?_
  refine a_iload_n C dX1_moveHiring_33 1 rfl ?_
  obtain ⟨hb, h⟩ := ck_some h
  refine a_iald C dX1_moveHiring_34 (rk_1_9 k0) (rl_1_9 k0) hb ?_
  obtain ⟨hb, h⟩ := ck_some h
  refine a_iast C dX1_moveHiring_35 (rk_1_9 k0) (rl_1_9 k0) hb ?_
  replace h := Option.some.inj h
  subst h
  exact a_vret C dX1_moveHiring_36 hK
theorem m_X1_moveHiring {Y : EY} (hY : HY Y) {x0 : Nat} {x1 : Int32} {x2 : Int32} {M : Mem} (k0 : K x0 1) {r : Mem} (h : f_X1_moveHiring x0 x1 x2 M = some r) : MX Y yX1_moveHiring cX1_moveHiring 3 none rm_X1_moveHiring [.ref (Y.2.2.2.1 x0), .int x1, .int x2] M (none) r := MX.of hY (by decide) (Nat.le_of_ble_eq_true rfl) (fun _ hR C => a_sub [0, 1, 2] (t_X1_moveHiring C k0 h hR) rfl)
abbrev rm_X1_dropHiring : Room := { frames := 1, cells := 0, slots := 0, locals := 22 }
abbrev At_X1_dropHiring_14 (Y : EY) (X : CX) (x0 : Nat) (s : Int32 × Mem) : Prop := AW Y X 3 14 [(0, .ref (Y.2.2.2.1 x0)), (2, .int s.1)] [] s.2
abbrev Ex_X1_dropHiring_14 (Y : EY) (X : CX) (x0 : Nat) (s : Int32 × Mem) : Prop := AW Y X 3 38 [(0, .ref (Y.2.2.2.1 x0))] [] s.2
noncomputable def f_X1_dropHiring_14_14b (x0 : Nat) (x2 : Int32) (M : Mem) : Option ((Int32 × Mem) ⊕ (Int32 × Mem)) :=
  (if (M x0 6) ≤ (x2 + (1 : Int32)) then some (.inr (x2, M)) else Option.bind (f_X1_moveHiring x0 (x2 + (1 : Int32)) x2 M) (fun r2 => some (.inl ((x2 + (1 : Int32)), r2))))
theorem t_X1_dropHiring_14_14b {Y : EY} {X : CX} (C : CK Y X cX1_dropHiring RX1 3 none rm_X1_dropHiring) {x0 : Nat} {x2 : Int32} {M : Mem} (k0 : K x0 1) {res : (Int32 × Mem) ⊕ (Int32 × Mem)} (h : f_X1_dropHiring_14_14b x0 x2 M = some res) (hK : KL (At_X1_dropHiring_14 Y X x0) (Ex_X1_dropHiring_14 Y X x0) res) : AW Y X 3 14 [(0, .ref (Y.2.2.2.1 x0)), (2, .int x2)] [] M := by
  unfold f_X1_dropHiring_14_14b at h
  refine a_iload_n C dX1_dropHiring_14 1 rfl ?_
  refine a_iconst (v := 1) C dX1_dropHiring_15 (by decide) ?_
  refine a_iadd C dX1_dropHiring_16 ?_
  refine a_aload_n C dX1_dropHiring_17 0 rfl ?_
  refine a_geti C dX1_dropHiring_18 fl_X1_56 rfl k0 ?_
  refine a_icmp_ge (tgt := 38) C dX1_dropHiring_21 (by decide) (fun hc => ?_) (fun hc => ?_)
  · replace h := ip hc h
    replace h := Option.some.inj h
    subst h
    exact a_sub [0] (hK) rfl
  · replace h := iq hc h
    refine a_aload_n C dX1_dropHiring_24 0 rfl ?_
    refine a_iload_n C dX1_dropHiring_25 1 rfl ?_
    refine a_iconst (v := 1) C dX1_dropHiring_26 (by decide) ?_
    refine a_iadd C dX1_dropHiring_27 ?_
    refine a_iload_n C dX1_dropHiring_28 1 rfl ?_
    obtain ⟨r2, hcr2, h⟩ := bd_some h
    refine a_callVv C dX1_dropHiring_29 lv_X1_69 lm_X1_moveHiring ⟨rfl, rfl, by decide, by decide⟩ k0 (m_X1_moveHiring C.2.2.2.2.2.2.1 k0 hcr2) rfl rfl (Nat.le_of_ble_eq_true rfl) ?_
    refine a_iinc (v := 1) (lv' := [(2, _), (0, _)]) C dX1_dropHiring_32 1 rfl (by decide) (by decide) rfl ?_
    refine a_goto (tgt := 14) C dX1_dropHiring_35 (by decide) ?_
    replace h := Option.some.inj h
    subst h
    exact a_sub [1, 0] (hK) rfl
noncomputable def f_X1_dropHiring (x0 : Nat) (x1 : Int32) (M : Mem) : Option (Mem) :=
  Option.bind (f_X5_isBelow x1 (M x0 6)) (fun r1 => (if r1 = 0 then some M else Option.bind (loop (fun s3 : Int32 × Mem => f_X1_dropHiring_14_14b x0 s3.1 s3.2) (x1, M)) (fun s4 => some (upM s4.2 x0 6 ((s4.2 x0 6) - (1 : Int32))))))
theorem t_X1_dropHiring {Y : EY} {X : CX} (C : CK Y X cX1_dropHiring RX1 3 none rm_X1_dropHiring) {x0 : Nat} {x1 : Int32} {M : Mem} (k0 : K x0 1) {res : Mem} (h : f_X1_dropHiring x0 x1 M = some res) (hK : RK Y X none res) : AW Y X 3 0 [(0, .ref (Y.2.2.2.1 x0)), (1, .int x1)] [] M := by
  unfold f_X1_dropHiring at h
  refine a_iload_n C dX1_dropHiring_0 1 rfl ?_
  refine a_aload_n C dX1_dropHiring_1 0 rfl ?_
  refine a_geti C dX1_dropHiring_2 fl_X1_56 rfl k0 ?_
  obtain ⟨r1, hcr1, h⟩ := bd_some h
  refine a_callNi C dX1_dropHiring_5 (by decide) is_1 lm_X5_isBelow ⟨rfl, rfl, by decide, by decide⟩ (m_X5_isBelow C.2.2.2.2.2.2.1 hcr1) rfl rfl (Nat.le_of_ble_eq_true rfl) ?_
  refine a_if_ne (tgt := 12) C dX1_dropHiring_8 (by decide) (fun hc => ?_) (fun hc => ?_)
  · replace h := iq hc h
    refine a_iload_n C dX1_dropHiring_12 1 rfl ?_
    refine a_istore_n (lv' := [(2, _), (0, _), (1, _)]) C dX1_dropHiring_13 rfl (by decide) rfl ?_
    obtain ⟨s4, hl, h⟩ := bd_some h
    have hE : Ex_X1_dropHiring_14 Y X x0 s4 := by
      refine a_aload_n C dX1_dropHiring_38 0 rfl ?_
      refine a_dup C dX1_dropHiring_39 rfl ?_
      refine a_geti C dX1_dropHiring_40 fl_X1_56 rfl k0 ?_
      refine a_iconst (v := 1) C dX1_dropHiring_43 (by decide) ?_
      refine a_isub C dX1_dropHiring_44 ?_
      refine a_put (ty := .int) C dX1_dropHiring_45 fl_X1_56 (fp_1_6) rfl k0 rfl rfl ?_
      replace h := Option.some.inj h
      subst h
      exact a_vret C dX1_dropHiring_48 hK
    have hA := aw_loop (At_X1_dropHiring_14 Y X x0) (Ex_X1_dropHiring_14 Y X x0) (fun _ _ hb hk => t_X1_dropHiring_14_14b C k0 hb hk) hl hE
    exact a_sub [1, 0] (hA) rfl
  · replace h := ip hc h
    replace h := Option.some.inj h
    subst h
    exact a_vret C dX1_dropHiring_11 hK
theorem m_X1_dropHiring {Y : EY} (hY : HY Y) {x0 : Nat} {x1 : Int32} {M : Mem} (k0 : K x0 1) {r : Mem} (h : f_X1_dropHiring x0 x1 M = some r) : MX Y yX1_dropHiring cX1_dropHiring 3 none rm_X1_dropHiring [.ref (Y.2.2.2.1 x0), .int x1] M (none) r := MX.of hY (by decide) (Nat.le_of_ble_eq_true rfl) (fun _ hR C => a_sub [0, 1] (t_X1_dropHiring C k0 h hR) rfl)
abbrev rm_X1_keepHirings : Room := { frames := 1, cells := 0, slots := 0, locals := 22 }
abbrev At_X1_keepHirings_4 (Y : EY) (X : CX) (x0 : Nat) (x1 : Int32) (s : Int32 × Int32 × Mem) : Prop := AW Y X 4 4 [(0, .ref (Y.2.2.2.1 x0)), (1, .int x1), (2, .int s.1), (3, .int s.2.1)] [] s.2.2
abbrev Ex_X1_keepHirings_4 (Y : EY) (X : CX) (x0 : Nat) (x1 : Int32) (s : Int32 × Int32 × Mem) : Prop := AW Y X 4 35 [(0, .ref (Y.2.2.2.1 x0)), (2, .int s.1)] [] s.2.2
noncomputable def f_X1_keepHirings_29_4 (x0 : Nat) (x1 : Int32) (x2 : Int32) (x3 : Int32) (M : Mem) : Option ((Int32 × Int32 × Mem) ⊕ (Int32 × Int32 × Mem)) :=
  some (.inl (x2, (x3 + (1 : Int32)), M))
theorem t_X1_keepHirings_29_4 {Y : EY} {X : CX} (C : CK Y X cX1_keepHirings RX1 4 none rm_X1_keepHirings) {x0 : Nat} {x1 : Int32} {x2 : Int32} {x3 : Int32} {M : Mem} (k0 : K x0 1) {res : (Int32 × Int32 × Mem) ⊕ (Int32 × Int32 × Mem)} (h : f_X1_keepHirings_29_4 x0 x1 x2 x3 M = some res) (hK : KL (At_X1_keepHirings_4 Y X x0 x1) (Ex_X1_keepHirings_4 Y X x0 x1) res) : AW Y X 4 29 [(0, .ref (Y.2.2.2.1 x0)), (1, .int x1), (2, .int x2), (3, .int x3)] [] M := by
  unfold f_X1_keepHirings_29_4 at h
  refine a_iinc (v := 1) (lv' := [(3, _), (0, _), (1, _), (2, _)]) C dX1_keepHirings_29 3 rfl (by decide) (by decide) rfl ?_
  refine a_goto (tgt := 4) C dX1_keepHirings_32 (by decide) ?_
  replace h := Option.some.inj h
  subst h
  exact a_sub [1, 2, 3, 0] (hK) rfl
noncomputable def f_X1_keepHirings_4_4b (x0 : Nat) (x1 : Int32) (x2 : Int32) (x3 : Int32) (M : Mem) : Option ((Int32 × Int32 × Mem) ⊕ (Int32 × Int32 × Mem)) :=
  (if (M x0 6) ≤ x3 then some (.inr (x2, x3, M)) else (if (x1 &&& (shlI (1 : Int32) x3)) = 0 then f_X1_keepHirings_29_4 x0 x1 x2 x3 M else Option.bind (f_X1_moveHiring x0 x3 x2 M) (fun r1 => f_X1_keepHirings_29_4 x0 x1 (x2 + (1 : Int32)) x3 r1)))
theorem t_X1_keepHirings_4_4b {Y : EY} {X : CX} (C : CK Y X cX1_keepHirings RX1 4 none rm_X1_keepHirings) {x0 : Nat} {x1 : Int32} {x2 : Int32} {x3 : Int32} {M : Mem} (k0 : K x0 1) {res : (Int32 × Int32 × Mem) ⊕ (Int32 × Int32 × Mem)} (h : f_X1_keepHirings_4_4b x0 x1 x2 x3 M = some res) (hK : KL (At_X1_keepHirings_4 Y X x0 x1) (Ex_X1_keepHirings_4 Y X x0 x1) res) : AW Y X 4 4 [(0, .ref (Y.2.2.2.1 x0)), (1, .int x1), (2, .int x2), (3, .int x3)] [] M := by
  unfold f_X1_keepHirings_4_4b at h
  refine a_iload_n C dX1_keepHirings_4 3 rfl ?_
  refine a_aload_n C dX1_keepHirings_5 0 rfl ?_
  refine a_geti C dX1_keepHirings_6 fl_X1_56 rfl k0 ?_
  refine a_icmp_ge (tgt := 35) C dX1_keepHirings_9 (by decide) (fun hc => ?_) (fun hc => ?_)
  · replace h := ip hc h
    replace h := Option.some.inj h
    subst h
    exact a_sub [0, 2] (hK) rfl
  · replace h := iq hc h
    refine a_iload_n C dX1_keepHirings_12 1 rfl ?_
    refine a_iconst (v := 1) C dX1_keepHirings_13 (by decide) ?_
    refine a_iload_n C dX1_keepHirings_14 3 rfl ?_
    refine a_ishl C dX1_keepHirings_15 ?_
    refine a_iand C dX1_keepHirings_16 ?_
    refine a_if_eq (tgt := 29) C dX1_keepHirings_17 (by decide) (fun hc => ?_) (fun hc => ?_)
    · replace h := ip hc h
      exact a_sub [0, 1, 2, 3] (t_X1_keepHirings_29_4 C k0 h hK) rfl
    · replace h := iq hc h
      refine a_aload_n C dX1_keepHirings_20 0 rfl ?_
      refine a_iload_n C dX1_keepHirings_21 3 rfl ?_
      refine a_iload_n C dX1_keepHirings_22 2 rfl ?_
      obtain ⟨r1, hcr1, h⟩ := bd_some h
      refine a_callVv C dX1_keepHirings_23 lv_X1_69 lm_X1_moveHiring ⟨rfl, rfl, by decide, by decide⟩ k0 (m_X1_moveHiring C.2.2.2.2.2.2.1 k0 hcr1) rfl rfl (Nat.le_of_ble_eq_true rfl) ?_
      refine a_iinc (v := 1) (lv' := [(2, _), (0, _), (1, _), (3, _)]) C dX1_keepHirings_26 2 rfl (by decide) (by decide) rfl ?_
      exact a_sub [1, 2, 0, 3] (t_X1_keepHirings_29_4 C k0 h hK) rfl
noncomputable def f_X1_keepHirings (x0 : Nat) (x1 : Int32) (M : Mem) : Option (Mem) :=
  Option.bind (loop (fun s2 : Int32 × Int32 × Mem => f_X1_keepHirings_4_4b x0 x1 s2.1 s2.2.1 s2.2.2) ((0 : Int32), (0 : Int32), M)) (fun s3 => some (upM s3.2.2 x0 6 s3.1))
theorem t_X1_keepHirings {Y : EY} {X : CX} (C : CK Y X cX1_keepHirings RX1 4 none rm_X1_keepHirings) {x0 : Nat} {x1 : Int32} {M : Mem} (k0 : K x0 1) {res : Mem} (h : f_X1_keepHirings x0 x1 M = some res) (hK : RK Y X none res) : AW Y X 4 0 [(0, .ref (Y.2.2.2.1 x0)), (1, .int x1)] [] M := by
  unfold f_X1_keepHirings at h
  refine a_iconst (v := 0) C dX1_keepHirings_0 (by decide) ?_
  refine a_istore_n (lv' := [(2, _), (0, _), (1, _)]) C dX1_keepHirings_1 rfl (by decide) rfl ?_
  refine a_iconst (v := 0) C dX1_keepHirings_2 (by decide) ?_
  refine a_istore_n (lv' := [(3, _), (2, _), (0, _), (1, _)]) C dX1_keepHirings_3 rfl (by decide) rfl ?_
  obtain ⟨s3, hl, h⟩ := bd_some h
  have hE : Ex_X1_keepHirings_4 Y X x0 x1 s3 := by
    refine a_aload_n C dX1_keepHirings_35 0 rfl ?_
    refine a_iload_n C dX1_keepHirings_36 1 rfl ?_
    refine a_put (ty := .int) C dX1_keepHirings_37 fl_X1_56 (fp_1_6) rfl k0 rfl rfl ?_
    replace h := Option.some.inj h
    subst h
    exact a_vret C dX1_keepHirings_40 hK
  have hA := aw_loop (At_X1_keepHirings_4 Y X x0 x1) (Ex_X1_keepHirings_4 Y X x0 x1) (fun _ _ hb hk => t_X1_keepHirings_4_4b C k0 hb hk) hl hE
  exact a_sub [2, 3, 1, 0] (hA) rfl
theorem m_X1_keepHirings {Y : EY} (hY : HY Y) {x0 : Nat} {x1 : Int32} {M : Mem} (k0 : K x0 1) {r : Mem} (h : f_X1_keepHirings x0 x1 M = some r) : MX Y yX1_keepHirings cX1_keepHirings 4 none rm_X1_keepHirings [.ref (Y.2.2.2.1 x0), .int x1] M (none) r := MX.of hY (by decide) (Nat.le_of_ble_eq_true rfl) (fun _ hR C => a_sub [0, 1] (t_X1_keepHirings C k0 h hR) rfl)
abbrev rm_X1_changed : Room := { frames := 0, cells := 0, slots := 0, locals := 0 }
noncomputable def f_X1_changed (x0 : Int32) (x1 : Int32) (x2 : Int32) : Option (Int32) :=
  (if x0 = x1 then some x2 else (if x0 = x2 then some x1 else some x0))
theorem t_X1_changed {Y : EY} {X : CX} (C : CK Y X cX1_changed RX1 3 (some .int) rm_X1_changed) {x0 : Int32} {x1 : Int32} {x2 : Int32} {M : Mem}  {res : Int32} (h : f_X1_changed x0 x1 x2 = some res) (hK : RK Y X (some (.int res)) M) : AW Y X 3 0 [(0, .int x0), (1, .int x1), (2, .int x2)] [] M := by
  unfold f_X1_changed at h
  refine a_iload_n C dX1_changed_0 0 rfl ?_
  refine a_iload_n C dX1_changed_1 1 rfl ?_
  refine a_icmp_ne (tgt := 7) C dX1_changed_2 (by decide) (fun hc => ?_) (fun hc => ?_)
  · replace h := iq hc h
    refine a_iload_n C dX1_changed_7 0 rfl ?_
    refine a_iload_n C dX1_changed_8 2 rfl ?_
    refine a_icmp_ne (tgt := 16) C dX1_changed_9 (by decide) (fun hc => ?_) (fun hc => ?_)
    · replace h := iq hc h
      refine a_iload_n C dX1_changed_16 0 rfl ?_
      replace h := Option.some.inj h
      subst h
      exact a_iret C dX1_changed_17 hK
    · replace h := ip hc h
      refine a_iload_n C dX1_changed_12 1 rfl ?_
      refine a_goto (tgt := 17) C dX1_changed_13 (by decide) ?_
      replace h := Option.some.inj h
      subst h
      exact a_iret C dX1_changed_17 hK
  · replace h := ip hc h
    refine a_iload_n C dX1_changed_5 2 rfl ?_
    replace h := Option.some.inj h
    subst h
    exact a_iret C dX1_changed_6 hK
theorem m_X1_changed {Y : EY} (hY : HY Y) {x0 : Int32} {x1 : Int32} {x2 : Int32} {M : Mem}  {r : Int32} (h : f_X1_changed x0 x1 x2 = some r) : MX Y yX1_changed cX1_changed 3 (some .int) rm_X1_changed [.int x0, .int x1, .int x2] M (some (.int r)) M := MX.of hY (by decide) (Nat.le_of_ble_eq_true rfl) (fun _ hR C => a_sub [0, 1, 2] (t_X1_changed C  h hR) rfl)
abbrev rm_X1_changeDrawers : Room := { frames := 1, cells := 0, slots := 0, locals := 22 }
abbrev At_X1_changeDrawers_46 (Y : EY) (X : CX) (x0 : Nat) (x1 : Int32) (x2 : Int32) (s : Int32 × Mem) : Prop := AW Y X 6 46 [(0, .ref (Y.2.2.2.1 x0)), (1, .int x1), (2, .int x2), (4, .int s.1)] [] s.2
abbrev Ex_X1_changeDrawers_46 (Y : EY) (X : CX) (x0 : Nat) (x1 : Int32) (x2 : Int32) (s : Int32 × Mem) : Prop := AW Y X 6 106 [(0, .ref (Y.2.2.2.1 x0)), (1, .int x1), (2, .int x2)] [] s.2
noncomputable def f_X1_changeDrawers_46_46b (x0 : Nat) (x1 : Int32) (x2 : Int32) (x4 : Int32) (M : Mem) : Option ((Int32 × Mem) ⊕ (Int32 × Mem)) :=
  (if (5 : Int32) ≤ x4 then some (.inr (x4, M)) else ck (inb ((x1 * (5 : Int32)) + x4) 40) (ck (inb ((x2 * (5 : Int32)) + x4) 40) (ck (inb ((x1 * (5 : Int32)) + x4) 40) (ck (inb ((x2 * (5 : Int32)) + x4) 40) (some (.inl ((x4 + (1 : Int32)), (upM (upM M (rf x0 2) (((x1 * (5 : Int32)) + x4)).toNatClampNeg (M (rf x0 2) (((x2 * (5 : Int32)) + x4)).toNatClampNeg)) (rf x0 2) (((x2 * (5 : Int32)) + x4)).toNatClampNeg (M (rf x0 2) (((x1 * (5 : Int32)) + x4)).toNatClampNeg)))))))))
theorem t_X1_changeDrawers_46_46b {Y : EY} {X : CX} (C : CK Y X cX1_changeDrawers RX1 6 none rm_X1_changeDrawers) {x0 : Nat} {x1 : Int32} {x2 : Int32} {x4 : Int32} {M : Mem} (k0 : K x0 1) {res : (Int32 × Mem) ⊕ (Int32 × Mem)} (h : f_X1_changeDrawers_46_46b x0 x1 x2 x4 M = some res) (hK : KL (At_X1_changeDrawers_46 Y X x0 x1 x2) (Ex_X1_changeDrawers_46 Y X x0 x1 x2) res) : AW Y X 6 46 [(0, .ref (Y.2.2.2.1 x0)), (1, .int x1), (2, .int x2), (4, .int x4)] [] M := by
  unfold f_X1_changeDrawers_46_46b at h
  refine a_iload C dX1_changeDrawers_46 3 rfl ?_
  refine a_iconst (v := 5) C dX1_changeDrawers_48 (by decide) ?_
  refine a_icmp_ge (tgt := 106) C dX1_changeDrawers_49 (by decide) (fun hc => ?_) (fun hc => ?_)
  · replace h := ip hc h
    replace h := Option.some.inj h
    subst h
    exact a_sub [0, 1, 2] (hK) rfl
  · replace h := iq hc h
    refine a_aload_n C dX1_changeDrawers_52 0 rfl ?_
    refine a_getr (k1 := (rf x0 2)) C dX1_changeDrawers_53 fl_X1_15 rfl k0 rfl ?_
    refine a_iload_n C dX1_changeDrawers_56 1 rfl ?_
    refine a_iconst (v := 5) C dX1_changeDrawers_57 (by decide) ?_
    refine a_imul C dX1_changeDrawers_58 ?_
    refine a_iload C dX1_changeDrawers_59 3 rfl ?_
    refine a_iadd C dX1_changeDrawers_61 ?_
    obtain ⟨hb, h⟩ := ck_some h
    refine a_iald C dX1_changeDrawers_62 (rk_1_2 k0) (rl_1_2 k0) hb ?_
    refine a_istore (lv' := [(5, _), (0, _), (1, _), (2, _), (4, _)]) C dX1_changeDrawers_63 (by decide) rfl ?_
    refine a_aload_n C dX1_changeDrawers_65 1 rfl ?_
    refine a_getr (k1 := (rf x0 2)) C dX1_changeDrawers_66 fl_X1_15 rfl k0 rfl ?_
    refine a_iload_n C dX1_changeDrawers_69 2 rfl ?_
    refine a_iconst (v := 5) C dX1_changeDrawers_70 (by decide) ?_
    refine a_imul C dX1_changeDrawers_71 ?_
    refine a_iload C dX1_changeDrawers_72 4 rfl ?_
    refine a_iadd C dX1_changeDrawers_74 ?_
    refine a_aload_n C dX1_changeDrawers_75 1 rfl ?_
    refine a_getr (k1 := (rf x0 2)) C dX1_changeDrawers_76 fl_X1_15 rfl k0 rfl ?_
    refine a_iload_n C dX1_changeDrawers_79 3 rfl ?_
    refine a_iconst (v := 5) C dX1_changeDrawers_80 (by decide) ?_
    refine a_imul C dX1_changeDrawers_81 ?_
    refine a_iload C dX1_changeDrawers_82 4 rfl ?_
    refine a_iadd C dX1_changeDrawers_84 ?_
    obtain ⟨hb, h⟩ := ck_some h
    refine a_iald C dX1_changeDrawers_85 (rk_1_2 k0) (rl_1_2 k0) hb ?_
    obtain ⟨hb, h⟩ := ck_some h
    refine a_iast C dX1_changeDrawers_86 (rk_1_2 k0) (rl_1_2 k0) hb ?_
    refine a_aload_n C dX1_changeDrawers_87 1 rfl ?_
    refine a_getr (k1 := (rf x0 2)) C dX1_changeDrawers_88 fl_X1_15 rfl k0 rfl ?_
    refine a_iload_n C dX1_changeDrawers_91 3 rfl ?_
    refine a_iconst (v := 5) C dX1_changeDrawers_92 (by decide) ?_
    refine a_imul C dX1_changeDrawers_93 ?_
    refine a_iload C dX1_changeDrawers_94 4 rfl ?_
    refine a_iadd C dX1_changeDrawers_96 ?_
    refine a_iload C dX1_changeDrawers_97 0 rfl ?_
    obtain ⟨hb, h⟩ := ck_some h
    refine a_iast C dX1_changeDrawers_99 (rk_1_2 k0) (rl_1_2 k0) hb ?_
    refine a_iinc (v := 1) (lv' := [(4, _), (5, _), (0, _), (1, _), (2, _)]) C dX1_changeDrawers_100 4 rfl (by decide) (by decide) rfl ?_
    refine a_goto (tgt := 46) C dX1_changeDrawers_103 (by decide) ?_
    replace h := Option.some.inj h
    subst h
    exact a_sub [2, 3, 4, 0] (hK) rfl
abbrev At_X1_changeDrawers_109 (Y : EY) (X : CX) (x0 : Nat) (x1 : Int32) (x2 : Int32) (s : Int32 × Mem) : Prop := AW Y X 6 109 [(0, .ref (Y.2.2.2.1 x0)), (1, .int x1), (2, .int x2), (4, .int s.1)] [] s.2
abbrev Ex_X1_changeDrawers_109 (Y : EY) (X : CX) (x0 : Nat) (x1 : Int32) (x2 : Int32) (s : Int32 × Mem) : Prop := AW Y X 6 143 [(0, .ref (Y.2.2.2.1 x0)), (1, .int x1), (2, .int x2)] [] s.2
noncomputable def f_X1_changeDrawers_109_109b (x0 : Nat) (x1 : Int32) (x2 : Int32) (x4 : Int32) (M : Mem) : Option ((Int32 × Mem) ⊕ (Int32 × Mem)) :=
  (if (M x0 3) ≤ x4 then some (.inr (x4, M)) else ck (inb x4 8) (Option.bind (f_X1_changed (M (rf x0 5) (x4).toNatClampNeg) x1 x2) (fun r5 => ck (inb x4 8) (some (.inl ((x4 + (1 : Int32)), (upM M (rf x0 5) (x4).toNatClampNeg r5)))))))
theorem t_X1_changeDrawers_109_109b {Y : EY} {X : CX} (C : CK Y X cX1_changeDrawers RX1 6 none rm_X1_changeDrawers) {x0 : Nat} {x1 : Int32} {x2 : Int32} {x4 : Int32} {M : Mem} (k0 : K x0 1) {res : (Int32 × Mem) ⊕ (Int32 × Mem)} (h : f_X1_changeDrawers_109_109b x0 x1 x2 x4 M = some res) (hK : KL (At_X1_changeDrawers_109 Y X x0 x1 x2) (Ex_X1_changeDrawers_109 Y X x0 x1 x2) res) : AW Y X 6 109 [(0, .ref (Y.2.2.2.1 x0)), (1, .int x1), (2, .int x2), (4, .int x4)] [] M := by
  unfold f_X1_changeDrawers_109_109b at h
  refine a_iload C dX1_changeDrawers_109 3 rfl ?_
  refine a_aload_n C dX1_changeDrawers_111 0 rfl ?_
  refine a_geti C dX1_changeDrawers_112 fl_X1_37 rfl k0 ?_
  refine a_icmp_ge (tgt := 143) C dX1_changeDrawers_115 (by decide) (fun hc => ?_) (fun hc => ?_)
  · replace h := ip hc h
    replace h := Option.some.inj h
    subst h
    exact a_sub [0, 1, 2] (hK) rfl
  · replace h := iq hc h
    refine a_aload_n C dX1_changeDrawers_118 0 rfl ?_
    refine a_getr (k1 := (rf x0 5)) C dX1_changeDrawers_119 fl_X1_21 rfl k0 rfl ?_
    refine a_iload C dX1_changeDrawers_122 3 rfl ?_
    refine a_aload_n C dX1_changeDrawers_124 0 rfl ?_
    refine a_getr (k1 := (rf x0 5)) C dX1_changeDrawers_125 fl_X1_21 rfl k0 rfl ?_
    refine a_iload C dX1_changeDrawers_128 3 rfl ?_
    obtain ⟨hb, h⟩ := ck_some h
    refine a_iald C dX1_changeDrawers_130 (rk_1_5 k0) (rl_1_5 k0) hb ?_
    refine a_iload_n C dX1_changeDrawers_131 1 rfl ?_
    refine a_iload_n C dX1_changeDrawers_132 2 rfl ?_
    obtain ⟨r5, hcr5, h⟩ := bd_some h
    refine a_callSi C dX1_changeDrawers_133 ls_X1_77 lm_X1_changed ⟨rfl, rfl, by decide, by decide⟩ (m_X1_changed C.2.2.2.2.2.2.1 hcr5) rfl rfl (Nat.le_of_ble_eq_true rfl) ?_
    obtain ⟨hb, h⟩ := ck_some h
    refine a_iast C dX1_changeDrawers_136 (rk_1_5 k0) (rl_1_5 k0) hb ?_
    refine a_iinc (v := 1) (lv' := [(4, _), (0, _), (1, _), (2, _)]) C dX1_changeDrawers_137 3 rfl (by decide) (by decide) rfl ?_
    refine a_goto (tgt := 109) C dX1_changeDrawers_140 (by decide) ?_
    replace h := Option.some.inj h
    subst h
    exact a_sub [1, 2, 3, 0] (hK) rfl
abbrev At_X1_changeDrawers_146 (Y : EY) (X : CX) (x0 : Nat) (x1 : Int32) (x2 : Int32) (s : Int32 × Mem) : Prop := AW Y X 6 146 [(0, .ref (Y.2.2.2.1 x0)), (1, .int x1), (2, .int x2), (4, .int s.1)] [] s.2
abbrev Ex_X1_changeDrawers_146 (Y : EY) (X : CX) (x0 : Nat) (x1 : Int32) (x2 : Int32) (s : Int32 × Mem) : Prop := AW Y X 6 180 [] [] s.2
noncomputable def f_X1_changeDrawers_146_146b (x0 : Nat) (x1 : Int32) (x2 : Int32) (x4 : Int32) (M : Mem) : Option ((Int32 × Mem) ⊕ (Int32 × Mem)) :=
  (if (M x0 6) ≤ x4 then some (.inr (x4, M)) else ck (inb x4 9) (Option.bind (f_X1_changed (M (rf x0 9) (x4).toNatClampNeg) x1 x2) (fun r8 => ck (inb x4 9) (some (.inl ((x4 + (1 : Int32)), (upM M (rf x0 9) (x4).toNatClampNeg r8)))))))
theorem t_X1_changeDrawers_146_146b {Y : EY} {X : CX} (C : CK Y X cX1_changeDrawers RX1 6 none rm_X1_changeDrawers) {x0 : Nat} {x1 : Int32} {x2 : Int32} {x4 : Int32} {M : Mem} (k0 : K x0 1) {res : (Int32 × Mem) ⊕ (Int32 × Mem)} (h : f_X1_changeDrawers_146_146b x0 x1 x2 x4 M = some res) (hK : KL (At_X1_changeDrawers_146 Y X x0 x1 x2) (Ex_X1_changeDrawers_146 Y X x0 x1 x2) res) : AW Y X 6 146 [(0, .ref (Y.2.2.2.1 x0)), (1, .int x1), (2, .int x2), (4, .int x4)] [] M := by
  unfold f_X1_changeDrawers_146_146b at h
  refine a_iload C dX1_changeDrawers_146 3 rfl ?_
  refine a_aload_n C dX1_changeDrawers_148 0 rfl ?_
  refine a_geti C dX1_changeDrawers_149 fl_X1_56 rfl k0 ?_
  refine a_icmp_ge (tgt := 180) C dX1_changeDrawers_152 (by decide) (fun hc => ?_) (fun hc => ?_)
  · replace h := ip hc h
    replace h := Option.some.inj h
    subst h
    exact a_sub [] (hK) rfl
  · replace h := iq hc h
    refine a_aload_n C dX1_changeDrawers_155 0 rfl ?_
    refine a_getr (k1 := (rf x0 9)) C dX1_changeDrawers_156 fl_X1_30 rfl k0 rfl ?_
    refine a_iload C dX1_changeDrawers_159 3 rfl ?_
    refine a_aload_n C dX1_changeDrawers_161 0 rfl ?_
    refine a_getr (k1 := (rf x0 9)) C dX1_changeDrawers_162 fl_X1_30 rfl k0 rfl ?_
    refine a_iload C dX1_changeDrawers_165 3 rfl ?_
    obtain ⟨hb, h⟩ := ck_some h
    refine a_iald C dX1_changeDrawers_167 (rk_1_9 k0) (rl_1_9 k0) hb ?_
    refine a_iload_n C dX1_changeDrawers_168 1 rfl ?_
    refine a_iload_n C dX1_changeDrawers_169 2 rfl ?_
    obtain ⟨r8, hcr8, h⟩ := bd_some h
    refine a_callSi C dX1_changeDrawers_170 ls_X1_77 lm_X1_changed ⟨rfl, rfl, by decide, by decide⟩ (m_X1_changed C.2.2.2.2.2.2.1 hcr8) rfl rfl (Nat.le_of_ble_eq_true rfl) ?_
    obtain ⟨hb, h⟩ := ck_some h
    refine a_iast C dX1_changeDrawers_173 (rk_1_9 k0) (rl_1_9 k0) hb ?_
    refine a_iinc (v := 1) (lv' := [(4, _), (0, _), (1, _), (2, _)]) C dX1_changeDrawers_174 3 rfl (by decide) (by decide) rfl ?_
    refine a_goto (tgt := 146) C dX1_changeDrawers_177 (by decide) ?_
    replace h := Option.some.inj h
    subst h
    exact a_sub [1, 2, 3, 0] (hK) rfl
noncomputable def f_X1_changeDrawers (x0 : Nat) (x1 : Int32) (x2 : Int32) (M : Mem) : Option (Mem) :=
  Option.bind (f_X1_hasAccent x0 x1 M) (fun r1 => (if r1 = 0 then some M else Option.bind (f_X1_hasAccent x0 x2 M) (fun r2 => (if r2 = 0 then some M else ck (inb x1 8) (ck (inb x2 8) (ck (inb x1 8) (ck (inb x2 8) (Option.bind (loop (fun s3 : Int32 × Mem => f_X1_changeDrawers_46_46b x0 x1 x2 s3.1 s3.2) ((0 : Int32), (upM (upM M (rf x0 1) (x1).toNatClampNeg (M (rf x0 1) (x2).toNatClampNeg)) (rf x0 1) (x2).toNatClampNeg (M (rf x0 1) (x1).toNatClampNeg)))) (fun s4 => Option.bind (loop (fun s6 : Int32 × Mem => f_X1_changeDrawers_109_109b x0 x1 x2 s6.1 s6.2) ((0 : Int32), s4.2)) (fun s7 => Option.bind (loop (fun s9 : Int32 × Mem => f_X1_changeDrawers_146_146b x0 x1 x2 s9.1 s9.2) ((0 : Int32), s7.2)) (fun s10 => some s10.2)))))))))))
theorem t_X1_changeDrawers {Y : EY} {X : CX} (C : CK Y X cX1_changeDrawers RX1 6 none rm_X1_changeDrawers) {x0 : Nat} {x1 : Int32} {x2 : Int32} {M : Mem} (k0 : K x0 1) {res : Mem} (h : f_X1_changeDrawers x0 x1 x2 M = some res) (hK : RK Y X none res) : AW Y X 6 0 [(0, .ref (Y.2.2.2.1 x0)), (1, .int x1), (2, .int x2)] [] M := by
  unfold f_X1_changeDrawers at h
  refine a_aload_n C dX1_changeDrawers_0 0 rfl ?_
  refine a_iload_n C dX1_changeDrawers_1 1 rfl ?_
  obtain ⟨r1, hcr1, h⟩ := bd_some h
  refine a_callVi C dX1_changeDrawers_2 lv_X1_73 lm_X1_hasAccent ⟨rfl, rfl, by decide, by decide⟩ k0 (m_X1_hasAccent C.2.2.2.2.2.2.1 k0 hcr1) rfl rfl (Nat.le_of_ble_eq_true rfl) ?_
  refine a_if_eq (tgt := 16) C dX1_changeDrawers_5 (by decide) (fun hc => ?_) (fun hc => ?_)
  · replace h := ip hc h
    replace h := Option.some.inj h
    subst h
    exact a_vret C dX1_changeDrawers_16 hK
  · replace h := iq hc h
    refine a_aload_n C dX1_changeDrawers_8 0 rfl ?_
    refine a_iload_n C dX1_changeDrawers_9 2 rfl ?_
    obtain ⟨r2, hcr2, h⟩ := bd_some h
    refine a_callVi C dX1_changeDrawers_10 lv_X1_73 lm_X1_hasAccent ⟨rfl, rfl, by decide, by decide⟩ k0 (m_X1_hasAccent C.2.2.2.2.2.2.1 k0 hcr2) rfl rfl (Nat.le_of_ble_eq_true rfl) ?_
    refine a_if_ne (tgt := 17) C dX1_changeDrawers_13 (by decide) (fun hc => ?_) (fun hc => ?_)
    · replace h := iq hc h
      refine a_aload_n C dX1_changeDrawers_17 0 rfl ?_
      refine a_getr (k1 := (rf x0 1)) C dX1_changeDrawers_18 fl_X1_9 rfl k0 rfl ?_
      refine a_iload_n C dX1_changeDrawers_21 1 rfl ?_
      obtain ⟨hb, h⟩ := ck_some h
      refine a_iald C dX1_changeDrawers_22 (rk_1_1 k0) (rl_1_1 k0) hb ?_
      refine a_istore_n (lv' := [(3, _), (0, _), (1, _), (2, _)]) C dX1_changeDrawers_23 rfl (by decide) rfl ?_
      refine a_aload_n C dX1_changeDrawers_24 1 rfl ?_
      refine a_getr (k1 := (rf x0 1)) C dX1_changeDrawers_25 fl_X1_9 rfl k0 rfl ?_
      refine a_iload_n C dX1_changeDrawers_28 2 rfl ?_
      refine a_aload_n C dX1_changeDrawers_29 1 rfl ?_
      refine a_getr (k1 := (rf x0 1)) C dX1_changeDrawers_30 fl_X1_9 rfl k0 rfl ?_
      refine a_iload_n C dX1_changeDrawers_33 3 rfl ?_
      obtain ⟨hb, h⟩ := ck_some h
      refine a_iald C dX1_changeDrawers_34 (rk_1_1 k0) (rl_1_1 k0) hb ?_
      obtain ⟨hb, h⟩ := ck_some h
      refine a_iast C dX1_changeDrawers_35 (rk_1_1 k0) (rl_1_1 k0) hb ?_
      refine a_aload_n C dX1_changeDrawers_36 1 rfl ?_
      refine a_getr (k1 := (rf x0 1)) C dX1_changeDrawers_37 fl_X1_9 rfl k0 rfl ?_
      refine a_iload_n C dX1_changeDrawers_40 3 rfl ?_
      refine a_iload_n C dX1_changeDrawers_41 0 rfl ?_
      obtain ⟨hb, h⟩ := ck_some h
      refine a_iast C dX1_changeDrawers_42 (rk_1_1 k0) (rl_1_1 k0) hb ?_
      refine a_iconst (v := 0) C dX1_changeDrawers_43 (by decide) ?_
      refine a_istore (lv' := [(4, _), (3, _), (0, _), (1, _), (2, _)]) C dX1_changeDrawers_44 (by decide) rfl ?_
      obtain ⟨s4, hl, h⟩ := bd_some h
      have hE : Ex_X1_changeDrawers_46 Y X x0 x1 x2 s4 := by
        refine a_iconst (v := 0) C dX1_changeDrawers_106 (by decide) ?_
        refine a_istore (lv' := [(4, _), (0, _), (1, _), (2, _)]) C dX1_changeDrawers_107 (by decide) rfl ?_
        obtain ⟨s7, hl, h⟩ := bd_some h
        have hE : Ex_X1_changeDrawers_109 Y X x0 x1 x2 s7 := by
          refine a_iconst (v := 0) C dX1_changeDrawers_143 (by decide) ?_
          refine a_istore (lv' := [(4, _), (0, _), (1, _), (2, _)]) C dX1_changeDrawers_144 (by decide) rfl ?_
          obtain ⟨s10, hl, h⟩ := bd_some h
          have hE : Ex_X1_changeDrawers_146 Y X x0 x1 x2 s10 := by
            replace h := Option.some.inj h
            subst h
            exact a_vret C dX1_changeDrawers_180 hK
          have hA := aw_loop (At_X1_changeDrawers_146 Y X x0 x1 x2) (Ex_X1_changeDrawers_146 Y X x0 x1 x2) (fun _ _ hb hk => t_X1_changeDrawers_146_146b C k0 hb hk) hl hE
          exact a_sub [1, 2, 3, 0] (hA) rfl
        have hA := aw_loop (At_X1_changeDrawers_109 Y X x0 x1 x2) (Ex_X1_changeDrawers_109 Y X x0 x1 x2) (fun _ _ hb hk => t_X1_changeDrawers_109_109b C k0 hb hk) hl hE
        exact a_sub [1, 2, 3, 0] (hA) rfl
      have hA := aw_loop (At_X1_changeDrawers_46 Y X x0 x1 x2) (Ex_X1_changeDrawers_46 Y X x0 x1 x2) (fun _ _ hb hk => t_X1_changeDrawers_46_46b C k0 hb hk) hl hE
      exact a_sub [2, 3, 4, 0] (hA) rfl
    · replace h := ip hc h
      replace h := Option.some.inj h
      subst h
      exact a_vret C dX1_changeDrawers_16 hK
theorem m_X1_changeDrawers {Y : EY} (hY : HY Y) {x0 : Nat} {x1 : Int32} {x2 : Int32} {M : Mem} (k0 : K x0 1) {r : Mem} (h : f_X1_changeDrawers x0 x1 x2 M = some r) : MX Y yX1_changeDrawers cX1_changeDrawers 6 none rm_X1_changeDrawers [.ref (Y.2.2.2.1 x0), .int x1, .int x2] M (none) r := MX.of hY (by decide) (Nat.le_of_ble_eq_true rfl) (fun _ hR C => a_sub [0, 1, 2] (t_X1_changeDrawers C k0 h hR) rfl)
abbrev rm_X2_renew : Room := { frames := 0, cells := 0, slots := 0, locals := 0 }
abbrev At_X2_renew_12 (Y : EY) (X : CX) (x0 : Nat) (s : Int32 × Mem) : Prop := AW Y X 4 12 [(0, .ref (Y.2.2.2.1 x0)), (3, .int s.1)] [] s.2
abbrev Ex_X2_renew_12 (Y : EY) (X : CX) (x0 : Nat) (s : Int32 × Mem) : Prop := AW Y X 4 31 [] [] s.2
noncomputable def f_X2_renew_12_12b (x0 : Nat) (x3 : Int32) (M : Mem) : Option ((Int32 × Mem) ⊕ (Int32 × Mem)) :=
  (if (60 : Int32) ≤ x3 then some (.inr (x3, M)) else ck (inb x3 60) (some (.inl ((x3 + (1 : Int32)), (upM M (rf x0 2) (x3).toNatClampNeg (0 : Int32))))))
theorem t_X2_renew_12_12b {Y : EY} {X : CX} (C : CK Y X cX2_renew RX2 4 none rm_X2_renew) {x0 : Nat} {x3 : Int32} {M : Mem} (k0 : K x0 2) {res : (Int32 × Mem) ⊕ (Int32 × Mem)} (h : f_X2_renew_12_12b x0 x3 M = some res) (hK : KL (At_X2_renew_12 Y X x0) (Ex_X2_renew_12 Y X x0) res) : AW Y X 4 12 [(0, .ref (Y.2.2.2.1 x0)), (3, .int x3)] [] M := by
  unfold f_X2_renew_12_12b at h
  refine a_iload_n C dX2_renew_12 1 rfl ?_
  refine a_bipush (v := 60) C dX2_renew_13 (by decide) ?_
  refine a_icmp_ge (tgt := 31) C dX2_renew_15 (by decide) (fun hc => ?_) (fun hc => ?_)
  · replace h := ip hc h
    replace h := Option.some.inj h
    subst h
    exact a_sub [] (hK) rfl
  · replace h := iq hc h
    refine a_aload_n C dX2_renew_18 0 rfl ?_
    refine a_getr (k1 := (rf x0 2)) C dX2_renew_19 fl_X2_18 rfl k0 rfl ?_
    refine a_iload_n C dX2_renew_22 1 rfl ?_
    refine a_iconst (v := 0) C dX2_renew_23 (by decide) ?_
    obtain ⟨hb, h⟩ := ck_some h
    refine a_iast C dX2_renew_24 (rk_2_2 k0) (rl_2_2 k0) hb ?_
    refine a_iinc (v := 1) (lv' := [(3, _), (0, _)]) C dX2_renew_25 1 rfl (by decide) (by decide) rfl ?_
    refine a_goto (tgt := 12) C dX2_renew_28 (by decide) ?_
    replace h := Option.some.inj h
    subst h
    exact a_sub [1, 0] (hK) rfl
noncomputable def f_X2_renew (x0 : Nat) (x1 : Int32) (x2 : Int32) (M : Mem) : Option (Mem) :=
  Option.bind (loop (fun s1 : Int32 × Mem => f_X2_renew_12_12b x0 s1.1 s1.2) ((0 : Int32), (upM (upM M x0 0 x1) x0 1 x2))) (fun s2 => some s2.2)
theorem t_X2_renew {Y : EY} {X : CX} (C : CK Y X cX2_renew RX2 4 none rm_X2_renew) {x0 : Nat} {x1 : Int32} {x2 : Int32} {M : Mem} (k0 : K x0 2) {res : Mem} (h : f_X2_renew x0 x1 x2 M = some res) (hK : RK Y X none res) : AW Y X 4 0 [(0, .ref (Y.2.2.2.1 x0)), (1, .int x1), (2, .int x2)] [] M := by
  unfold f_X2_renew at h
  refine a_aload_n C dX2_renew_0 0 rfl ?_
  refine a_iload_n C dX2_renew_1 1 rfl ?_
  refine a_put (ty := .int) C dX2_renew_2 fl_X2_9 (fp_2_0) rfl k0 rfl rfl ?_
  refine a_aload_n C dX2_renew_5 0 rfl ?_
  refine a_iload_n C dX2_renew_6 2 rfl ?_
  refine a_put (ty := .int) C dX2_renew_7 fl_X2_15 (fp_2_1) rfl k0 rfl rfl ?_
  refine a_iconst (v := 0) C dX2_renew_10 (by decide) ?_
  refine a_istore_n (lv' := [(3, _), (0, _), (1, _), (2, _)]) C dX2_renew_11 rfl (by decide) rfl ?_
  obtain ⟨s2, hl, h⟩ := bd_some h
  have hE : Ex_X2_renew_12 Y X x0 s2 := by
    replace h := Option.some.inj h
    subst h
    exact a_vret C dX2_renew_31 hK
  have hA := aw_loop (At_X2_renew_12 Y X x0) (Ex_X2_renew_12 Y X x0) (fun _ _ hb hk => t_X2_renew_12_12b C k0 hb hk) hl hE
  exact a_sub [1, 0] (hA) rfl
theorem m_X2_renew {Y : EY} (hY : HY Y) {x0 : Nat} {x1 : Int32} {x2 : Int32} {M : Mem} (k0 : K x0 2) {r : Mem} (h : f_X2_renew x0 x1 x2 M = some r) : MX Y yX2_renew cX2_renew 4 none rm_X2_renew [.ref (Y.2.2.2.1 x0), .int x1, .int x2] M (none) r := MX.of hY (by decide) (Nat.le_of_ble_eq_true rfl) (fun _ hR C => a_sub [0, 1, 2] (t_X2_renew C k0 h hR) rfl)
abbrev rm_X2_put : Room := { frames := 1, cells := 0, slots := 0, locals := 21 }
noncomputable def f_X2_put (x0 : Nat) (x1 : Int32) (x2 : Int32) (M : Mem) : Option (Mem) :=
  Option.bind (f_X5_isBelow x1 (M x0 1)) (fun r1 => (if r1 = 0 then some M else (if (M x0 0) = 0 then ck (inb x1 60) (some (upM M (rf x0 2) (x1).toNatClampNeg (toB x2))) else (if (M x0 0) = (1 : Int32) then ck (inb x1 60) (some (upM M (rf x0 2) (x1).toNatClampNeg (toS x2))) else ck (inb x1 60) (some (upM M (rf x0 2) (x1).toNatClampNeg x2))))))
theorem t_X2_put {Y : EY} {X : CX} (C : CK Y X cX2_put RX2 3 none rm_X2_put) {x0 : Nat} {x1 : Int32} {x2 : Int32} {M : Mem} (k0 : K x0 2) {res : Mem} (h : f_X2_put x0 x1 x2 M = some res) (hK : RK Y X none res) : AW Y X 3 0 [(0, .ref (Y.2.2.2.1 x0)), (1, .int x1), (2, .int x2)] [] M := by
  unfold f_X2_put at h
  refine a_iload_n C dX2_put_0 1 rfl ?_
  refine a_aload_n C dX2_put_1 0 rfl ?_
  refine a_geti C dX2_put_2 fl_X2_15 rfl k0 ?_
  obtain ⟨r1, hcr1, h⟩ := bd_some h
  refine a_callNi C dX2_put_5 (by decide) is_1 lm_X5_isBelow ⟨rfl, rfl, by decide, by decide⟩ (m_X5_isBelow C.2.2.2.2.2.2.1 hcr1) rfl rfl (Nat.le_of_ble_eq_true rfl) ?_
  refine a_if_ne (tgt := 12) C dX2_put_8 (by decide) (fun hc => ?_) (fun hc => ?_)
  · replace h := iq hc h
    refine a_aload_n C dX2_put_12 0 rfl ?_
    refine a_getr (k1 := (rf x0 2)) C dX2_put_13 fl_X2_18 rfl k0 rfl ?_
    refine a_iload_n C dX2_put_16 1 rfl ?_
    refine a_aload_n C dX2_put_17 0 rfl ?_
    refine a_geti C dX2_put_18 fl_X2_9 rfl k0 ?_
    refine a_if_ne (tgt := 29) C dX2_put_21 (by decide) (fun hc => ?_) (fun hc => ?_)
    · replace h := iq hc h
      refine a_aload_n C dX2_put_29 0 rfl ?_
      refine a_geti C dX2_put_30 fl_X2_9 rfl k0 ?_
      refine a_iconst (v := 1) C dX2_put_33 (by decide) ?_
      refine a_icmp_ne (tgt := 42) C dX2_put_34 (by decide) (fun hc => ?_) (fun hc => ?_)
      · replace h := iq hc h
        refine a_iload_n C dX2_put_42 2 rfl ?_
        obtain ⟨hb, h⟩ := ck_some h
        refine a_iast C dX2_put_43 (rk_2_2 k0) (rl_2_2 k0) hb ?_
        replace h := Option.some.inj h
        subst h
        exact a_vret C dX2_put_44 hK
      · replace h := ip hc h
        refine a_iload_n C dX2_put_37 2 rfl ?_
        refine a_i2s C dX2_put_38 ?_
        refine a_goto (tgt := 43) C dX2_put_39 (by decide) ?_
        obtain ⟨hb, h⟩ := ck_some h
        refine a_iast C dX2_put_43 (rk_2_2 k0) (rl_2_2 k0) hb ?_
        replace h := Option.some.inj h
        subst h
        exact a_vret C dX2_put_44 hK
    · replace h := ip hc h
      refine a_iload_n C dX2_put_24 2 rfl ?_
      refine a_i2b C dX2_put_25 ?_
      refine a_goto (tgt := 43) C dX2_put_26 (by decide) ?_
      obtain ⟨hb, h⟩ := ck_some h
      refine a_iast C dX2_put_43 (rk_2_2 k0) (rl_2_2 k0) hb ?_
      replace h := Option.some.inj h
      subst h
      exact a_vret C dX2_put_44 hK
  · replace h := ip hc h
    replace h := Option.some.inj h
    subst h
    exact a_vret C dX2_put_11 hK
theorem m_X2_put {Y : EY} (hY : HY Y) {x0 : Nat} {x1 : Int32} {x2 : Int32} {M : Mem} (k0 : K x0 2) {r : Mem} (h : f_X2_put x0 x1 x2 M = some r) : MX Y yX2_put cX2_put 3 none rm_X2_put [.ref (Y.2.2.2.1 x0), .int x1, .int x2] M (none) r := MX.of hY (by decide) (Nat.le_of_ble_eq_true rfl) (fun _ hR C => a_sub [0, 1, 2] (t_X2_put C k0 h hR) rfl)
abbrev rm_X2_whatIsWrong : Room := { frames := 1, cells := 0, slots := 0, locals := 21 }
noncomputable def f_X2_whatIsWrong (x0 : Nat) (x1 : Int32) (x2 : Int32) (M : Mem) : Option (Int32) :=
  (if (M x0 0) = (-1 : Int32) then some (1 : Int32) else (if (M x0 0) = x1 then Option.bind (f_X5_isBelow x2 (M x0 1)) (fun r1 => (if r1 = 0 then some (2 : Int32) else some (0 : Int32))) else some (3 : Int32)))
theorem t_X2_whatIsWrong {Y : EY} {X : CX} (C : CK Y X cX2_whatIsWrong RX2 3 (some .int) rm_X2_whatIsWrong) {x0 : Nat} {x1 : Int32} {x2 : Int32} {M : Mem} (k0 : K x0 2) {res : Int32} (h : f_X2_whatIsWrong x0 x1 x2 M = some res) (hK : RK Y X (some (.int res)) M) : AW Y X 3 0 [(0, .ref (Y.2.2.2.1 x0)), (1, .int x1), (2, .int x2)] [] M := by
  unfold f_X2_whatIsWrong at h
  refine a_aload_n C dX2_whatIsWrong_0 0 rfl ?_
  refine a_geti C dX2_whatIsWrong_1 fl_X2_9 rfl k0 ?_
  refine a_iconst (v := -1) C dX2_whatIsWrong_4 (by decide) ?_
  refine a_icmp_ne (tgt := 10) C dX2_whatIsWrong_5 (by decide) (fun hc => ?_) (fun hc => ?_)
  · replace h := iq hc h
    refine a_aload_n C dX2_whatIsWrong_10 0 rfl ?_
    refine a_geti C dX2_whatIsWrong_11 fl_X2_9 rfl k0 ?_
    refine a_iload_n C dX2_whatIsWrong_14 1 rfl ?_
    refine a_icmp_eq (tgt := 20) C dX2_whatIsWrong_15 (by decide) (fun hc => ?_) (fun hc => ?_)
    · replace h := ip hc h
      refine a_iload_n C dX2_whatIsWrong_20 2 rfl ?_
      refine a_aload_n C dX2_whatIsWrong_21 0 rfl ?_
      refine a_geti C dX2_whatIsWrong_22 fl_X2_15 rfl k0 ?_
      obtain ⟨r1, hcr1, h⟩ := bd_some h
      refine a_callNi C dX2_whatIsWrong_25 (by decide) is_1 lm_X5_isBelow ⟨rfl, rfl, by decide, by decide⟩ (m_X5_isBelow C.2.2.2.2.2.2.1 hcr1) rfl rfl (Nat.le_of_ble_eq_true rfl) ?_
      refine a_if_eq (tgt := 35) C dX2_whatIsWrong_28 (by decide) (fun hc => ?_) (fun hc => ?_)
      · replace h := ip hc h
        refine a_iconst (v := 2) C dX2_whatIsWrong_35 (by decide) ?_
        replace h := Option.some.inj h
        subst h
        exact a_iret C dX2_whatIsWrong_36 hK
      · replace h := iq hc h
        refine a_iconst (v := 0) C dX2_whatIsWrong_31 (by decide) ?_
        refine a_goto (tgt := 36) C dX2_whatIsWrong_32 (by decide) ?_
        replace h := Option.some.inj h
        subst h
        exact a_iret C dX2_whatIsWrong_36 hK
    · replace h := iq hc h
      refine a_iconst (v := 3) C dX2_whatIsWrong_18 (by decide) ?_
      replace h := Option.some.inj h
      subst h
      exact a_iret C dX2_whatIsWrong_19 hK
  · replace h := ip hc h
    refine a_iconst (v := 1) C dX2_whatIsWrong_8 (by decide) ?_
    replace h := Option.some.inj h
    subst h
    exact a_iret C dX2_whatIsWrong_9 hK
theorem m_X2_whatIsWrong {Y : EY} (hY : HY Y) {x0 : Nat} {x1 : Int32} {x2 : Int32} {M : Mem} (k0 : K x0 2) {r : Int32} (h : f_X2_whatIsWrong x0 x1 x2 M = some r) : MX Y yX2_whatIsWrong cX2_whatIsWrong 3 (some .int) rm_X2_whatIsWrong [.ref (Y.2.2.2.1 x0), .int x1, .int x2] M (some (.int r)) M := MX.of hY (by decide) (Nat.le_of_ble_eq_true rfl) (fun _ hR C => a_sub [0, 1, 2] (t_X2_whatIsWrong C k0 h hR) rfl)
abbrev rm_X2_hasItems : Room := { frames := 0, cells := 0, slots := 0, locals := 0 }
noncomputable def f_X2_hasItems (x0 : Nat) (x1 : Int32) (x2 : Int32) (M : Mem) : Option (Int32) :=
  (if x1 < 0 then some (0 : Int32) else (if x2 < 0 then some (0 : Int32) else (if ((M x0 1) - x1) < x2 then some (0 : Int32) else some (1 : Int32))))
theorem t_X2_hasItems {Y : EY} {X : CX} (C : CK Y X cX2_hasItems RX2 3 (some .boolean) rm_X2_hasItems) {x0 : Nat} {x1 : Int32} {x2 : Int32} {M : Mem} (k0 : K x0 2) {res : Int32} (h : f_X2_hasItems x0 x1 x2 M = some res) (hK : RK Y X (some (.int res)) M) : AW Y X 3 0 [(0, .ref (Y.2.2.2.1 x0)), (1, .int x1), (2, .int x2)] [] M := by
  unfold f_X2_hasItems at h
  refine a_iload_n C dX2_hasItems_0 1 rfl ?_
  refine a_if_lt (tgt := 22) C dX2_hasItems_1 (by decide) (fun hc => ?_) (fun hc => ?_)
  · replace h := ip hc h
    refine a_iconst (v := 0) C dX2_hasItems_22 (by decide) ?_
    replace h := Option.some.inj h
    subst h
    exact a_zret C dX2_hasItems_23 rfl hK
  · replace h := iq hc h
    refine a_iload_n C dX2_hasItems_4 2 rfl ?_
    refine a_if_lt (tgt := 22) C dX2_hasItems_5 (by decide) (fun hc => ?_) (fun hc => ?_)
    · replace h := ip hc h
      refine a_iconst (v := 0) C dX2_hasItems_22 (by decide) ?_
      replace h := Option.some.inj h
      subst h
      exact a_zret C dX2_hasItems_23 rfl hK
    · replace h := iq hc h
      refine a_iload_n C dX2_hasItems_8 2 rfl ?_
      refine a_aload_n C dX2_hasItems_9 0 rfl ?_
      refine a_geti C dX2_hasItems_10 fl_X2_15 rfl k0 ?_
      refine a_iload_n C dX2_hasItems_13 1 rfl ?_
      refine a_isub C dX2_hasItems_14 ?_
      refine a_icmp_gt (tgt := 22) C dX2_hasItems_15 (by decide) (fun hc => ?_) (fun hc => ?_)
      · replace h := ip hc h
        refine a_iconst (v := 0) C dX2_hasItems_22 (by decide) ?_
        replace h := Option.some.inj h
        subst h
        exact a_zret C dX2_hasItems_23 rfl hK
      · replace h := iq hc h
        refine a_iconst (v := 1) C dX2_hasItems_18 (by decide) ?_
        refine a_goto (tgt := 23) C dX2_hasItems_19 (by decide) ?_
        replace h := Option.some.inj h
        subst h
        exact a_zret C dX2_hasItems_23 rfl hK
theorem m_X2_hasItems {Y : EY} (hY : HY Y) {x0 : Nat} {x1 : Int32} {x2 : Int32} {M : Mem} (k0 : K x0 2) {r : Int32} (h : f_X2_hasItems x0 x1 x2 M = some r) : MX Y yX2_hasItems cX2_hasItems 3 (some .boolean) rm_X2_hasItems [.ref (Y.2.2.2.1 x0), .int x1, .int x2] M (some (.int r)) M := MX.of hY (by decide) (Nat.le_of_ble_eq_true rfl) (fun _ hR C => a_sub [0, 1, 2] (t_X2_hasItems C k0 h hR) rfl)
abbrev rm_X3_append : Room := { frames := 1, cells := 0, slots := 0, locals := 21 }
noncomputable def f_X3_append (x0 : Nat) (x1 : Int32) (M : Mem) : Option (Int32 × Mem) :=
  Option.bind (f_X5_isBelow (M x0 4) (Int32.ofNat (ln (rf x0 0)))) (fun r1 => (if r1 = 0 then some ((0 : Int32), M) else ck (inb (M x0 4) (ln (rf x0 0))) (some ((1 : Int32), (upM (upM M (rf x0 0) ((M x0 4)).toNatClampNeg x1) x0 4 (((upM M (rf x0 0) ((M x0 4)).toNatClampNeg x1) x0 4) + (1 : Int32)))))))
theorem t_X3_append {Y : EY} {X : CX} (C : CK Y X cX3_append RX3 2 (some .boolean) rm_X3_append) {x0 : Nat} {x1 : Int32} {M : Mem} (k0 : K x0 3) {res : Int32 × Mem} (h : f_X3_append x0 x1 M = some res) (hK : RK Y X (some (.int res.1)) res.2) : AW Y X 2 0 [(0, .ref (Y.2.2.2.1 x0)), (1, .int x1)] [] M := by
  unfold f_X3_append at h
  refine a_aload_n C dX3_append_0 0 rfl ?_
  refine a_geti C dX3_append_1 fl_X3_26 rfl k0 ?_
  refine a_aload_n C dX3_append_4 0 rfl ?_
  refine a_getr (k1 := (rf x0 0)) C dX3_append_5 fl_X3_9 rfl k0 rfl ?_
  refine a_alen (v := Int32.ofNat (ln (rf x0 0))) C dX3_append_8 (rk_3_0 k0) rfl ?_
  obtain ⟨r1, hcr1, h⟩ := bd_some h
  refine a_callNi C dX3_append_9 (by decide) is_1 lm_X5_isBelow ⟨rfl, rfl, by decide, by decide⟩ (m_X5_isBelow C.2.2.2.2.2.2.1 hcr1) rfl rfl (Nat.le_of_ble_eq_true rfl) ?_
  refine a_if_ne (tgt := 17) C dX3_append_12 (by decide) (fun hc => ?_) (fun hc => ?_)
  · replace h := iq hc h
    refine a_aload_n C dX3_append_17 0 rfl ?_
    refine a_getr (k1 := (rf x0 0)) C dX3_append_18 fl_X3_9 rfl k0 rfl ?_
    refine a_aload_n C dX3_append_21 0 rfl ?_
    refine a_geti C dX3_append_22 fl_X3_26 rfl k0 ?_
    refine a_iload_n C dX3_append_25 1 rfl ?_
    obtain ⟨hb, h⟩ := ck_some h
    refine a_iast C dX3_append_26 (rk_3_0 k0) rfl hb ?_
    refine a_aload_n C dX3_append_27 0 rfl ?_
    refine a_dup C dX3_append_28 rfl ?_
    refine a_geti C dX3_append_29 fl_X3_26 rfl k0 ?_
    refine a_iconst (v := 1) C dX3_append_32 (by decide) ?_
    refine a_iadd C dX3_append_33 ?_
    refine a_put (ty := .int) C dX3_append_34 fl_X3_26 (fp_3_4) rfl k0 rfl rfl ?_
    refine a_iconst (v := 1) C dX3_append_37 (by decide) ?_
    replace h := Option.some.inj h
    subst h
    exact a_zret C dX3_append_38 rfl hK
  · replace h := ip hc h
    refine a_iconst (v := 0) C dX3_append_15 (by decide) ?_
    replace h := Option.some.inj h
    subst h
    exact a_zret C dX3_append_16 rfl hK
theorem m_X3_append {Y : EY} (hY : HY Y) {x0 : Nat} {x1 : Int32} {M : Mem} (k0 : K x0 3) {r : Int32 × Mem} (h : f_X3_append x0 x1 M = some r) : MX Y yX3_append cX3_append 2 (some .boolean) rm_X3_append [.ref (Y.2.2.2.1 x0), .int x1] M (some (.int r.1)) r.2 := MX.of hY (by decide) (Nat.le_of_ble_eq_true rfl) (fun _ hR C => a_sub [0, 1] (t_X3_append C k0 h hR) rfl)
abbrev rm_X4_begin : Room := { frames := 1, cells := 0, slots := 0, locals := 40 }
abbrev At_X4_begin_25 (Y : EY) (X : CX) (x0 : Nat) (s : Int32 × Mem) : Prop := AW Y X 4 25 [(0, .ref (Y.2.2.2.1 x0)), (1, .int s.1)] [] s.2
abbrev Ex_X4_begin_25 (Y : EY) (X : CX) (x0 : Nat) (s : Int32 × Mem) : Prop := AW Y X 4 107 [] [] s.2
abbrev At_X4_begin_55 (Y : EY) (X : CX) (x0 : Nat) (x1 : Int32) (x2 : Int32) (s : Int32 × Mem) : Prop := AW Y X 4 55 [(0, .ref (Y.2.2.2.1 x0)), (1, .int x1), (2, .int x2), (3, .int s.1)] [] s.2
abbrev Ex_X4_begin_55 (Y : EY) (X : CX) (x0 : Nat) (x1 : Int32) (x2 : Int32) (s : Int32 × Mem) : Prop := AW Y X 4 101 [(0, .ref (Y.2.2.2.1 x0)), (1, .int x1)] [] s.2
noncomputable def f_X4_begin_94_55 (x0 : Nat) (x1 : Int32) (x2 : Int32) (x3 : Int32) (t1 : Int32) (t2 : Int32) (M : Mem) : Option ((Int32 × Mem) ⊕ (Int32 × Mem)) :=
  ck (inb t1 40) (some (.inl ((x3 + (1 : Int32)), (upM M (rf x0 3) (t1).toNatClampNeg t2))))
theorem t_X4_begin_94_55 {Y : EY} {X : CX} (C : CK Y X cX4_begin RX4 4 none rm_X4_begin) {x0 : Nat} {x1 : Int32} {x2 : Int32} {x3 : Int32} {t1 : Int32} {t2 : Int32} {M : Mem} (k0 : K x0 4) {res : (Int32 × Mem) ⊕ (Int32 × Mem)} (h : f_X4_begin_94_55 x0 x1 x2 x3 t1 t2 M = some res) (hK : KL (At_X4_begin_55 Y X x0 x1 x2) (Ex_X4_begin_55 Y X x0 x1 x2) res) : AW Y X 4 94 [(0, .ref (Y.2.2.2.1 x0)), (1, .int x1), (2, .int x2), (3, .int x3)] [.int t2, .int t1, .ref (Y.2.2.2.1 (rf x0 3))] M := by
  unfold f_X4_begin_94_55 at h
  obtain ⟨hb, h⟩ := ck_some h
  refine a_iast C dX4_begin_94 (rk_4_3 k0) (rl_4_3 k0) hb ?_
  refine a_iinc (v := 1) (lv' := [(3, _), (0, _), (1, _), (2, _)]) C dX4_begin_95 3 rfl (by decide) (by decide) rfl ?_
  refine a_goto (tgt := 55) C dX4_begin_98 (by decide) ?_
  replace h := Option.some.inj h
  subst h
  exact a_sub [1, 2, 3, 0] (hK) rfl
noncomputable def f_X4_begin_55_55b (x0 : Nat) (x1 : Int32) (x2 : Int32) (x3 : Int32) (M : Mem) : Option ((Int32 × Mem) ⊕ (Int32 × Mem)) :=
  (if (5 : Int32) ≤ x3 then some (.inr (x3, M)) else Option.bind (f_X1_hasAccent (rf x0 0) x2 M) (fun r1 => (if r1 = 0 then f_X4_begin_94_55 x0 x1 x2 x3 ((x1 * (5 : Int32)) + x3) (5 : Int32) M else ck (inb ((x2 * (5 : Int32)) + x3) 40) (f_X4_begin_94_55 x0 x1 x2 x3 ((x1 * (5 : Int32)) + x3) (M (rf x0 2) (((x2 * (5 : Int32)) + x3)).toNatClampNeg) M))))
theorem t_X4_begin_55_55b {Y : EY} {X : CX} (C : CK Y X cX4_begin RX4 4 none rm_X4_begin) {x0 : Nat} {x1 : Int32} {x2 : Int32} {x3 : Int32} {M : Mem} (k0 : K x0 4) {res : (Int32 × Mem) ⊕ (Int32 × Mem)} (h : f_X4_begin_55_55b x0 x1 x2 x3 M = some res) (hK : KL (At_X4_begin_55 Y X x0 x1 x2) (Ex_X4_begin_55 Y X x0 x1 x2) res) : AW Y X 4 55 [(0, .ref (Y.2.2.2.1 x0)), (1, .int x1), (2, .int x2), (3, .int x3)] [] M := by
  unfold f_X4_begin_55_55b at h
  refine a_iload_n C dX4_begin_55 3 rfl ?_
  refine a_iconst (v := 5) C dX4_begin_56 (by decide) ?_
  refine a_icmp_ge (tgt := 101) C dX4_begin_57 (by decide) (fun hc => ?_) (fun hc => ?_)
  · replace h := ip hc h
    replace h := Option.some.inj h
    subst h
    exact a_sub [0, 1] (hK) rfl
  · replace h := iq hc h
    refine a_aload_n C dX4_begin_60 0 rfl ?_
    refine a_getr (k1 := (rf x0 3)) C dX4_begin_61 fl_X4_15 rfl k0 rfl ?_
    refine a_iload_n C dX4_begin_64 1 rfl ?_
    refine a_iconst (v := 5) C dX4_begin_65 (by decide) ?_
    refine a_imul C dX4_begin_66 ?_
    refine a_iload_n C dX4_begin_67 3 rfl ?_
    refine a_iadd C dX4_begin_68 ?_
    refine a_aload_n C dX4_begin_69 0 rfl ?_
    refine a_getr (k1 := (rf x0 0)) C dX4_begin_70 fl_X4_24 rfl k0 rfl ?_
    refine a_iload_n C dX4_begin_73 2 rfl ?_
    obtain ⟨r1, hcr1, h⟩ := bd_some h
    refine a_callVi C dX4_begin_74 lv_X4_47 lm_X1_hasAccent ⟨rfl, rfl, by decide, by decide⟩ (rk_4_0 k0) (m_X1_hasAccent C.2.2.2.2.2.2.1 (rk_4_0 k0) hcr1) rfl rfl (Nat.le_of_ble_eq_true rfl) ?_
    refine a_if_eq (tgt := 93) C dX4_begin_77 (by decide) (fun hc => ?_) (fun hc => ?_)
    · replace h := ip hc h
      refine a_iconst (v := 5) C dX4_begin_93 (by decide) ?_
      exact a_sub [0, 1, 2, 3] (t_X4_begin_94_55 C k0 h hK) rfl
    · replace h := iq hc h
      refine a_aload_n C dX4_begin_80 0 rfl ?_
      refine a_getr (k1 := (rf x0 2)) C dX4_begin_81 fl_X4_9 rfl k0 rfl ?_
      refine a_iload_n C dX4_begin_84 2 rfl ?_
      refine a_iconst (v := 5) C dX4_begin_85 (by decide) ?_
      refine a_imul C dX4_begin_86 ?_
      refine a_iload_n C dX4_begin_87 3 rfl ?_
      refine a_iadd C dX4_begin_88 ?_
      obtain ⟨hb, h⟩ := ck_some h
      refine a_iald C dX4_begin_89 (rk_4_2 k0) (rl_4_2 k0) hb ?_
      refine a_goto (tgt := 94) C dX4_begin_90 (by decide) ?_
      exact a_sub [0, 1, 2, 3] (t_X4_begin_94_55 C k0 h hK) rfl
noncomputable def f_X4_begin_25_25b (x0 : Nat) (x1 : Int32) (M : Mem) : Option ((Int32 × Mem) ⊕ (Int32 × Mem)) :=
  (if (M (rf x0 0) 3) ≤ x1 then some (.inr (x1, M)) else ck (inb x1 8) (ck (inb x1 8) (Option.bind (loop (fun s2 : Int32 × Mem => f_X4_begin_55_55b x0 x1 (M (rf (rf x0 0) 5) (x1).toNatClampNeg) s2.1 s2.2) ((0 : Int32), (upM M (rf x0 4) (x1).toNatClampNeg (M (rf (rf x0 0) 5) (x1).toNatClampNeg)))) (fun s3 => some (.inl ((x1 + (1 : Int32)), s3.2))))))
theorem t_X4_begin_25_25b {Y : EY} {X : CX} (C : CK Y X cX4_begin RX4 4 none rm_X4_begin) {x0 : Nat} {x1 : Int32} {M : Mem} (k0 : K x0 4) {res : (Int32 × Mem) ⊕ (Int32 × Mem)} (h : f_X4_begin_25_25b x0 x1 M = some res) (hK : KL (At_X4_begin_25 Y X x0) (Ex_X4_begin_25 Y X x0) res) : AW Y X 4 25 [(0, .ref (Y.2.2.2.1 x0)), (1, .int x1)] [] M := by
  unfold f_X4_begin_25_25b at h
  refine a_iload_n C dX4_begin_25 1 rfl ?_
  refine a_aload_n C dX4_begin_26 0 rfl ?_
  refine a_getr (k1 := (rf x0 0)) C dX4_begin_27 fl_X4_24 rfl k0 rfl ?_
  refine a_geti C dX4_begin_30 fl_X4_41 rfl (rk_4_0 k0) ?_
  refine a_icmp_ge (tgt := 107) C dX4_begin_33 (by decide) (fun hc => ?_) (fun hc => ?_)
  · replace h := ip hc h
    replace h := Option.some.inj h
    subst h
    exact a_sub [] (hK) rfl
  · replace h := iq hc h
    refine a_aload_n C dX4_begin_36 0 rfl ?_
    refine a_getr (k1 := (rf x0 0)) C dX4_begin_37 fl_X4_24 rfl k0 rfl ?_
    refine a_getr (k1 := (rf (rf x0 0) 5)) C dX4_begin_40 fl_X4_44 rfl (rk_4_0 k0) rfl ?_
    refine a_iload_n C dX4_begin_43 1 rfl ?_
    obtain ⟨hb, h⟩ := ck_some h
    refine a_iald C dX4_begin_44 (rk_1_5 (rk_4_0 k0)) (rl_1_5 (rk_4_0 k0)) hb ?_
    refine a_istore_n (lv' := [(2, _), (0, _), (1, _)]) C dX4_begin_45 rfl (by decide) rfl ?_
    refine a_aload_n C dX4_begin_46 1 rfl ?_
    refine a_getr (k1 := (rf x0 4)) C dX4_begin_47 fl_X4_18 rfl k0 rfl ?_
    refine a_iload_n C dX4_begin_50 2 rfl ?_
    refine a_iload_n C dX4_begin_51 0 rfl ?_
    obtain ⟨hb, h⟩ := ck_some h
    refine a_iast C dX4_begin_52 (rk_4_4 k0) (rl_4_4 k0) hb ?_
    refine a_iconst (v := 0) C dX4_begin_53 (by decide) ?_
    refine a_istore_n (lv' := [(3, _), (2, _), (0, _), (1, _)]) C dX4_begin_54 rfl (by decide) rfl ?_
    obtain ⟨s3, hl, h⟩ := bd_some h
    have hE : Ex_X4_begin_55 Y X x0 x1 (M (rf (rf x0 0) 5) (x1).toNatClampNeg) s3 := by
      refine a_iinc (v := 1) (lv' := [(1, _), (0, _)]) C dX4_begin_101 1 rfl (by decide) (by decide) rfl ?_
      refine a_goto (tgt := 25) C dX4_begin_104 (by decide) ?_
      replace h := Option.some.inj h
      subst h
      exact a_sub [1, 0] (hK) rfl
    have hA := aw_loop (At_X4_begin_55 Y X x0 x1 (M (rf (rf x0 0) 5) (x1).toNatClampNeg)) (Ex_X4_begin_55 Y X x0 x1 (M (rf (rf x0 0) 5) (x1).toNatClampNeg)) (fun _ _ hb hk => t_X4_begin_55_55b C k0 hb hk) hl hE
    exact a_sub [2, 3, 1, 0] (hA) rfl
noncomputable def f_X4_begin (x0 : Nat) (M : Mem) : Option (Mem) :=
  ck (cpb (0 : Int32) (0 : Int32) (40 : Int32) 40 40) (Option.bind (loop (fun s4 : Int32 × Mem => f_X4_begin_25_25b x0 s4.1 s4.2) ((0 : Int32), (cpM (upM M x0 1 (-1 : Int32)) (rf (rf x0 0) 2) ((0 : Int32)).toNatClampNeg (rf x0 2) ((0 : Int32)).toNatClampNeg ((40 : Int32)).toNatClampNeg))) (fun s5 => some s5.2))
theorem t_X4_begin {Y : EY} {X : CX} (C : CK Y X cX4_begin RX4 4 none rm_X4_begin) {x0 : Nat} {M : Mem} (k0 : K x0 4) {res : Mem} (h : f_X4_begin x0 M = some res) (hK : RK Y X none res) : AW Y X 4 0 [(0, .ref (Y.2.2.2.1 x0))] [] M := by
  unfold f_X4_begin at h
  refine a_aload_n C dX4_begin_0 0 rfl ?_
  refine a_iconst (v := -1) C dX4_begin_1 (by decide) ?_
  refine a_put (ty := .int) C dX4_begin_2 fl_X4_28 (fp_4_1) rfl k0 rfl rfl ?_
  refine a_aload_n C dX4_begin_5 0 rfl ?_
  refine a_getr (k1 := (rf x0 0)) C dX4_begin_6 fl_X4_24 rfl k0 rfl ?_
  refine a_getr (k1 := (rf (rf x0 0) 2)) C dX4_begin_9 fl_X4_32 rfl (rk_4_0 k0) rfl ?_
  refine a_iconst (v := 0) C dX4_begin_12 (by decide) ?_
  refine a_aload_n C dX4_begin_13 0 rfl ?_
  refine a_getr (k1 := (rf x0 2)) C dX4_begin_14 fl_X4_9 rfl k0 rfl ?_
  refine a_iconst (v := 0) C dX4_begin_17 (by decide) ?_
  refine a_bipush (v := 40) C dX4_begin_18 (by decide) ?_
  obtain ⟨hb, h⟩ := ck_some h
  refine a_copy C dX4_begin_20 cp_X4_35 cp_1 cp_2 cp_3 (rk_1_2 (rk_4_0 k0)) (rk_4_2 k0) (rl_1_2 (rk_4_0 k0)) (rl_4_2 k0) hb (by decide) (Nat.le_of_ble_eq_true rfl) ?_
  refine a_iconst (v := 0) C dX4_begin_23 (by decide) ?_
  refine a_istore_n (lv' := [(1, _), (0, _)]) C dX4_begin_24 rfl (by decide) rfl ?_
  obtain ⟨s5, hl, h⟩ := bd_some h
  have hE : Ex_X4_begin_25 Y X x0 s5 := by
    replace h := Option.some.inj h
    subst h
    exact a_vret C dX4_begin_107 hK
  have hA := aw_loop (At_X4_begin_25 Y X x0) (Ex_X4_begin_25 Y X x0) (fun _ _ hb hk => t_X4_begin_25_25b C k0 hb hk) hl hE
  exact a_sub [1, 0] (hA) rfl
theorem m_X4_begin {Y : EY} (hY : HY Y) {x0 : Nat} {M : Mem} (k0 : K x0 4) {r : Mem} (h : f_X4_begin x0 M = some r) : MX Y yX4_begin cX4_begin 4 none rm_X4_begin [.ref (Y.2.2.2.1 x0)] M (none) r := MX.of hY (by decide) (Nat.le_of_ble_eq_true rfl) (fun _ hR C => a_sub [0] (t_X4_begin C k0 h hR) rfl)
abbrev rm_X4_countWearers : Room := { frames := 1, cells := 0, slots := 0, locals := 21 }
abbrev At_X4_countWearers_2 (Y : EY) (X : CX) (x0 : Nat) (s : Int32 × Mem) : Prop := AW Y X 2 2 [(0, .ref (Y.2.2.2.1 x0)), (1, .int s.1)] [] s.2
abbrev Ex_X4_countWearers_2 (Y : EY) (X : CX) (x0 : Nat) (s : Int32 × Mem) : Prop := AW Y X 2 21 [(0, .ref (Y.2.2.2.1 x0))] [] s.2
noncomputable def f_X4_countWearers_2_2b (x0 : Nat) (x1 : Int32) (M : Mem) : Option ((Int32 × Mem) ⊕ (Int32 × Mem)) :=
  (if (8 : Int32) ≤ x1 then some (.inr (x1, M)) else ck (inb x1 8) (some (.inl ((x1 + (1 : Int32)), (upM M (rf x0 5) (x1).toNatClampNeg (0 : Int32))))))
theorem t_X4_countWearers_2_2b {Y : EY} {X : CX} (C : CK Y X cX4_countWearers RX4 2 none rm_X4_countWearers) {x0 : Nat} {x1 : Int32} {M : Mem} (k0 : K x0 4) {res : (Int32 × Mem) ⊕ (Int32 × Mem)} (h : f_X4_countWearers_2_2b x0 x1 M = some res) (hK : KL (At_X4_countWearers_2 Y X x0) (Ex_X4_countWearers_2 Y X x0) res) : AW Y X 2 2 [(0, .ref (Y.2.2.2.1 x0)), (1, .int x1)] [] M := by
  unfold f_X4_countWearers_2_2b at h
  refine a_iload_n C dX4_countWearers_2 1 rfl ?_
  refine a_bipush (v := 8) C dX4_countWearers_3 (by decide) ?_
  refine a_icmp_ge (tgt := 21) C dX4_countWearers_5 (by decide) (fun hc => ?_) (fun hc => ?_)
  · replace h := ip hc h
    replace h := Option.some.inj h
    subst h
    exact a_sub [0] (hK) rfl
  · replace h := iq hc h
    refine a_aload_n C dX4_countWearers_8 0 rfl ?_
    refine a_getr (k1 := (rf x0 5)) C dX4_countWearers_9 fl_X4_21 rfl k0 rfl ?_
    refine a_iload_n C dX4_countWearers_12 1 rfl ?_
    refine a_iconst (v := 0) C dX4_countWearers_13 (by decide) ?_
    obtain ⟨hb, h⟩ := ck_some h
    refine a_iast C dX4_countWearers_14 (rk_4_5 k0) (rl_4_5 k0) hb ?_
    refine a_iinc (v := 1) (lv' := [(1, _), (0, _)]) C dX4_countWearers_15 1 rfl (by decide) (by decide) rfl ?_
    refine a_goto (tgt := 2) C dX4_countWearers_18 (by decide) ?_
    replace h := Option.some.inj h
    subst h
    exact a_sub [1, 0] (hK) rfl
abbrev At_X4_countWearers_23 (Y : EY) (X : CX) (x0 : Nat) (s : Int32 × Mem) : Prop := AW Y X 2 23 [(0, .ref (Y.2.2.2.1 x0)), (1, .int s.1)] [] s.2
abbrev Ex_X4_countWearers_23 (Y : EY) (X : CX) (x0 : Nat) (s : Int32 × Mem) : Prop := AW Y X 2 69 [] [] s.2
noncomputable def f_X4_countWearers_63_23 (x0 : Nat) (x1 : Int32) (M : Mem) : Option ((Int32 × Mem) ⊕ (Int32 × Mem)) :=
  some (.inl ((x1 + (1 : Int32)), M))
theorem t_X4_countWearers_63_23 {Y : EY} {X : CX} (C : CK Y X cX4_countWearers RX4 2 none rm_X4_countWearers) {x0 : Nat} {x1 : Int32} {M : Mem} (k0 : K x0 4) {res : (Int32 × Mem) ⊕ (Int32 × Mem)} (h : f_X4_countWearers_63_23 x0 x1 M = some res) (hK : KL (At_X4_countWearers_23 Y X x0) (Ex_X4_countWearers_23 Y X x0) res) : AW Y X 2 63 [(0, .ref (Y.2.2.2.1 x0)), (1, .int x1)] [] M := by
  unfold f_X4_countWearers_63_23 at h
  refine a_iinc (v := 1) (lv' := [(1, _), (0, _)]) C dX4_countWearers_63 1 rfl (by decide) (by decide) rfl ?_
  refine a_goto (tgt := 23) C dX4_countWearers_66 (by decide) ?_
  replace h := Option.some.inj h
  subst h
  exact a_sub [1, 0] (hK) rfl
noncomputable def f_X4_countWearers_23_23b (x0 : Nat) (x1 : Int32) (M : Mem) : Option ((Int32 × Mem) ⊕ (Int32 × Mem)) :=
  (if (M (rf x0 0) 3) ≤ x1 then some (.inr (x1, M)) else ck (inb x1 8) (Option.bind (f_X5_isBelow (M (rf x0 4) (x1).toNatClampNeg) (8 : Int32)) (fun r3 => (if r3 = 0 then f_X4_countWearers_63_23 x0 x1 M else ck (inb x1 8) (ck (inb (M (rf x0 4) (x1).toNatClampNeg) 8) (ck (inb (M (rf x0 4) (x1).toNatClampNeg) 8) (f_X4_countWearers_63_23 x0 x1 (upM M (rf x0 5) ((M (rf x0 4) (x1).toNatClampNeg)).toNatClampNeg ((M (rf x0 5) ((M (rf x0 4) (x1).toNatClampNeg)).toNatClampNeg) + (1 : Int32))))))))))
theorem t_X4_countWearers_23_23b {Y : EY} {X : CX} (C : CK Y X cX4_countWearers RX4 2 none rm_X4_countWearers) {x0 : Nat} {x1 : Int32} {M : Mem} (k0 : K x0 4) {res : (Int32 × Mem) ⊕ (Int32 × Mem)} (h : f_X4_countWearers_23_23b x0 x1 M = some res) (hK : KL (At_X4_countWearers_23 Y X x0) (Ex_X4_countWearers_23 Y X x0) res) : AW Y X 2 23 [(0, .ref (Y.2.2.2.1 x0)), (1, .int x1)] [] M := by
  unfold f_X4_countWearers_23_23b at h
  refine a_iload_n C dX4_countWearers_23 1 rfl ?_
  refine a_aload_n C dX4_countWearers_24 0 rfl ?_
  refine a_getr (k1 := (rf x0 0)) C dX4_countWearers_25 fl_X4_24 rfl k0 rfl ?_
  refine a_geti C dX4_countWearers_28 fl_X4_41 rfl (rk_4_0 k0) ?_
  refine a_icmp_ge (tgt := 69) C dX4_countWearers_31 (by decide) (fun hc => ?_) (fun hc => ?_)
  · replace h := ip hc h
    replace h := Option.some.inj h
    subst h
    exact a_sub [] (hK) rfl
  · replace h := iq hc h
    refine a_aload_n C dX4_countWearers_34 0 rfl ?_
    refine a_getr (k1 := (rf x0 4)) C dX4_countWearers_35 fl_X4_18 rfl k0 rfl ?_
    refine a_iload_n C dX4_countWearers_38 1 rfl ?_
    obtain ⟨hb, h⟩ := ck_some h
    refine a_iald C dX4_countWearers_39 (rk_4_4 k0) (rl_4_4 k0) hb ?_
    refine a_bipush (v := 8) C dX4_countWearers_40 (by decide) ?_
    obtain ⟨r3, hcr3, h⟩ := bd_some h
    refine a_callNi C dX4_countWearers_42 (by decide) is_1 lm_X5_isBelow ⟨rfl, rfl, by decide, by decide⟩ (m_X5_isBelow C.2.2.2.2.2.2.1 hcr3) rfl rfl (Nat.le_of_ble_eq_true rfl) ?_
    refine a_if_eq (tgt := 63) C dX4_countWearers_45 (by decide) (fun hc => ?_) (fun hc => ?_)
    · replace h := ip hc h
      exact a_sub [0, 1] (t_X4_countWearers_63_23 C k0 h hK) rfl
    · replace h := iq hc h
      refine a_aload_n C dX4_countWearers_48 0 rfl ?_
      refine a_getr (k1 := (rf x0 5)) C dX4_countWearers_49 fl_X4_21 rfl k0 rfl ?_
      refine a_aload_n C dX4_countWearers_52 0 rfl ?_
      refine a_getr (k1 := (rf x0 4)) C dX4_countWearers_53 fl_X4_18 rfl k0 rfl ?_
      refine a_iload_n C dX4_countWearers_56 1 rfl ?_
      obtain ⟨hb, h⟩ := ck_some h
      refine a_iald C dX4_countWearers_57 (rk_4_4 k0) (rl_4_4 k0) hb ?_
      refine a_dup2 C dX4_countWearers_58 rfl rfl ?_
      obtain ⟨hb, h⟩ := ck_some h
      refine a_iald C dX4_countWearers_59 (rk_4_5 k0) (rl_4_5 k0) hb ?_
      refine a_iconst (v := 1) C dX4_countWearers_60 (by decide) ?_
      refine a_iadd C dX4_countWearers_61 ?_
      obtain ⟨hb, h⟩ := ck_some h
      refine a_iast C dX4_countWearers_62 (rk_4_5 k0) (rl_4_5 k0) hb ?_
      exact a_sub [0, 1] (t_X4_countWearers_63_23 C k0 h hK) rfl
noncomputable def f_X4_countWearers (x0 : Nat) (M : Mem) : Option (Mem) :=
  Option.bind (loop (fun s1 : Int32 × Mem => f_X4_countWearers_2_2b x0 s1.1 s1.2) ((0 : Int32), M)) (fun s2 => Option.bind (loop (fun s4 : Int32 × Mem => f_X4_countWearers_23_23b x0 s4.1 s4.2) ((0 : Int32), s2.2)) (fun s5 => some s5.2))
theorem t_X4_countWearers {Y : EY} {X : CX} (C : CK Y X cX4_countWearers RX4 2 none rm_X4_countWearers) {x0 : Nat} {M : Mem} (k0 : K x0 4) {res : Mem} (h : f_X4_countWearers x0 M = some res) (hK : RK Y X none res) : AW Y X 2 0 [(0, .ref (Y.2.2.2.1 x0))] [] M := by
  unfold f_X4_countWearers at h
  refine a_iconst (v := 0) C dX4_countWearers_0 (by decide) ?_
  refine a_istore_n (lv' := [(1, _), (0, _)]) C dX4_countWearers_1 rfl (by decide) rfl ?_
  obtain ⟨s2, hl, h⟩ := bd_some h
  have hE : Ex_X4_countWearers_2 Y X x0 s2 := by
    refine a_iconst (v := 0) C dX4_countWearers_21 (by decide) ?_
    refine a_istore_n (lv' := [(1, _), (0, _)]) C dX4_countWearers_22 rfl (by decide) rfl ?_
    obtain ⟨s5, hl, h⟩ := bd_some h
    have hE : Ex_X4_countWearers_23 Y X x0 s5 := by
      replace h := Option.some.inj h
      subst h
      exact a_vret C dX4_countWearers_69 hK
    have hA := aw_loop (At_X4_countWearers_23 Y X x0) (Ex_X4_countWearers_23 Y X x0) (fun _ _ hb hk => t_X4_countWearers_23_23b C k0 hb hk) hl hE
    exact a_sub [1, 0] (hA) rfl
  have hA := aw_loop (At_X4_countWearers_2 Y X x0) (Ex_X4_countWearers_2 Y X x0) (fun _ _ hb hk => t_X4_countWearers_2_2b C k0 hb hk) hl hE
  exact a_sub [1, 0] (hA) rfl
theorem m_X4_countWearers {Y : EY} (hY : HY Y) {x0 : Nat} {M : Mem} (k0 : K x0 4) {r : Mem} (h : f_X4_countWearers x0 M = some r) : MX Y yX4_countWearers cX4_countWearers 2 none rm_X4_countWearers [.ref (Y.2.2.2.1 x0)] M (none) r := MX.of hY (by decide) (Nat.le_of_ble_eq_true rfl) (fun _ hR C => a_sub [0] (t_X4_countWearers C k0 h hR) rfl)
abbrev rm_X4_doHirings : Room := { frames := 1, cells := 0, slots := 0, locals := 21 }
abbrev At_X4_doHirings_2 (Y : EY) (X : CX) (x0 : Nat) (s : Int32 × Mem) : Prop := AW Y X 2 2 [(0, .ref (Y.2.2.2.1 x0)), (1, .int s.1)] [] s.2
abbrev Ex_X4_doHirings_2 (Y : EY) (X : CX) (x0 : Nat) (s : Int32 × Mem) : Prop := AW Y X 2 77 [] [] s.2
noncomputable def f_X4_doHirings_71_2 (x0 : Nat) (x1 : Int32) (M : Mem) : Option ((Int32 × Mem) ⊕ (Int32 × Mem)) :=
  some (.inl ((x1 + (1 : Int32)), M))
theorem t_X4_doHirings_71_2 {Y : EY} {X : CX} (C : CK Y X cX4_doHirings RX4 2 none rm_X4_doHirings) {x0 : Nat} {x1 : Int32} {M : Mem} (k0 : K x0 4) {res : (Int32 × Mem) ⊕ (Int32 × Mem)} (h : f_X4_doHirings_71_2 x0 x1 M = some res) (hK : KL (At_X4_doHirings_2 Y X x0) (Ex_X4_doHirings_2 Y X x0) res) : AW Y X 2 71 [(0, .ref (Y.2.2.2.1 x0)), (1, .int x1)] [] M := by
  unfold f_X4_doHirings_71_2 at h
  refine a_iinc (v := 1) (lv' := [(1, _), (0, _)]) C dX4_doHirings_71 1 rfl (by decide) (by decide) rfl ?_
  refine a_goto (tgt := 2) C dX4_doHirings_74 (by decide) ?_
  replace h := Option.some.inj h
  subst h
  exact a_sub [1, 0] (hK) rfl
noncomputable def f_X4_doHirings_2_2b (x0 : Nat) (x1 : Int32) (M : Mem) : Option ((Int32 × Mem) ⊕ (Int32 × Mem)) :=
  (if (M (rf x0 0) 6) ≤ x1 then some (.inr (x1, M)) else ck (inb x1 9) ((if (M (rf (rf x0 0) 7) (x1).toNatClampNeg) = (M x0 1) then ck (inb x1 9) (Option.bind (f_X1_hasPerson (rf x0 0) (M (rf (rf x0 0) 8) (x1).toNatClampNeg) M) (fun r1 => (if r1 = 0 then f_X4_doHirings_71_2 x0 x1 M else ck (inb x1 9) (ck (inb x1 9) (ck (inb (M (rf (rf x0 0) 8) (x1).toNatClampNeg) 8) (f_X4_doHirings_71_2 x0 x1 (upM M (rf x0 4) ((M (rf (rf x0 0) 8) (x1).toNatClampNeg)).toNatClampNeg (M (rf (rf x0 0) 9) (x1).toNatClampNeg)))))))) else f_X4_doHirings_71_2 x0 x1 M)))
theorem t_X4_doHirings_2_2b {Y : EY} {X : CX} (C : CK Y X cX4_doHirings RX4 2 none rm_X4_doHirings) {x0 : Nat} {x1 : Int32} {M : Mem} (k0 : K x0 4) {res : (Int32 × Mem) ⊕ (Int32 × Mem)} (h : f_X4_doHirings_2_2b x0 x1 M = some res) (hK : KL (At_X4_doHirings_2 Y X x0) (Ex_X4_doHirings_2 Y X x0) res) : AW Y X 2 2 [(0, .ref (Y.2.2.2.1 x0)), (1, .int x1)] [] M := by
  unfold f_X4_doHirings_2_2b at h
  refine a_iload_n C dX4_doHirings_2 1 rfl ?_
  refine a_aload_n C dX4_doHirings_3 0 rfl ?_
  refine a_getr (k1 := (rf x0 0)) C dX4_doHirings_4 fl_X4_24 rfl k0 rfl ?_
  refine a_geti C dX4_doHirings_7 fl_X4_64 rfl (rk_4_0 k0) ?_
  refine a_icmp_ge (tgt := 77) C dX4_doHirings_10 (by decide) (fun hc => ?_) (fun hc => ?_)
  · replace h := ip hc h
    replace h := Option.some.inj h
    subst h
    exact a_sub [] (hK) rfl
  · replace h := iq hc h
    refine a_aload_n C dX4_doHirings_13 0 rfl ?_
    refine a_getr (k1 := (rf x0 0)) C dX4_doHirings_14 fl_X4_24 rfl k0 rfl ?_
    refine a_getr (k1 := (rf (rf x0 0) 7)) C dX4_doHirings_17 fl_X4_67 rfl (rk_4_0 k0) rfl ?_
    refine a_iload_n C dX4_doHirings_20 1 rfl ?_
    obtain ⟨hb, h⟩ := ck_some h
    refine a_iald C dX4_doHirings_21 (rk_1_7 (rk_4_0 k0)) (rl_1_7 (rk_4_0 k0)) hb ?_
    refine a_aload_n C dX4_doHirings_22 0 rfl ?_
    refine a_geti C dX4_doHirings_23 fl_X4_28 rfl k0 ?_
    refine a_icmp_ne (tgt := 71) C dX4_doHirings_26 (by decide) (fun hc => ?_) (fun hc => ?_)
    · replace h := iq hc h
      exact a_sub [0, 1] (t_X4_doHirings_71_2 C k0 h hK) rfl
    · replace h := ip hc h
      refine a_aload_n C dX4_doHirings_29 0 rfl ?_
      refine a_getr (k1 := (rf x0 0)) C dX4_doHirings_30 fl_X4_24 rfl k0 rfl ?_
      refine a_aload_n C dX4_doHirings_33 0 rfl ?_
      refine a_getr (k1 := (rf x0 0)) C dX4_doHirings_34 fl_X4_24 rfl k0 rfl ?_
      refine a_getr (k1 := (rf (rf x0 0) 8)) C dX4_doHirings_37 fl_X4_70 rfl (rk_4_0 k0) rfl ?_
      refine a_iload_n C dX4_doHirings_40 1 rfl ?_
      obtain ⟨hb, h⟩ := ck_some h
      refine a_iald C dX4_doHirings_41 (rk_1_8 (rk_4_0 k0)) (rl_1_8 (rk_4_0 k0)) hb ?_
      obtain ⟨r1, hcr1, h⟩ := bd_some h
      refine a_callVi C dX4_doHirings_42 lv_X4_73 lm_X1_hasPerson ⟨rfl, rfl, by decide, by decide⟩ (rk_4_0 k0) (m_X1_hasPerson C.2.2.2.2.2.2.1 (rk_4_0 k0) hcr1) rfl rfl (Nat.le_of_ble_eq_true rfl) ?_
      refine a_if_eq (tgt := 71) C dX4_doHirings_45 (by decide) (fun hc => ?_) (fun hc => ?_)
      · replace h := ip hc h
        exact a_sub [0, 1] (t_X4_doHirings_71_2 C k0 h hK) rfl
      · replace h := iq hc h
        refine a_aload_n C dX4_doHirings_48 0 rfl ?_
        refine a_getr (k1 := (rf x0 4)) C dX4_doHirings_49 fl_X4_18 rfl k0 rfl ?_
        refine a_aload_n C dX4_doHirings_52 0 rfl ?_
        refine a_getr (k1 := (rf x0 0)) C dX4_doHirings_53 fl_X4_24 rfl k0 rfl ?_
        refine a_getr (k1 := (rf (rf x0 0) 8)) C dX4_doHirings_56 fl_X4_70 rfl (rk_4_0 k0) rfl ?_
        refine a_iload_n C dX4_doHirings_59 1 rfl ?_
        obtain ⟨hb, h⟩ := ck_some h
        refine a_iald C dX4_doHirings_60 (rk_1_8 (rk_4_0 k0)) (rl_1_8 (rk_4_0 k0)) hb ?_
        refine a_aload_n C dX4_doHirings_61 0 rfl ?_
        refine a_getr (k1 := (rf x0 0)) C dX4_doHirings_62 fl_X4_24 rfl k0 rfl ?_
        refine a_getr (k1 := (rf (rf x0 0) 9)) C dX4_doHirings_65 fl_X4_76 rfl (rk_4_0 k0) rfl ?_
        refine a_iload_n C dX4_doHirings_68 1 rfl ?_
        obtain ⟨hb, h⟩ := ck_some h
        refine a_iald C dX4_doHirings_69 (rk_1_9 (rk_4_0 k0)) (rl_1_9 (rk_4_0 k0)) hb ?_
        obtain ⟨hb, h⟩ := ck_some h
        refine a_iast C dX4_doHirings_70 (rk_4_4 k0) (rl_4_4 k0) hb ?_
        exact a_sub [0, 1] (t_X4_doHirings_71_2 C k0 h hK) rfl
noncomputable def f_X4_doHirings (x0 : Nat) (M : Mem) : Option (Mem) :=
  Option.bind (loop (fun s2 : Int32 × Mem => f_X4_doHirings_2_2b x0 s2.1 s2.2) ((0 : Int32), M)) (fun s3 => some s3.2)
theorem t_X4_doHirings {Y : EY} {X : CX} (C : CK Y X cX4_doHirings RX4 2 none rm_X4_doHirings) {x0 : Nat} {M : Mem} (k0 : K x0 4) {res : Mem} (h : f_X4_doHirings x0 M = some res) (hK : RK Y X none res) : AW Y X 2 0 [(0, .ref (Y.2.2.2.1 x0))] [] M := by
  unfold f_X4_doHirings at h
  refine a_iconst (v := 0) C dX4_doHirings_0 (by decide) ?_
  refine a_istore_n (lv' := [(1, _), (0, _)]) C dX4_doHirings_1 rfl (by decide) rfl ?_
  obtain ⟨s3, hl, h⟩ := bd_some h
  have hE : Ex_X4_doHirings_2 Y X x0 s3 := by
    replace h := Option.some.inj h
    subst h
    exact a_vret C dX4_doHirings_77 hK
  have hA := aw_loop (At_X4_doHirings_2 Y X x0) (Ex_X4_doHirings_2 Y X x0) (fun _ _ hb hk => t_X4_doHirings_2_2b C k0 hb hk) hl hE
  exact a_sub [1, 0] (hA) rfl
theorem m_X4_doHirings {Y : EY} (hY : HY Y) {x0 : Nat} {M : Mem} (k0 : K x0 4) {r : Mem} (h : f_X4_doHirings x0 M = some r) : MX Y yX4_doHirings cX4_doHirings 2 none rm_X4_doHirings [.ref (Y.2.2.2.1 x0)] M (none) r := MX.of hY (by decide) (Nat.le_of_ble_eq_true rfl) (fun _ hR C => a_sub [0] (t_X4_doHirings C k0 h hR) rfl)
abbrev rm_X4_towards : Room := { frames := 0, cells := 0, slots := 0, locals := 0 }
noncomputable def f_X4_towards (x0 : Int32) (x1 : Int32) (x2 : Int32) : Option (Int32) :=
  (if x1 ≤ x0 then (if (x0 - x1) ≤ x2 then some x1 else some (x0 - x2)) else (if (x1 - x0) ≤ x2 then some x1 else some (x0 + x2)))
theorem t_X4_towards {Y : EY} {X : CX} (C : CK Y X cX4_towards RX4 3 (some .int) rm_X4_towards) {x0 : Int32} {x1 : Int32} {x2 : Int32} {M : Mem}  {res : Int32} (h : f_X4_towards x0 x1 x2 = some res) (hK : RK Y X (some (.int res)) M) : AW Y X 3 0 [(0, .int x0), (1, .int x1), (2, .int x2)] [] M := by
  unfold f_X4_towards at h
  refine a_iload_n C dX4_towards_0 1 rfl ?_
  refine a_iload_n C dX4_towards_1 0 rfl ?_
  refine a_icmp_le (tgt := 20) C dX4_towards_2 (by decide) (fun hc => ?_) (fun hc => ?_)
  · replace h := ip hc h
    refine a_iload_n C dX4_towards_20 0 rfl ?_
    refine a_iload_n C dX4_towards_21 1 rfl ?_
    refine a_isub C dX4_towards_22 ?_
    refine a_iload_n C dX4_towards_23 2 rfl ?_
    refine a_icmp_le (tgt := 33) C dX4_towards_24 (by decide) (fun hc => ?_) (fun hc => ?_)
    · replace h := ip hc h
      refine a_iload_n C dX4_towards_33 1 rfl ?_
      replace h := Option.some.inj h
      subst h
      exact a_iret C dX4_towards_34 hK
    · replace h := iq hc h
      refine a_iload_n C dX4_towards_27 0 rfl ?_
      refine a_iload_n C dX4_towards_28 2 rfl ?_
      refine a_isub C dX4_towards_29 ?_
      refine a_goto (tgt := 34) C dX4_towards_30 (by decide) ?_
      replace h := Option.some.inj h
      subst h
      exact a_iret C dX4_towards_34 hK
  · replace h := iq hc h
    refine a_iload_n C dX4_towards_5 1 rfl ?_
    refine a_iload_n C dX4_towards_6 0 rfl ?_
    refine a_isub C dX4_towards_7 ?_
    refine a_iload_n C dX4_towards_8 2 rfl ?_
    refine a_icmp_le (tgt := 18) C dX4_towards_9 (by decide) (fun hc => ?_) (fun hc => ?_)
    · replace h := ip hc h
      refine a_iload_n C dX4_towards_18 1 rfl ?_
      replace h := Option.some.inj h
      subst h
      exact a_iret C dX4_towards_19 hK
    · replace h := iq hc h
      refine a_iload_n C dX4_towards_12 0 rfl ?_
      refine a_iload_n C dX4_towards_13 2 rfl ?_
      refine a_iadd C dX4_towards_14 ?_
      refine a_goto (tgt := 19) C dX4_towards_15 (by decide) ?_
      replace h := Option.some.inj h
      subst h
      exact a_iret C dX4_towards_19 hK
theorem m_X4_towards {Y : EY} (hY : HY Y) {x0 : Int32} {x1 : Int32} {x2 : Int32} {M : Mem}  {r : Int32} (h : f_X4_towards x0 x1 x2 = some r) : MX Y yX4_towards cX4_towards 3 (some .int) rm_X4_towards [.int x0, .int x1, .int x2] M (some (.int r)) M := MX.of hY (by decide) (Nat.le_of_ble_eq_true rfl) (fun _ hR C => a_sub [0, 1, 2] (t_X4_towards C  h hR) rfl)
abbrev rm_X4_learn : Room := { frames := 1, cells := 0, slots := 0, locals := 22 }
abbrev At_X4_learn_52 (Y : EY) (X : CX) (x0 : Nat) (x1 : Int32) (x2 : Int32) (x3 : Int32) (s : Int32 × Int32 × Int32 × Mem) : Prop := AW Y X 9 52 [(0, .ref (Y.2.2.2.1 x0)), (1, .int x1), (2, .int x2), (3, .int x3), (4, .int s.1), (5, .int s.2.1), (6, .int s.2.2.1)] [] s.2.2.2
abbrev Ex_X4_learn_52 (Y : EY) (X : CX) (x0 : Nat) (x1 : Int32) (x2 : Int32) (x3 : Int32) (s : Int32 × Int32 × Int32 × Mem) : Prop := AW Y X 9 147 [(0, .ref (Y.2.2.2.1 x0)), (1, .int x1), (2, .int x2), (4, .int s.1)] [] s.2.2.2
noncomputable def f_X4_learn_141_52 (x0 : Nat) (x1 : Int32) (x2 : Int32) (x3 : Int32) (x4 : Int32) (x5 : Int32) (x6 : Int32) (M : Mem) : Option ((Int32 × Int32 × Int32 × Mem) ⊕ (Int32 × Int32 × Int32 × Mem)) :=
  some (.inl (x4, x5, (x6 + (1 : Int32)), M))
theorem t_X4_learn_141_52 {Y : EY} {X : CX} (C : CK Y X cX4_learn RX4 9 none rm_X4_learn) {x0 : Nat} {x1 : Int32} {x2 : Int32} {x3 : Int32} {x4 : Int32} {x5 : Int32} {x6 : Int32} {M : Mem} (k0 : K x0 4) {res : (Int32 × Int32 × Int32 × Mem) ⊕ (Int32 × Int32 × Int32 × Mem)} (h : f_X4_learn_141_52 x0 x1 x2 x3 x4 x5 x6 M = some res) (hK : KL (At_X4_learn_52 Y X x0 x1 x2 x3) (Ex_X4_learn_52 Y X x0 x1 x2 x3) res) : AW Y X 9 141 [(0, .ref (Y.2.2.2.1 x0)), (1, .int x1), (2, .int x2), (3, .int x3), (4, .int x4), (5, .int x5), (6, .int x6)] [] M := by
  unfold f_X4_learn_141_52 at h
  refine a_iinc (v := 1) (lv' := [(6, _), (0, _), (1, _), (2, _), (3, _), (4, _), (5, _)]) C dX4_learn_141 6 rfl (by decide) (by decide) rfl ?_
  refine a_goto (tgt := 52) C dX4_learn_144 (by decide) ?_
  replace h := Option.some.inj h
  subst h
  exact a_sub [1, 2, 3, 4, 5, 6, 0] (hK) rfl
noncomputable def f_X4_learn_52_52b (x0 : Nat) (x1 : Int32) (x2 : Int32) (x3 : Int32) (x4 : Int32) (x5 : Int32) (x6 : Int32) (M : Mem) : Option ((Int32 × Int32 × Int32 × Mem) ⊕ (Int32 × Int32 × Int32 × Mem)) :=
  (if (5 : Int32) ≤ x6 then some (.inr (x4, x5, x6, M)) else ck (inb ((x1 * (5 : Int32)) + x6) 40) (ck (inb ((x2 * (5 : Int32)) + x6) 40) ((if x3 = (1 : Int32) then ck (inb ((x2 * (5 : Int32)) + x6) 40) (Option.bind (f_X4_towards (M (rf x0 3) (((x1 * (5 : Int32)) + x6)).toNatClampNeg) (M (rf x0 2) (((x2 * (5 : Int32)) + x6)).toNatClampNeg) (1 : Int32)) (fun r2 => ck (inb ((x1 * (5 : Int32)) + x6) 40) (f_X4_learn_141_52 x0 x1 x2 x3 x4 x5 x6 (upM M (rf x0 3) (((x1 * (5 : Int32)) + x6)).toNatClampNeg r2)))) else (if (absI ((M (rf x0 2) (((x2 * (5 : Int32)) + x6)).toNatClampNeg) - (M (rf x0 3) (((x1 * (5 : Int32)) + x6)).toNatClampNeg))) ≤ x5 then f_X4_learn_141_52 x0 x1 x2 x3 x4 x5 x6 M else f_X4_learn_141_52 x0 x1 x2 x3 x6 (absI ((M (rf x0 2) (((x2 * (5 : Int32)) + x6)).toNatClampNeg) - (M (rf x0 3) (((x1 * (5 : Int32)) + x6)).toNatClampNeg))) x6 M)))))
theorem t_X4_learn_52_52b {Y : EY} {X : CX} (C : CK Y X cX4_learn RX4 9 none rm_X4_learn) {x0 : Nat} {x1 : Int32} {x2 : Int32} {x3 : Int32} {x4 : Int32} {x5 : Int32} {x6 : Int32} {M : Mem} (k0 : K x0 4) {res : (Int32 × Int32 × Int32 × Mem) ⊕ (Int32 × Int32 × Int32 × Mem)} (h : f_X4_learn_52_52b x0 x1 x2 x3 x4 x5 x6 M = some res) (hK : KL (At_X4_learn_52 Y X x0 x1 x2 x3) (Ex_X4_learn_52 Y X x0 x1 x2 x3) res) : AW Y X 9 52 [(0, .ref (Y.2.2.2.1 x0)), (1, .int x1), (2, .int x2), (3, .int x3), (4, .int x4), (5, .int x5), (6, .int x6)] [] M := by
  unfold f_X4_learn_52_52b at h
  refine a_iload C dX4_learn_52 6 rfl ?_
  refine a_iconst (v := 5) C dX4_learn_54 (by decide) ?_
  refine a_icmp_ge (tgt := 147) C dX4_learn_55 (by decide) (fun hc => ?_) (fun hc => ?_)
  · replace h := ip hc h
    replace h := Option.some.inj h
    subst h
    exact a_sub [0, 1, 2, 4] (hK) rfl
  · replace h := iq hc h
    refine a_aload_n C dX4_learn_58 0 rfl ?_
    refine a_getr (k1 := (rf x0 3)) C dX4_learn_59 fl_X4_15 rfl k0 rfl ?_
    refine a_iload_n C dX4_learn_62 1 rfl ?_
    refine a_iconst (v := 5) C dX4_learn_63 (by decide) ?_
    refine a_imul C dX4_learn_64 ?_
    refine a_iload C dX4_learn_65 6 rfl ?_
    refine a_iadd C dX4_learn_67 ?_
    obtain ⟨hb, h⟩ := ck_some h
    refine a_iald C dX4_learn_68 (rk_4_3 k0) (rl_4_3 k0) hb ?_
    refine a_istore (lv' := [(7, _), (0, _), (1, _), (2, _), (3, _), (4, _), (5, _), (6, _)]) C dX4_learn_69 (by decide) rfl ?_
    refine a_aload_n C dX4_learn_71 1 rfl ?_
    refine a_getr (k1 := (rf x0 2)) C dX4_learn_72 fl_X4_9 rfl k0 rfl ?_
    refine a_iload_n C dX4_learn_75 3 rfl ?_
    refine a_iconst (v := 5) C dX4_learn_76 (by decide) ?_
    refine a_imul C dX4_learn_77 ?_
    refine a_iload C dX4_learn_78 7 rfl ?_
    refine a_iadd C dX4_learn_80 ?_
    obtain ⟨hb, h⟩ := ck_some h
    refine a_iald C dX4_learn_81 (rk_4_2 k0) (rl_4_2 k0) hb ?_
    refine a_iload C dX4_learn_82 0 rfl ?_
    refine a_isub C dX4_learn_84 ?_
    refine a_mabs C dX4_learn_85 ab_X4_96 ab_1 ab_2 ab_3 (by decide) (Nat.le_of_ble_eq_true rfl) ?_
    refine a_istore (lv' := [(8, _), (7, _), (0, _), (1, _), (2, _), (3, _), (4, _), (5, _), (6, _)]) C dX4_learn_88 (by decide) rfl ?_
    refine a_iload_n C dX4_learn_90 5 rfl ?_
    refine a_iconst (v := 1) C dX4_learn_91 (by decide) ?_
    refine a_icmp_ne (tgt := 126) C dX4_learn_92 (by decide) (fun hc => ?_) (fun hc => ?_)
    · replace h := iq hc h
      refine a_iload C dX4_learn_126 0 rfl ?_
      refine a_iload C dX4_learn_128 7 rfl ?_
      refine a_icmp_le (tgt := 141) C dX4_learn_130 (by decide) (fun hc => ?_) (fun hc => ?_)
      · replace h := ip hc h
        exact a_sub [2, 3, 4, 5, 6, 7, 8] (t_X4_learn_141_52 C k0 h hK) rfl
      · replace h := iq hc h
        refine a_iload C dX4_learn_133 0 rfl ?_
        refine a_istore (lv' := [(5, _), (8, _), (7, _), (0, _), (1, _), (2, _), (3, _), (4, _), (6, _)]) C dX4_learn_135 (by decide) rfl ?_
        refine a_iload C dX4_learn_137 8 rfl ?_
        refine a_istore (lv' := [(4, _), (5, _), (8, _), (7, _), (0, _), (1, _), (2, _), (3, _), (6, _)]) C dX4_learn_139 (by decide) rfl ?_
        exact a_sub [4, 5, 6, 7, 0, 1, 8] (t_X4_learn_141_52 C k0 h hK) rfl
    · replace h := ip hc h
      refine a_aload_n C dX4_learn_95 2 rfl ?_
      refine a_getr (k1 := (rf x0 3)) C dX4_learn_96 fl_X4_15 rfl k0 rfl ?_
      refine a_iload_n C dX4_learn_99 3 rfl ?_
      refine a_iconst (v := 5) C dX4_learn_100 (by decide) ?_
      refine a_imul C dX4_learn_101 ?_
      refine a_iload C dX4_learn_102 8 rfl ?_
      refine a_iadd C dX4_learn_104 ?_
      refine a_iload C dX4_learn_105 1 rfl ?_
      refine a_aload_n C dX4_learn_107 2 rfl ?_
      refine a_getr (k1 := (rf x0 2)) C dX4_learn_108 fl_X4_9 rfl k0 rfl ?_
      refine a_iload_n C dX4_learn_111 4 rfl ?_
      refine a_iconst (v := 5) C dX4_learn_112 (by decide) ?_
      refine a_imul C dX4_learn_113 ?_
      refine a_iload C dX4_learn_114 8 rfl ?_
      refine a_iadd C dX4_learn_116 ?_
      obtain ⟨hb, h⟩ := ck_some h
      refine a_iald C dX4_learn_117 (rk_4_2 k0) (rl_4_2 k0) hb ?_
      refine a_iconst (v := 1) C dX4_learn_118 (by decide) ?_
      obtain ⟨r2, hcr2, h⟩ := bd_some h
      refine a_callSi C dX4_learn_119 ls_X4_89 lm_X4_towards ⟨rfl, rfl, by decide, by decide⟩ (m_X4_towards C.2.2.2.2.2.2.1 hcr2) rfl rfl (Nat.le_of_ble_eq_true rfl) ?_
      obtain ⟨hb, h⟩ := ck_some h
      refine a_iast C dX4_learn_122 (rk_4_3 k0) (rl_4_3 k0) hb ?_
      refine a_goto (tgt := 141) C dX4_learn_123 (by decide) ?_
      exact a_sub [2, 3, 4, 5, 6, 7, 8] (t_X4_learn_141_52 C k0 h hK) rfl
noncomputable def f_X4_learn_43 (x0 : Nat) (x1 : Int32) (x2 : Int32) (x3 : Int32) (M : Mem) : Option (Mem) :=
  Option.bind (loop (fun s3 : Int32 × Int32 × Int32 × Mem => f_X4_learn_52_52b x0 x1 x2 x3 s3.1 s3.2.1 s3.2.2.1 s3.2.2.2) ((-1 : Int32), (0 : Int32), (0 : Int32), M)) (fun s4 => (if s4.1 = (-1 : Int32) then some s4.2.2.2 else ck (inb ((x1 * (5 : Int32)) + s4.1) 40) (ck (inb ((x2 * (5 : Int32)) + s4.1) 40) (Option.bind (f_X4_towards (s4.2.2.2 (rf x0 3) (((x1 * (5 : Int32)) + s4.1)).toNatClampNeg) (s4.2.2.2 (rf x0 2) (((x2 * (5 : Int32)) + s4.1)).toNatClampNeg) (1 : Int32)) (fun r5 => ck (inb ((x1 * (5 : Int32)) + s4.1) 40) (some (upM s4.2.2.2 (rf x0 3) (((x1 * (5 : Int32)) + s4.1)).toNatClampNeg r5)))))))
theorem t_X4_learn_43 {Y : EY} {X : CX} (C : CK Y X cX4_learn RX4 9 none rm_X4_learn) {x0 : Nat} {x1 : Int32} {x2 : Int32} {x3 : Int32} {M : Mem} (k0 : K x0 4) {res : Mem} (h : f_X4_learn_43 x0 x1 x2 x3 M = some res) (hK : RK Y X none res) : AW Y X 9 43 [(0, .ref (Y.2.2.2.1 x0)), (1, .int x1), (2, .int x2), (3, .int x3)] [] M := by
  unfold f_X4_learn_43 at h
  refine a_iconst (v := -1) C dX4_learn_43 (by decide) ?_
  refine a_istore (lv' := [(4, _), (0, _), (1, _), (2, _), (3, _)]) C dX4_learn_44 (by decide) rfl ?_
  refine a_iconst (v := 0) C dX4_learn_46 (by decide) ?_
  refine a_istore (lv' := [(5, _), (4, _), (0, _), (1, _), (2, _), (3, _)]) C dX4_learn_47 (by decide) rfl ?_
  refine a_iconst (v := 0) C dX4_learn_49 (by decide) ?_
  refine a_istore (lv' := [(6, _), (5, _), (4, _), (0, _), (1, _), (2, _), (3, _)]) C dX4_learn_50 (by decide) rfl ?_
  obtain ⟨s4, hl, h⟩ := bd_some h
  have hE : Ex_X4_learn_52 Y X x0 x1 x2 x3 s4 := by
    refine a_iload C dX4_learn_147 3 rfl ?_
    refine a_iconst (v := -1) C dX4_learn_149 (by decide) ?_
    refine a_icmp_eq (tgt := 190) C dX4_learn_150 (by decide) (fun hc => ?_) (fun hc => ?_)
    · replace h := ip hc h
      replace h := Option.some.inj h
      subst h
      exact a_vret C dX4_learn_190 hK
    · replace h := iq hc h
      refine a_iload_n C dX4_learn_153 1 rfl ?_
      refine a_iconst (v := 5) C dX4_learn_154 (by decide) ?_
      refine a_imul C dX4_learn_155 ?_
      refine a_iload C dX4_learn_156 3 rfl ?_
      refine a_iadd C dX4_learn_158 ?_
      refine a_istore (lv' := [(6, _), (0, _), (1, _), (2, _), (4, _)]) C dX4_learn_159 (by decide) rfl ?_
      refine a_aload_n C dX4_learn_161 1 rfl ?_
      refine a_getr (k1 := (rf x0 3)) C dX4_learn_162 fl_X4_15 rfl k0 rfl ?_
      refine a_iload C dX4_learn_165 0 rfl ?_
      refine a_aload_n C dX4_learn_167 1 rfl ?_
      refine a_getr (k1 := (rf x0 3)) C dX4_learn_168 fl_X4_15 rfl k0 rfl ?_
      refine a_iload C dX4_learn_171 0 rfl ?_
      obtain ⟨hb, h⟩ := ck_some h
      refine a_iald C dX4_learn_173 (rk_4_3 k0) (rl_4_3 k0) hb ?_
      refine a_aload_n C dX4_learn_174 1 rfl ?_
      refine a_getr (k1 := (rf x0 2)) C dX4_learn_175 fl_X4_9 rfl k0 rfl ?_
      refine a_iload_n C dX4_learn_178 3 rfl ?_
      refine a_iconst (v := 5) C dX4_learn_179 (by decide) ?_
      refine a_imul C dX4_learn_180 ?_
      refine a_iload C dX4_learn_181 4 rfl ?_
      refine a_iadd C dX4_learn_183 ?_
      obtain ⟨hb, h⟩ := ck_some h
      refine a_iald C dX4_learn_184 (rk_4_2 k0) (rl_4_2 k0) hb ?_
      refine a_iconst (v := 1) C dX4_learn_185 (by decide) ?_
      obtain ⟨r5, hcr5, h⟩ := bd_some h
      refine a_callSi C dX4_learn_186 ls_X4_89 lm_X4_towards ⟨rfl, rfl, by decide, by decide⟩ (m_X4_towards C.2.2.2.2.2.2.1 hcr5) rfl rfl (Nat.le_of_ble_eq_true rfl) ?_
      obtain ⟨hb, h⟩ := ck_some h
      refine a_iast C dX4_learn_189 (rk_4_3 k0) (rl_4_3 k0) hb ?_
      replace h := Option.some.inj h
      subst h
      exact a_vret C dX4_learn_190 hK
  have hA := aw_loop (At_X4_learn_52 Y X x0 x1 x2 x3) (Ex_X4_learn_52 Y X x0 x1 x2 x3) (fun _ _ hb hk => t_X4_learn_52_52b C k0 hb hk) hl hE
  exact a_sub [3, 4, 5, 6, 2, 1, 0] (hA) rfl
noncomputable def f_X4_learn (x0 : Nat) (x1 : Int32) (M : Mem) : Option (Mem) :=
  ck (inb x1 8) (ck (inb x1 8) (Option.bind (f_X1_hasAccent (rf x0 0) (M (rf x0 4) (x1).toNatClampNeg) M) (fun r1 => (if r1 = 0 then some M else (if (M (rf (rf x0 0) 4) (x1).toNatClampNeg) = (2 : Int32) then (if (remI (M x0 1) (2 : Int32)) = 0 then f_X4_learn_43 x0 x1 (M (rf x0 4) (x1).toNatClampNeg) (M (rf (rf x0 0) 4) (x1).toNatClampNeg) M else some M) else f_X4_learn_43 x0 x1 (M (rf x0 4) (x1).toNatClampNeg) (M (rf (rf x0 0) 4) (x1).toNatClampNeg) M)))))
theorem t_X4_learn {Y : EY} {X : CX} (C : CK Y X cX4_learn RX4 9 none rm_X4_learn) {x0 : Nat} {x1 : Int32} {M : Mem} (k0 : K x0 4) {res : Mem} (h : f_X4_learn x0 x1 M = some res) (hK : RK Y X none res) : AW Y X 9 0 [(0, .ref (Y.2.2.2.1 x0)), (1, .int x1)] [] M := by
  unfold f_X4_learn at h
  refine a_aload_n C dX4_learn_0 0 rfl ?_
  refine a_getr (k1 := (rf x0 4)) C dX4_learn_1 fl_X4_18 rfl k0 rfl ?_
  refine a_iload_n C dX4_learn_4 1 rfl ?_
  obtain ⟨hb, h⟩ := ck_some h
  refine a_iald C dX4_learn_5 (rk_4_4 k0) (rl_4_4 k0) hb ?_
  refine a_istore_n (lv' := [(2, _), (0, _), (1, _)]) C dX4_learn_6 rfl (by decide) rfl ?_
  refine a_aload_n C dX4_learn_7 1 rfl ?_
  refine a_getr (k1 := (rf x0 0)) C dX4_learn_8 fl_X4_24 rfl k0 rfl ?_
  refine a_getr (k1 := (rf (rf x0 0) 4)) C dX4_learn_11 fl_X4_93 rfl (rk_4_0 k0) rfl ?_
  refine a_iload_n C dX4_learn_14 2 rfl ?_
  obtain ⟨hb, h⟩ := ck_some h
  refine a_iald C dX4_learn_15 (rk_1_4 (rk_4_0 k0)) (rl_1_4 (rk_4_0 k0)) hb ?_
  refine a_istore_n (lv' := [(3, _), (2, _), (0, _), (1, _)]) C dX4_learn_16 rfl (by decide) rfl ?_
  refine a_aload_n C dX4_learn_17 2 rfl ?_
  refine a_getr (k1 := (rf x0 0)) C dX4_learn_18 fl_X4_24 rfl k0 rfl ?_
  refine a_iload_n C dX4_learn_21 1 rfl ?_
  obtain ⟨r1, hcr1, h⟩ := bd_some h
  refine a_callVi C dX4_learn_22 lv_X4_47 lm_X1_hasAccent ⟨rfl, rfl, by decide, by decide⟩ (rk_4_0 k0) (m_X1_hasAccent C.2.2.2.2.2.2.1 (rk_4_0 k0) hcr1) rfl rfl (Nat.le_of_ble_eq_true rfl) ?_
  refine a_if_eq (tgt := 42) C dX4_learn_25 (by decide) (fun hc => ?_) (fun hc => ?_)
  · replace h := ip hc h
    replace h := Option.some.inj h
    subst h
    exact a_vret C dX4_learn_42 hK
  · replace h := iq hc h
    refine a_iload_n C dX4_learn_28 0 rfl ?_
    refine a_iconst (v := 2) C dX4_learn_29 (by decide) ?_
    refine a_icmp_ne (tgt := 43) C dX4_learn_30 (by decide) (fun hc => ?_) (fun hc => ?_)
    · replace h := iq hc h
      exact a_sub [2, 3, 1, 0] (t_X4_learn_43 C k0 h hK) rfl
    · replace h := ip hc h
      refine a_aload_n C dX4_learn_33 2 rfl ?_
      refine a_geti C dX4_learn_34 fl_X4_28 rfl k0 ?_
      refine a_iconst (v := 2) C dX4_learn_37 (by decide) ?_
      refine a_irem C dX4_learn_38 (by decide) ?_
      refine a_if_eq (tgt := 43) C dX4_learn_39 (by decide) (fun hc => ?_) (fun hc => ?_)
      · replace h := ip hc h
        exact a_sub [2, 3, 1, 0] (t_X4_learn_43 C k0 h hK) rfl
      · replace h := iq hc h
        replace h := Option.some.inj h
        subst h
        exact a_vret C dX4_learn_42 hK
theorem m_X4_learn {Y : EY} (hY : HY Y) {x0 : Nat} {x1 : Int32} {M : Mem} (k0 : K x0 4) {r : Mem} (h : f_X4_learn x0 x1 M = some r) : MX Y yX4_learn cX4_learn 9 none rm_X4_learn [.ref (Y.2.2.2.1 x0), .int x1] M (none) r := MX.of hY (by decide) (Nat.le_of_ble_eq_true rfl) (fun _ hR C => a_sub [0, 1] (t_X4_learn C k0 h hR) rfl)
abbrev rm_X4_talk : Room := { frames := 1, cells := 0, slots := 0, locals := 22 }
abbrev At_X4_talk_2 (Y : EY) (X : CX) (x0 : Nat) (x1 : Int32) (s : Int32 × Mem) : Prop := AW Y X 4 2 [(0, .ref (Y.2.2.2.1 x0)), (1, .int x1), (2, .int s.1)] [] s.2
abbrev Ex_X4_talk_2 (Y : EY) (X : CX) (x0 : Nat) (x1 : Int32) (s : Int32 × Mem) : Prop := AW Y X 4 79 [] [] s.2
noncomputable def f_X4_talk_73_2 (x0 : Nat) (x1 : Int32) (x2 : Int32) (M : Mem) : Option ((Int32 × Mem) ⊕ (Int32 × Mem)) :=
  some (.inl ((x2 + (1 : Int32)), M))
theorem t_X4_talk_73_2 {Y : EY} {X : CX} (C : CK Y X cX4_talk RX4 4 none rm_X4_talk) {x0 : Nat} {x1 : Int32} {x2 : Int32} {M : Mem} (k0 : K x0 4) {res : (Int32 × Mem) ⊕ (Int32 × Mem)} (h : f_X4_talk_73_2 x0 x1 x2 M = some res) (hK : KL (At_X4_talk_2 Y X x0 x1) (Ex_X4_talk_2 Y X x0 x1) res) : AW Y X 4 73 [(0, .ref (Y.2.2.2.1 x0)), (1, .int x1), (2, .int x2)] [] M := by
  unfold f_X4_talk_73_2 at h
  refine a_iinc (v := 1) (lv' := [(2, _), (0, _), (1, _)]) C dX4_talk_73 2 rfl (by decide) (by decide) rfl ?_
  refine a_goto (tgt := 2) C dX4_talk_76 (by decide) ?_
  replace h := Option.some.inj h
  subst h
  exact a_sub [1, 2, 0] (hK) rfl
noncomputable def f_X4_talk_2_2b (x0 : Nat) (x1 : Int32) (x2 : Int32) (M : Mem) : Option ((Int32 × Mem) ⊕ (Int32 × Mem)) :=
  (if (M (rf x0 0) 0) ≤ (x2 + (1 : Int32)) then some (.inr (x2, M)) else ck (inb x2 8) ((if (M (rf x0 5) (x2).toNatClampNeg) = 0 then ck (inb (x2 + (1 : Int32)) 8) ((if (M (rf x0 5) ((x2 + (1 : Int32))).toNatClampNeg) = 0 then ck (inb ((x2 * (5 : Int32)) + x1) 40) (ck (inb (((x2 * (5 : Int32)) + x1) + (5 : Int32)) 40) (ck (inb x2 8) (Option.bind (f_X4_towards (M (rf x0 2) (((x2 * (5 : Int32)) + x1)).toNatClampNeg) (M (rf x0 2) ((((x2 * (5 : Int32)) + x1) + (5 : Int32))).toNatClampNeg) (M (rf (rf x0 0) 1) (x2).toNatClampNeg)) (fun r1 => ck (inb ((x2 * (5 : Int32)) + x1) 40) (f_X4_talk_73_2 x0 x1 x2 (upM M (rf x0 2) (((x2 * (5 : Int32)) + x1)).toNatClampNeg r1)))))) else f_X4_talk_73_2 x0 x1 x2 M)) else f_X4_talk_73_2 x0 x1 x2 M)))
theorem t_X4_talk_2_2b {Y : EY} {X : CX} (C : CK Y X cX4_talk RX4 4 none rm_X4_talk) {x0 : Nat} {x1 : Int32} {x2 : Int32} {M : Mem} (k0 : K x0 4) {res : (Int32 × Mem) ⊕ (Int32 × Mem)} (h : f_X4_talk_2_2b x0 x1 x2 M = some res) (hK : KL (At_X4_talk_2 Y X x0 x1) (Ex_X4_talk_2 Y X x0 x1) res) : AW Y X 4 2 [(0, .ref (Y.2.2.2.1 x0)), (1, .int x1), (2, .int x2)] [] M := by
  unfold f_X4_talk_2_2b at h
  refine a_iload_n C dX4_talk_2 2 rfl ?_
  refine a_iconst (v := 1) C dX4_talk_3 (by decide) ?_
  refine a_iadd C dX4_talk_4 ?_
  refine a_aload_n C dX4_talk_5 0 rfl ?_
  refine a_getr (k1 := (rf x0 0)) C dX4_talk_6 fl_X4_24 rfl k0 rfl ?_
  refine a_geti C dX4_talk_9 fl_X4_83 rfl (rk_4_0 k0) ?_
  refine a_icmp_ge (tgt := 79) C dX4_talk_12 (by decide) (fun hc => ?_) (fun hc => ?_)
  · replace h := ip hc h
    replace h := Option.some.inj h
    subst h
    exact a_sub [] (hK) rfl
  · replace h := iq hc h
    refine a_aload_n C dX4_talk_15 0 rfl ?_
    refine a_getr (k1 := (rf x0 5)) C dX4_talk_16 fl_X4_21 rfl k0 rfl ?_
    refine a_iload_n C dX4_talk_19 2 rfl ?_
    obtain ⟨hb, h⟩ := ck_some h
    refine a_iald C dX4_talk_20 (rk_4_5 k0) (rl_4_5 k0) hb ?_
    refine a_if_ne (tgt := 73) C dX4_talk_21 (by decide) (fun hc => ?_) (fun hc => ?_)
    · replace h := iq hc h
      exact a_sub [0, 1, 2] (t_X4_talk_73_2 C k0 h hK) rfl
    · replace h := ip hc h
      refine a_aload_n C dX4_talk_24 0 rfl ?_
      refine a_getr (k1 := (rf x0 5)) C dX4_talk_25 fl_X4_21 rfl k0 rfl ?_
      refine a_iload_n C dX4_talk_28 2 rfl ?_
      refine a_iconst (v := 1) C dX4_talk_29 (by decide) ?_
      refine a_iadd C dX4_talk_30 ?_
      obtain ⟨hb, h⟩ := ck_some h
      refine a_iald C dX4_talk_31 (rk_4_5 k0) (rl_4_5 k0) hb ?_
      refine a_if_ne (tgt := 73) C dX4_talk_32 (by decide) (fun hc => ?_) (fun hc => ?_)
      · replace h := iq hc h
        exact a_sub [0, 1, 2] (t_X4_talk_73_2 C k0 h hK) rfl
      · replace h := ip hc h
        refine a_iload_n C dX4_talk_35 2 rfl ?_
        refine a_iconst (v := 5) C dX4_talk_36 (by decide) ?_
        refine a_imul C dX4_talk_37 ?_
        refine a_iload_n C dX4_talk_38 1 rfl ?_
        refine a_iadd C dX4_talk_39 ?_
        refine a_istore_n (lv' := [(3, _), (0, _), (1, _), (2, _)]) C dX4_talk_40 rfl (by decide) rfl ?_
        refine a_aload_n C dX4_talk_41 1 rfl ?_
        refine a_getr (k1 := (rf x0 2)) C dX4_talk_42 fl_X4_9 rfl k0 rfl ?_
        refine a_iload_n C dX4_talk_45 0 rfl ?_
        refine a_aload_n C dX4_talk_46 1 rfl ?_
        refine a_getr (k1 := (rf x0 2)) C dX4_talk_47 fl_X4_9 rfl k0 rfl ?_
        refine a_iload_n C dX4_talk_50 0 rfl ?_
        obtain ⟨hb, h⟩ := ck_some h
        refine a_iald C dX4_talk_51 (rk_4_2 k0) (rl_4_2 k0) hb ?_
        refine a_aload_n C dX4_talk_52 1 rfl ?_
        refine a_getr (k1 := (rf x0 2)) C dX4_talk_53 fl_X4_9 rfl k0 rfl ?_
        refine a_iload_n C dX4_talk_56 0 rfl ?_
        refine a_iconst (v := 5) C dX4_talk_57 (by decide) ?_
        refine a_iadd C dX4_talk_58 ?_
        obtain ⟨hb, h⟩ := ck_some h
        refine a_iald C dX4_talk_59 (rk_4_2 k0) (rl_4_2 k0) hb ?_
        refine a_aload_n C dX4_talk_60 1 rfl ?_
        refine a_getr (k1 := (rf x0 0)) C dX4_talk_61 fl_X4_24 rfl k0 rfl ?_
        refine a_getr (k1 := (rf (rf x0 0) 1)) C dX4_talk_64 fl_X4_86 rfl (rk_4_0 k0) rfl ?_
        refine a_iload_n C dX4_talk_67 3 rfl ?_
        obtain ⟨hb, h⟩ := ck_some h
        refine a_iald C dX4_talk_68 (rk_1_1 (rk_4_0 k0)) (rl_1_1 (rk_4_0 k0)) hb ?_
        obtain ⟨r1, hcr1, h⟩ := bd_some h
        refine a_callSi C dX4_talk_69 ls_X4_89 lm_X4_towards ⟨rfl, rfl, by decide, by decide⟩ (m_X4_towards C.2.2.2.2.2.2.1 hcr1) rfl rfl (Nat.le_of_ble_eq_true rfl) ?_
        obtain ⟨hb, h⟩ := ck_some h
        refine a_iast C dX4_talk_72 (rk_4_2 k0) (rl_4_2 k0) hb ?_
        exact a_sub [1, 2, 3] (t_X4_talk_73_2 C k0 h hK) rfl
noncomputable def f_X4_talk (x0 : Nat) (x1 : Int32) (M : Mem) : Option (Mem) :=
  Option.bind (loop (fun s2 : Int32 × Mem => f_X4_talk_2_2b x0 x1 s2.1 s2.2) ((0 : Int32), M)) (fun s3 => some s3.2)
theorem t_X4_talk {Y : EY} {X : CX} (C : CK Y X cX4_talk RX4 4 none rm_X4_talk) {x0 : Nat} {x1 : Int32} {M : Mem} (k0 : K x0 4) {res : Mem} (h : f_X4_talk x0 x1 M = some res) (hK : RK Y X none res) : AW Y X 4 0 [(0, .ref (Y.2.2.2.1 x0)), (1, .int x1)] [] M := by
  unfold f_X4_talk at h
  refine a_iconst (v := 0) C dX4_talk_0 (by decide) ?_
  refine a_istore_n (lv' := [(2, _), (0, _), (1, _)]) C dX4_talk_1 rfl (by decide) rfl ?_
  obtain ⟨s3, hl, h⟩ := bd_some h
  have hE : Ex_X4_talk_2 Y X x0 x1 s3 := by
    replace h := Option.some.inj h
    subst h
    exact a_vret C dX4_talk_79 hK
  have hA := aw_loop (At_X4_talk_2 Y X x0 x1) (Ex_X4_talk_2 Y X x0 x1) (fun _ _ hb hk => t_X4_talk_2_2b C k0 hb hk) hl hE
  exact a_sub [1, 2, 0] (hA) rfl
theorem m_X4_talk {Y : EY} (hY : HY Y) {x0 : Nat} {x1 : Int32} {M : Mem} (k0 : K x0 4) {r : Mem} (h : f_X4_talk x0 x1 M = some r) : MX Y yX4_talk cX4_talk 4 none rm_X4_talk [.ref (Y.2.2.2.1 x0), .int x1] M (none) r := MX.of hY (by decide) (Nat.le_of_ble_eq_true rfl) (fun _ hR C => a_sub [0, 1] (t_X4_talk C k0 h hR) rfl)
abbrev rm_X4_go : Room := { frames := 2, cells := 0, slots := 0, locals := 50 }
abbrev At_X4_go_7 (Y : EY) (X : CX) (x0 : Nat) (x1 : Int32) (s : Int32 × Mem) : Prop := AW Y X 4 7 [(0, .ref (Y.2.2.2.1 x0)), (1, .int x1), (2, .int s.1)] [] s.2
abbrev Ex_X4_go_7 (Y : EY) (X : CX) (x0 : Nat) (x1 : Int32) (s : Int32 × Mem) : Prop := AW Y X 4 78 [] [] s.2
abbrev At_X4_go_50 (Y : EY) (X : CX) (x0 : Nat) (x1 : Int32) (x2 : Int32) (s : Int32 × Mem) : Prop := AW Y X 4 50 [(0, .ref (Y.2.2.2.1 x0)), (1, .int x1), (2, .int x2), (3, .int s.1)] [] s.2
abbrev Ex_X4_go_50 (Y : EY) (X : CX) (x0 : Nat) (x1 : Int32) (x2 : Int32) (s : Int32 × Mem) : Prop := AW Y X 4 72 [(0, .ref (Y.2.2.2.1 x0)), (1, .int x1), (2, .int x2)] [] s.2
noncomputable def f_X4_go_50_50b (x0 : Nat) (x1 : Int32) (x2 : Int32) (x3 : Int32) (M : Mem) : Option ((Int32 × Mem) ⊕ (Int32 × Mem)) :=
  (if (M (rf x0 0) 3) ≤ x3 then some (.inr (x3, M)) else Option.bind (f_X4_learn x0 x3 M) (fun r3 => some (.inl ((x3 + (1 : Int32)), r3))))
theorem t_X4_go_50_50b {Y : EY} {X : CX} (C : CK Y X cX4_go RX4 4 none rm_X4_go) {x0 : Nat} {x1 : Int32} {x2 : Int32} {x3 : Int32} {M : Mem} (k0 : K x0 4) {res : (Int32 × Mem) ⊕ (Int32 × Mem)} (h : f_X4_go_50_50b x0 x1 x2 x3 M = some res) (hK : KL (At_X4_go_50 Y X x0 x1 x2) (Ex_X4_go_50 Y X x0 x1 x2) res) : AW Y X 4 50 [(0, .ref (Y.2.2.2.1 x0)), (1, .int x1), (2, .int x2), (3, .int x3)] [] M := by
  unfold f_X4_go_50_50b at h
  refine a_iload_n C dX4_go_50 3 rfl ?_
  refine a_aload_n C dX4_go_51 0 rfl ?_
  refine a_getr (k1 := (rf x0 0)) C dX4_go_52 fl_X4_24 rfl k0 rfl ?_
  refine a_geti C dX4_go_55 fl_X4_41 rfl (rk_4_0 k0) ?_
  refine a_icmp_ge (tgt := 72) C dX4_go_58 (by decide) (fun hc => ?_) (fun hc => ?_)
  · replace h := ip hc h
    replace h := Option.some.inj h
    subst h
    exact a_sub [0, 1, 2] (hK) rfl
  · replace h := iq hc h
    refine a_aload_n C dX4_go_61 0 rfl ?_
    refine a_iload_n C dX4_go_62 3 rfl ?_
    obtain ⟨r3, hcr3, h⟩ := bd_some h
    refine a_callVv C dX4_go_63 lv_X4_61 lm_X4_learn ⟨rfl, rfl, by decide, by decide⟩ k0 (m_X4_learn C.2.2.2.2.2.2.1 k0 hcr3) rfl rfl (Nat.le_of_ble_eq_true rfl) ?_
    refine a_iinc (v := 1) (lv' := [(3, _), (0, _), (1, _), (2, _)]) C dX4_go_66 3 rfl (by decide) (by decide) rfl ?_
    refine a_goto (tgt := 50) C dX4_go_69 (by decide) ?_
    replace h := Option.some.inj h
    subst h
    exact a_sub [1, 2, 3, 0] (hK) rfl
noncomputable def f_X4_go_48_7 (x0 : Nat) (x1 : Int32) (x2 : Int32) (M : Mem) : Option ((Int32 × Mem) ⊕ (Int32 × Mem)) :=
  Option.bind (loop (fun s4 : Int32 × Mem => f_X4_go_50_50b x0 x1 x2 s4.1 s4.2) ((0 : Int32), M)) (fun s5 => some (.inl ((x2 + (1 : Int32)), s5.2)))
theorem t_X4_go_48_7 {Y : EY} {X : CX} (C : CK Y X cX4_go RX4 4 none rm_X4_go) {x0 : Nat} {x1 : Int32} {x2 : Int32} {M : Mem} (k0 : K x0 4) {res : (Int32 × Mem) ⊕ (Int32 × Mem)} (h : f_X4_go_48_7 x0 x1 x2 M = some res) (hK : KL (At_X4_go_7 Y X x0 x1) (Ex_X4_go_7 Y X x0 x1) res) : AW Y X 4 48 [(0, .ref (Y.2.2.2.1 x0)), (1, .int x1), (2, .int x2)] [] M := by
  unfold f_X4_go_48_7 at h
  refine a_iconst (v := 0) C dX4_go_48 (by decide) ?_
  refine a_istore_n (lv' := [(3, _), (0, _), (1, _), (2, _)]) C dX4_go_49 rfl (by decide) rfl ?_
  obtain ⟨s5, hl, h⟩ := bd_some h
  have hE : Ex_X4_go_50 Y X x0 x1 x2 s5 := by
    refine a_iinc (v := 1) (lv' := [(2, _), (0, _), (1, _)]) C dX4_go_72 2 rfl (by decide) (by decide) rfl ?_
    refine a_goto (tgt := 7) C dX4_go_75 (by decide) ?_
    replace h := Option.some.inj h
    subst h
    exact a_sub [1, 2, 0] (hK) rfl
  have hA := aw_loop (At_X4_go_50 Y X x0 x1 x2) (Ex_X4_go_50 Y X x0 x1 x2) (fun _ _ hb hk => t_X4_go_50_50b C k0 hb hk) hl hE
  exact a_sub [1, 2, 3, 0] (hA) rfl
noncomputable def f_X4_go_7_7b (x0 : Nat) (x1 : Int32) (x2 : Int32) (M : Mem) : Option ((Int32 × Mem) ⊕ (Int32 × Mem)) :=
  (if x1 < x2 then some (.inr (x2, M)) else (if (30 : Int32) ≤ x2 then some (.inr (x2, M)) else Option.bind (f_X4_doHirings x0 (upM M x0 1 x2)) (fun r1 => Option.bind (f_X4_countWearers x0 r1) (fun r2 => (if (remI x2 (7 : Int32)) = (6 : Int32) then Option.bind (f_X4_talk x0 (x2 / (7 : Int32)) r2) (fun r6 => f_X4_go_48_7 x0 x1 x2 r6) else f_X4_go_48_7 x0 x1 x2 r2)))))
theorem t_X4_go_7_7b {Y : EY} {X : CX} (C : CK Y X cX4_go RX4 4 none rm_X4_go) {x0 : Nat} {x1 : Int32} {x2 : Int32} {M : Mem} (k0 : K x0 4) {res : (Int32 × Mem) ⊕ (Int32 × Mem)} (h : f_X4_go_7_7b x0 x1 x2 M = some res) (hK : KL (At_X4_go_7 Y X x0 x1) (Ex_X4_go_7 Y X x0 x1) res) : AW Y X 4 7 [(0, .ref (Y.2.2.2.1 x0)), (1, .int x1), (2, .int x2)] [] M := by
  unfold f_X4_go_7_7b at h
  refine a_iload_n C dX4_go_7 2 rfl ?_
  refine a_iload_n C dX4_go_8 1 rfl ?_
  refine a_icmp_gt (tgt := 78) C dX4_go_9 (by decide) (fun hc => ?_) (fun hc => ?_)
  · replace h := ip hc h
    replace h := Option.some.inj h
    subst h
    exact a_sub [] (hK) rfl
  · replace h := iq hc h
    refine a_iload_n C dX4_go_12 2 rfl ?_
    refine a_bipush (v := 30) C dX4_go_13 (by decide) ?_
    refine a_icmp_ge (tgt := 78) C dX4_go_15 (by decide) (fun hc => ?_) (fun hc => ?_)
    · replace h := ip hc h
      replace h := Option.some.inj h
      subst h
      exact a_sub [] (hK) rfl
    · replace h := iq hc h
      refine a_aload_n C dX4_go_18 0 rfl ?_
      refine a_iload_n C dX4_go_19 2 rfl ?_
      refine a_put (ty := .int) C dX4_go_20 fl_X4_28 (fp_4_1) rfl k0 rfl rfl ?_
      refine a_aload_n C dX4_go_23 0 rfl ?_
      obtain ⟨r1, hcr1, h⟩ := bd_some h
      refine a_callVv C dX4_go_24 lv_X4_51 lm_X4_doHirings ⟨rfl, rfl, by decide, by decide⟩ k0 (m_X4_doHirings C.2.2.2.2.2.2.1 k0 hcr1) rfl rfl (Nat.le_of_ble_eq_true rfl) ?_
      refine a_aload_n C dX4_go_27 0 rfl ?_
      obtain ⟨r2, hcr2, h⟩ := bd_some h
      refine a_callVv C dX4_go_28 lv_X4_54 lm_X4_countWearers ⟨rfl, rfl, by decide, by decide⟩ k0 (m_X4_countWearers C.2.2.2.2.2.2.1 k0 hcr2) rfl rfl (Nat.le_of_ble_eq_true rfl) ?_
      refine a_iload_n C dX4_go_31 2 rfl ?_
      refine a_bipush (v := 7) C dX4_go_32 (by decide) ?_
      refine a_irem C dX4_go_34 (by decide) ?_
      refine a_bipush (v := 6) C dX4_go_35 (by decide) ?_
      refine a_icmp_ne (tgt := 48) C dX4_go_37 (by decide) (fun hc => ?_) (fun hc => ?_)
      · replace h := iq hc h
        exact a_sub [0, 1, 2] (t_X4_go_48_7 C k0 h hK) rfl
      · replace h := ip hc h
        refine a_aload_n C dX4_go_40 0 rfl ?_
        refine a_iload_n C dX4_go_41 2 rfl ?_
        refine a_bipush (v := 7) C dX4_go_42 (by decide) ?_
        refine a_idiv C dX4_go_44 (by decide) ?_
        obtain ⟨r6, hcr6, h⟩ := bd_some h
        refine a_callVv C dX4_go_45 lv_X4_57 lm_X4_talk ⟨rfl, rfl, by decide, by decide⟩ k0 (m_X4_talk C.2.2.2.2.2.2.1 k0 hcr6) rfl rfl (Nat.le_of_ble_eq_true rfl) ?_
        exact a_sub [0, 1, 2] (t_X4_go_48_7 C k0 h hK) rfl
noncomputable def f_X4_go (x0 : Nat) (x1 : Int32) (M : Mem) : Option (Mem) :=
  Option.bind (loop (fun s7 : Int32 × Mem => f_X4_go_7_7b x0 x1 s7.1 s7.2) (((M x0 1) + (1 : Int32)), M)) (fun s8 => some s8.2)
theorem t_X4_go {Y : EY} {X : CX} (C : CK Y X cX4_go RX4 4 none rm_X4_go) {x0 : Nat} {x1 : Int32} {M : Mem} (k0 : K x0 4) {res : Mem} (h : f_X4_go x0 x1 M = some res) (hK : RK Y X none res) : AW Y X 4 0 [(0, .ref (Y.2.2.2.1 x0)), (1, .int x1)] [] M := by
  unfold f_X4_go at h
  refine a_aload_n C dX4_go_0 0 rfl ?_
  refine a_geti C dX4_go_1 fl_X4_28 rfl k0 ?_
  refine a_iconst (v := 1) C dX4_go_4 (by decide) ?_
  refine a_iadd C dX4_go_5 ?_
  refine a_istore_n (lv' := [(2, _), (0, _), (1, _)]) C dX4_go_6 rfl (by decide) rfl ?_
  obtain ⟨s8, hl, h⟩ := bd_some h
  have hE : Ex_X4_go_7 Y X x0 x1 s8 := by
    replace h := Option.some.inj h
    subst h
    exact a_vret C dX4_go_78 hK
  have hA := aw_loop (At_X4_go_7 Y X x0 x1) (Ex_X4_go_7 Y X x0 x1) (fun _ _ hb hk => t_X4_go_7_7b C k0 hb hk) hl hE
  exact a_sub [1, 2, 0] (hA) rfl
theorem m_X4_go {Y : EY} (hY : HY Y) {x0 : Nat} {x1 : Int32} {M : Mem} (k0 : K x0 4) {r : Mem} (h : f_X4_go x0 x1 M = some r) : MX Y yX4_go cX4_go 4 none rm_X4_go [.ref (Y.2.2.2.1 x0), .int x1] M (none) r := MX.of hY (by decide) (Nat.le_of_ble_eq_true rfl) (fun _ hR C => a_sub [0, 1] (t_X4_go C k0 h hR) rfl)
abbrev rm_X4_far : Room := { frames := 1, cells := 0, slots := 0, locals := 21 }
abbrev At_X4_far_5 (Y : EY) (X : CX) (x0 : Nat) (x1 : Int32) (x2 : Int32) (M : Mem) (s : Int32 × Int32) : Prop := AW Y X 5 5 [(0, .ref (Y.2.2.2.1 x0)), (1, .int x1), (2, .int x2), (3, .int s.1), (4, .int s.2)] [] M
abbrev Ex_X4_far_5 (Y : EY) (X : CX) (x0 : Nat) (x1 : Int32) (x2 : Int32) (M : Mem) (s : Int32 × Int32) : Prop := AW Y X 5 46 [(3, .int s.1)] [] M
noncomputable def f_X4_far_5_5b (x0 : Nat) (x1 : Int32) (x2 : Int32) (x3 : Int32) (x4 : Int32) (M : Mem) : Option ((Int32 × Int32) ⊕ (Int32 × Int32)) :=
  (if (5 : Int32) ≤ x4 then some (.inr (x3, x4)) else ck (inb ((x1 * (5 : Int32)) + x4) 40) (ck (inb ((x2 * (5 : Int32)) + x4) 40) (some (.inl ((x3 + (absI ((M (rf x0 3) (((x1 * (5 : Int32)) + x4)).toNatClampNeg) - (M (rf x0 2) (((x2 * (5 : Int32)) + x4)).toNatClampNeg)))), (x4 + (1 : Int32)))))))
theorem t_X4_far_5_5b {Y : EY} {X : CX} (C : CK Y X cX4_far RX4 5 (some .int) rm_X4_far) {x0 : Nat} {x1 : Int32} {x2 : Int32} {x3 : Int32} {x4 : Int32} {M : Mem} (k0 : K x0 4) {res : (Int32 × Int32) ⊕ (Int32 × Int32)} (h : f_X4_far_5_5b x0 x1 x2 x3 x4 M = some res) (hK : KL (At_X4_far_5 Y X x0 x1 x2 M) (Ex_X4_far_5 Y X x0 x1 x2 M) res) : AW Y X 5 5 [(0, .ref (Y.2.2.2.1 x0)), (1, .int x1), (2, .int x2), (3, .int x3), (4, .int x4)] [] M := by
  unfold f_X4_far_5_5b at h
  refine a_iload C dX4_far_5 4 rfl ?_
  refine a_iconst (v := 5) C dX4_far_7 (by decide) ?_
  refine a_icmp_ge (tgt := 46) C dX4_far_8 (by decide) (fun hc => ?_) (fun hc => ?_)
  · replace h := ip hc h
    replace h := Option.some.inj h
    subst h
    exact a_sub [3] (hK) rfl
  · replace h := iq hc h
    refine a_iload_n C dX4_far_11 3 rfl ?_
    refine a_aload_n C dX4_far_12 0 rfl ?_
    refine a_getr (k1 := (rf x0 3)) C dX4_far_13 fl_X4_15 rfl k0 rfl ?_
    refine a_iload_n C dX4_far_16 1 rfl ?_
    refine a_iconst (v := 5) C dX4_far_17 (by decide) ?_
    refine a_imul C dX4_far_18 ?_
    refine a_iload C dX4_far_19 4 rfl ?_
    refine a_iadd C dX4_far_21 ?_
    obtain ⟨hb, h⟩ := ck_some h
    refine a_iald C dX4_far_22 (rk_4_3 k0) (rl_4_3 k0) hb ?_
    refine a_aload_n C dX4_far_23 0 rfl ?_
    refine a_getr (k1 := (rf x0 2)) C dX4_far_24 fl_X4_9 rfl k0 rfl ?_
    refine a_iload_n C dX4_far_27 2 rfl ?_
    refine a_iconst (v := 5) C dX4_far_28 (by decide) ?_
    refine a_imul C dX4_far_29 ?_
    refine a_iload C dX4_far_30 4 rfl ?_
    refine a_iadd C dX4_far_32 ?_
    obtain ⟨hb, h⟩ := ck_some h
    refine a_iald C dX4_far_33 (rk_4_2 k0) (rl_4_2 k0) hb ?_
    refine a_isub C dX4_far_34 ?_
    refine a_mabs C dX4_far_35 ab_X4_96 ab_1 ab_2 ab_3 (by decide) (Nat.le_of_ble_eq_true rfl) ?_
    refine a_iadd C dX4_far_38 ?_
    refine a_istore_n (lv' := [(3, _), (0, _), (1, _), (2, _), (4, _)]) C dX4_far_39 rfl (by decide) rfl ?_
    refine a_iinc (v := 1) (lv' := [(4, _), (3, _), (0, _), (1, _), (2, _)]) C dX4_far_40 4 rfl (by decide) (by decide) rfl ?_
    refine a_goto (tgt := 5) C dX4_far_43 (by decide) ?_
    replace h := Option.some.inj h
    subst h
    exact a_sub [2, 3, 4, 1, 0] (hK) rfl
noncomputable def f_X4_far (x0 : Nat) (x1 : Int32) (x2 : Int32) (M : Mem) : Option (Int32) :=
  Option.bind (loop (fun s1 : Int32 × Int32 => f_X4_far_5_5b x0 x1 x2 s1.1 s1.2 M) ((0 : Int32), (0 : Int32))) (fun s2 => some s2.1)
theorem t_X4_far {Y : EY} {X : CX} (C : CK Y X cX4_far RX4 5 (some .int) rm_X4_far) {x0 : Nat} {x1 : Int32} {x2 : Int32} {M : Mem} (k0 : K x0 4) {res : Int32} (h : f_X4_far x0 x1 x2 M = some res) (hK : RK Y X (some (.int res)) M) : AW Y X 5 0 [(0, .ref (Y.2.2.2.1 x0)), (1, .int x1), (2, .int x2)] [] M := by
  unfold f_X4_far at h
  refine a_iconst (v := 0) C dX4_far_0 (by decide) ?_
  refine a_istore_n (lv' := [(3, _), (0, _), (1, _), (2, _)]) C dX4_far_1 rfl (by decide) rfl ?_
  refine a_iconst (v := 0) C dX4_far_2 (by decide) ?_
  refine a_istore (lv' := [(4, _), (3, _), (0, _), (1, _), (2, _)]) C dX4_far_3 (by decide) rfl ?_
  obtain ⟨s2, hl, h⟩ := bd_some h
  have hE : Ex_X4_far_5 Y X x0 x1 x2 M s2 := by
    refine a_iload_n C dX4_far_46 0 rfl ?_
    replace h := Option.some.inj h
    subst h
    exact a_iret C dX4_far_47 hK
  have hA := aw_loop (At_X4_far_5 Y X x0 x1 x2 M) (Ex_X4_far_5 Y X x0 x1 x2 M) (fun _ _ hb hk => t_X4_far_5_5b C k0 hb hk) hl hE
  exact a_sub [2, 3, 4, 1, 0] (hA) rfl
theorem m_X4_far {Y : EY} (hY : HY Y) {x0 : Nat} {x1 : Int32} {x2 : Int32} {M : Mem} (k0 : K x0 4) {r : Int32} (h : f_X4_far x0 x1 x2 M = some r) : MX Y yX4_far cX4_far 5 (some .int) rm_X4_far [.ref (Y.2.2.2.1 x0), .int x1, .int x2] M (some (.int r)) M := MX.of hY (by decide) (Nat.le_of_ble_eq_true rfl) (fun _ hR C => a_sub [0, 1, 2] (t_X4_far C k0 h hR) rfl)
abbrev rm_X4_takenFor : Room := { frames := 2, cells := 0, slots := 0, locals := 45 }
abbrev At_X4_takenFor_7 (Y : EY) (X : CX) (x0 : Nat) (x1 : Int32) (M : Mem) (s : Int32 × Int32 × Int32) : Prop := AW Y X 6 7 [(0, .ref (Y.2.2.2.1 x0)), (1, .int x1), (2, .int s.1), (3, .int s.2.1), (4, .int s.2.2)] [] M
abbrev Ex_X4_takenFor_7 (Y : EY) (X : CX) (x0 : Nat) (x1 : Int32) (M : Mem) (s : Int32 × Int32 × Int32) : Prop := AW Y X 6 51 [(2, .int s.1)] [] M
noncomputable def f_X4_takenFor_45_7 (x0 : Nat) (x1 : Int32) (x2 : Int32) (x3 : Int32) (x4 : Int32) (M : Mem) : Option ((Int32 × Int32 × Int32) ⊕ (Int32 × Int32 × Int32)) :=
  some (.inl (x2, x3, (x4 + (1 : Int32))))
theorem t_X4_takenFor_45_7 {Y : EY} {X : CX} (C : CK Y X cX4_takenFor RX4 6 (some .int) rm_X4_takenFor) {x0 : Nat} {x1 : Int32} {x2 : Int32} {x3 : Int32} {x4 : Int32} {M : Mem} (k0 : K x0 4) {res : (Int32 × Int32 × Int32) ⊕ (Int32 × Int32 × Int32)} (h : f_X4_takenFor_45_7 x0 x1 x2 x3 x4 M = some res) (hK : KL (At_X4_takenFor_7 Y X x0 x1 M) (Ex_X4_takenFor_7 Y X x0 x1 M) res) : AW Y X 6 45 [(0, .ref (Y.2.2.2.1 x0)), (1, .int x1), (2, .int x2), (3, .int x3), (4, .int x4)] [] M := by
  unfold f_X4_takenFor_45_7 at h
  refine a_iinc (v := 1) (lv' := [(4, _), (0, _), (1, _), (2, _), (3, _)]) C dX4_takenFor_45 4 rfl (by decide) (by decide) rfl ?_
  refine a_goto (tgt := 7) C dX4_takenFor_48 (by decide) ?_
  replace h := Option.some.inj h
  subst h
  exact a_sub [1, 2, 3, 4, 0] (hK) rfl
noncomputable def f_X4_takenFor_39_7 (x0 : Nat) (x1 : Int32) (x4 : Int32) (x5 : Int32) (M : Mem) : Option ((Int32 × Int32 × Int32) ⊕ (Int32 × Int32 × Int32)) :=
  f_X4_takenFor_45_7 x0 x1 x4 x5 x4 M
theorem t_X4_takenFor_39_7 {Y : EY} {X : CX} (C : CK Y X cX4_takenFor RX4 6 (some .int) rm_X4_takenFor) {x0 : Nat} {x1 : Int32} {x4 : Int32} {x5 : Int32} {M : Mem} (k0 : K x0 4) {res : (Int32 × Int32 × Int32) ⊕ (Int32 × Int32 × Int32)} (h : f_X4_takenFor_39_7 x0 x1 x4 x5 M = some res) (hK : KL (At_X4_takenFor_7 Y X x0 x1 M) (Ex_X4_takenFor_7 Y X x0 x1 M) res) : AW Y X 6 39 [(0, .ref (Y.2.2.2.1 x0)), (1, .int x1), (4, .int x4), (5, .int x5)] [] M := by
  unfold f_X4_takenFor_39_7 at h
  refine a_iload C dX4_takenFor_39 2 rfl ?_
  refine a_istore_n (lv' := [(2, _), (0, _), (1, _), (4, _), (5, _)]) C dX4_takenFor_41 rfl (by decide) rfl ?_
  refine a_iload C dX4_takenFor_42 4 rfl ?_
  refine a_istore_n (lv' := [(3, _), (2, _), (0, _), (1, _), (4, _), (5, _)]) C dX4_takenFor_44 rfl (by decide) rfl ?_
  exact a_sub [2, 3, 1, 0, 4] (t_X4_takenFor_45_7 C k0 h hK) rfl
noncomputable def f_X4_takenFor_7_7b (x0 : Nat) (x1 : Int32) (x2 : Int32) (x3 : Int32) (x4 : Int32) (M : Mem) : Option ((Int32 × Int32 × Int32) ⊕ (Int32 × Int32 × Int32)) :=
  (if (M (rf x0 0) 0) ≤ x4 then some (.inr (x2, x3, x4)) else Option.bind (f_X4_far x0 x1 x4 M) (fun r1 => (if x2 = (-1 : Int32) then f_X4_takenFor_39_7 x0 x1 x4 r1 M else (if x3 ≤ r1 then f_X4_takenFor_45_7 x0 x1 x2 x3 x4 M else f_X4_takenFor_39_7 x0 x1 x4 r1 M))))
theorem t_X4_takenFor_7_7b {Y : EY} {X : CX} (C : CK Y X cX4_takenFor RX4 6 (some .int) rm_X4_takenFor) {x0 : Nat} {x1 : Int32} {x2 : Int32} {x3 : Int32} {x4 : Int32} {M : Mem} (k0 : K x0 4) {res : (Int32 × Int32 × Int32) ⊕ (Int32 × Int32 × Int32)} (h : f_X4_takenFor_7_7b x0 x1 x2 x3 x4 M = some res) (hK : KL (At_X4_takenFor_7 Y X x0 x1 M) (Ex_X4_takenFor_7 Y X x0 x1 M) res) : AW Y X 6 7 [(0, .ref (Y.2.2.2.1 x0)), (1, .int x1), (2, .int x2), (3, .int x3), (4, .int x4)] [] M := by
  unfold f_X4_takenFor_7_7b at h
  refine a_iload C dX4_takenFor_7 4 rfl ?_
  refine a_aload_n C dX4_takenFor_9 0 rfl ?_
  refine a_getr (k1 := (rf x0 0)) C dX4_takenFor_10 fl_X4_24 rfl k0 rfl ?_
  refine a_geti C dX4_takenFor_13 fl_X4_83 rfl (rk_4_0 k0) ?_
  refine a_icmp_ge (tgt := 51) C dX4_takenFor_16 (by decide) (fun hc => ?_) (fun hc => ?_)
  · replace h := ip hc h
    replace h := Option.some.inj h
    subst h
    exact a_sub [2] (hK) rfl
  · replace h := iq hc h
    refine a_aload_n C dX4_takenFor_19 0 rfl ?_
    refine a_iload_n C dX4_takenFor_20 1 rfl ?_
    refine a_iload C dX4_takenFor_21 4 rfl ?_
    obtain ⟨r1, hcr1, h⟩ := bd_some h
    refine a_callVi C dX4_takenFor_23 lv_X4_102 lm_X4_far ⟨rfl, rfl, by decide, by decide⟩ k0 (m_X4_far C.2.2.2.2.2.2.1 k0 hcr1) rfl rfl (Nat.le_of_ble_eq_true rfl) ?_
    refine a_istore (lv' := [(5, _), (0, _), (1, _), (2, _), (3, _), (4, _)]) C dX4_takenFor_26 (by decide) rfl ?_
    refine a_iload_n C dX4_takenFor_28 3 rfl ?_
    refine a_iconst (v := -1) C dX4_takenFor_29 (by decide) ?_
    refine a_icmp_eq (tgt := 39) C dX4_takenFor_30 (by decide) (fun hc => ?_) (fun hc => ?_)
    · replace h := ip hc h
      exact a_sub [1, 2, 5, 0] (t_X4_takenFor_39_7 C k0 h hK) rfl
    · replace h := iq hc h
      refine a_iload C dX4_takenFor_33 0 rfl ?_
      refine a_iload_n C dX4_takenFor_35 4 rfl ?_
      refine a_icmp_ge (tgt := 45) C dX4_takenFor_36 (by decide) (fun hc => ?_) (fun hc => ?_)
      · replace h := ip hc h
        exact a_sub [1, 2, 3, 4, 5] (t_X4_takenFor_45_7 C k0 h hK) rfl
      · replace h := iq hc h
        exact a_sub [1, 2, 5, 0] (t_X4_takenFor_39_7 C k0 h hK) rfl
noncomputable def f_X4_takenFor (x0 : Nat) (x1 : Int32) (M : Mem) : Option (Int32) :=
  Option.bind (loop (fun s2 : Int32 × Int32 × Int32 => f_X4_takenFor_7_7b x0 x1 s2.1 s2.2.1 s2.2.2 M) ((-1 : Int32), (0 : Int32), (0 : Int32))) (fun s3 => some s3.1)
theorem t_X4_takenFor {Y : EY} {X : CX} (C : CK Y X cX4_takenFor RX4 6 (some .int) rm_X4_takenFor) {x0 : Nat} {x1 : Int32} {M : Mem} (k0 : K x0 4) {res : Int32} (h : f_X4_takenFor x0 x1 M = some res) (hK : RK Y X (some (.int res)) M) : AW Y X 6 0 [(0, .ref (Y.2.2.2.1 x0)), (1, .int x1)] [] M := by
  unfold f_X4_takenFor at h
  refine a_iconst (v := -1) C dX4_takenFor_0 (by decide) ?_
  refine a_istore_n (lv' := [(2, _), (0, _), (1, _)]) C dX4_takenFor_1 rfl (by decide) rfl ?_
  refine a_iconst (v := 0) C dX4_takenFor_2 (by decide) ?_
  refine a_istore_n (lv' := [(3, _), (2, _), (0, _), (1, _)]) C dX4_takenFor_3 rfl (by decide) rfl ?_
  refine a_iconst (v := 0) C dX4_takenFor_4 (by decide) ?_
  refine a_istore (lv' := [(4, _), (3, _), (2, _), (0, _), (1, _)]) C dX4_takenFor_5 (by decide) rfl ?_
  obtain ⟨s3, hl, h⟩ := bd_some h
  have hE : Ex_X4_takenFor_7 Y X x0 x1 M s3 := by
    refine a_iload_n C dX4_takenFor_51 0 rfl ?_
    replace h := Option.some.inj h
    subst h
    exact a_iret C dX4_takenFor_52 hK
  have hA := aw_loop (At_X4_takenFor_7 Y X x0 x1 M) (Ex_X4_takenFor_7 Y X x0 x1 M) (fun _ _ hb hk => t_X4_takenFor_7_7b C k0 hb hk) hl hE
  exact a_sub [3, 4, 2, 1, 0] (hA) rfl
theorem m_X4_takenFor {Y : EY} (hY : HY Y) {x0 : Nat} {x1 : Int32} {M : Mem} (k0 : K x0 4) {r : Int32} (h : f_X4_takenFor x0 x1 M = some r) : MX Y yX4_takenFor cX4_takenFor 6 (some .int) rm_X4_takenFor [.ref (Y.2.2.2.1 x0), .int x1] M (some (.int r)) M := MX.of hY (by decide) (Nat.le_of_ble_eq_true rfl) (fun _ hR C => a_sub [0, 1] (t_X4_takenFor C k0 h hR) rfl)
abbrev rm_X4_astrayBits : Room := { frames := 3, cells := 0, slots := 0, locals := 70 }
abbrev At_X4_astrayBits_4 (Y : EY) (X : CX) (x0 : Nat) (M : Mem) (s : Int32 × Int32) : Prop := AW Y X 4 4 [(0, .ref (Y.2.2.2.1 x0)), (1, .int s.1), (2, .int s.2)] [] M
abbrev Ex_X4_astrayBits_4 (Y : EY) (X : CX) (x0 : Nat) (M : Mem) (s : Int32 × Int32) : Prop := AW Y X 4 51 [(1, .int s.1)] [] M
noncomputable def f_X4_astrayBits_45_4 (x0 : Nat) (x1 : Int32) (x2 : Int32) (M : Mem) : Option ((Int32 × Int32) ⊕ (Int32 × Int32)) :=
  some (.inl (x1, (x2 + (1 : Int32))))
theorem t_X4_astrayBits_45_4 {Y : EY} {X : CX} (C : CK Y X cX4_astrayBits RX4 4 (some .int) rm_X4_astrayBits) {x0 : Nat} {x1 : Int32} {x2 : Int32} {M : Mem} (k0 : K x0 4) {res : (Int32 × Int32) ⊕ (Int32 × Int32)} (h : f_X4_astrayBits_45_4 x0 x1 x2 M = some res) (hK : KL (At_X4_astrayBits_4 Y X x0 M) (Ex_X4_astrayBits_4 Y X x0 M) res) : AW Y X 4 45 [(0, .ref (Y.2.2.2.1 x0)), (1, .int x1), (2, .int x2)] [] M := by
  unfold f_X4_astrayBits_45_4 at h
  refine a_iinc (v := 1) (lv' := [(2, _), (0, _), (1, _)]) C dX4_astrayBits_45 2 rfl (by decide) (by decide) rfl ?_
  refine a_goto (tgt := 4) C dX4_astrayBits_48 (by decide) ?_
  replace h := Option.some.inj h
  subst h
  exact a_sub [1, 2, 0] (hK) rfl
noncomputable def f_X4_astrayBits_4_4b (x0 : Nat) (x1 : Int32) (x2 : Int32) (M : Mem) : Option ((Int32 × Int32) ⊕ (Int32 × Int32)) :=
  (if (M (rf x0 0) 3) ≤ x2 then some (.inr (x1, x2)) else Option.bind (f_X4_takenFor x0 x2 M) (fun r1 => (if r1 = (-1 : Int32) then f_X4_astrayBits_45_4 x0 x1 x2 M else ck (inb x2 8) ((if r1 = (M (rf (rf x0 0) 5) (x2).toNatClampNeg) then f_X4_astrayBits_45_4 x0 x1 x2 M else f_X4_astrayBits_45_4 x0 (x1 ||| (shlI (1 : Int32) x2)) x2 M)))))
theorem t_X4_astrayBits_4_4b {Y : EY} {X : CX} (C : CK Y X cX4_astrayBits RX4 4 (some .int) rm_X4_astrayBits) {x0 : Nat} {x1 : Int32} {x2 : Int32} {M : Mem} (k0 : K x0 4) {res : (Int32 × Int32) ⊕ (Int32 × Int32)} (h : f_X4_astrayBits_4_4b x0 x1 x2 M = some res) (hK : KL (At_X4_astrayBits_4 Y X x0 M) (Ex_X4_astrayBits_4 Y X x0 M) res) : AW Y X 4 4 [(0, .ref (Y.2.2.2.1 x0)), (1, .int x1), (2, .int x2)] [] M := by
  unfold f_X4_astrayBits_4_4b at h
  refine a_iload_n C dX4_astrayBits_4 2 rfl ?_
  refine a_aload_n C dX4_astrayBits_5 0 rfl ?_
  refine a_getr (k1 := (rf x0 0)) C dX4_astrayBits_6 fl_X4_24 rfl k0 rfl ?_
  refine a_geti C dX4_astrayBits_9 fl_X4_41 rfl (rk_4_0 k0) ?_
  refine a_icmp_ge (tgt := 51) C dX4_astrayBits_12 (by decide) (fun hc => ?_) (fun hc => ?_)
  · replace h := ip hc h
    replace h := Option.some.inj h
    subst h
    exact a_sub [1] (hK) rfl
  · replace h := iq hc h
    refine a_aload_n C dX4_astrayBits_15 0 rfl ?_
    refine a_iload_n C dX4_astrayBits_16 2 rfl ?_
    obtain ⟨r1, hcr1, h⟩ := bd_some h
    refine a_callVi C dX4_astrayBits_17 lv_X4_106 lm_X4_takenFor ⟨rfl, rfl, by decide, by decide⟩ k0 (m_X4_takenFor C.2.2.2.2.2.2.1 k0 hcr1) rfl rfl (Nat.le_of_ble_eq_true rfl) ?_
    refine a_istore_n (lv' := [(3, _), (0, _), (1, _), (2, _)]) C dX4_astrayBits_20 rfl (by decide) rfl ?_
    refine a_iload_n C dX4_astrayBits_21 0 rfl ?_
    refine a_iconst (v := -1) C dX4_astrayBits_22 (by decide) ?_
    refine a_icmp_eq (tgt := 45) C dX4_astrayBits_23 (by decide) (fun hc => ?_) (fun hc => ?_)
    · replace h := ip hc h
      exact a_sub [1, 2, 3] (t_X4_astrayBits_45_4 C k0 h hK) rfl
    · replace h := iq hc h
      refine a_iload_n C dX4_astrayBits_26 0 rfl ?_
      refine a_aload_n C dX4_astrayBits_27 1 rfl ?_
      refine a_getr (k1 := (rf x0 0)) C dX4_astrayBits_28 fl_X4_24 rfl k0 rfl ?_
      refine a_getr (k1 := (rf (rf x0 0) 5)) C dX4_astrayBits_31 fl_X4_44 rfl (rk_4_0 k0) rfl ?_
      refine a_iload_n C dX4_astrayBits_34 3 rfl ?_
      obtain ⟨hb, h⟩ := ck_some h
      refine a_iald C dX4_astrayBits_35 (rk_1_5 (rk_4_0 k0)) (rl_1_5 (rk_4_0 k0)) hb ?_
      refine a_icmp_eq (tgt := 45) C dX4_astrayBits_36 (by decide) (fun hc => ?_) (fun hc => ?_)
      · replace h := ip hc h
        exact a_sub [1, 2, 3] (t_X4_astrayBits_45_4 C k0 h hK) rfl
      · replace h := iq hc h
        refine a_iload_n C dX4_astrayBits_39 2 rfl ?_
        refine a_iconst (v := 1) C dX4_astrayBits_40 (by decide) ?_
        refine a_iload_n C dX4_astrayBits_41 3 rfl ?_
        refine a_ishl C dX4_astrayBits_42 ?_
        refine a_ior C dX4_astrayBits_43 ?_
        refine a_istore_n (lv' := [(1, _), (3, _), (0, _), (2, _)]) C dX4_astrayBits_44 rfl (by decide) rfl ?_
        exact a_sub [2, 0, 3] (t_X4_astrayBits_45_4 C k0 h hK) rfl
noncomputable def f_X4_astrayBits (x0 : Nat) (M : Mem) : Option (Int32) :=
  Option.bind (loop (fun s2 : Int32 × Int32 => f_X4_astrayBits_4_4b x0 s2.1 s2.2 M) ((0 : Int32), (0 : Int32))) (fun s3 => some s3.1)
theorem t_X4_astrayBits {Y : EY} {X : CX} (C : CK Y X cX4_astrayBits RX4 4 (some .int) rm_X4_astrayBits) {x0 : Nat} {M : Mem} (k0 : K x0 4) {res : Int32} (h : f_X4_astrayBits x0 M = some res) (hK : RK Y X (some (.int res)) M) : AW Y X 4 0 [(0, .ref (Y.2.2.2.1 x0))] [] M := by
  unfold f_X4_astrayBits at h
  refine a_iconst (v := 0) C dX4_astrayBits_0 (by decide) ?_
  refine a_istore_n (lv' := [(1, _), (0, _)]) C dX4_astrayBits_1 rfl (by decide) rfl ?_
  refine a_iconst (v := 0) C dX4_astrayBits_2 (by decide) ?_
  refine a_istore_n (lv' := [(2, _), (1, _), (0, _)]) C dX4_astrayBits_3 rfl (by decide) rfl ?_
  obtain ⟨s3, hl, h⟩ := bd_some h
  have hE : Ex_X4_astrayBits_4 Y X x0 M s3 := by
    refine a_iload_n C dX4_astrayBits_51 0 rfl ?_
    replace h := Option.some.inj h
    subst h
    exact a_iret C dX4_astrayBits_52 hK
  have hA := aw_loop (At_X4_astrayBits_4 Y X x0 M) (Ex_X4_astrayBits_4 Y X x0 M) (fun _ _ hb hk => t_X4_astrayBits_4_4b C k0 hb hk) hl hE
  exact a_sub [2, 1, 0] (hA) rfl
theorem m_X4_astrayBits {Y : EY} (hY : HY Y) {x0 : Nat} {M : Mem} (k0 : K x0 4) {r : Int32} (h : f_X4_astrayBits x0 M = some r) : MX Y yX4_astrayBits cX4_astrayBits 4 (some .int) rm_X4_astrayBits [.ref (Y.2.2.2.1 x0)] M (some (.int r)) M := MX.of hY (by decide) (Nat.le_of_ble_eq_true rfl) (fun _ hR C => a_sub [0] (t_X4_astrayBits C k0 h hR) rfl)
abbrev rm_X4_isAnother : Room := { frames := 2, cells := 0, slots := 0, locals := 45 }
noncomputable def f_X4_isAnother (x0 : Nat) (x1 : Int32) (M : Mem) : Option (Int32) :=
  ck (inb x1 8) (ck (inb x1 8) ((if (M (rf x0 4) (x1).toNatClampNeg) = (M (rf (rf x0 0) 5) (x1).toNatClampNeg) then some (0 : Int32) else Option.bind (f_X1_hasAccent (rf x0 0) (M (rf x0 4) (x1).toNatClampNeg) M) (fun r1 => (if r1 = 0 then some (0 : Int32) else Option.bind (f_X4_far x0 x1 (M (rf x0 4) (x1).toNatClampNeg) M) (fun r2 => (if r2 = 0 then some (1 : Int32) else some (0 : Int32))))))))
theorem t_X4_isAnother {Y : EY} {X : CX} (C : CK Y X cX4_isAnother RX4 3 (some .boolean) rm_X4_isAnother) {x0 : Nat} {x1 : Int32} {M : Mem} (k0 : K x0 4) {res : Int32} (h : f_X4_isAnother x0 x1 M = some res) (hK : RK Y X (some (.int res)) M) : AW Y X 3 0 [(0, .ref (Y.2.2.2.1 x0)), (1, .int x1)] [] M := by
  unfold f_X4_isAnother at h
  refine a_aload_n C dX4_isAnother_0 0 rfl ?_
  refine a_getr (k1 := (rf x0 4)) C dX4_isAnother_1 fl_X4_18 rfl k0 rfl ?_
  refine a_iload_n C dX4_isAnother_4 1 rfl ?_
  obtain ⟨hb, h⟩ := ck_some h
  refine a_iald C dX4_isAnother_5 (rk_4_4 k0) (rl_4_4 k0) hb ?_
  refine a_istore_n (lv' := [(2, _), (0, _), (1, _)]) C dX4_isAnother_6 rfl (by decide) rfl ?_
  refine a_iload_n C dX4_isAnother_7 0 rfl ?_
  refine a_aload_n C dX4_isAnother_8 1 rfl ?_
  refine a_getr (k1 := (rf x0 0)) C dX4_isAnother_9 fl_X4_24 rfl k0 rfl ?_
  refine a_getr (k1 := (rf (rf x0 0) 5)) C dX4_isAnother_12 fl_X4_44 rfl (rk_4_0 k0) rfl ?_
  refine a_iload_n C dX4_isAnother_15 2 rfl ?_
  obtain ⟨hb, h⟩ := ck_some h
  refine a_iald C dX4_isAnother_16 (rk_1_5 (rk_4_0 k0)) (rl_1_5 (rk_4_0 k0)) hb ?_
  refine a_icmp_eq (tgt := 44) C dX4_isAnother_17 (by decide) (fun hc => ?_) (fun hc => ?_)
  · replace h := ip hc h
    refine a_iconst (v := 0) C dX4_isAnother_44 (by decide) ?_
    replace h := Option.some.inj h
    subst h
    exact a_zret C dX4_isAnother_45 rfl hK
  · replace h := iq hc h
    refine a_aload_n C dX4_isAnother_20 1 rfl ?_
    refine a_getr (k1 := (rf x0 0)) C dX4_isAnother_21 fl_X4_24 rfl k0 rfl ?_
    refine a_iload_n C dX4_isAnother_24 0 rfl ?_
    obtain ⟨r1, hcr1, h⟩ := bd_some h
    refine a_callVi C dX4_isAnother_25 lv_X4_47 lm_X1_hasAccent ⟨rfl, rfl, by decide, by decide⟩ (rk_4_0 k0) (m_X1_hasAccent C.2.2.2.2.2.2.1 (rk_4_0 k0) hcr1) rfl rfl (Nat.le_of_ble_eq_true rfl) ?_
    refine a_if_eq (tgt := 44) C dX4_isAnother_28 (by decide) (fun hc => ?_) (fun hc => ?_)
    · replace h := ip hc h
      refine a_iconst (v := 0) C dX4_isAnother_44 (by decide) ?_
      replace h := Option.some.inj h
      subst h
      exact a_zret C dX4_isAnother_45 rfl hK
    · replace h := iq hc h
      refine a_aload_n C dX4_isAnother_31 1 rfl ?_
      refine a_iload_n C dX4_isAnother_32 2 rfl ?_
      refine a_iload_n C dX4_isAnother_33 0 rfl ?_
      obtain ⟨r2, hcr2, h⟩ := bd_some h
      refine a_callVi C dX4_isAnother_34 lv_X4_102 lm_X4_far ⟨rfl, rfl, by decide, by decide⟩ k0 (m_X4_far C.2.2.2.2.2.2.1 k0 hcr2) rfl rfl (Nat.le_of_ble_eq_true rfl) ?_
      refine a_if_ne (tgt := 44) C dX4_isAnother_37 (by decide) (fun hc => ?_) (fun hc => ?_)
      · replace h := iq hc h
        refine a_iconst (v := 0) C dX4_isAnother_44 (by decide) ?_
        replace h := Option.some.inj h
        subst h
        exact a_zret C dX4_isAnother_45 rfl hK
      · replace h := ip hc h
        refine a_iconst (v := 1) C dX4_isAnother_40 (by decide) ?_
        refine a_goto (tgt := 45) C dX4_isAnother_41 (by decide) ?_
        replace h := Option.some.inj h
        subst h
        exact a_zret C dX4_isAnother_45 rfl hK
theorem m_X4_isAnother {Y : EY} (hY : HY Y) {x0 : Nat} {x1 : Int32} {M : Mem} (k0 : K x0 4) {r : Int32} (h : f_X4_isAnother x0 x1 M = some r) : MX Y yX4_isAnother cX4_isAnother 3 (some .boolean) rm_X4_isAnother [.ref (Y.2.2.2.1 x0), .int x1] M (some (.int r)) M := MX.of hY (by decide) (Nat.le_of_ble_eq_true rfl) (fun _ hR C => a_sub [0, 1] (t_X4_isAnother C k0 h hR) rfl)
abbrev rm_J6_bitCount_0f7a4 : Room := { frames := 0, cells := 0, slots := 0, locals := 0 }
noncomputable def f_J6_bitCount_0f7a4 (x0 : Int32) : Option (Int32) :=
  some ((((((((x0 - ((shrI x0 (1 : Int32)) &&& (1431655765 : Int32))) &&& (858993459 : Int32)) + ((shrI (x0 - ((shrI x0 (1 : Int32)) &&& (1431655765 : Int32))) (2 : Int32)) &&& (858993459 : Int32))) + (shrI (((x0 - ((shrI x0 (1 : Int32)) &&& (1431655765 : Int32))) &&& (858993459 : Int32)) + ((shrI (x0 - ((shrI x0 (1 : Int32)) &&& (1431655765 : Int32))) (2 : Int32)) &&& (858993459 : Int32))) (4 : Int32))) &&& (252645135 : Int32)) + (shrI (((((x0 - ((shrI x0 (1 : Int32)) &&& (1431655765 : Int32))) &&& (858993459 : Int32)) + ((shrI (x0 - ((shrI x0 (1 : Int32)) &&& (1431655765 : Int32))) (2 : Int32)) &&& (858993459 : Int32))) + (shrI (((x0 - ((shrI x0 (1 : Int32)) &&& (1431655765 : Int32))) &&& (858993459 : Int32)) + ((shrI (x0 - ((shrI x0 (1 : Int32)) &&& (1431655765 : Int32))) (2 : Int32)) &&& (858993459 : Int32))) (4 : Int32))) &&& (252645135 : Int32)) (8 : Int32))) + (shrI ((((((x0 - ((shrI x0 (1 : Int32)) &&& (1431655765 : Int32))) &&& (858993459 : Int32)) + ((shrI (x0 - ((shrI x0 (1 : Int32)) &&& (1431655765 : Int32))) (2 : Int32)) &&& (858993459 : Int32))) + (shrI (((x0 - ((shrI x0 (1 : Int32)) &&& (1431655765 : Int32))) &&& (858993459 : Int32)) + ((shrI (x0 - ((shrI x0 (1 : Int32)) &&& (1431655765 : Int32))) (2 : Int32)) &&& (858993459 : Int32))) (4 : Int32))) &&& (252645135 : Int32)) + (shrI (((((x0 - ((shrI x0 (1 : Int32)) &&& (1431655765 : Int32))) &&& (858993459 : Int32)) + ((shrI (x0 - ((shrI x0 (1 : Int32)) &&& (1431655765 : Int32))) (2 : Int32)) &&& (858993459 : Int32))) + (shrI (((x0 - ((shrI x0 (1 : Int32)) &&& (1431655765 : Int32))) &&& (858993459 : Int32)) + ((shrI (x0 - ((shrI x0 (1 : Int32)) &&& (1431655765 : Int32))) (2 : Int32)) &&& (858993459 : Int32))) (4 : Int32))) &&& (252645135 : Int32)) (8 : Int32))) (16 : Int32))) &&& (63 : Int32))
theorem t_J6_bitCount_0f7a4 {Y : EY} {X : CX} (C : CK Y X cJ6_bitCount_0f7a4 RJ6 1 (some .int) rm_J6_bitCount_0f7a4) {x0 : Int32} {M : Mem}  {res : Int32} (h : f_J6_bitCount_0f7a4 x0 = some res) (hK : RK Y X (some (.int res)) M) : AW Y X 1 0 [(0, .int x0)] [] M := by
  unfold f_J6_bitCount_0f7a4 at h
  refine a_iload_n C dJ6_bitCount_0f7a4_0 0 rfl ?_
  refine a_iload_n C dJ6_bitCount_0f7a4_1 0 rfl ?_
  refine a_iconst (v := 1) C dJ6_bitCount_0f7a4_2 (by decide) ?_
  refine a_iushr C dJ6_bitCount_0f7a4_3 ?_
  refine a_ldcw C dJ6_bitCount_0f7a4_4 co_J6_265 ?_
  refine a_iand C dJ6_bitCount_0f7a4_7 ?_
  refine a_isub C dJ6_bitCount_0f7a4_8 ?_
  refine a_istore_n (lv' := [(0, _)]) C dJ6_bitCount_0f7a4_9 rfl (by decide) rfl ?_
  refine a_iload_n C dJ6_bitCount_0f7a4_10 0 rfl ?_
  refine a_ldcw C dJ6_bitCount_0f7a4_11 co_J6_266 ?_
  refine a_iand C dJ6_bitCount_0f7a4_14 ?_
  refine a_iload_n C dJ6_bitCount_0f7a4_15 0 rfl ?_
  refine a_iconst (v := 2) C dJ6_bitCount_0f7a4_16 (by decide) ?_
  refine a_iushr C dJ6_bitCount_0f7a4_17 ?_
  refine a_ldcw C dJ6_bitCount_0f7a4_18 co_J6_266 ?_
  refine a_iand C dJ6_bitCount_0f7a4_21 ?_
  refine a_iadd C dJ6_bitCount_0f7a4_22 ?_
  refine a_istore_n (lv' := [(0, _)]) C dJ6_bitCount_0f7a4_23 rfl (by decide) rfl ?_
  refine a_iload_n C dJ6_bitCount_0f7a4_24 0 rfl ?_
  refine a_iload_n C dJ6_bitCount_0f7a4_25 0 rfl ?_
  refine a_iconst (v := 4) C dJ6_bitCount_0f7a4_26 (by decide) ?_
  refine a_iushr C dJ6_bitCount_0f7a4_27 ?_
  refine a_iadd C dJ6_bitCount_0f7a4_28 ?_
  refine a_ldcw C dJ6_bitCount_0f7a4_29 co_J6_267 ?_
  refine a_iand C dJ6_bitCount_0f7a4_32 ?_
  refine a_istore_n (lv' := [(0, _)]) C dJ6_bitCount_0f7a4_33 rfl (by decide) rfl ?_
  refine a_iload_n C dJ6_bitCount_0f7a4_34 0 rfl ?_
  refine a_iload_n C dJ6_bitCount_0f7a4_35 0 rfl ?_
  refine a_bipush (v := 8) C dJ6_bitCount_0f7a4_36 (by decide) ?_
  refine a_iushr C dJ6_bitCount_0f7a4_38 ?_
  refine a_iadd C dJ6_bitCount_0f7a4_39 ?_
  refine a_istore_n (lv' := [(0, _)]) C dJ6_bitCount_0f7a4_40 rfl (by decide) rfl ?_
  refine a_iload_n C dJ6_bitCount_0f7a4_41 0 rfl ?_
  refine a_iload_n C dJ6_bitCount_0f7a4_42 0 rfl ?_
  refine a_bipush (v := 16) C dJ6_bitCount_0f7a4_43 (by decide) ?_
  refine a_iushr C dJ6_bitCount_0f7a4_45 ?_
  refine a_iadd C dJ6_bitCount_0f7a4_46 ?_
  refine a_istore_n (lv' := [(0, _)]) C dJ6_bitCount_0f7a4_47 rfl (by decide) rfl ?_
  refine a_iload_n C dJ6_bitCount_0f7a4_48 0 rfl ?_
  refine a_bipush (v := 63) C dJ6_bitCount_0f7a4_49 (by decide) ?_
  refine a_iand C dJ6_bitCount_0f7a4_51 ?_
  replace h := Option.some.inj h
  subst h
  exact a_iret C dJ6_bitCount_0f7a4_52 hK
theorem m_J6_bitCount_0f7a4 {Y : EY} (hY : HY Y) {x0 : Int32} {M : Mem}  {r : Int32} (h : f_J6_bitCount_0f7a4 x0 = some r) : MX Y yJ6_bitCount_0f7a4 cJ6_bitCount_0f7a4 1 (some .int) rm_J6_bitCount_0f7a4 [.int x0] M (some (.int r)) M := MX.of hY (by decide) (Nat.le_of_ble_eq_true rfl) (fun _ hR C => a_sub [0] (t_J6_bitCount_0f7a4 C  h hR) rfl)
