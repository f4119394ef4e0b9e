abbrev rm_X5_beginAgain : Room := { frames := 2, cells := 0, slots := 0, locals := 63 }
noncomputable def f_X5_beginAgain  (M : Mem) : Option (Mem) :=
  Option.bind (f_X4_begin 21 M) (fun r1 => some (upM r1 0 9 (0 : Int32)))
theorem t_X5_beginAgain {Y : EY} {X : CX} (C : CK Y X cX5_beginAgain RX5 1 none rm_X5_beginAgain)  {M : Mem}  {res : Mem} (h : f_X5_beginAgain M = some res) (hK : RK Y X none res) : AW Y X 1 0 [(0, .ref (Y.2.2.2.1 0))] [] M := by
  unfold f_X5_beginAgain at h
  refine a_aload_n C dX5_beginAgain_0 0 rfl ?_
  refine a_getr (k1 := 21) C dX5_beginAgain_1 fl_X5_40 rfl Kc_0 rfl ?_
  obtain ⟨r1, hcr1, h⟩ := bd_some h
  refine a_callVv C dX5_beginAgain_4 lv_X5_203 lm_X4_begin ⟨rfl, rfl, by decide, by decide⟩ Kc_21 (m_X4_begin C.2.2.2.2.2.2.1 Kc_21 hcr1) rfl rfl (Nat.le_of_ble_eq_true rfl) ?_
  refine a_aload_n C dX5_beginAgain_7 0 rfl ?_
  refine a_iconst (v := 0) C dX5_beginAgain_8 (by decide) ?_
  refine a_put (ty := .boolean) C dX5_beginAgain_9 fl_X5_65 (fp_5_9) rfl Kc_0 rfl rfl ?_
  replace h := Option.some.inj h
  subst h
  exact a_vret C dX5_beginAgain_12 hK
theorem m_X5_beginAgain {Y : EY} (hY : HY Y)  {M : Mem}  {r : Mem} (h : f_X5_beginAgain M = some r) : MX Y yX5_beginAgain cX5_beginAgain 1 none rm_X5_beginAgain [.ref (Y.2.2.2.1 0)] M (none) r := MX.of hY (by decide) (Nat.le_of_ble_eq_true rfl) (fun _ hR C => a_sub [0] (t_X5_beginAgain C  h hR) rfl)
abbrev rm_X5_tellAgain : Room := { frames := 10, cells := 0, slots := 0, locals := 241 }
noncomputable def f_X5_tellAgain  (M : Mem) : Option (Mem) :=
  Option.bind (f_X1_takeAccents 5 1 M) (fun r1 => Option.bind (f_X1_takePeople 5 3 r1) (fun r2 => Option.bind (f_X5_beginAgain r2) (fun r3 => some r3)))
theorem t_X5_tellAgain {Y : EY} {X : CX} (C : CK Y X cX5_tellAgain RX5 1 none rm_X5_tellAgain)  {M : Mem}  {res : Mem} (h : f_X5_tellAgain M = some res) (hK : RK Y X none res) : AW Y X 1 0 [(0, .ref (Y.2.2.2.1 0))] [] M := by
  unfold f_X5_tellAgain at h
  refine a_aload_n C dX5_tellAgain_0 0 rfl ?_
  refine a_getr (k1 := 5) C dX5_tellAgain_1 fl_X5_28 rfl Kc_0 rfl ?_
  refine a_aload_n C dX5_tellAgain_4 0 rfl ?_
  refine a_getr (k1 := 1) C dX5_tellAgain_5 fl_X5_16 rfl Kc_0 rfl ?_
  obtain ⟨r1, hcr1, h⟩ := bd_some h
  refine a_callVv C dX5_tellAgain_8 lv_X5_345 lm_X1_takeAccents ⟨rfl, rfl, by decide, by decide⟩ Kc_5 (m_X1_takeAccents C.2.2.2.2.2.2.1 Kc_5 Kc_1 hcr1) rfl rfl (Nat.le_of_ble_eq_true rfl) ?_
  refine a_aload_n C dX5_tellAgain_11 0 rfl ?_
  refine a_getr (k1 := 5) C dX5_tellAgain_12 fl_X5_28 rfl Kc_0 rfl ?_
  refine a_aload_n C dX5_tellAgain_15 0 rfl ?_
  refine a_getr (k1 := 3) C dX5_tellAgain_16 fl_X5_22 rfl Kc_0 rfl ?_
  obtain ⟨r2, hcr2, h⟩ := bd_some h
  refine a_callVv C dX5_tellAgain_19 lv_X5_349 lm_X1_takePeople ⟨rfl, rfl, by decide, by decide⟩ Kc_5 (m_X1_takePeople C.2.2.2.2.2.2.1 Kc_5 Kc_3 hcr2) rfl rfl (Nat.le_of_ble_eq_true rfl) ?_
  refine a_aload_n C dX5_tellAgain_22 0 rfl ?_
  obtain ⟨r3, hcr3, h⟩ := bd_some h
  refine a_callVv C dX5_tellAgain_23 lv_X5_133 lm_X5_beginAgain ⟨rfl, rfl, by decide, by decide⟩ Kc_0 (m_X5_beginAgain C.2.2.2.2.2.2.1 hcr3) rfl rfl (Nat.le_of_ble_eq_true rfl) ?_
  replace h := Option.some.inj h
  subst h
  exact a_vret C dX5_tellAgain_26 hK
theorem m_X5_tellAgain {Y : EY} (hY : HY Y)  {M : Mem}  {r : Mem} (h : f_X5_tellAgain M = some r) : MX Y yX5_tellAgain cX5_tellAgain 1 none rm_X5_tellAgain [.ref (Y.2.2.2.1 0)] M (none) r := MX.of hY (by decide) (Nat.le_of_ble_eq_true rfl) (fun _ hR C => a_sub [0] (t_X5_tellAgain C  h hR) rfl)
abbrev rm_X5_textOf : Room := { frames := 0, cells := 0, slots := 0, locals := 0 }
noncomputable def f_X5_textOf (x1 : Int32) : Option (Nat) :=
  (if x1 = 0 then some 1 else some 3)
theorem t_X5_textOf {Y : EY} {X : CX} (C : CK Y X cX5_textOf RX5 2 (some (.object "AccentShop$Text")) rm_X5_textOf) {x1 : Int32} {M : Mem}  {res : Nat} (h : f_X5_textOf x1 = some res) (hK : RK Y X (some (.ref (Y.2.2.2.1 res))) M) : AW Y X 2 0 [(0, .ref (Y.2.2.2.1 0)), (1, .int x1)] [] M := by
  unfold f_X5_textOf at h
  refine a_iload_n C dX5_textOf_0 1 rfl ?_
  refine a_if_ne (tgt := 11) C dX5_textOf_1 (by decide) (fun hc => ?_) (fun hc => ?_)
  · replace h := iq hc h
    refine a_aload_n C dX5_textOf_11 0 rfl ?_
    refine a_getr (k1 := 3) C dX5_textOf_12 fl_X5_22 rfl Kc_0 rfl ?_
    replace h := Option.some.inj h
    subst h
    exact a_aret C dX5_textOf_15 hK
  · replace h := ip hc h
    refine a_aload_n C dX5_textOf_4 0 rfl ?_
    refine a_getr (k1 := 1) C dX5_textOf_5 fl_X5_16 rfl Kc_0 rfl ?_
    refine a_goto (tgt := 15) C dX5_textOf_8 (by decide) ?_
    replace h := Option.some.inj h
    subst h
    exact a_aret C dX5_textOf_15 hK
theorem m_X5_textOf {Y : EY} (hY : HY Y) {x1 : Int32} {M : Mem}  {r : Nat} (h : f_X5_textOf x1 = some r) : MX Y yX5_textOf cX5_textOf 2 (some (.object "AccentShop$Text")) rm_X5_textOf [.ref (Y.2.2.2.1 0), .int x1] M (some (.ref (Y.2.2.2.1 r))) M := MX.of hY (by decide) (Nat.le_of_ble_eq_true rfl) (fun _ hR C => a_sub [0, 1] (t_X5_textOf C  h hR) rfl)
theorem rt_X5_textOf {x1 : Int32} {r : Nat} (h : f_X5_textOf x1 = some r) : K r 3 := by
  unfold f_X5_textOf at h
  split at h
  · replace h := Option.some.inj h
    subst h
    exact Kc_1
  · replace h := Option.some.inj h
    subst h
    exact Kc_3
abbrev rm_X5_type : Room := { frames := 11, cells := 0, slots := 0, locals := 261 }
noncomputable def f_X5_type (x1 : Int32) (x2 : Int32) (M : Mem) : Option (Int32 × Mem) :=
  Option.bind (f_X5_isBelow x1 (2 : Int32)) (fun r1 => (if r1 = 0 then some ((-2 : Int32), M) else Option.bind (f_X5_isBelow x2 (256 : Int32)) (fun r2 => (if r2 = 0 then some ((-2 : Int32), M) else Option.bind (f_X5_textOf x1) (fun r3 => Option.bind (f_X3_append r3 x2 M) (fun r4 => (if r4.1 = 0 then some ((-4 : Int32), r4.2) else Option.bind (f_X5_tellAgain r4.2) (fun r5 => some ((r5 r3 4), r5)))))))))
theorem t_X5_type {Y : EY} {X : CX} (C : CK Y X cX5_type RX5 4 (some .int) rm_X5_type) {x1 : Int32} {x2 : Int32} {M : Mem}  {res : Int32 × Mem} (h : f_X5_type x1 x2 M = some res) (hK : RK Y X (some (.int res.1)) res.2) : AW Y X 4 0 [(0, .ref (Y.2.2.2.1 0)), (1, .int x1), (2, .int x2)] [] M := by
  unfold f_X5_type at h
  refine a_iload_n C dX5_type_0 1 rfl ?_
  refine a_iconst (v := 2) C dX5_type_1 (by decide) ?_
  obtain ⟨r1, hcr1, h⟩ := bd_some h
  refine a_callSi C dX5_type_2 ls_X5_82 lm_X5_isBelow ⟨rfl, rfl, by decide, by decide⟩ (m_X5_isBelow C.2.2.2.2.2.2.1 hcr1) rfl rfl (Nat.le_of_ble_eq_true rfl) ?_
  refine a_if_eq (tgt := 18) C dX5_type_5 (by decide) (fun hc => ?_) (fun hc => ?_)
  · replace h := ip hc h
    refine a_bipush (v := -2) C dX5_type_18 (by decide) ?_
    replace h := Option.some.inj h
    subst h
    exact a_iret C dX5_type_20 hK
  · replace h := iq hc h
    refine a_iload_n C dX5_type_8 2 rfl ?_
    refine a_sipush (v := 256) C dX5_type_9 (by decide) ?_
    obtain ⟨r2, hcr2, h⟩ := bd_some h
    refine a_callSi C dX5_type_12 ls_X5_82 lm_X5_isBelow ⟨rfl, rfl, by decide, by decide⟩ (m_X5_isBelow C.2.2.2.2.2.2.1 hcr2) rfl rfl (Nat.le_of_ble_eq_true rfl) ?_
    refine a_if_ne (tgt := 21) C dX5_type_15 (by decide) (fun hc => ?_) (fun hc => ?_)
    · replace h := iq hc h
      refine a_aload_n C dX5_type_21 0 rfl ?_
      refine a_iload_n C dX5_type_22 1 rfl ?_
      obtain ⟨r3, hcr3, h⟩ := bd_some h
      refine a_callVr C dX5_type_23 lv_X5_86 lm_X5_textOf ⟨rfl, rfl, by decide, by decide⟩ Kc_0 (m_X5_textOf C.2.2.2.2.2.2.1 hcr3) rfl rfl (Nat.le_of_ble_eq_true rfl) ?_
      refine a_astore_n (lv' := [(3, _), (0, _), (1, _), (2, _)]) C dX5_type_26 rfl (by decide) rfl ?_
      refine a_aload_n C dX5_type_27 0 rfl ?_
      refine a_iload_n C dX5_type_28 3 rfl ?_
      obtain ⟨r4, hcr4, h⟩ := bd_some h
      refine a_callVi C dX5_type_29 lv_X5_90 lm_X3_append ⟨rfl, rfl, by decide, by decide⟩ (rt_X5_textOf hcr3) (m_X3_append C.2.2.2.2.2.2.1 (rt_X5_textOf hcr3) hcr4) rfl rfl (Nat.le_of_ble_eq_true rfl) ?_
      refine a_if_ne (tgt := 38) C dX5_type_32 (by decide) (fun hc => ?_) (fun hc => ?_)
      · replace h := iq hc h
        refine a_aload_n C dX5_type_38 1 rfl ?_
        obtain ⟨r5, hcr5, h⟩ := bd_some h
        refine a_callVv C dX5_type_39 lv_X5_94 lm_X5_tellAgain ⟨rfl, rfl, by decide, by decide⟩ Kc_0 (m_X5_tellAgain C.2.2.2.2.2.2.1 hcr5) rfl rfl (Nat.le_of_ble_eq_true rfl) ?_
        refine a_aload_n C dX5_type_42 0 rfl ?_
        refine a_geti C dX5_type_43 fl_X5_97 rfl (rt_X5_textOf hcr3) ?_
        replace h := Option.some.inj h
        subst h
        exact a_iret C dX5_type_46 hK
      · replace h := ip hc h
        refine a_bipush (v := -4) C dX5_type_35 (by decide) ?_
        replace h := Option.some.inj h
        subst h
        exact a_iret C dX5_type_37 hK
    · replace h := ip hc h
      refine a_bipush (v := -2) C dX5_type_18 (by decide) ?_
      replace h := Option.some.inj h
      subst h
      exact a_iret C dX5_type_20 hK
theorem m_X5_type {Y : EY} (hY : HY Y) {x1 : Int32} {x2 : Int32} {M : Mem}  {r : Int32 × Mem} (h : f_X5_type x1 x2 M = some r) : MX Y yX5_type cX5_type 4 (some .int) rm_X5_type [.ref (Y.2.2.2.1 0), .int x1, .int x2] M (some (.int r.1)) r.2 := MX.of hY (by decide) (Nat.le_of_ble_eq_true rfl) (fun _ hR C => a_sub [0, 1, 2] (t_X5_type C  h hR) rfl)
abbrev rm_X5_wipe : Room := { frames := 11, cells := 0, slots := 0, locals := 261 }
noncomputable def f_X5_wipe (x1 : Int32) (M : Mem) : Option (Int32 × Mem) :=
  Option.bind (f_X5_isBelow x1 (2 : Int32)) (fun r1 => (if r1 = 0 then some ((-2 : Int32), M) else Option.bind (f_X5_textOf x1) (fun r2 => Option.bind (f_X5_tellAgain (upM M r2 4 (0 : Int32))) (fun r3 => some ((M r2 4), r3)))))
theorem t_X5_wipe {Y : EY} {X : CX} (C : CK Y X cX5_wipe RX5 4 (some .int) rm_X5_wipe) {x1 : Int32} {M : Mem}  {res : Int32 × Mem} (h : f_X5_wipe x1 M = some res) (hK : RK Y X (some (.int res.1)) res.2) : AW Y X 4 0 [(0, .ref (Y.2.2.2.1 0)), (1, .int x1)] [] M := by
  unfold f_X5_wipe at h
  refine a_iload_n C dX5_wipe_0 1 rfl ?_
  refine a_iconst (v := 2) C dX5_wipe_1 (by decide) ?_
  obtain ⟨r1, hcr1, h⟩ := bd_some h
  refine a_callSi C dX5_wipe_2 ls_X5_82 lm_X5_isBelow ⟨rfl, rfl, by decide, by decide⟩ (m_X5_isBelow C.2.2.2.2.2.2.1 hcr1) rfl rfl (Nat.le_of_ble_eq_true rfl) ?_
  refine a_if_ne (tgt := 11) C dX5_wipe_5 (by decide) (fun hc => ?_) (fun hc => ?_)
  · replace h := iq hc h
    refine a_aload_n C dX5_wipe_11 0 rfl ?_
    refine a_iload_n C dX5_wipe_12 1 rfl ?_
    obtain ⟨r2, hcr2, h⟩ := bd_some h
    refine a_callVr C dX5_wipe_13 lv_X5_86 lm_X5_textOf ⟨rfl, rfl, by decide, by decide⟩ Kc_0 (m_X5_textOf C.2.2.2.2.2.2.1 hcr2) rfl rfl (Nat.le_of_ble_eq_true rfl) ?_
    refine a_astore_n (lv' := [(2, _), (0, _), (1, _)]) C dX5_wipe_16 rfl (by decide) rfl ?_
    refine a_aload_n C dX5_wipe_17 0 rfl ?_
    refine a_geti C dX5_wipe_18 fl_X5_97 rfl (rt_X5_textOf hcr2) ?_
    refine a_istore_n (lv' := [(3, _), (2, _), (0, _), (1, _)]) C dX5_wipe_21 rfl (by decide) rfl ?_
    refine a_aload_n C dX5_wipe_22 1 rfl ?_
    refine a_iconst (v := 0) C dX5_wipe_23 (by decide) ?_
    refine a_put (ty := .int) C dX5_wipe_24 fl_X5_97 (fp_3_4) rfl (rt_X5_textOf hcr2) rfl rfl ?_
    refine a_aload_n C dX5_wipe_27 2 rfl ?_
    obtain ⟨r3, hcr3, h⟩ := bd_some h
    refine a_callVv C dX5_wipe_28 lv_X5_94 lm_X5_tellAgain ⟨rfl, rfl, by decide, by decide⟩ Kc_0 (m_X5_tellAgain C.2.2.2.2.2.2.1 hcr3) rfl rfl (Nat.le_of_ble_eq_true rfl) ?_
    refine a_iload_n C dX5_wipe_31 0 rfl ?_
    replace h := Option.some.inj h
    subst h
    exact a_iret C dX5_wipe_32 hK
  · replace h := ip hc h
    refine a_bipush (v := -2) C dX5_wipe_8 (by decide) ?_
    replace h := Option.some.inj h
    subst h
    exact a_iret C dX5_wipe_10 hK
theorem m_X5_wipe {Y : EY} (hY : HY Y) {x1 : Int32} {M : Mem}  {r : Int32 × Mem} (h : f_X5_wipe x1 M = some r) : MX Y yX5_wipe cX5_wipe 4 (some .int) rm_X5_wipe [.ref (Y.2.2.2.1 0), .int x1] M (some (.int r.1)) r.2 := MX.of hY (by decide) (Nat.le_of_ble_eq_true rfl) (fun _ hR C => a_sub [0, 1] (t_X5_wipe C  h hR) rfl)
abbrev rm_X5_undo : Room := { frames := 11, cells := 0, slots := 0, locals := 261 }
noncomputable def f_X5_undo (x1 : Int32) (M : Mem) : Option (Int32 × Mem) :=
  Option.bind (f_X5_isBelow x1 (2 : Int32)) (fun r1 => (if r1 = 0 then some ((-2 : Int32), M) else Option.bind (f_X5_textOf x1) (fun r2 => (if (M r2 4) = 0 then some ((-3 : Int32), M) else Option.bind (f_X5_tellAgain (upM M r2 4 ((M r2 4) - (1 : Int32)))) (fun r3 => some ((r3 r2 4), r3))))))
theorem t_X5_undo {Y : EY} {X : CX} (C : CK Y X cX5_undo RX5 3 (some .int) rm_X5_undo) {x1 : Int32} {M : Mem}  {res : Int32 × Mem} (h : f_X5_undo x1 M = some res) (hK : RK Y X (some (.int res.1)) res.2) : AW Y X 3 0 [(0, .ref (Y.2.2.2.1 0)), (1, .int x1)] [] M := by
  unfold f_X5_undo at h
  refine a_iload_n C dX5_undo_0 1 rfl ?_
  refine a_iconst (v := 2) C dX5_undo_1 (by decide) ?_
  obtain ⟨r1, hcr1, h⟩ := bd_some h
  refine a_callSi C dX5_undo_2 ls_X5_82 lm_X5_isBelow ⟨rfl, rfl, by decide, by decide⟩ (m_X5_isBelow C.2.2.2.2.2.2.1 hcr1) rfl rfl (Nat.le_of_ble_eq_true rfl) ?_
  refine a_if_ne (tgt := 11) C dX5_undo_5 (by decide) (fun hc => ?_) (fun hc => ?_)
  · replace h := iq hc h
    refine a_aload_n C dX5_undo_11 0 rfl ?_
    refine a_iload_n C dX5_undo_12 1 rfl ?_
    obtain ⟨r2, hcr2, h⟩ := bd_some h
    refine a_callVr C dX5_undo_13 lv_X5_86 lm_X5_textOf ⟨rfl, rfl, by decide, by decide⟩ Kc_0 (m_X5_textOf C.2.2.2.2.2.2.1 hcr2) rfl rfl (Nat.le_of_ble_eq_true rfl) ?_
    refine a_astore_n (lv' := [(2, _), (0, _), (1, _)]) C dX5_undo_16 rfl (by decide) rfl ?_
    refine a_aload_n C dX5_undo_17 0 rfl ?_
    refine a_geti C dX5_undo_18 fl_X5_97 rfl (rt_X5_textOf hcr2) ?_
    refine a_if_ne (tgt := 27) C dX5_undo_21 (by decide) (fun hc => ?_) (fun hc => ?_)
    · replace h := iq hc h
      refine a_aload_n C dX5_undo_27 0 rfl ?_
      refine a_dup C dX5_undo_28 rfl ?_
      refine a_geti C dX5_undo_29 fl_X5_97 rfl (rt_X5_textOf hcr2) ?_
      refine a_iconst (v := 1) C dX5_undo_32 (by decide) ?_
      refine a_isub C dX5_undo_33 ?_
      refine a_put (ty := .int) C dX5_undo_34 fl_X5_97 (fp_3_4) rfl (rt_X5_textOf hcr2) rfl rfl ?_
      refine a_aload_n C dX5_undo_37 1 rfl ?_
      obtain ⟨r3, hcr3, h⟩ := bd_some h
      refine a_callVv C dX5_undo_38 lv_X5_94 lm_X5_tellAgain ⟨rfl, rfl, by decide, by decide⟩ Kc_0 (m_X5_tellAgain C.2.2.2.2.2.2.1 hcr3) rfl rfl (Nat.le_of_ble_eq_true rfl) ?_
      refine a_aload_n C dX5_undo_41 0 rfl ?_
      refine a_geti C dX5_undo_42 fl_X5_97 rfl (rt_X5_textOf hcr2) ?_
      replace h := Option.some.inj h
      subst h
      exact a_iret C dX5_undo_45 hK
    · replace h := ip hc h
      refine a_bipush (v := -3) C dX5_undo_24 (by decide) ?_
      replace h := Option.some.inj h
      subst h
      exact a_iret C dX5_undo_26 hK
  · replace h := ip hc h
    refine a_bipush (v := -2) C dX5_undo_8 (by decide) ?_
    replace h := Option.some.inj h
    subst h
    exact a_iret C dX5_undo_10 hK
theorem m_X5_undo {Y : EY} (hY : HY Y) {x1 : Int32} {M : Mem}  {r : Int32 × Mem} (h : f_X5_undo x1 M = some r) : MX Y yX5_undo cX5_undo 3 (some .int) rm_X5_undo [.ref (Y.2.2.2.1 0), .int x1] M (some (.int r.1)) r.2 := MX.of hY (by decide) (Nat.le_of_ble_eq_true rfl) (fun _ hR C => a_sub [0, 1] (t_X5_undo C  h hR) rfl)
abbrev rm_X5_fault : Room := { frames := 9, cells := 0, slots := 0, locals := 217 }
noncomputable def f_X5_fault (x1 : Int32) (M : Mem) : Option (Int32) :=
  Option.bind (f_X5_isBelow x1 (2 : Int32)) (fun r1 => (if r1 = 0 then some (-2 : Int32) else Option.bind (f_X5_textOf x1) (fun r2 => Option.bind (f_X3_firstFault r2 M) (fun r3 => some r3))))
theorem t_X5_fault {Y : EY} {X : CX} (C : CK Y X cX5_fault RX5 2 (some .int) rm_X5_fault) {x1 : Int32} {M : Mem}  {res : Int32} (h : f_X5_fault x1 M = some res) (hK : RK Y X (some (.int res)) M) : AW Y X 2 0 [(0, .ref (Y.2.2.2.1 0)), (1, .int x1)] [] M := by
  unfold f_X5_fault at h
  refine a_iload_n C dX5_fault_0 1 rfl ?_
  refine a_iconst (v := 2) C dX5_fault_1 (by decide) ?_
  obtain ⟨r1, hcr1, h⟩ := bd_some h
  refine a_callSi C dX5_fault_2 ls_X5_82 lm_X5_isBelow ⟨rfl, rfl, by decide, by decide⟩ (m_X5_isBelow C.2.2.2.2.2.2.1 hcr1) rfl rfl (Nat.le_of_ble_eq_true rfl) ?_
  refine a_if_eq (tgt := 19) C dX5_fault_5 (by decide) (fun hc => ?_) (fun hc => ?_)
  · replace h := ip hc h
    refine a_bipush (v := -2) C dX5_fault_19 (by decide) ?_
    replace h := Option.some.inj h
    subst h
    exact a_iret C dX5_fault_21 hK
  · replace h := iq hc h
    refine a_aload_n C dX5_fault_8 0 rfl ?_
    refine a_iload_n C dX5_fault_9 1 rfl ?_
    obtain ⟨r2, hcr2, h⟩ := bd_some h
    refine a_callVr C dX5_fault_10 lv_X5_86 lm_X5_textOf ⟨rfl, rfl, by decide, by decide⟩ Kc_0 (m_X5_textOf C.2.2.2.2.2.2.1 hcr2) rfl rfl (Nat.le_of_ble_eq_true rfl) ?_
    obtain ⟨r3, hcr3, h⟩ := bd_some h
    refine a_callVi C dX5_fault_13 lv_X5_100 lm_X3_firstFault ⟨rfl, rfl, by decide, by decide⟩ (rt_X5_textOf hcr2) (m_X3_firstFault C.2.2.2.2.2.2.1 (rt_X5_textOf hcr2) hcr3) rfl rfl (Nat.le_of_ble_eq_true rfl) ?_
    refine a_goto (tgt := 21) C dX5_fault_16 (by decide) ?_
    replace h := Option.some.inj h
    subst h
    exact a_iret C dX5_fault_21 hK
theorem m_X5_fault {Y : EY} (hY : HY Y) {x1 : Int32} {M : Mem}  {r : Int32} (h : f_X5_fault x1 M = some r) : MX Y yX5_fault cX5_fault 2 (some .int) rm_X5_fault [.ref (Y.2.2.2.1 0), .int x1] M (some (.int r)) M := MX.of hY (by decide) (Nat.le_of_ble_eq_true rfl) (fun _ hR C => a_sub [0, 1] (t_X5_fault C  h hR) rfl)
abbrev rm_X5_accent : Room := { frames := 1, cells := 0, slots := 0, locals := 21 }
noncomputable def f_X5_accent (x1 : Int32) (x2 : Int32) (M : Mem) : Option (Int32) :=
  Option.bind (f_X1_hasAccent 5 x1 M) (fun r1 => (if r1 = 0 then some (-2 : Int32) else Option.bind (f_X5_isBelow x2 (6 : Int32)) (fun r2 => (if r2 = 0 then some (-2 : Int32) else (if x2 = 0 then ck (inb x1 8) (some (M 6 (x1).toNatClampNeg)) else ck (inb (((x1 * (5 : Int32)) + x2) - (1 : Int32)) 40) (some (M 7 ((((x1 * (5 : Int32)) + x2) - (1 : Int32))).toNatClampNeg)))))))
theorem t_X5_accent {Y : EY} {X : CX} (C : CK Y X cX5_accent RX5 3 (some .int) rm_X5_accent) {x1 : Int32} {x2 : Int32} {M : Mem}  {res : Int32} (h : f_X5_accent x1 x2 M = some res) (hK : RK Y X (some (.int res)) M) : AW Y X 3 0 [(0, .ref (Y.2.2.2.1 0)), (1, .int x1), (2, .int x2)] [] M := by
  unfold f_X5_accent at h
  refine a_aload_n C dX5_accent_0 0 rfl ?_
  refine a_getr (k1 := 5) C dX5_accent_1 fl_X5_28 rfl Kc_0 rfl ?_
  refine a_iload_n C dX5_accent_4 1 rfl ?_
  obtain ⟨r1, hcr1, h⟩ := bd_some h
  refine a_callVi C dX5_accent_5 lv_X5_104 lm_X1_hasAccent ⟨rfl, rfl, by decide, by decide⟩ Kc_5 (m_X1_hasAccent C.2.2.2.2.2.2.1 Kc_5 hcr1) rfl rfl (Nat.le_of_ble_eq_true rfl) ?_
  refine a_if_eq (tgt := 20) C dX5_accent_8 (by decide) (fun hc => ?_) (fun hc => ?_)
  · replace h := ip hc h
    refine a_bipush (v := -2) C dX5_accent_20 (by decide) ?_
    replace h := Option.some.inj h
    subst h
    exact a_iret C dX5_accent_22 hK
  · replace h := iq hc h
    refine a_iload_n C dX5_accent_11 2 rfl ?_
    refine a_bipush (v := 6) C dX5_accent_12 (by decide) ?_
    obtain ⟨r2, hcr2, h⟩ := bd_some h
    refine a_callSi C dX5_accent_14 ls_X5_82 lm_X5_isBelow ⟨rfl, rfl, by decide, by decide⟩ (m_X5_isBelow C.2.2.2.2.2.2.1 hcr2) rfl rfl (Nat.le_of_ble_eq_true rfl) ?_
    refine a_if_ne (tgt := 23) C dX5_accent_17 (by decide) (fun hc => ?_) (fun hc => ?_)
    · replace h := iq hc h
      refine a_iload_n C dX5_accent_23 2 rfl ?_
      refine a_if_ne (tgt := 39) C dX5_accent_24 (by decide) (fun hc => ?_) (fun hc => ?_)
      · replace h := iq hc h
        refine a_aload_n C dX5_accent_39 0 rfl ?_
        refine a_getr (k1 := 5) C dX5_accent_40 fl_X5_28 rfl Kc_0 rfl ?_
        refine a_getr (k1 := 7) C dX5_accent_43 fl_X5_110 rfl Kc_5 rfl ?_
        refine a_iload_n C dX5_accent_46 1 rfl ?_
        refine a_iconst (v := 5) C dX5_accent_47 (by decide) ?_
        refine a_imul C dX5_accent_48 ?_
        refine a_iload_n C dX5_accent_49 2 rfl ?_
        refine a_iadd C dX5_accent_50 ?_
        refine a_iconst (v := 1) C dX5_accent_51 (by decide) ?_
        refine a_isub C dX5_accent_52 ?_
        obtain ⟨hb, h⟩ := ck_some h
        refine a_iald C dX5_accent_53 Kc_7 rfl hb ?_
        replace h := Option.some.inj h
        subst h
        exact a_iret C dX5_accent_54 hK
      · replace h := ip hc h
        refine a_aload_n C dX5_accent_27 0 rfl ?_
        refine a_getr (k1 := 5) C dX5_accent_28 fl_X5_28 rfl Kc_0 rfl ?_
        refine a_getr (k1 := 6) C dX5_accent_31 fl_X5_107 rfl Kc_5 rfl ?_
        refine a_iload_n C dX5_accent_34 1 rfl ?_
        obtain ⟨hb, h⟩ := ck_some h
        refine a_iald C dX5_accent_35 Kc_6 rfl hb ?_
        refine a_goto (tgt := 54) C dX5_accent_36 (by decide) ?_
        replace h := Option.some.inj h
        subst h
        exact a_iret C dX5_accent_54 hK
    · replace h := ip hc h
      refine a_bipush (v := -2) C dX5_accent_20 (by decide) ?_
      replace h := Option.some.inj h
      subst h
      exact a_iret C dX5_accent_22 hK
theorem m_X5_accent {Y : EY} (hY : HY Y) {x1 : Int32} {x2 : Int32} {M : Mem}  {r : Int32} (h : f_X5_accent x1 x2 M = some r) : MX Y yX5_accent cX5_accent 3 (some .int) rm_X5_accent [.ref (Y.2.2.2.1 0), .int x1, .int x2] M (some (.int r)) M := MX.of hY (by decide) (Nat.le_of_ble_eq_true rfl) (fun _ hR C => a_sub [0, 1, 2] (t_X5_accent C  h hR) rfl)
abbrev rm_X5_person : Room := { frames := 1, cells := 0, slots := 0, locals := 21 }
noncomputable def f_X5_person (x1 : Int32) (x2 : Int32) (M : Mem) : Option (Int32) :=
  Option.bind (f_X1_hasPerson 5 x1 M) (fun r1 => (if r1 = 0 then some (-2 : Int32) else Option.bind (f_X5_isBelow x2 (2 : Int32)) (fun r2 => (if r2 = 0 then some (-2 : Int32) else (if x2 = 0 then ck (inb x1 8) (some (M 8 (x1).toNatClampNeg)) else ck (inb x1 8) (some (M 9 (x1).toNatClampNeg)))))))
theorem t_X5_person {Y : EY} {X : CX} (C : CK Y X cX5_person RX5 3 (some .int) rm_X5_person) {x1 : Int32} {x2 : Int32} {M : Mem}  {res : Int32} (h : f_X5_person x1 x2 M = some res) (hK : RK Y X (some (.int res)) M) : AW Y X 3 0 [(0, .ref (Y.2.2.2.1 0)), (1, .int x1), (2, .int x2)] [] M := by
  unfold f_X5_person at h
  refine a_aload_n C dX5_person_0 0 rfl ?_
  refine a_getr (k1 := 5) C dX5_person_1 fl_X5_28 rfl Kc_0 rfl ?_
  refine a_iload_n C dX5_person_4 1 rfl ?_
  obtain ⟨r1, hcr1, h⟩ := bd_some h
  refine a_callVi C dX5_person_5 lv_X5_113 lm_X1_hasPerson ⟨rfl, rfl, by decide, by decide⟩ Kc_5 (m_X1_hasPerson C.2.2.2.2.2.2.1 Kc_5 hcr1) rfl rfl (Nat.le_of_ble_eq_true rfl) ?_
  refine a_if_eq (tgt := 19) C dX5_person_8 (by decide) (fun hc => ?_) (fun hc => ?_)
  · replace h := ip hc h
    refine a_bipush (v := -2) C dX5_person_19 (by decide) ?_
    replace h := Option.some.inj h
    subst h
    exact a_iret C dX5_person_21 hK
  · replace h := iq hc h
    refine a_iload_n C dX5_person_11 2 rfl ?_
    refine a_iconst (v := 2) C dX5_person_12 (by decide) ?_
    obtain ⟨r2, hcr2, h⟩ := bd_some h
    refine a_callSi C dX5_person_13 ls_X5_82 lm_X5_isBelow ⟨rfl, rfl, by decide, by decide⟩ (m_X5_isBelow C.2.2.2.2.2.2.1 hcr2) rfl rfl (Nat.le_of_ble_eq_true rfl) ?_
    refine a_if_ne (tgt := 22) C dX5_person_16 (by decide) (fun hc => ?_) (fun hc => ?_)
    · replace h := iq hc h
      refine a_iload_n C dX5_person_22 2 rfl ?_
      refine a_if_ne (tgt := 38) C dX5_person_23 (by decide) (fun hc => ?_) (fun hc => ?_)
      · replace h := iq hc h
        refine a_aload_n C dX5_person_38 0 rfl ?_
        refine a_getr (k1 := 5) C dX5_person_39 fl_X5_28 rfl Kc_0 rfl ?_
        refine a_getr (k1 := 9) C dX5_person_42 fl_X5_119 rfl Kc_5 rfl ?_
        refine a_iload_n C dX5_person_45 1 rfl ?_
        obtain ⟨hb, h⟩ := ck_some h
        refine a_iald C dX5_person_46 Kc_9 rfl hb ?_
        replace h := Option.some.inj h
        subst h
        exact a_iret C dX5_person_47 hK
      · replace h := ip hc h
        refine a_aload_n C dX5_person_26 0 rfl ?_
        refine a_getr (k1 := 5) C dX5_person_27 fl_X5_28 rfl Kc_0 rfl ?_
        refine a_getr (k1 := 8) C dX5_person_30 fl_X5_116 rfl Kc_5 rfl ?_
        refine a_iload_n C dX5_person_33 1 rfl ?_
        obtain ⟨hb, h⟩ := ck_some h
        refine a_iald C dX5_person_34 Kc_8 rfl hb ?_
        refine a_goto (tgt := 47) C dX5_person_35 (by decide) ?_
        replace h := Option.some.inj h
        subst h
        exact a_iret C dX5_person_47 hK
    · replace h := ip hc h
      refine a_bipush (v := -2) C dX5_person_19 (by decide) ?_
      replace h := Option.some.inj h
      subst h
      exact a_iret C dX5_person_21 hK
theorem m_X5_person {Y : EY} (hY : HY Y) {x1 : Int32} {x2 : Int32} {M : Mem}  {r : Int32} (h : f_X5_person x1 x2 M = some r) : MX Y yX5_person cX5_person 3 (some .int) rm_X5_person [.ref (Y.2.2.2.1 0), .int x1, .int x2] M (some (.int r)) M := MX.of hY (by decide) (Nat.le_of_ble_eq_true rfl) (fun _ hR C => a_sub [0, 1, 2] (t_X5_person C  h hR) rfl)
abbrev rm_X5_mayBeHired : Room := { frames := 1, cells := 0, slots := 0, locals := 21 }
noncomputable def f_X5_mayBeHired (x0 : Int32) (x1 : Int32) (x2 : Int32) : Option (Int32) :=
  Option.bind (f_X5_isBelow x0 (30 : Int32)) (fun r1 => (if r1 = 0 then some (0 : Int32) else Option.bind (f_X5_isBelow x1 (8 : Int32)) (fun r2 => (if r2 = 0 then some (0 : Int32) else Option.bind (f_X5_isBelow x2 (8 : Int32)) (fun r3 => (if r3 = 0 then some (0 : Int32) else some (1 : Int32)))))))
theorem t_X5_mayBeHired {Y : EY} {X : CX} (C : CK Y X cX5_mayBeHired RX5 3 (some .boolean) rm_X5_mayBeHired) {x0 : Int32} {x1 : Int32} {x2 : Int32} {M : Mem}  {res : Int32} (h : f_X5_mayBeHired x0 x1 x2 = some res) (hK : RK Y X (some (.int res)) M) : AW Y X 3 0 [(0, .int x0), (1, .int x1), (2, .int x2)] [] M := by
  unfold f_X5_mayBeHired at h
  refine a_iload_n C dX5_mayBeHired_0 0 rfl ?_
  refine a_bipush (v := 30) C dX5_mayBeHired_1 (by decide) ?_
  obtain ⟨r1, hcr1, h⟩ := bd_some h
  refine a_callSi C dX5_mayBeHired_3 ls_X5_82 lm_X5_isBelow ⟨rfl, rfl, by decide, by decide⟩ (m_X5_isBelow C.2.2.2.2.2.2.1 hcr1) rfl rfl (Nat.le_of_ble_eq_true rfl) ?_
  refine a_if_eq (tgt := 31) C dX5_mayBeHired_6 (by decide) (fun hc => ?_) (fun hc => ?_)
  · replace h := ip hc h
    refine a_iconst (v := 0) C dX5_mayBeHired_31 (by decide) ?_
    replace h := Option.some.inj h
    subst h
    exact a_zret C dX5_mayBeHired_32 rfl hK
  · replace h := iq hc h
    refine a_iload_n C dX5_mayBeHired_9 1 rfl ?_
    refine a_bipush (v := 8) C dX5_mayBeHired_10 (by decide) ?_
    obtain ⟨r2, hcr2, h⟩ := bd_some h
    refine a_callSi C dX5_mayBeHired_12 ls_X5_82 lm_X5_isBelow ⟨rfl, rfl, by decide, by decide⟩ (m_X5_isBelow C.2.2.2.2.2.2.1 hcr2) rfl rfl (Nat.le_of_ble_eq_true rfl) ?_
    refine a_if_eq (tgt := 31) C dX5_mayBeHired_15 (by decide) (fun hc => ?_) (fun hc => ?_)
    · replace h := ip hc h
      refine a_iconst (v := 0) C dX5_mayBeHired_31 (by decide) ?_
      replace h := Option.some.inj h
      subst h
      exact a_zret C dX5_mayBeHired_32 rfl hK
    · replace h := iq hc h
      refine a_iload_n C dX5_mayBeHired_18 2 rfl ?_
      refine a_bipush (v := 8) C dX5_mayBeHired_19 (by decide) ?_
      obtain ⟨r3, hcr3, h⟩ := bd_some h
      refine a_callSi C dX5_mayBeHired_21 ls_X5_82 lm_X5_isBelow ⟨rfl, rfl, by decide, by decide⟩ (m_X5_isBelow C.2.2.2.2.2.2.1 hcr3) rfl rfl (Nat.le_of_ble_eq_true rfl) ?_
      refine a_if_eq (tgt := 31) C dX5_mayBeHired_24 (by decide) (fun hc => ?_) (fun hc => ?_)
      · replace h := ip hc h
        refine a_iconst (v := 0) C dX5_mayBeHired_31 (by decide) ?_
        replace h := Option.some.inj h
        subst h
        exact a_zret C dX5_mayBeHired_32 rfl hK
      · replace h := iq hc h
        refine a_iconst (v := 1) C dX5_mayBeHired_27 (by decide) ?_
        refine a_goto (tgt := 32) C dX5_mayBeHired_28 (by decide) ?_
        replace h := Option.some.inj h
        subst h
        exact a_zret C dX5_mayBeHired_32 rfl hK
theorem m_X5_mayBeHired {Y : EY} (hY : HY Y) {x0 : Int32} {x1 : Int32} {x2 : Int32} {M : Mem}  {r : Int32} (h : f_X5_mayBeHired x0 x1 x2 = some r) : MX Y yX5_mayBeHired cX5_mayBeHired 3 (some .boolean) rm_X5_mayBeHired [.int x0, .int x1, .int x2] M (some (.int r)) M := MX.of hY (by decide) (Nat.le_of_ble_eq_true rfl) (fun _ hR C => a_sub [0, 1, 2] (t_X5_mayBeHired C  h hR) rfl)
abbrev rm_X5_hire : Room := { frames := 3, cells := 0, slots := 0, locals := 83 }
noncomputable def f_X5_hire (x1 : Int32) (x2 : Int32) (x3 : Int32) (M : Mem) : Option (Int32 × Mem) :=
  Option.bind (f_X5_mayBeHired x1 x2 x3) (fun r1 => (if r1 = 0 then some ((-2 : Int32), M) else (if (M 5 6) < (8 : Int32) then Option.bind (f_X1_addHiring 5 x1 x2 x3 M) (fun r2 => Option.bind (f_X5_beginAgain r2) (fun r3 => some ((r3 5 6), r3))) else some ((-4 : Int32), M))))
theorem t_X5_hire {Y : EY} {X : CX} (C : CK Y X cX5_hire RX5 4 (some .int) rm_X5_hire) {x1 : Int32} {x2 : Int32} {x3 : Int32} {M : Mem}  {res : Int32 × Mem} (h : f_X5_hire x1 x2 x3 M = some res) (hK : RK Y X (some (.int res.1)) res.2) : AW Y X 4 0 [(0, .ref (Y.2.2.2.1 0)), (1, .int x1), (2, .int x2), (3, .int x3)] [] M := by
  unfold f_X5_hire at h
  refine a_iload_n C dX5_hire_0 1 rfl ?_
  refine a_iload_n C dX5_hire_1 2 rfl ?_
  refine a_iload_n C dX5_hire_2 3 rfl ?_
  obtain ⟨r1, hcr1, h⟩ := bd_some h
  refine a_callSi C dX5_hire_3 ls_X5_122 lm_X5_mayBeHired ⟨rfl, rfl, by decide, by decide⟩ (m_X5_mayBeHired C.2.2.2.2.2.2.1 hcr1) rfl rfl (Nat.le_of_ble_eq_true rfl) ?_
  refine a_if_ne (tgt := 12) C dX5_hire_6 (by decide) (fun hc => ?_) (fun hc => ?_)
  · replace h := iq hc h
    refine a_aload_n C dX5_hire_12 0 rfl ?_
    refine a_getr (k1 := 5) C dX5_hire_13 fl_X5_28 rfl Kc_0 rfl ?_
    refine a_geti C dX5_hire_16 fl_X5_126 rfl Kc_5 ?_
    refine a_bipush (v := 8) C dX5_hire_19 (by decide) ?_
    refine a_icmp_lt (tgt := 27) C dX5_hire_21 (by decide) (fun hc => ?_) (fun hc => ?_)
    · replace h := ip hc h
      refine a_aload_n C dX5_hire_27 0 rfl ?_
      refine a_getr (k1 := 5) C dX5_hire_28 fl_X5_28 rfl Kc_0 rfl ?_
      refine a_iload_n C dX5_hire_31 1 rfl ?_
      refine a_iload_n C dX5_hire_32 2 rfl ?_
      refine a_iload_n C dX5_hire_33 3 rfl ?_
      obtain ⟨r2, hcr2, h⟩ := bd_some h
      refine a_callVv C dX5_hire_34 lv_X5_129 lm_X1_addHiring ⟨rfl, rfl, by decide, by decide⟩ Kc_5 (m_X1_addHiring C.2.2.2.2.2.2.1 Kc_5 hcr2) rfl rfl (Nat.le_of_ble_eq_true rfl) ?_
      refine a_aload_n C dX5_hire_37 0 rfl ?_
      obtain ⟨r3, hcr3, h⟩ := bd_some h
      refine a_callVv C dX5_hire_38 lv_X5_133 lm_X5_beginAgain ⟨rfl, rfl, by decide, by decide⟩ Kc_0 (m_X5_beginAgain C.2.2.2.2.2.2.1 hcr3) rfl rfl (Nat.le_of_ble_eq_true rfl) ?_
      refine a_aload_n C dX5_hire_41 0 rfl ?_
      refine a_getr (k1 := 5) C dX5_hire_42 fl_X5_28 rfl Kc_0 rfl ?_
      refine a_geti C dX5_hire_45 fl_X5_126 rfl Kc_5 ?_
      replace h := Option.some.inj h
      subst h
      exact a_iret C dX5_hire_48 hK
    · replace h := iq hc h
      refine a_bipush (v := -4) C dX5_hire_24 (by decide) ?_
      replace h := Option.some.inj h
      subst h
      exact a_iret C dX5_hire_26 hK
  · replace h := ip hc h
    refine a_bipush (v := -2) C dX5_hire_9 (by decide) ?_
    replace h := Option.some.inj h
    subst h
    exact a_iret C dX5_hire_11 hK
theorem m_X5_hire {Y : EY} (hY : HY Y) {x1 : Int32} {x2 : Int32} {x3 : Int32} {M : Mem}  {r : Int32 × Mem} (h : f_X5_hire x1 x2 x3 M = some r) : MX Y yX5_hire cX5_hire 4 (some .int) rm_X5_hire [.ref (Y.2.2.2.1 0), .int x1, .int x2, .int x3] M (some (.int r.1)) r.2 := MX.of hY (by decide) (Nat.le_of_ble_eq_true rfl) (fun _ hR C => a_sub [0, 1, 2, 3] (t_X5_hire C  h hR) rfl)
abbrev rm_X5_back : Room := { frames := 3, cells := 0, slots := 0, locals := 83 }
noncomputable def f_X5_back  (M : Mem) : Option (Int32 × Mem) :=
  (if (M 5 6) = 0 then some ((-3 : Int32), M) else Option.bind (f_X1_dropHiring 5 ((M 5 6) - (1 : Int32)) M) (fun r1 => Option.bind (f_X5_beginAgain r1) (fun r2 => some ((r2 5 6), r2))))
theorem t_X5_back {Y : EY} {X : CX} (C : CK Y X cX5_back RX5 1 (some .int) rm_X5_back)  {M : Mem}  {res : Int32 × Mem} (h : f_X5_back M = some res) (hK : RK Y X (some (.int res.1)) res.2) : AW Y X 1 0 [(0, .ref (Y.2.2.2.1 0))] [] M := by
  unfold f_X5_back at h
  refine a_aload_n C dX5_back_0 0 rfl ?_
  refine a_getr (k1 := 5) C dX5_back_1 fl_X5_28 rfl Kc_0 rfl ?_
  refine a_geti C dX5_back_4 fl_X5_126 rfl Kc_5 ?_
  refine a_if_ne (tgt := 13) C dX5_back_7 (by decide) (fun hc => ?_) (fun hc => ?_)
  · replace h := iq hc h
    refine a_aload_n C dX5_back_13 0 rfl ?_
    refine a_getr (k1 := 5) C dX5_back_14 fl_X5_28 rfl Kc_0 rfl ?_
    refine a_aload_n C dX5_back_17 0 rfl ?_
    refine a_getr (k1 := 5) C dX5_back_18 fl_X5_28 rfl Kc_0 rfl ?_
    refine a_geti C dX5_back_21 fl_X5_126 rfl Kc_5 ?_
    refine a_iconst (v := 1) C dX5_back_24 (by decide) ?_
    refine a_isub C dX5_back_25 ?_
    obtain ⟨r1, hcr1, h⟩ := bd_some h
    refine a_callVv C dX5_back_26 lv_X5_136 lm_X1_dropHiring ⟨rfl, rfl, by decide, by decide⟩ Kc_5 (m_X1_dropHiring C.2.2.2.2.2.2.1 Kc_5 hcr1) rfl rfl (Nat.le_of_ble_eq_true rfl) ?_
    refine a_aload_n C dX5_back_29 0 rfl ?_
    obtain ⟨r2, hcr2, h⟩ := bd_some h
    refine a_callVv C dX5_back_30 lv_X5_133 lm_X5_beginAgain ⟨rfl, rfl, by decide, by decide⟩ Kc_0 (m_X5_beginAgain C.2.2.2.2.2.2.1 hcr2) rfl rfl (Nat.le_of_ble_eq_true rfl) ?_
    refine a_aload_n C dX5_back_33 0 rfl ?_
    refine a_getr (k1 := 5) C dX5_back_34 fl_X5_28 rfl Kc_0 rfl ?_
    refine a_geti C dX5_back_37 fl_X5_126 rfl Kc_5 ?_
    replace h := Option.some.inj h
    subst h
    exact a_iret C dX5_back_40 hK
  · replace h := ip hc h
    refine a_bipush (v := -3) C dX5_back_10 (by decide) ?_
    replace h := Option.some.inj h
    subst h
    exact a_iret C dX5_back_12 hK
theorem m_X5_back {Y : EY} (hY : HY Y)  {M : Mem}  {r : Int32 × Mem} (h : f_X5_back M = some r) : MX Y yX5_back cX5_back 1 (some .int) rm_X5_back [.ref (Y.2.2.2.1 0)] M (some (.int r.1)) r.2 := MX.of hY (by decide) (Nat.le_of_ble_eq_true rfl) (fun _ hR C => a_sub [0] (t_X5_back C  h hR) rfl)
abbrev rm_X5_finding : Room := { frames := 0, cells := 0, slots := 0, locals := 0 }
noncomputable def f_X5_finding (x1 : Int32) (M : Mem) : Option (Int32 × Mem) :=
  some (((-10 : Int32) - x1), (upM M 0 13 x1))
theorem t_X5_finding {Y : EY} {X : CX} (C : CK Y X cX5_finding RX5 2 (some .int) rm_X5_finding) {x1 : Int32} {M : Mem}  {res : Int32 × Mem} (h : f_X5_finding x1 M = some res) (hK : RK Y X (some (.int res.1)) res.2) : AW Y X 2 0 [(0, .ref (Y.2.2.2.1 0)), (1, .int x1)] [] M := by
  unfold f_X5_finding at h
  refine a_aload_n C dX5_finding_0 0 rfl ?_
  refine a_iload_n C dX5_finding_1 1 rfl ?_
  refine a_put (ty := .int) C dX5_finding_2 fl_X5_78 (fp_5_13) rfl Kc_0 rfl rfl ?_
  refine a_bipush (v := -10) C dX5_finding_5 (by decide) ?_
  refine a_iload_n C dX5_finding_7 1 rfl ?_
  refine a_isub C dX5_finding_8 ?_
  replace h := Option.some.inj h
  subst h
  exact a_iret C dX5_finding_9 hK
theorem m_X5_finding {Y : EY} (hY : HY Y) {x1 : Int32} {M : Mem}  {r : Int32 × Mem} (h : f_X5_finding x1 M = some r) : MX Y yX5_finding cX5_finding 2 (some .int) rm_X5_finding [.ref (Y.2.2.2.1 0), .int x1] M (some (.int r.1)) r.2 := MX.of hY (by decide) (Nat.le_of_ble_eq_true rfl) (fun _ hR C => a_sub [0, 1] (t_X5_finding C  h hR) rfl)
abbrev rm_X5_read : Room := { frames := 3, cells := 0, slots := 0, locals := 83 }
abbrev At_X5_read_43 (Y : EY) (X : CX) (x2 : Nat) (x3 : Int32) (s : Int32 × Mem) : Prop := AW Y X 5 43 [(0, .ref (Y.2.2.2.1 0)), (2, .ref (Y.2.2.2.1 x2)), (3, .int x3), (4, .int s.1)] [] s.2
abbrev Ex_X5_read_43 (Y : EY) (X : CX) (x2 : Nat) (x3 : Int32) : ((Int32 × Mem) ⊕ (Int32 × Mem)) → Prop := KL (fun s : Int32 × Mem => AW Y X 5 138 [(0, .ref (Y.2.2.2.1 0)), (3, .int x3)] [] s.2) (fun res : Int32 × Mem => RK Y X (some (.int res.1)) res.2)
noncomputable def f_X5_read_43_43b (x2 : Nat) (x3 : Int32) (x4 : Int32) (M : Mem) : Option ((Int32 × Mem) ⊕ ((Int32 × Mem) ⊕ (Int32 × Mem))) :=
  (if (M x2 1) < (x4 + (3 : Int32)) then some (.inr (.inl (x4, M))) else (if (8 : Int32) ≤ (M 5 6) then some (.inr (.inl (x4, M))) else ck (inb x4 60) (ck (inb (x4 + (1 : Int32)) 60) (ck (inb (x4 + (2 : Int32)) 60) (Option.bind (f_X5_mayBeHired (M (rf x2 2) (x4).toNatClampNeg) (M (rf x2 2) ((x4 + (1 : Int32))).toNatClampNeg) (M (rf x2 2) ((x4 + (2 : Int32))).toNatClampNeg)) (fun r3 => (if r3 = 0 then some (.inr (.inl (x4, M))) else ck (inb x4 60) (ck (inb (x4 + (1 : Int32)) 60) (ck (inb (x4 + (2 : Int32)) 60) (Option.bind (f_X1_addHiring 5 (M (rf x2 2) (x4).toNatClampNeg) (M (rf x2 2) ((x4 + (1 : Int32))).toNatClampNeg) (M (rf x2 2) ((x4 + (2 : Int32))).toNatClampNeg) M) (fun r4 => some (.inl ((x4 + (3 : Int32)), r4)))))))))))))
theorem t_X5_read_43_43b {Y : EY} {X : CX} (C : CK Y X cX5_read RX5 5 (some .int) rm_X5_read) {x2 : Nat} {x3 : Int32} {x4 : Int32} {M : Mem} (k2 : K x2 2) {res : (Int32 × Mem) ⊕ ((Int32 × Mem) ⊕ (Int32 × Mem))} (h : f_X5_read_43_43b x2 x3 x4 M = some res) (hK : KL (At_X5_read_43 Y X x2 x3) (Ex_X5_read_43 Y X x2 x3) res) : AW Y X 5 43 [(0, .ref (Y.2.2.2.1 0)), (2, .ref (Y.2.2.2.1 x2)), (3, .int x3), (4, .int x4)] [] M := by
  unfold f_X5_read_43_43b at h
  refine a_iload C dX5_read_43 3 rfl ?_
  refine a_iconst (v := 3) C dX5_read_45 (by decide) ?_
  refine a_iadd C dX5_read_46 ?_
  refine a_aload_n C dX5_read_47 1 rfl ?_
  refine a_geti C dX5_read_48 fl_X5_147 rfl k2 ?_
  refine a_icmp_gt (tgt := 138) C dX5_read_51 (by decide) (fun hc => ?_) (fun hc => ?_)
  · replace h := ip hc h
    replace h := Option.some.inj h
    subst h
    exact a_sub [0, 2] (hK) rfl
  · replace h := iq hc h
    refine a_aload_n C dX5_read_54 0 rfl ?_
    refine a_getr (k1 := 5) C dX5_read_55 fl_X5_28 rfl Kc_0 rfl ?_
    refine a_geti C dX5_read_58 fl_X5_126 rfl Kc_5 ?_
    refine a_bipush (v := 8) C dX5_read_61 (by decide) ?_
    refine a_icmp_ge (tgt := 138) C dX5_read_63 (by decide) (fun hc => ?_) (fun hc => ?_)
    · replace h := ip hc h
      replace h := Option.some.inj h
      subst h
      exact a_sub [0, 2] (hK) rfl
    · replace h := iq hc h
      refine a_aload_n C dX5_read_66 1 rfl ?_
      refine a_getr (k1 := (rf x2 2)) C dX5_read_67 fl_X5_150 rfl k2 rfl ?_
      refine a_iload C dX5_read_70 3 rfl ?_
      obtain ⟨hb, h⟩ := ck_some h
      refine a_iald C dX5_read_72 (rk_2_2 k2) (rl_2_2 k2) hb ?_
      refine a_aload_n C dX5_read_73 1 rfl ?_
      refine a_getr (k1 := (rf x2 2)) C dX5_read_74 fl_X5_150 rfl k2 rfl ?_
      refine a_iload C dX5_read_77 3 rfl ?_
      refine a_iconst (v := 1) C dX5_read_79 (by decide) ?_
      refine a_iadd C dX5_read_80 ?_
      obtain ⟨hb, h⟩ := ck_some h
      refine a_iald C dX5_read_81 (rk_2_2 k2) (rl_2_2 k2) hb ?_
      refine a_aload_n C dX5_read_82 1 rfl ?_
      refine a_getr (k1 := (rf x2 2)) C dX5_read_83 fl_X5_150 rfl k2 rfl ?_
      refine a_iload C dX5_read_86 3 rfl ?_
      refine a_iconst (v := 2) C dX5_read_88 (by decide) ?_
      refine a_iadd C dX5_read_89 ?_
      obtain ⟨hb, h⟩ := ck_some h
      refine a_iald C dX5_read_90 (rk_2_2 k2) (rl_2_2 k2) hb ?_
      obtain ⟨r3, hcr3, h⟩ := bd_some h
      refine a_callSi C dX5_read_91 ls_X5_122 lm_X5_mayBeHired ⟨rfl, rfl, by decide, by decide⟩ (m_X5_mayBeHired C.2.2.2.2.2.2.1 hcr3) rfl rfl (Nat.le_of_ble_eq_true rfl) ?_
      refine a_if_ne (tgt := 100) C dX5_read_94 (by decide) (fun hc => ?_) (fun hc => ?_)
      · replace h := iq hc h
        refine a_aload_n C dX5_read_100 0 rfl ?_
        refine a_getr (k1 := 5) C dX5_read_101 fl_X5_28 rfl Kc_0 rfl ?_
        refine a_aload_n C dX5_read_104 1 rfl ?_
        refine a_getr (k1 := (rf x2 2)) C dX5_read_105 fl_X5_150 rfl k2 rfl ?_
        refine a_iload C dX5_read_108 3 rfl ?_
        obtain ⟨hb, h⟩ := ck_some h
        refine a_iald C dX5_read_110 (rk_2_2 k2) (rl_2_2 k2) hb ?_
        refine a_aload_n C dX5_read_111 1 rfl ?_
        refine a_getr (k1 := (rf x2 2)) C dX5_read_112 fl_X5_150 rfl k2 rfl ?_
        refine a_iload C dX5_read_115 3 rfl ?_
        refine a_iconst (v := 1) C dX5_read_117 (by decide) ?_
        refine a_iadd C dX5_read_118 ?_
        obtain ⟨hb, h⟩ := ck_some h
        refine a_iald C dX5_read_119 (rk_2_2 k2) (rl_2_2 k2) hb ?_
        refine a_aload_n C dX5_read_120 1 rfl ?_
        refine a_getr (k1 := (rf x2 2)) C dX5_read_121 fl_X5_150 rfl k2 rfl ?_
        refine a_iload C dX5_read_124 3 rfl ?_
        refine a_iconst (v := 2) C dX5_read_126 (by decide) ?_
        refine a_iadd C dX5_read_127 ?_
        obtain ⟨hb, h⟩ := ck_some h
        refine a_iald C dX5_read_128 (rk_2_2 k2) (rl_2_2 k2) hb ?_
        obtain ⟨r4, hcr4, h⟩ := bd_some h
        refine a_callVv C dX5_read_129 lv_X5_129 lm_X1_addHiring ⟨rfl, rfl, by decide, by decide⟩ Kc_5 (m_X1_addHiring C.2.2.2.2.2.2.1 Kc_5 hcr4) rfl rfl (Nat.le_of_ble_eq_true rfl) ?_
        refine a_iinc (v := 3) (lv' := [(4, _), (0, _), (2, _), (3, _)]) C dX5_read_132 3 rfl (by decide) (by decide) rfl ?_
        refine a_goto (tgt := 43) C dX5_read_135 (by decide) ?_
        replace h := Option.some.inj h
        subst h
        exact a_sub [1, 2, 3, 0] (hK) rfl
      · replace h := ip hc h
        refine a_goto (tgt := 138) C dX5_read_97 (by decide) ?_
        replace h := Option.some.inj h
        subst h
        exact a_sub [0, 2] (hK) rfl
noncomputable def f_X5_read_138 (x3 : Int32) (M : Mem) : Option (Int32 × Mem) :=
  Option.bind (f_X5_beginAgain M) (fun r7 => some (((r7 5 6) - x3), r7))
theorem t_X5_read_138 {Y : EY} {X : CX} (C : CK Y X cX5_read RX5 5 (some .int) rm_X5_read) {x3 : Int32} {M : Mem}  {res : Int32 × Mem} (h : f_X5_read_138 x3 M = some res) (hK : RK Y X (some (.int res.1)) res.2) : AW Y X 5 138 [(0, .ref (Y.2.2.2.1 0)), (3, .int x3)] [] M := by
  unfold f_X5_read_138 at h
  refine a_aload_n C dX5_read_138 0 rfl ?_
  obtain ⟨r7, hcr7, h⟩ := bd_some h
  refine a_callVv C dX5_read_139 lv_X5_133 lm_X5_beginAgain ⟨rfl, rfl, by decide, by decide⟩ Kc_0 (m_X5_beginAgain C.2.2.2.2.2.2.1 hcr7) rfl rfl (Nat.le_of_ble_eq_true rfl) ?_
  refine a_aload_n C dX5_read_142 0 rfl ?_
  refine a_getr (k1 := 5) C dX5_read_143 fl_X5_28 rfl Kc_0 rfl ?_
  refine a_geti C dX5_read_146 fl_X5_126 rfl Kc_5 ?_
  refine a_iload_n C dX5_read_149 1 rfl ?_
  refine a_isub C dX5_read_150 ?_
  replace h := Option.some.inj h
  subst h
  exact a_iret C dX5_read_151 hK
noncomputable def f_X5_read (x1 : Int32) (M : Mem) : Option (Int32 × Mem) :=
  Option.bind (f_X5_isBelow x1 (4 : Int32)) (fun r1 => (if r1 = 0 then some ((-2 : Int32), M) else ck (inb x1 4) ((if (M (rf 36 (x1).toNatClampNeg) 0) = (-1 : Int32) then Option.bind (f_X5_finding (1 : Int32) M) (fun r9 => some (r9.1, r9.2)) else Option.bind (loop (fun s5 : Int32 × Mem => f_X5_read_43_43b (rf 36 (x1).toNatClampNeg) (M 5 6) s5.1 s5.2) ((0 : Int32), M)) (eo (fun s6 => f_X5_read_138 (M 5 6) s6.2) (fun r8 => some r8))))))
theorem t_X5_read {Y : EY} {X : CX} (C : CK Y X cX5_read RX5 5 (some .int) rm_X5_read) {x1 : Int32} {M : Mem}  {res : Int32 × Mem} (h : f_X5_read x1 M = some res) (hK : RK Y X (some (.int res.1)) res.2) : AW Y X 5 0 [(0, .ref (Y.2.2.2.1 0)), (1, .int x1)] [] M := by
  unfold f_X5_read at h
  refine a_iload_n C dX5_read_0 1 rfl ?_
  refine a_iconst (v := 4) C dX5_read_1 (by decide) ?_
  obtain ⟨r1, hcr1, h⟩ := bd_some h
  refine a_callSi C dX5_read_2 ls_X5_82 lm_X5_isBelow ⟨rfl, rfl, by decide, by decide⟩ (m_X5_isBelow C.2.2.2.2.2.2.1 hcr1) rfl rfl (Nat.le_of_ble_eq_true rfl) ?_
  refine a_if_ne (tgt := 11) C dX5_read_5 (by decide) (fun hc => ?_) (fun hc => ?_)
  · replace h := iq hc h
    refine a_aload_n C dX5_read_11 0 rfl ?_
    refine a_getr (k1 := 36) C dX5_read_12 fl_X5_56 rfl Kc_0 rfl ?_
    refine a_iload_n C dX5_read_15 1 rfl ?_
    obtain ⟨hb2, h⟩ := ck_some h
    refine a_aald C dX5_read_16 Kc_36 hb2 ?_
    refine a_astore_n (lv' := [(2, _), (0, _), (1, _)]) C dX5_read_17 rfl (by decide) rfl ?_
    refine a_aload_n C dX5_read_18 0 rfl ?_
    refine a_geti C dX5_read_19 fl_X5_140 rfl (K_sheet hb2) ?_
    refine a_iconst (v := -1) C dX5_read_22 (by decide) ?_
    refine a_icmp_ne (tgt := 32) C dX5_read_23 (by decide) (fun hc => ?_) (fun hc => ?_)
    · replace h := iq hc h
      refine a_aload_n C dX5_read_32 1 rfl ?_
      refine a_getr (k1 := 5) C dX5_read_33 fl_X5_28 rfl Kc_0 rfl ?_
      refine a_geti C dX5_read_36 fl_X5_126 rfl Kc_5 ?_
      refine a_istore_n (lv' := [(3, _), (2, _), (0, _), (1, _)]) C dX5_read_39 rfl (by decide) rfl ?_
      refine a_iconst (v := 0) C dX5_read_40 (by decide) ?_
      refine a_istore (lv' := [(4, _), (3, _), (2, _), (0, _), (1, _)]) C dX5_read_41 (by decide) rfl ?_
      obtain ⟨ee, hl, h⟩ := bd_some h
      have hE : Ex_X5_read_43 Y X (rf 36 (x1).toNatClampNeg) (M 5 6) ee := by
        cases ee with
        | inl s6 =>
          exact a_sub [0, 1] (t_X5_read_138 C h hK) rfl
        | inr r8 =>
          replace h := Option.some.inj h
          subst h
          exact hK
      have hA := aw_loop (At_X5_read_43 Y X (rf 36 (x1).toNatClampNeg) (M 5 6)) (Ex_X5_read_43 Y X (rf 36 (x1).toNatClampNeg) (M 5 6)) (fun _ _ hb hk => t_X5_read_43_43b C (K_sheet hb2) hb hk) hl hE
      exact a_sub [3, 2, 1, 0] (hA) rfl
    · replace h := ip hc h
      refine a_aload_n C dX5_read_26 1 rfl ?_
      refine a_iconst (v := 1) C dX5_read_27 (by decide) ?_
      obtain ⟨r9, hcr9, h⟩ := bd_some h
      refine a_callVi C dX5_read_28 lv_X5_143 lm_X5_finding ⟨rfl, rfl, by decide, by decide⟩ Kc_0 (m_X5_finding C.2.2.2.2.2.2.1 hcr9) rfl rfl (Nat.le_of_ble_eq_true rfl) ?_
      replace h := Option.some.inj h
      subst h
      exact a_iret C dX5_read_31 hK
  · replace h := ip hc h
    refine a_bipush (v := -2) C dX5_read_8 (by decide) ?_
    replace h := Option.some.inj h
    subst h
    exact a_iret C dX5_read_10 hK
theorem m_X5_read {Y : EY} (hY : HY Y) {x1 : Int32} {M : Mem}  {r : Int32 × Mem} (h : f_X5_read x1 M = some r) : MX Y yX5_read cX5_read 5 (some .int) rm_X5_read [.ref (Y.2.2.2.1 0), .int x1] M (some (.int r.1)) r.2 := MX.of hY (by decide) (Nat.le_of_ble_eq_true rfl) (fun _ hR C => a_sub [0, 1] (t_X5_read C  h hR) rfl)
abbrev rm_X5_standBehind : Room := { frames := 3, cells := 0, slots := 0, locals := 73 }
noncomputable def f_X5_standBehind_18 (x1 : Int32) (M : Mem) : Option (Mem) :=
  Option.bind (f_X4_go 21 x1 M) (fun r1 => some r1)
theorem t_X5_standBehind_18 {Y : EY} {X : CX} (C : CK Y X cX5_standBehind RX5 2 none rm_X5_standBehind) {x1 : Int32} {M : Mem}  {res : Mem} (h : f_X5_standBehind_18 x1 M = some res) (hK : RK Y X none res) : AW Y X 2 18 [(0, .ref (Y.2.2.2.1 0)), (1, .int x1)] [] M := by
  unfold f_X5_standBehind_18 at h
  refine a_aload_n C dX5_standBehind_18 0 rfl ?_
  refine a_getr (k1 := 21) C dX5_standBehind_19 fl_X5_40 rfl Kc_0 rfl ?_
  refine a_iload_n C dX5_standBehind_22 1 rfl ?_
  obtain ⟨r1, hcr1, h⟩ := bd_some h
  refine a_callVv C dX5_standBehind_23 lv_X5_206 lm_X4_go ⟨rfl, rfl, by decide, by decide⟩ Kc_21 (m_X4_go C.2.2.2.2.2.2.1 Kc_21 hcr1) rfl rfl (Nat.le_of_ble_eq_true rfl) ?_
  replace h := Option.some.inj h
  subst h
  exact a_vret C dX5_standBehind_26 hK
noncomputable def f_X5_standBehind (x1 : Int32) (M : Mem) : Option (Mem) :=
  (if (M 21 1) ≤ x1 then f_X5_standBehind_18 x1 M else Option.bind (f_X4_begin 21 M) (fun r2 => f_X5_standBehind_18 x1 r2))
theorem t_X5_standBehind {Y : EY} {X : CX} (C : CK Y X cX5_standBehind RX5 2 none rm_X5_standBehind) {x1 : Int32} {M : Mem}  {res : Mem} (h : f_X5_standBehind x1 M = some res) (hK : RK Y X none res) : AW Y X 2 0 [(0, .ref (Y.2.2.2.1 0)), (1, .int x1)] [] M := by
  unfold f_X5_standBehind at h
  refine a_aload_n C dX5_standBehind_0 0 rfl ?_
  refine a_getr (k1 := 21) C dX5_standBehind_1 fl_X5_40 rfl Kc_0 rfl ?_
  refine a_geti C dX5_standBehind_4 fl_X5_352 rfl Kc_21 ?_
  refine a_iload_n C dX5_standBehind_7 1 rfl ?_
  refine a_icmp_le (tgt := 18) C dX5_standBehind_8 (by decide) (fun hc => ?_) (fun hc => ?_)
  · replace h := ip hc h
    exact a_sub [0, 1] (t_X5_standBehind_18 C h hK) rfl
  · replace h := iq hc h
    refine a_aload_n C dX5_standBehind_11 0 rfl ?_
    refine a_getr (k1 := 21) C dX5_standBehind_12 fl_X5_40 rfl Kc_0 rfl ?_
    obtain ⟨r2, hcr2, h⟩ := bd_some h
    refine a_callVv C dX5_standBehind_15 lv_X5_203 lm_X4_begin ⟨rfl, rfl, by decide, by decide⟩ Kc_21 (m_X4_begin C.2.2.2.2.2.2.1 Kc_21 hcr2) rfl rfl (Nat.le_of_ble_eq_true rfl) ?_
    exact a_sub [0, 1] (t_X5_standBehind_18 C h hK) rfl
theorem m_X5_standBehind {Y : EY} (hY : HY Y) {x1 : Int32} {M : Mem}  {r : Mem} (h : f_X5_standBehind x1 M = some r) : MX Y yX5_standBehind cX5_standBehind 2 none rm_X5_standBehind [.ref (Y.2.2.2.1 0), .int x1] M (none) r := MX.of hY (by decide) (Nat.le_of_ble_eq_true rfl) (fun _ hR C => a_sub [0, 1] (t_X5_standBehind C  h hR) rfl)
abbrev rm_X5_at : Room := { frames := 4, cells := 0, slots := 0, locals := 94 }
noncomputable def f_X5_at (x1 : Int32) (x2 : Int32) (x3 : Int32) (M : Mem) : Option (Int32 × Mem) :=
  Option.bind (f_X5_isBelow x1 (30 : Int32)) (fun r1 => (if r1 = 0 then some ((-2 : Int32), M) else Option.bind (f_X1_hasPerson 5 x2 M) (fun r2 => (if r2 = 0 then some ((-2 : Int32), M) else Option.bind (f_X5_isBelow x3 (8 : Int32)) (fun r3 => (if r3 = 0 then some ((-2 : Int32), M) else Option.bind (f_X5_standBehind x1 M) (fun r4 => (if (5 : Int32) ≤ x3 then (if x3 = (5 : Int32) then ck (inb x2 8) (some ((r4 24 (x2).toNatClampNeg), r4)) else Option.bind (f_X4_takenFor 21 x2 r4) (fun r5 => (if x3 = (6 : Int32) then some (r5, r4) else (if r5 = (-1 : Int32) then some (r5, r4) else Option.bind (f_X4_far 21 x2 r5 r4) (fun r6 => some (r6, r4)))))) else ck (inb ((x2 * (5 : Int32)) + x3) 40) (some ((r4 23 (((x2 * (5 : Int32)) + x3)).toNatClampNeg), r4))))))))))
theorem t_X5_at {Y : EY} {X : CX} (C : CK Y X cX5_at RX5 5 (some .int) rm_X5_at) {x1 : Int32} {x2 : Int32} {x3 : Int32} {M : Mem}  {res : Int32 × Mem} (h : f_X5_at x1 x2 x3 M = some res) (hK : RK Y X (some (.int res.1)) res.2) : AW Y X 5 0 [(0, .ref (Y.2.2.2.1 0)), (1, .int x1), (2, .int x2), (3, .int x3)] [] M := by
  unfold f_X5_at at h
  refine a_iload_n C dX5_at_0 1 rfl ?_
  refine a_bipush (v := 30) C dX5_at_1 (by decide) ?_
  obtain ⟨r1, hcr1, h⟩ := bd_some h
  refine a_callSi C dX5_at_3 ls_X5_82 lm_X5_isBelow ⟨rfl, rfl, by decide, by decide⟩ (m_X5_isBelow C.2.2.2.2.2.2.1 hcr1) rfl rfl (Nat.le_of_ble_eq_true rfl) ?_
  refine a_if_eq (tgt := 29) C dX5_at_6 (by decide) (fun hc => ?_) (fun hc => ?_)
  · replace h := ip hc h
    refine a_bipush (v := -2) C dX5_at_29 (by decide) ?_
    replace h := Option.some.inj h
    subst h
    exact a_iret C dX5_at_31 hK
  · replace h := iq hc h
    refine a_aload_n C dX5_at_9 0 rfl ?_
    refine a_getr (k1 := 5) C dX5_at_10 fl_X5_28 rfl Kc_0 rfl ?_
    refine a_iload_n C dX5_at_13 2 rfl ?_
    obtain ⟨r2, hcr2, h⟩ := bd_some h
    refine a_callVi C dX5_at_14 lv_X5_113 lm_X1_hasPerson ⟨rfl, rfl, by decide, by decide⟩ Kc_5 (m_X1_hasPerson C.2.2.2.2.2.2.1 Kc_5 hcr2) rfl rfl (Nat.le_of_ble_eq_true rfl) ?_
    refine a_if_eq (tgt := 29) C dX5_at_17 (by decide) (fun hc => ?_) (fun hc => ?_)
    · replace h := ip hc h
      refine a_bipush (v := -2) C dX5_at_29 (by decide) ?_
      replace h := Option.some.inj h
      subst h
      exact a_iret C dX5_at_31 hK
    · replace h := iq hc h
      refine a_iload_n C dX5_at_20 3 rfl ?_
      refine a_bipush (v := 8) C dX5_at_21 (by decide) ?_
      obtain ⟨r3, hcr3, h⟩ := bd_some h
      refine a_callSi C dX5_at_23 ls_X5_82 lm_X5_isBelow ⟨rfl, rfl, by decide, by decide⟩ (m_X5_isBelow C.2.2.2.2.2.2.1 hcr3) rfl rfl (Nat.le_of_ble_eq_true rfl) ?_
      refine a_if_ne (tgt := 32) C dX5_at_26 (by decide) (fun hc => ?_) (fun hc => ?_)
      · replace h := iq hc h
        refine a_aload_n C dX5_at_32 0 rfl ?_
        refine a_iload_n C dX5_at_33 1 rfl ?_
        obtain ⟨r4, hcr4, h⟩ := bd_some h
        refine a_callVv C dX5_at_34 lv_X5_153 lm_X5_standBehind ⟨rfl, rfl, by decide, by decide⟩ Kc_0 (m_X5_standBehind C.2.2.2.2.2.2.1 hcr4) rfl rfl (Nat.le_of_ble_eq_true rfl) ?_
        refine a_iload_n C dX5_at_37 3 rfl ?_
        refine a_iconst (v := 5) C dX5_at_38 (by decide) ?_
        refine a_icmp_ge (tgt := 56) C dX5_at_39 (by decide) (fun hc => ?_) (fun hc => ?_)
        · replace h := ip hc h
          refine a_iload_n C dX5_at_56 3 rfl ?_
          refine a_iconst (v := 5) C dX5_at_57 (by decide) ?_
          refine a_icmp_ne (tgt := 71) C dX5_at_58 (by decide) (fun hc => ?_) (fun hc => ?_)
          · replace h := iq hc h
            refine a_aload_n C dX5_at_71 0 rfl ?_
            refine a_getr (k1 := 21) C dX5_at_72 fl_X5_40 rfl Kc_0 rfl ?_
            refine a_iload_n C dX5_at_75 2 rfl ?_
            obtain ⟨r5, hcr5, h⟩ := bd_some h
            refine a_callVi C dX5_at_76 lv_X5_162 lm_X4_takenFor ⟨rfl, rfl, by decide, by decide⟩ Kc_21 (m_X4_takenFor C.2.2.2.2.2.2.1 Kc_21 hcr5) rfl rfl (Nat.le_of_ble_eq_true rfl) ?_
            refine a_istore (lv' := [(4, _), (0, _), (1, _), (2, _), (3, _)]) C dX5_at_79 (by decide) rfl ?_
            refine a_iload_n C dX5_at_81 4 rfl ?_
            refine a_bipush (v := 6) C dX5_at_82 (by decide) ?_
            refine a_icmp_eq (tgt := 93) C dX5_at_84 (by decide) (fun hc => ?_) (fun hc => ?_)
            · replace h := ip hc h
              refine a_iload C dX5_at_93 0 rfl ?_
              replace h := Option.some.inj h
              subst h
              exact a_iret C dX5_at_95 hK
            · replace h := iq hc h
              refine a_iload C dX5_at_87 0 rfl ?_
              refine a_iconst (v := -1) C dX5_at_89 (by decide) ?_
              refine a_icmp_ne (tgt := 96) C dX5_at_90 (by decide) (fun hc => ?_) (fun hc => ?_)
              · replace h := iq hc h
                refine a_aload_n C dX5_at_96 1 rfl ?_
                refine a_getr (k1 := 21) C dX5_at_97 fl_X5_40 rfl Kc_0 rfl ?_
                refine a_iload_n C dX5_at_100 3 rfl ?_
                refine a_iload C dX5_at_101 0 rfl ?_
                obtain ⟨r6, hcr6, h⟩ := bd_some h
                refine a_callVi C dX5_at_103 lv_X5_165 lm_X4_far ⟨rfl, rfl, by decide, by decide⟩ Kc_21 (m_X4_far C.2.2.2.2.2.2.1 Kc_21 hcr6) rfl rfl (Nat.le_of_ble_eq_true rfl) ?_
                replace h := Option.some.inj h
                subst h
                exact a_iret C dX5_at_106 hK
              · replace h := ip hc h
                refine a_iload C dX5_at_93 0 rfl ?_
                replace h := Option.some.inj h
                subst h
                exact a_iret C dX5_at_95 hK
          · replace h := ip hc h
            refine a_aload_n C dX5_at_61 0 rfl ?_
            refine a_getr (k1 := 21) C dX5_at_62 fl_X5_40 rfl Kc_0 rfl ?_
            refine a_getr (k1 := 24) C dX5_at_65 fl_X5_159 rfl Kc_21 rfl ?_
            refine a_iload_n C dX5_at_68 2 rfl ?_
            obtain ⟨hb, h⟩ := ck_some h
            refine a_iald C dX5_at_69 Kc_24 rfl hb ?_
            replace h := Option.some.inj h
            subst h
            exact a_iret C dX5_at_70 hK
        · replace h := iq hc h
          refine a_aload_n C dX5_at_42 0 rfl ?_
          refine a_getr (k1 := 21) C dX5_at_43 fl_X5_40 rfl Kc_0 rfl ?_
          refine a_getr (k1 := 23) C dX5_at_46 fl_X5_156 rfl Kc_21 rfl ?_
          refine a_iload_n C dX5_at_49 2 rfl ?_
          refine a_iconst (v := 5) C dX5_at_50 (by decide) ?_
          refine a_imul C dX5_at_51 ?_
          refine a_iload_n C dX5_at_52 3 rfl ?_
          refine a_iadd C dX5_at_53 ?_
          obtain ⟨hb, h⟩ := ck_some h
          refine a_iald C dX5_at_54 Kc_23 rfl hb ?_
          replace h := Option.some.inj h
          subst h
          exact a_iret C dX5_at_55 hK
      · replace h := ip hc h
        refine a_bipush (v := -2) C dX5_at_29 (by decide) ?_
        replace h := Option.some.inj h
        subst h
        exact a_iret C dX5_at_31 hK
theorem m_X5_at {Y : EY} (hY : HY Y) {x1 : Int32} {x2 : Int32} {x3 : Int32} {M : Mem}  {r : Int32 × Mem} (h : f_X5_at x1 x2 x3 M = some r) : MX Y yX5_at cX5_at 5 (some .int) rm_X5_at [.ref (Y.2.2.2.1 0), .int x1, .int x2, .int x3] M (some (.int r.1)) r.2 := MX.of hY (by decide) (Nat.le_of_ble_eq_true rfl) (fun _ hR C => a_sub [0, 1, 2, 3] (t_X5_at C  h hR) rfl)
abbrev rm_X5_drawer : Room := { frames := 4, cells := 0, slots := 0, locals := 94 }
noncomputable def f_X5_drawer (x1 : Int32) (x2 : Int32) (x3 : Int32) (M : Mem) : Option (Int32 × Mem) :=
  Option.bind (f_X5_isBelow x1 (30 : Int32)) (fun r1 => (if r1 = 0 then some ((-2 : Int32), M) else Option.bind (f_X1_hasAccent 5 x2 M) (fun r2 => (if r2 = 0 then some ((-2 : Int32), M) else Option.bind (f_X5_isBelow x3 (6 : Int32)) (fun r3 => (if r3 = 0 then some ((-2 : Int32), M) else Option.bind (f_X5_standBehind x1 M) (fun r4 => (if (5 : Int32) ≤ x3 then ck (inb x2 8) (some ((r4 25 (x2).toNatClampNeg), r4)) else ck (inb ((x2 * (5 : Int32)) + x3) 40) (some ((r4 22 (((x2 * (5 : Int32)) + x3)).toNatClampNeg), r4))))))))))
theorem t_X5_drawer {Y : EY} {X : CX} (C : CK Y X cX5_drawer RX5 4 (some .int) rm_X5_drawer) {x1 : Int32} {x2 : Int32} {x3 : Int32} {M : Mem}  {res : Int32 × Mem} (h : f_X5_drawer x1 x2 x3 M = some res) (hK : RK Y X (some (.int res.1)) res.2) : AW Y X 4 0 [(0, .ref (Y.2.2.2.1 0)), (1, .int x1), (2, .int x2), (3, .int x3)] [] M := by
  unfold f_X5_drawer at h
  refine a_iload_n C dX5_drawer_0 1 rfl ?_
  refine a_bipush (v := 30) C dX5_drawer_1 (by decide) ?_
  obtain ⟨r1, hcr1, h⟩ := bd_some h
  refine a_callSi C dX5_drawer_3 ls_X5_82 lm_X5_isBelow ⟨rfl, rfl, by decide, by decide⟩ (m_X5_isBelow C.2.2.2.2.2.2.1 hcr1) rfl rfl (Nat.le_of_ble_eq_true rfl) ?_
  refine a_if_eq (tgt := 29) C dX5_drawer_6 (by decide) (fun hc => ?_) (fun hc => ?_)
  · replace h := ip hc h
    refine a_bipush (v := -2) C dX5_drawer_29 (by decide) ?_
    replace h := Option.some.inj h
    subst h
    exact a_iret C dX5_drawer_31 hK
  · replace h := iq hc h
    refine a_aload_n C dX5_drawer_9 0 rfl ?_
    refine a_getr (k1 := 5) C dX5_drawer_10 fl_X5_28 rfl Kc_0 rfl ?_
    refine a_iload_n C dX5_drawer_13 2 rfl ?_
    obtain ⟨r2, hcr2, h⟩ := bd_some h
    refine a_callVi C dX5_drawer_14 lv_X5_104 lm_X1_hasAccent ⟨rfl, rfl, by decide, by decide⟩ Kc_5 (m_X1_hasAccent C.2.2.2.2.2.2.1 Kc_5 hcr2) rfl rfl (Nat.le_of_ble_eq_true rfl) ?_
    refine a_if_eq (tgt := 29) C dX5_drawer_17 (by decide) (fun hc => ?_) (fun hc => ?_)
    · replace h := ip hc h
      refine a_bipush (v := -2) C dX5_drawer_29 (by decide) ?_
      replace h := Option.some.inj h
      subst h
      exact a_iret C dX5_drawer_31 hK
    · replace h := iq hc h
      refine a_iload_n C dX5_drawer_20 3 rfl ?_
      refine a_bipush (v := 6) C dX5_drawer_21 (by decide) ?_
      obtain ⟨r3, hcr3, h⟩ := bd_some h
      refine a_callSi C dX5_drawer_23 ls_X5_82 lm_X5_isBelow ⟨rfl, rfl, by decide, by decide⟩ (m_X5_isBelow C.2.2.2.2.2.2.1 hcr3) rfl rfl (Nat.le_of_ble_eq_true rfl) ?_
      refine a_if_ne (tgt := 32) C dX5_drawer_26 (by decide) (fun hc => ?_) (fun hc => ?_)
      · replace h := iq hc h
        refine a_aload_n C dX5_drawer_32 0 rfl ?_
        refine a_iload_n C dX5_drawer_33 1 rfl ?_
        obtain ⟨r4, hcr4, h⟩ := bd_some h
        refine a_callVv C dX5_drawer_34 lv_X5_153 lm_X5_standBehind ⟨rfl, rfl, by decide, by decide⟩ Kc_0 (m_X5_standBehind C.2.2.2.2.2.2.1 hcr4) rfl rfl (Nat.le_of_ble_eq_true rfl) ?_
        refine a_iload_n C dX5_drawer_37 3 rfl ?_
        refine a_iconst (v := 5) C dX5_drawer_38 (by decide) ?_
        refine a_icmp_ge (tgt := 58) C dX5_drawer_39 (by decide) (fun hc => ?_) (fun hc => ?_)
        · replace h := ip hc h
          refine a_aload_n C dX5_drawer_58 0 rfl ?_
          refine a_getr (k1 := 21) C dX5_drawer_59 fl_X5_40 rfl Kc_0 rfl ?_
          refine a_getr (k1 := 25) C dX5_drawer_62 fl_X5_170 rfl Kc_21 rfl ?_
          refine a_iload_n C dX5_drawer_65 2 rfl ?_
          obtain ⟨hb, h⟩ := ck_some h
          refine a_iald C dX5_drawer_66 Kc_25 rfl hb ?_
          replace h := Option.some.inj h
          subst h
          exact a_iret C dX5_drawer_67 hK
        · replace h := iq hc h
          refine a_aload_n C dX5_drawer_42 0 rfl ?_
          refine a_getr (k1 := 21) C dX5_drawer_43 fl_X5_40 rfl Kc_0 rfl ?_
          refine a_getr (k1 := 22) C dX5_drawer_46 fl_X5_169 rfl Kc_21 rfl ?_
          refine a_iload_n C dX5_drawer_49 2 rfl ?_
          refine a_iconst (v := 5) C dX5_drawer_50 (by decide) ?_
          refine a_imul C dX5_drawer_51 ?_
          refine a_iload_n C dX5_drawer_52 3 rfl ?_
          refine a_iadd C dX5_drawer_53 ?_
          obtain ⟨hb, h⟩ := ck_some h
          refine a_iald C dX5_drawer_54 Kc_22 rfl hb ?_
          refine a_goto (tgt := 67) C dX5_drawer_55 (by decide) ?_
          replace h := Option.some.inj h
          subst h
          exact a_iret C dX5_drawer_67 hK
      · replace h := ip hc h
        refine a_bipush (v := -2) C dX5_drawer_29 (by decide) ?_
        replace h := Option.some.inj h
        subst h
        exact a_iret C dX5_drawer_31 hK
theorem m_X5_drawer {Y : EY} (hY : HY Y) {x1 : Int32} {x2 : Int32} {x3 : Int32} {M : Mem}  {r : Int32 × Mem} (h : f_X5_drawer x1 x2 x3 M = some r) : MX Y yX5_drawer cX5_drawer 4 (some .int) rm_X5_drawer [.ref (Y.2.2.2.1 0), .int x1, .int x2, .int x3] M (some (.int r.1)) r.2 := MX.of hY (by decide) (Nat.le_of_ble_eq_true rfl) (fun _ hR C => a_sub [0, 1, 2, 3] (t_X5_drawer C  h hR) rfl)
abbrev rm_X5_findFirstDays : Room := { frames := 3, cells := 0, slots := 0, locals := 73 }
abbrev At_X5_findFirstDays_4 (Y : EY) (X : CX) (x1 : Nat) (x2 : Int32) (s : Int32 × Mem) : Prop := AW Y X 5 4 [(0, .ref (Y.2.2.2.1 0)), (1, .ref (Y.2.2.2.1 x1)), (2, .int x2), (3, .int s.1)] [] s.2
abbrev Ex_X5_findFirstDays_4 (Y : EY) (X : CX) (x1 : Nat) (x2 : Int32) (s : Int32 × Mem) : Prop := AW Y X 5 23 [(0, .ref (Y.2.2.2.1 0)), (1, .ref (Y.2.2.2.1 x1)), (2, .int x2)] [] s.2
noncomputable def f_X5_findFirstDays_4_4b (x1 : Nat) (x2 : Int32) (x3 : Int32) (M : Mem) : Option ((Int32 × Mem) ⊕ (Int32 × Mem)) :=
  (if (8 : Int32) ≤ x3 then some (.inr (x3, M)) else ck (inb x3 8) (some (.inl ((x3 + (1 : Int32)), (upM M 46 (x3).toNatClampNeg (-1 : Int32))))))
theorem t_X5_findFirstDays_4_4b {Y : EY} {X : CX} (C : CK Y X cX5_findFirstDays RX5 5 (some .int) rm_X5_findFirstDays) {x1 : Nat} {x2 : Int32} {x3 : Int32} {M : Mem} (k1 : K x1 4) {res : (Int32 × Mem) ⊕ (Int32 × Mem)} (h : f_X5_findFirstDays_4_4b x1 x2 x3 M = some res) (hK : KL (At_X5_findFirstDays_4 Y X x1 x2) (Ex_X5_findFirstDays_4 Y X x1 x2) res) : AW Y X 5 4 [(0, .ref (Y.2.2.2.1 0)), (1, .ref (Y.2.2.2.1 x1)), (2, .int x2), (3, .int x3)] [] M := by
  unfold f_X5_findFirstDays_4_4b at h
  refine a_iload_n C dX5_findFirstDays_4 3 rfl ?_
  refine a_bipush (v := 8) C dX5_findFirstDays_5 (by decide) ?_
  refine a_icmp_ge (tgt := 23) C dX5_findFirstDays_7 (by decide) (fun hc => ?_) (fun hc => ?_)
  · replace h := ip hc h
    replace h := Option.some.inj h
    subst h
    exact a_sub [0, 1, 2] (hK) rfl
  · replace h := iq hc h
    refine a_aload_n C dX5_findFirstDays_10 0 rfl ?_
    refine a_getr (k1 := 46) C dX5_findFirstDays_11 fl_X5_69 rfl Kc_0 rfl ?_
    refine a_iload_n C dX5_findFirstDays_14 3 rfl ?_
    refine a_iconst (v := -1) C dX5_findFirstDays_15 (by decide) ?_
    obtain ⟨hb, h⟩ := ck_some h
    refine a_iast C dX5_findFirstDays_16 Kc_46 rfl hb ?_
    refine a_iinc (v := 1) (lv' := [(3, _), (0, _), (1, _), (2, _)]) C dX5_findFirstDays_17 3 rfl (by decide) (by decide) rfl ?_
    refine a_goto (tgt := 4) C dX5_findFirstDays_20 (by decide) ?_
    replace h := Option.some.inj h
    subst h
    exact a_sub [1, 2, 3, 0] (hK) rfl
abbrev At_X5_findFirstDays_29 (Y : EY) (X : CX) (x1 : Nat) (s : Int32 × Int32 × Mem) : Prop := AW Y X 5 29 [(0, .ref (Y.2.2.2.1 0)), (1, .ref (Y.2.2.2.1 x1)), (2, .int s.1), (3, .int s.2.1)] [] s.2.2
abbrev Ex_X5_findFirstDays_29 (Y : EY) (X : CX) (x1 : Nat) (s : Int32 × Int32 × Mem) : Prop := AW Y X 5 98 [(2, .int s.1)] [] s.2.2
abbrev At_X5_findFirstDays_43 (Y : EY) (X : CX) (x1 : Nat) (x3 : Int32) (s : Int32 × Int32 × Mem) : Prop := AW Y X 5 43 [(0, .ref (Y.2.2.2.1 0)), (1, .ref (Y.2.2.2.1 x1)), (2, .int s.1), (3, .int x3), (4, .int s.2.1)] [] s.2.2
abbrev Ex_X5_findFirstDays_43 (Y : EY) (X : CX) (x1 : Nat) (x3 : Int32) (s : Int32 × Int32 × Mem) : Prop := AW Y X 5 92 [(0, .ref (Y.2.2.2.1 0)), (1, .ref (Y.2.2.2.1 x1)), (2, .int s.1), (3, .int x3)] [] s.2.2
noncomputable def f_X5_findFirstDays_86_43 (x1 : Nat) (x2 : Int32) (x3 : Int32) (x4 : Int32) (M : Mem) : Option ((Int32 × Int32 × Mem) ⊕ (Int32 × Int32 × Mem)) :=
  some (.inl (x2, (x4 + (1 : Int32)), M))
theorem t_X5_findFirstDays_86_43 {Y : EY} {X : CX} (C : CK Y X cX5_findFirstDays RX5 5 (some .int) rm_X5_findFirstDays) {x1 : Nat} {x2 : Int32} {x3 : Int32} {x4 : Int32} {M : Mem} (k1 : K x1 4) {res : (Int32 × Int32 × Mem) ⊕ (Int32 × Int32 × Mem)} (h : f_X5_findFirstDays_86_43 x1 x2 x3 x4 M = some res) (hK : KL (At_X5_findFirstDays_43 Y X x1 x3) (Ex_X5_findFirstDays_43 Y X x1 x3) res) : AW Y X 5 86 [(0, .ref (Y.2.2.2.1 0)), (1, .ref (Y.2.2.2.1 x1)), (2, .int x2), (3, .int x3), (4, .int x4)] [] M := by
  unfold f_X5_findFirstDays_86_43 at h
  refine a_iinc (v := 1) (lv' := [(4, _), (0, _), (1, _), (2, _), (3, _)]) C dX5_findFirstDays_86 4 rfl (by decide) (by decide) rfl ?_
  refine a_goto (tgt := 43) C dX5_findFirstDays_89 (by decide) ?_
  replace h := Option.some.inj h
  subst h
  exact a_sub [1, 2, 3, 4, 0] (hK) rfl
noncomputable def f_X5_findFirstDays_43_43b (x1 : Nat) (x2 : Int32) (x3 : Int32) (x4 : Int32) (M : Mem) : Option ((Int32 × Int32 × Mem) ⊕ (Int32 × Int32 × Mem)) :=
  (if (M (rf x1 0) 3) ≤ x4 then some (.inr (x2, x4, M)) else ck (inb x4 8) ((if (M 46 (x4).toNatClampNeg) = (-1 : Int32) then Option.bind (f_X4_isAnother x1 x4 M) (fun r5 => (if r5 = 0 then f_X5_findFirstDays_86_43 x1 x2 x3 x4 M else ck (inb x4 8) (f_X5_findFirstDays_86_43 x1 (x2 + (1 : Int32)) x3 x4 (upM M 46 (x4).toNatClampNeg x3)))) else f_X5_findFirstDays_86_43 x1 x2 x3 x4 M)))
theorem t_X5_findFirstDays_43_43b {Y : EY} {X : CX} (C : CK Y X cX5_findFirstDays RX5 5 (some .int) rm_X5_findFirstDays) {x1 : Nat} {x2 : Int32} {x3 : Int32} {x4 : Int32} {M : Mem} (k1 : K x1 4) {res : (Int32 × Int32 × Mem) ⊕ (Int32 × Int32 × Mem)} (h : f_X5_findFirstDays_43_43b x1 x2 x3 x4 M = some res) (hK : KL (At_X5_findFirstDays_43 Y X x1 x3) (Ex_X5_findFirstDays_43 Y X x1 x3) res) : AW Y X 5 43 [(0, .ref (Y.2.2.2.1 0)), (1, .ref (Y.2.2.2.1 x1)), (2, .int x2), (3, .int x3), (4, .int x4)] [] M := by
  unfold f_X5_findFirstDays_43_43b at h
  refine a_iload C dX5_findFirstDays_43 4 rfl ?_
  refine a_aload_n C dX5_findFirstDays_45 1 rfl ?_
  refine a_getr (k1 := (rf x1 0)) C dX5_findFirstDays_46 fl_X5_355 rfl k1 rfl ?_
  refine a_geti C dX5_findFirstDays_49 fl_X5_183 rfl (rk_4_0 k1) ?_
  refine a_icmp_ge (tgt := 92) C dX5_findFirstDays_52 (by decide) (fun hc => ?_) (fun hc => ?_)
  · replace h := ip hc h
    replace h := Option.some.inj h
    subst h
    exact a_sub [0, 1, 2, 3] (hK) rfl
  · replace h := iq hc h
    refine a_aload_n C dX5_findFirstDays_55 0 rfl ?_
    refine a_getr (k1 := 46) C dX5_findFirstDays_56 fl_X5_69 rfl Kc_0 rfl ?_
    refine a_iload C dX5_findFirstDays_59 4 rfl ?_
    obtain ⟨hb, h⟩ := ck_some h
    refine a_iald C dX5_findFirstDays_61 Kc_46 rfl hb ?_
    refine a_iconst (v := -1) C dX5_findFirstDays_62 (by decide) ?_
    refine a_icmp_ne (tgt := 86) C dX5_findFirstDays_63 (by decide) (fun hc => ?_) (fun hc => ?_)
    · replace h := iq hc h
      exact a_sub [0, 1, 2, 3, 4] (t_X5_findFirstDays_86_43 C k1 h hK) rfl
    · replace h := ip hc h
      refine a_aload_n C dX5_findFirstDays_66 1 rfl ?_
      refine a_iload C dX5_findFirstDays_67 4 rfl ?_
      obtain ⟨r5, hcr5, h⟩ := bd_some h
      refine a_callVi C dX5_findFirstDays_69 lv_X5_358 lm_X4_isAnother ⟨rfl, rfl, by decide, by decide⟩ k1 (m_X4_isAnother C.2.2.2.2.2.2.1 k1 hcr5) rfl rfl (Nat.le_of_ble_eq_true rfl) ?_
      refine a_if_eq (tgt := 86) C dX5_findFirstDays_72 (by decide) (fun hc => ?_) (fun hc => ?_)
      · replace h := ip hc h
        exact a_sub [0, 1, 2, 3, 4] (t_X5_findFirstDays_86_43 C k1 h hK) rfl
      · replace h := iq hc h
        refine a_aload_n C dX5_findFirstDays_75 0 rfl ?_
        refine a_getr (k1 := 46) C dX5_findFirstDays_76 fl_X5_69 rfl Kc_0 rfl ?_
        refine a_iload C dX5_findFirstDays_79 4 rfl ?_
        refine a_iload_n C dX5_findFirstDays_81 3 rfl ?_
        obtain ⟨hb, h⟩ := ck_some h
        refine a_iast C dX5_findFirstDays_82 Kc_46 rfl hb ?_
        refine a_iinc (v := 1) (lv' := [(2, _), (0, _), (1, _), (3, _), (4, _)]) C dX5_findFirstDays_83 2 rfl (by decide) (by decide) rfl ?_
        exact a_sub [1, 2, 0, 3, 4] (t_X5_findFirstDays_86_43 C k1 h hK) rfl
noncomputable def f_X5_findFirstDays_29_29b (x1 : Nat) (x2 : Int32) (x3 : Int32) (M : Mem) : Option ((Int32 × Int32 × Mem) ⊕ (Int32 × Int32 × Mem)) :=
  (if (30 : Int32) ≤ x3 then some (.inr (x2, x3, M)) else Option.bind (f_X4_go x1 x3 M) (fun r4 => Option.bind (loop (fun s6 : Int32 × Int32 × Mem => f_X5_findFirstDays_43_43b x1 s6.1 x3 s6.2.1 s6.2.2) (x2, (0 : Int32), r4)) (fun s7 => some (.inl (s7.1, (x3 + (1 : Int32)), s7.2.2)))))
theorem t_X5_findFirstDays_29_29b {Y : EY} {X : CX} (C : CK Y X cX5_findFirstDays RX5 5 (some .int) rm_X5_findFirstDays) {x1 : Nat} {x2 : Int32} {x3 : Int32} {M : Mem} (k1 : K x1 4) {res : (Int32 × Int32 × Mem) ⊕ (Int32 × Int32 × Mem)} (h : f_X5_findFirstDays_29_29b x1 x2 x3 M = some res) (hK : KL (At_X5_findFirstDays_29 Y X x1) (Ex_X5_findFirstDays_29 Y X x1) res) : AW Y X 5 29 [(0, .ref (Y.2.2.2.1 0)), (1, .ref (Y.2.2.2.1 x1)), (2, .int x2), (3, .int x3)] [] M := by
  unfold f_X5_findFirstDays_29_29b at h
  refine a_iload_n C dX5_findFirstDays_29 3 rfl ?_
  refine a_bipush (v := 30) C dX5_findFirstDays_30 (by decide) ?_
  refine a_icmp_ge (tgt := 98) C dX5_findFirstDays_32 (by decide) (fun hc => ?_) (fun hc => ?_)
  · replace h := ip hc h
    replace h := Option.some.inj h
    subst h
    exact a_sub [2] (hK) rfl
  · replace h := iq hc h
    refine a_aload_n C dX5_findFirstDays_35 1 rfl ?_
    refine a_iload_n C dX5_findFirstDays_36 3 rfl ?_
    obtain ⟨r4, hcr4, h⟩ := bd_some h
    refine a_callVv C dX5_findFirstDays_37 lv_X5_206 lm_X4_go ⟨rfl, rfl, by decide, by decide⟩ k1 (m_X4_go C.2.2.2.2.2.2.1 k1 hcr4) rfl rfl (Nat.le_of_ble_eq_true rfl) ?_
    refine a_iconst (v := 0) C dX5_findFirstDays_40 (by decide) ?_
    refine a_istore (lv' := [(4, _), (0, _), (1, _), (2, _), (3, _)]) C dX5_findFirstDays_41 (by decide) rfl ?_
    obtain ⟨s7, hl, h⟩ := bd_some h
    have hE : Ex_X5_findFirstDays_43 Y X x1 x3 s7 := by
      refine a_iinc (v := 1) (lv' := [(3, _), (0, _), (1, _), (2, _)]) C dX5_findFirstDays_92 3 rfl (by decide) (by decide) rfl ?_
      refine a_goto (tgt := 29) C dX5_findFirstDays_95 (by decide) ?_
      replace h := Option.some.inj h
      subst h
      exact a_sub [1, 2, 3, 0] (hK) rfl
    have hA := aw_loop (At_X5_findFirstDays_43 Y X x1 x3) (Ex_X5_findFirstDays_43 Y X x1 x3) (fun _ _ hb hk => t_X5_findFirstDays_43_43b C k1 hb hk) hl hE
    exact a_sub [1, 2, 3, 4, 0] (hA) rfl
noncomputable def f_X5_findFirstDays (x1 : Nat) (M : Mem) : Option (Int32 × Mem) :=
  Option.bind (loop (fun s1 : Int32 × Mem => f_X5_findFirstDays_4_4b x1 (0 : Int32) s1.1 s1.2) ((0 : Int32), M)) (fun s2 => Option.bind (f_X4_begin x1 s2.2) (fun r3 => Option.bind (loop (fun s8 : Int32 × Int32 × Mem => f_X5_findFirstDays_29_29b x1 s8.1 s8.2.1 s8.2.2) ((0 : Int32), (0 : Int32), r3)) (fun s9 => some (s9.1, s9.2.2))))
theorem t_X5_findFirstDays {Y : EY} {X : CX} (C : CK Y X cX5_findFirstDays RX5 5 (some .int) rm_X5_findFirstDays) {x1 : Nat} {M : Mem} (k1 : K x1 4) {res : Int32 × Mem} (h : f_X5_findFirstDays x1 M = some res) (hK : RK Y X (some (.int res.1)) res.2) : AW Y X 5 0 [(0, .ref (Y.2.2.2.1 0)), (1, .ref (Y.2.2.2.1 x1))] [] M := by
  unfold f_X5_findFirstDays at h
  refine a_iconst (v := 0) C dX5_findFirstDays_0 (by decide) ?_
  refine a_istore_n (lv' := [(2, _), (0, _), (1, _)]) C dX5_findFirstDays_1 rfl (by decide) rfl ?_
  refine a_iconst (v := 0) C dX5_findFirstDays_2 (by decide) ?_
  refine a_istore_n (lv' := [(3, _), (2, _), (0, _), (1, _)]) C dX5_findFirstDays_3 rfl (by decide) rfl ?_
  obtain ⟨s2, hl, h⟩ := bd_some h
  have hE : Ex_X5_findFirstDays_4 Y X x1 (0 : Int32) s2 := by
    refine a_aload_n C dX5_findFirstDays_23 1 rfl ?_
    obtain ⟨r3, hcr3, h⟩ := bd_some h
    refine a_callVv C dX5_findFirstDays_24 lv_X5_203 lm_X4_begin ⟨rfl, rfl, by decide, by decide⟩ k1 (m_X4_begin C.2.2.2.2.2.2.1 k1 hcr3) rfl rfl (Nat.le_of_ble_eq_true rfl) ?_
    refine a_iconst (v := 0) C dX5_findFirstDays_27 (by decide) ?_
    refine a_istore_n (lv' := [(3, _), (0, _), (1, _), (2, _)]) C dX5_findFirstDays_28 rfl (by decide) rfl ?_
    obtain ⟨s9, hl, h⟩ := bd_some h
    have hE : Ex_X5_findFirstDays_29 Y X x1 s9 := by
      refine a_iload_n C dX5_findFirstDays_98 0 rfl ?_
      replace h := Option.some.inj h
      subst h
      exact a_iret C dX5_findFirstDays_99 hK
    have hA := aw_loop (At_X5_findFirstDays_29 Y X x1) (Ex_X5_findFirstDays_29 Y X x1) (fun _ _ hb hk => t_X5_findFirstDays_29_29b C k1 hb hk) hl hE
    exact a_sub [1, 2, 3, 0] (hA) rfl
  have hA := aw_loop (At_X5_findFirstDays_4 Y X x1 (0 : Int32)) (Ex_X5_findFirstDays_4 Y X x1 (0 : Int32)) (fun _ _ hb hk => t_X5_findFirstDays_4_4b C k1 hb hk) hl hE
  exact a_sub [2, 3, 1, 0] (hA) rfl
theorem m_X5_findFirstDays {Y : EY} (hY : HY Y) {x1 : Nat} {M : Mem} (k1 : K x1 4) {r : Int32 × Mem} (h : f_X5_findFirstDays x1 M = some r) : MX Y yX5_findFirstDays cX5_findFirstDays 5 (some .int) rm_X5_findFirstDays [.ref (Y.2.2.2.1 0), .ref (Y.2.2.2.1 x1)] M (some (.int r.1)) r.2 := MX.of hY (by decide) (Nat.le_of_ble_eq_true rfl) (fun _ hR C => a_sub [0, 1] (t_X5_findFirstDays C k1 h hR) rfl)
abbrev rm_X5_becomes : Room := { frames := 4, cells := 0, slots := 0, locals := 97 }
noncomputable def f_X5_becomes (x1 : Int32) (M : Mem) : Option (Int32 × Mem) :=
  Option.bind (f_X1_hasPerson 5 x1 M) (fun r1 => (if r1 = 0 then some ((-2 : Int32), M) else Option.bind (f_X5_findFirstDays 21 M) (fun r2 => ck (inb x1 8) (some ((r2.2 46 (x1).toNatClampNeg), r2.2)))))
theorem t_X5_becomes {Y : EY} {X : CX} (C : CK Y X cX5_becomes RX5 2 (some .int) rm_X5_becomes) {x1 : Int32} {M : Mem}  {res : Int32 × Mem} (h : f_X5_becomes x1 M = some res) (hK : RK Y X (some (.int res.1)) res.2) : AW Y X 2 0 [(0, .ref (Y.2.2.2.1 0)), (1, .int x1)] [] M := by
  unfold f_X5_becomes at h
  refine a_aload_n C dX5_becomes_0 0 rfl ?_
  refine a_getr (k1 := 5) C dX5_becomes_1 fl_X5_28 rfl Kc_0 rfl ?_
  refine a_iload_n C dX5_becomes_4 1 rfl ?_
  obtain ⟨r1, hcr1, h⟩ := bd_some h
  refine a_callVi C dX5_becomes_5 lv_X5_113 lm_X1_hasPerson ⟨rfl, rfl, by decide, by decide⟩ Kc_5 (m_X1_hasPerson C.2.2.2.2.2.2.1 Kc_5 hcr1) rfl rfl (Nat.le_of_ble_eq_true rfl) ?_
  refine a_if_ne (tgt := 14) C dX5_becomes_8 (by decide) (fun hc => ?_) (fun hc => ?_)
  · replace h := iq hc h
    refine a_aload_n C dX5_becomes_14 0 rfl ?_
    refine a_aload_n C dX5_becomes_15 0 rfl ?_
    refine a_getr (k1 := 21) C dX5_becomes_16 fl_X5_40 rfl Kc_0 rfl ?_
    obtain ⟨r2, hcr2, h⟩ := bd_some h
    refine a_callVi C dX5_becomes_19 lv_X5_173 lm_X5_findFirstDays ⟨rfl, rfl, by decide, by decide⟩ Kc_0 (m_X5_findFirstDays C.2.2.2.2.2.2.1 Kc_21 hcr2) rfl rfl (Nat.le_of_ble_eq_true rfl) ?_
    refine a_pop C dX5_becomes_22 rfl ?_
    refine a_aload_n C dX5_becomes_23 0 rfl ?_
    refine a_getr (k1 := 46) C dX5_becomes_24 fl_X5_69 rfl Kc_0 rfl ?_
    refine a_iload_n C dX5_becomes_27 1 rfl ?_
    obtain ⟨hb, h⟩ := ck_some h
    refine a_iald C dX5_becomes_28 Kc_46 rfl hb ?_
    replace h := Option.some.inj h
    subst h
    exact a_iret C dX5_becomes_29 hK
  · replace h := ip hc h
    refine a_bipush (v := -2) C dX5_becomes_11 (by decide) ?_
    replace h := Option.some.inj h
    subst h
    exact a_iret C dX5_becomes_13 hK
theorem m_X5_becomes {Y : EY} (hY : HY Y) {x1 : Int32} {M : Mem}  {r : Int32 × Mem} (h : f_X5_becomes x1 M = some r) : MX Y yX5_becomes cX5_becomes 2 (some .int) rm_X5_becomes [.ref (Y.2.2.2.1 0), .int x1] M (some (.int r.1)) r.2 := MX.of hY (by decide) (Nat.le_of_ble_eq_true rfl) (fun _ hR C => a_sub [0, 1] (t_X5_becomes C  h hR) rfl)
abbrev rm_X5_astray : Room := { frames := 4, cells := 0, slots := 0, locals := 94 }
noncomputable def f_X5_astray  (M : Mem) : Option (Int32 × Mem) :=
  Option.bind (f_X5_standBehind (29 : Int32) M) (fun r1 => Option.bind (f_X4_astrayBits 21 r1) (fun r2 => some (r2, r1)))
theorem t_X5_astray {Y : EY} {X : CX} (C : CK Y X cX5_astray RX5 1 (some .int) rm_X5_astray)  {M : Mem}  {res : Int32 × Mem} (h : f_X5_astray M = some res) (hK : RK Y X (some (.int res.1)) res.2) : AW Y X 1 0 [(0, .ref (Y.2.2.2.1 0))] [] M := by
  unfold f_X5_astray at h
  refine a_aload_n C dX5_astray_0 0 rfl ?_
  refine a_bipush (v := 29) C dX5_astray_1 (by decide) ?_
  obtain ⟨r1, hcr1, h⟩ := bd_some h
  refine a_callVv C dX5_astray_3 lv_X5_153 lm_X5_standBehind ⟨rfl, rfl, by decide, by decide⟩ Kc_0 (m_X5_standBehind C.2.2.2.2.2.2.1 hcr1) rfl rfl (Nat.le_of_ble_eq_true rfl) ?_
  refine a_aload_n C dX5_astray_6 0 rfl ?_
  refine a_getr (k1 := 21) C dX5_astray_7 fl_X5_40 rfl Kc_0 rfl ?_
  obtain ⟨r2, hcr2, h⟩ := bd_some h
  refine a_callVi C dX5_astray_10 lv_X5_177 lm_X4_astrayBits ⟨rfl, rfl, by decide, by decide⟩ Kc_21 (m_X4_astrayBits C.2.2.2.2.2.2.1 Kc_21 hcr2) rfl rfl (Nat.le_of_ble_eq_true rfl) ?_
  replace h := Option.some.inj h
  subst h
  exact a_iret C dX5_astray_13 hK
theorem m_X5_astray {Y : EY} (hY : HY Y)  {M : Mem}  {r : Int32 × Mem} (h : f_X5_astray M = some r) : MX Y yX5_astray cX5_astray 1 (some .int) rm_X5_astray [.ref (Y.2.2.2.1 0)] M (some (.int r.1)) r.2 := MX.of hY (by decide) (Nat.le_of_ble_eq_true rfl) (fun _ hR C => a_sub [0] (t_X5_astray C  h hR) rfl)
abbrev rm_X5_clearTally : Room := { frames := 0, cells := 0, slots := 0, locals := 0 }
abbrev At_X5_clearTally_2 (Y : EY) (X : CX)  (s : Int32 × Mem) : Prop := AW Y X 2 2 [(0, .ref (Y.2.2.2.1 0)), (1, .int s.1)] [] s.2
abbrev Ex_X5_clearTally_2 (Y : EY) (X : CX)  (s : Int32 × Mem) : Prop := AW Y X 2 24 [] [] s.2
noncomputable def f_X5_clearTally_2_2b (x1 : Int32) (M : Mem) : Option ((Int32 × Mem) ⊕ (Int32 × Mem)) :=
  (if (270 : Int32) ≤ x1 then some (.inr (x1, M)) else ck (inb x1 270) (some (.inl ((x1 + (1 : Int32)), (upM M 47 (x1).toNatClampNeg (0 : Int32))))))
theorem t_X5_clearTally_2_2b {Y : EY} {X : CX} (C : CK Y X cX5_clearTally RX5 2 none rm_X5_clearTally) {x1 : Int32} {M : Mem}  {res : (Int32 × Mem) ⊕ (Int32 × Mem)} (h : f_X5_clearTally_2_2b x1 M = some res) (hK : KL (At_X5_clearTally_2 Y X) (Ex_X5_clearTally_2 Y X) res) : AW Y X 2 2 [(0, .ref (Y.2.2.2.1 0)), (1, .int x1)] [] M := by
  unfold f_X5_clearTally_2_2b at h
  refine a_iload_n C dX5_clearTally_2 1 rfl ?_
  refine a_aload_n C dX5_clearTally_3 0 rfl ?_
  refine a_getr (k1 := 47) C dX5_clearTally_4 fl_X5_72 rfl Kc_0 rfl ?_
  refine a_alen (v := 270) C dX5_clearTally_7 Kc_47 (by rw [show ln 47 = 270 from rfl]; rfl) ?_
  refine a_icmp_ge (tgt := 24) C dX5_clearTally_8 (by decide) (fun hc => ?_) (fun hc => ?_)
  · replace h := ip hc h
    replace h := Option.some.inj h
    subst h
    exact a_sub [] (hK) rfl
  · replace h := iq hc h
    refine a_aload_n C dX5_clearTally_11 0 rfl ?_
    refine a_getr (k1 := 47) C dX5_clearTally_12 fl_X5_72 rfl Kc_0 rfl ?_
    refine a_iload_n C dX5_clearTally_15 1 rfl ?_
    refine a_iconst (v := 0) C dX5_clearTally_16 (by decide) ?_
    obtain ⟨hb, h⟩ := ck_some h
    refine a_iast C dX5_clearTally_17 Kc_47 rfl hb ?_
    refine a_iinc (v := 1) (lv' := [(1, _), (0, _)]) C dX5_clearTally_18 1 rfl (by decide) (by decide) rfl ?_
    refine a_goto (tgt := 2) C dX5_clearTally_21 (by decide) ?_
    replace h := Option.some.inj h
    subst h
    exact a_sub [1, 0] (hK) rfl
noncomputable def f_X5_clearTally  (M : Mem) : Option (Mem) :=
  Option.bind (loop (fun s1 : Int32 × Mem => f_X5_clearTally_2_2b s1.1 s1.2) ((0 : Int32), M)) (fun s2 => some s2.2)
theorem t_X5_clearTally {Y : EY} {X : CX} (C : CK Y X cX5_clearTally RX5 2 none rm_X5_clearTally)  {M : Mem}  {res : Mem} (h : f_X5_clearTally M = some res) (hK : RK Y X none res) : AW Y X 2 0 [(0, .ref (Y.2.2.2.1 0))] [] M := by
  unfold f_X5_clearTally at h
  refine a_iconst (v := 0) C dX5_clearTally_0 (by decide) ?_
  refine a_istore_n (lv' := [(1, _), (0, _)]) C dX5_clearTally_1 rfl (by decide) rfl ?_
  obtain ⟨s2, hl, h⟩ := bd_some h
  have hE : Ex_X5_clearTally_2 Y X s2 := by
    replace h := Option.some.inj h
    subst h
    exact a_vret C dX5_clearTally_24 hK
  have hA := aw_loop (At_X5_clearTally_2 Y X) (Ex_X5_clearTally_2 Y X) (fun _ _ hb hk => t_X5_clearTally_2_2b C hb hk) hl hE
  exact a_sub [1, 0] (hA) rfl
theorem m_X5_clearTally {Y : EY} (hY : HY Y)  {M : Mem}  {r : Mem} (h : f_X5_clearTally M = some r) : MX Y yX5_clearTally cX5_clearTally 2 none rm_X5_clearTally [.ref (Y.2.2.2.1 0)] M (none) r := MX.of hY (by decide) (Nat.le_of_ble_eq_true rfl) (fun _ hR C => a_sub [0] (t_X5_clearTally C  h hR) rfl)
abbrev rm_X5_tallyTaken : Room := { frames := 3, cells := 0, slots := 0, locals := 70 }
noncomputable def f_X5_tallyTaken (x1 : Nat) (x2 : Int32) (M : Mem) : Option (Mem) :=
  Option.bind (f_X4_takenFor x1 x2 M) (fun r1 => Option.bind (f_X5_isBelow ((((M x1 1) * (9 : Int32)) + r1) + (1 : Int32)) (270 : Int32)) (fun r2 => (if r2 = 0 then some M else ck (inb ((((M x1 1) * (9 : Int32)) + r1) + (1 : Int32)) 270) (ck (inb ((((M x1 1) * (9 : Int32)) + r1) + (1 : Int32)) 270) (some (upM M 47 (((((M x1 1) * (9 : Int32)) + r1) + (1 : Int32))).toNatClampNeg ((M 47 (((((M x1 1) * (9 : Int32)) + r1) + (1 : Int32))).toNatClampNeg) + (1 : Int32))))))))
theorem t_X5_tallyTaken {Y : EY} {X : CX} (C : CK Y X cX5_tallyTaken RX5 4 none rm_X5_tallyTaken) {x1 : Nat} {x2 : Int32} {M : Mem} (k1 : K x1 4) {res : Mem} (h : f_X5_tallyTaken x1 x2 M = some res) (hK : RK Y X none res) : AW Y X 4 0 [(0, .ref (Y.2.2.2.1 0)), (1, .ref (Y.2.2.2.1 x1)), (2, .int x2)] [] M := by
  unfold f_X5_tallyTaken at h
  refine a_aload_n C dX5_tallyTaken_0 1 rfl ?_
  refine a_geti C dX5_tallyTaken_1 fl_X5_352 rfl k1 ?_
  refine a_bipush (v := 9) C dX5_tallyTaken_4 (by decide) ?_
  refine a_imul C dX5_tallyTaken_6 ?_
  refine a_aload_n C dX5_tallyTaken_7 1 rfl ?_
  refine a_iload_n C dX5_tallyTaken_8 2 rfl ?_
  obtain ⟨r1, hcr1, h⟩ := bd_some h
  refine a_callVi C dX5_tallyTaken_9 lv_X5_162 lm_X4_takenFor ⟨rfl, rfl, by decide, by decide⟩ k1 (m_X4_takenFor C.2.2.2.2.2.2.1 k1 hcr1) rfl rfl (Nat.le_of_ble_eq_true rfl) ?_
  refine a_iadd C dX5_tallyTaken_12 ?_
  refine a_iconst (v := 1) C dX5_tallyTaken_13 (by decide) ?_
  refine a_iadd C dX5_tallyTaken_14 ?_
  refine a_istore_n (lv' := [(3, _), (0, _), (1, _), (2, _)]) C dX5_tallyTaken_15 rfl (by decide) rfl ?_
  refine a_iload_n C dX5_tallyTaken_16 0 rfl ?_
  refine a_aload_n C dX5_tallyTaken_17 1 rfl ?_
  refine a_getr (k1 := 47) C dX5_tallyTaken_18 fl_X5_72 rfl Kc_0 rfl ?_
  refine a_alen (v := 270) C dX5_tallyTaken_21 Kc_47 (by rw [show ln 47 = 270 from rfl]; rfl) ?_
  obtain ⟨r2, hcr2, h⟩ := bd_some h
  refine a_callSi C dX5_tallyTaken_22 ls_X5_82 lm_X5_isBelow ⟨rfl, rfl, by decide, by decide⟩ (m_X5_isBelow C.2.2.2.2.2.2.1 hcr2) rfl rfl (Nat.le_of_ble_eq_true rfl) ?_
  refine a_if_eq (tgt := 38) C dX5_tallyTaken_25 (by decide) (fun hc => ?_) (fun hc => ?_)
  · replace h := ip hc h
    replace h := Option.some.inj h
    subst h
    exact a_vret C dX5_tallyTaken_38 hK
  · replace h := iq hc h
    refine a_aload_n C dX5_tallyTaken_28 1 rfl ?_
    refine a_getr (k1 := 47) C dX5_tallyTaken_29 fl_X5_72 rfl Kc_0 rfl ?_
    refine a_iload_n C dX5_tallyTaken_32 0 rfl ?_
    refine a_dup2 C dX5_tallyTaken_33 rfl rfl ?_
    obtain ⟨hb, h⟩ := ck_some h
    refine a_iald C dX5_tallyTaken_34 Kc_47 rfl hb ?_
    refine a_iconst (v := 1) C dX5_tallyTaken_35 (by decide) ?_
    refine a_iadd C dX5_tallyTaken_36 ?_
    obtain ⟨hb, h⟩ := ck_some h
    refine a_iast C dX5_tallyTaken_37 Kc_47 rfl hb ?_
    replace h := Option.some.inj h
    subst h
    exact a_vret C dX5_tallyTaken_38 hK
theorem m_X5_tallyTaken {Y : EY} (hY : HY Y) {x1 : Nat} {x2 : Int32} {M : Mem} (k1 : K x1 4) {r : Mem} (h : f_X5_tallyTaken x1 x2 M = some r) : MX Y yX5_tallyTaken cX5_tallyTaken 4 none rm_X5_tallyTaken [.ref (Y.2.2.2.1 0), .ref (Y.2.2.2.1 x1), .int x2] M (none) r := MX.of hY (by decide) (Nat.le_of_ble_eq_true rfl) (fun _ hR C => a_sub [0, 1, 2] (t_X5_tallyTaken C k1 h hR) rfl)
