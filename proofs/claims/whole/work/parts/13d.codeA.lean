abbrev rm_X5_get : Room := { frames := 2, cells := 0, slots := 0, locals := 43 }
noncomputable def f_X5_get (x1 : Int32) (x2 : Int32) (x3 : Int32) (M : Mem) : Option (Int32 × Mem) :=
  Option.bind (f_X5_isBelow x1 (4 : Int32)) (fun r1 => (if r1 = 0 then some ((-2147483648 : Int32), M) else Option.bind (f_X5_isBelow x2 (3 : Int32)) (fun r2 => (if r2 = 0 then some ((-2147483648 : Int32), M) else ck (inb x1 4) (Option.bind (f_X2_whatIsWrong (rf 36 (x1).toNatClampNeg) x2 x3 M) (fun r4 => (if r4 = 0 then ck (inb x1 4) (ck (inb x3 60) (some ((M (rf (rf 36 (x1).toNatClampNeg) 2) (x3).toNatClampNeg), M))) else some ((-2147483648 : Int32), (upM M 0 13 r4)))))))))
theorem t_X5_get {Y : EY} {X : CX} (C : CK Y X cX5_get RX5 5 (some .int) rm_X5_get) {x1 : Int32} {x2 : Int32} {x3 : Int32} {M : Mem}  {res : Int32 × Mem} (h : f_X5_get x1 x2 x3 M = some res) (hK : RK Y X (some (.int res.1)) res.2) : AW Y X 5 0 [(0, .ref (Y.2.2.2.1 0)), (1, .int x1), (2, .int x2), (3, .int x3)] [] M := by
  unfold f_X5_get at h
  refine a_iload_n C dX5_get_0 1 rfl ?_
  refine a_iconst (v := 4) C dX5_get_1 (by decide) ?_
  obtain ⟨r1, hcr1, h⟩ := bd_some h
  refine a_callSi C dX5_get_2 ls_X5_82 lm_X5_isBelow ⟨rfl, rfl, by decide, by decide⟩ (m_X5_isBelow C.2.2.2.2.2.2.1 hcr1) rfl rfl (Nat.le_of_ble_eq_true rfl) ?_
  refine a_if_eq (tgt := 16) C dX5_get_5 (by decide) (fun hc => ?_) (fun hc => ?_)
  · replace h := ip hc h
    refine a_ldcw C dX5_get_16 co_X5_261 ?_
    replace h := Option.some.inj h
    subst h
    exact a_iret C dX5_get_19 hK
  · replace h := iq hc h
    refine a_iload_n C dX5_get_8 2 rfl ?_
    refine a_iconst (v := 3) C dX5_get_9 (by decide) ?_
    obtain ⟨r2, hcr2, h⟩ := bd_some h
    refine a_callSi C dX5_get_10 ls_X5_82 lm_X5_isBelow ⟨rfl, rfl, by decide, by decide⟩ (m_X5_isBelow C.2.2.2.2.2.2.1 hcr2) rfl rfl (Nat.le_of_ble_eq_true rfl) ?_
    refine a_if_ne (tgt := 20) C dX5_get_13 (by decide) (fun hc => ?_) (fun hc => ?_)
    · replace h := iq hc h
      refine a_aload_n C dX5_get_20 0 rfl ?_
      refine a_getr (k1 := 36) C dX5_get_21 fl_X5_56 rfl Kc_0 rfl ?_
      refine a_iload_n C dX5_get_24 1 rfl ?_
      obtain ⟨hb3, h⟩ := ck_some h
      refine a_aald C dX5_get_25 Kc_36 hb3 ?_
      refine a_iload_n C dX5_get_26 2 rfl ?_
      refine a_iload_n C dX5_get_27 3 rfl ?_
      obtain ⟨r4, hcr4, h⟩ := bd_some h
      refine a_callVi C dX5_get_28 lv_X5_255 lm_X2_whatIsWrong ⟨rfl, rfl, by decide, by decide⟩ (K_sheet hb3) (m_X2_whatIsWrong C.2.2.2.2.2.2.1 (K_sheet hb3) hcr4) rfl rfl (Nat.le_of_ble_eq_true rfl) ?_
      refine a_istore (lv' := [(4, _), (0, _), (1, _), (2, _), (3, _)]) C dX5_get_31 (by decide) rfl ?_
      refine a_iload C dX5_get_33 0 rfl ?_
      refine a_if_eq (tgt := 48) C dX5_get_35 (by decide) (fun hc => ?_) (fun hc => ?_)
      · replace h := ip hc h
        refine a_aload_n C dX5_get_48 1 rfl ?_
        refine a_getr (k1 := 36) C dX5_get_49 fl_X5_56 rfl Kc_0 rfl ?_
        refine a_iload_n C dX5_get_52 2 rfl ?_
        obtain ⟨hb5, h⟩ := ck_some h
        refine a_aald C dX5_get_53 Kc_36 hb5 ?_
        refine a_getr (k1 := (rf (rf 36 (x1).toNatClampNeg) 2)) C dX5_get_54 fl_X5_150 rfl (K_sheet hb5) rfl ?_
        refine a_iload_n C dX5_get_57 4 rfl ?_
        obtain ⟨hb, h⟩ := ck_some h
        refine a_iald C dX5_get_58 (rk_2_2 (K_sheet hb5)) (rl_2_2 (K_sheet hb5)) hb ?_
        replace h := Option.some.inj h
        subst h
        exact a_iret C dX5_get_59 hK
      · replace h := iq hc h
        refine a_aload_n C dX5_get_38 1 rfl ?_
        refine a_iload C dX5_get_39 0 rfl ?_
        refine a_put (ty := .int) C dX5_get_41 fl_X5_78 (fp_5_13) rfl Kc_0 rfl rfl ?_
        refine a_ldcw C dX5_get_44 co_X5_261 ?_
        replace h := Option.some.inj h
        subst h
        exact a_iret C dX5_get_47 hK
    · replace h := ip hc h
      refine a_ldcw C dX5_get_16 co_X5_261 ?_
      replace h := Option.some.inj h
      subst h
      exact a_iret C dX5_get_19 hK
theorem m_X5_get {Y : EY} (hY : HY Y) {x1 : Int32} {x2 : Int32} {x3 : Int32} {M : Mem}  {r : Int32 × Mem} (h : f_X5_get x1 x2 x3 M = some r) : MX Y yX5_get cX5_get 5 (some .int) rm_X5_get [.ref (Y.2.2.2.1 0), .int x1, .int x2, .int x3] M (some (.int r.1)) r.2 := MX.of hY (by decide) (Nat.le_of_ble_eq_true rfl) (fun _ hR C => a_sub [0, 1, 2, 3] (t_X5_get C  h hR) rfl)
abbrev rm_X5_copy : Room := { frames := 1, cells := 0, slots := 0, locals := 40 }
noncomputable def f_X5_copy_53  (M : Mem) : Option (Int32 × Mem) :=
  Option.bind (f_X5_finding (1 : Int32) M) (fun r5 => some (r5.1, r5.2))
theorem t_X5_copy_53 {Y : EY} {X : CX} (C : CK Y X cX5_copy RX5 8 (some .int) rm_X5_copy)  {M : Mem}  {res : Int32 × Mem} (h : f_X5_copy_53 M = some res) (hK : RK Y X (some (.int res.1)) res.2) : AW Y X 8 53 [(0, .ref (Y.2.2.2.1 0))] [] M := by
  unfold f_X5_copy_53 at h
  refine a_aload_n C dX5_copy_53 0 rfl ?_
  refine a_iconst (v := 1) C dX5_copy_54 (by decide) ?_
  obtain ⟨r5, hcr5, h⟩ := bd_some h
  refine a_callVi C dX5_copy_55 lv_X5_143 lm_X5_finding ⟨rfl, rfl, by decide, by decide⟩ Kc_0 (m_X5_finding C.2.2.2.2.2.2.1 hcr5) rfl rfl (Nat.le_of_ble_eq_true rfl) ?_
  replace h := Option.some.inj h
  subst h
  exact a_iret C dX5_copy_58 hK
noncomputable def f_X5_copy_101  (M : Mem) : Option (Int32 × Mem) :=
  Option.bind (f_X5_finding (2 : Int32) M) (fun r7 => some (r7.1, r7.2))
theorem t_X5_copy_101 {Y : EY} {X : CX} (C : CK Y X cX5_copy RX5 8 (some .int) rm_X5_copy)  {M : Mem}  {res : Int32 × Mem} (h : f_X5_copy_101 M = some res) (hK : RK Y X (some (.int res.1)) res.2) : AW Y X 8 101 [(0, .ref (Y.2.2.2.1 0))] [] M := by
  unfold f_X5_copy_101 at h
  refine a_aload_n C dX5_copy_101 0 rfl ?_
  refine a_iconst (v := 2) C dX5_copy_102 (by decide) ?_
  obtain ⟨r7, hcr7, h⟩ := bd_some h
  refine a_callVi C dX5_copy_103 lv_X5_143 lm_X5_finding ⟨rfl, rfl, by decide, by decide⟩ Kc_0 (m_X5_finding C.2.2.2.2.2.2.1 hcr7) rfl rfl (Nat.le_of_ble_eq_true rfl) ?_
  replace h := Option.some.inj h
  subst h
  exact a_iret C dX5_copy_106 hK
noncomputable def f_X5_copy (x1 : Int32) (x2 : Int32) (x3 : Int32) (x4 : Int32) (x5 : Int32) (M : Mem) : Option (Int32 × Mem) :=
  Option.bind (f_X5_isBelow x1 (4 : Int32)) (fun r1 => (if r1 = 0 then some ((-2 : Int32), M) else Option.bind (f_X5_isBelow x3 (4 : Int32)) (fun r2 => (if r2 = 0 then some ((-2 : Int32), M) else ck (inb x1 4) (ck (inb x3 4) ((if (M (rf 36 (x1).toNatClampNeg) 0) = (-1 : Int32) then f_X5_copy_53 M else (if (M (rf 36 (x3).toNatClampNeg) 0) = (-1 : Int32) then f_X5_copy_53 M else (if (M (rf 36 (x1).toNatClampNeg) 0) = (M (rf 36 (x3).toNatClampNeg) 0) then Option.bind (f_X2_hasItems (rf 36 (x1).toNatClampNeg) x2 x5 M) (fun r6 => (if r6 = 0 then f_X5_copy_101 M else Option.bind (f_X2_hasItems (rf 36 (x3).toNatClampNeg) x4 x5 M) (fun r8 => (if r8 = 0 then f_X5_copy_101 M else ck (cpb x2 x4 x5 60 60) (some ((1 : Int32), (cpM M (rf (rf 36 (x1).toNatClampNeg) 2) (x2).toNatClampNeg (rf (rf 36 (x3).toNatClampNeg) 2) (x4).toNatClampNeg (x5).toNatClampNeg))))))) else Option.bind (f_X5_finding (4 : Int32) M) (fun r9 => some (r9.1, r9.2)))))))))))
theorem t_X5_copy {Y : EY} {X : CX} (C : CK Y X cX5_copy RX5 8 (some .int) rm_X5_copy) {x1 : Int32} {x2 : Int32} {x3 : Int32} {x4 : Int32} {x5 : Int32} {M : Mem}  {res : Int32 × Mem} (h : f_X5_copy x1 x2 x3 x4 x5 M = some res) (hK : RK Y X (some (.int res.1)) res.2) : AW Y X 8 0 [(0, .ref (Y.2.2.2.1 0)), (1, .int x1), (2, .int x2), (3, .int x3), (4, .int x4), (5, .int x5)] [] M := by
  unfold f_X5_copy at h
  refine a_iload_n C dX5_copy_0 1 rfl ?_
  refine a_iconst (v := 4) C dX5_copy_1 (by decide) ?_
  obtain ⟨r1, hcr1, h⟩ := bd_some h
  refine a_callSi C dX5_copy_2 ls_X5_82 lm_X5_isBelow ⟨rfl, rfl, by decide, by decide⟩ (m_X5_isBelow C.2.2.2.2.2.2.1 hcr1) rfl rfl (Nat.le_of_ble_eq_true rfl) ?_
  refine a_if_eq (tgt := 16) C dX5_copy_5 (by decide) (fun hc => ?_) (fun hc => ?_)
  · replace h := ip hc h
    refine a_bipush (v := -2) C dX5_copy_16 (by decide) ?_
    replace h := Option.some.inj h
    subst h
    exact a_iret C dX5_copy_18 hK
  · replace h := iq hc h
    refine a_iload_n C dX5_copy_8 3 rfl ?_
    refine a_iconst (v := 4) C dX5_copy_9 (by decide) ?_
    obtain ⟨r2, hcr2, h⟩ := bd_some h
    refine a_callSi C dX5_copy_10 ls_X5_82 lm_X5_isBelow ⟨rfl, rfl, by decide, by decide⟩ (m_X5_isBelow C.2.2.2.2.2.2.1 hcr2) rfl rfl (Nat.le_of_ble_eq_true rfl) ?_
    refine a_if_ne (tgt := 19) C dX5_copy_13 (by decide) (fun hc => ?_) (fun hc => ?_)
    · replace h := iq hc h
      refine a_aload_n C dX5_copy_19 0 rfl ?_
      refine a_getr (k1 := 36) C dX5_copy_20 fl_X5_56 rfl Kc_0 rfl ?_
      refine a_iload_n C dX5_copy_23 1 rfl ?_
      obtain ⟨hb3, h⟩ := ck_some h
      refine a_aald C dX5_copy_24 Kc_36 hb3 ?_
      refine a_astore (lv' := [(6, _), (0, _), (1, _), (2, _), (3, _), (4, _), (5, _)]) C dX5_copy_25 (by decide) rfl ?_
      refine a_aload_n C dX5_copy_27 1 rfl ?_
      refine a_getr (k1 := 36) C dX5_copy_28 fl_X5_56 rfl Kc_0 rfl ?_
      refine a_iload_n C dX5_copy_31 4 rfl ?_
      obtain ⟨hb4, h⟩ := ck_some h
      refine a_aald C dX5_copy_32 Kc_36 hb4 ?_
      refine a_astore (lv' := [(7, _), (6, _), (0, _), (1, _), (2, _), (3, _), (4, _), (5, _)]) C dX5_copy_33 (by decide) rfl ?_
      refine a_aload C dX5_copy_35 1 rfl ?_
      refine a_geti C dX5_copy_37 fl_X5_140 rfl (K_sheet hb3) ?_
      refine a_iconst (v := -1) C dX5_copy_40 (by decide) ?_
      refine a_icmp_eq (tgt := 53) C dX5_copy_41 (by decide) (fun hc => ?_) (fun hc => ?_)
      · replace h := ip hc h
        exact a_sub [2] (t_X5_copy_53 C h hK) rfl
      · replace h := iq hc h
        refine a_aload C dX5_copy_44 0 rfl ?_
        refine a_geti C dX5_copy_46 fl_X5_140 rfl (K_sheet hb4) ?_
        refine a_iconst (v := -1) C dX5_copy_49 (by decide) ?_
        refine a_icmp_ne (tgt := 59) C dX5_copy_50 (by decide) (fun hc => ?_) (fun hc => ?_)
        · replace h := iq hc h
          refine a_aload C dX5_copy_59 1 rfl ?_
          refine a_geti C dX5_copy_61 fl_X5_140 rfl (K_sheet hb3) ?_
          refine a_aload C dX5_copy_64 0 rfl ?_
          refine a_geti C dX5_copy_66 fl_X5_140 rfl (K_sheet hb4) ?_
          refine a_icmp_eq (tgt := 78) C dX5_copy_69 (by decide) (fun hc => ?_) (fun hc => ?_)
          · replace h := ip hc h
            refine a_aload C dX5_copy_78 1 rfl ?_
            refine a_iload_n C dX5_copy_80 4 rfl ?_
            refine a_iload C dX5_copy_81 7 rfl ?_
            obtain ⟨r6, hcr6, h⟩ := bd_some h
            refine a_callVi C dX5_copy_83 lv_X5_262 lm_X2_hasItems ⟨rfl, rfl, by decide, by decide⟩ (K_sheet hb3) (m_X2_hasItems C.2.2.2.2.2.2.1 (K_sheet hb3) hcr6) rfl rfl (Nat.le_of_ble_eq_true rfl) ?_
            refine a_if_eq (tgt := 101) C dX5_copy_86 (by decide) (fun hc => ?_) (fun hc => ?_)
            · replace h := ip hc h
              exact a_sub [2] (t_X5_copy_101 C h hK) rfl
            · replace h := iq hc h
              refine a_aload C dX5_copy_89 0 rfl ?_
              refine a_iload C dX5_copy_91 6 rfl ?_
              refine a_iload C dX5_copy_93 7 rfl ?_
              obtain ⟨r8, hcr8, h⟩ := bd_some h
              refine a_callVi C dX5_copy_95 lv_X5_262 lm_X2_hasItems ⟨rfl, rfl, by decide, by decide⟩ (K_sheet hb4) (m_X2_hasItems C.2.2.2.2.2.2.1 (K_sheet hb4) hcr8) rfl rfl (Nat.le_of_ble_eq_true rfl) ?_
              refine a_if_ne (tgt := 107) C dX5_copy_98 (by decide) (fun hc => ?_) (fun hc => ?_)
              · replace h := iq hc h
                refine a_aload C dX5_copy_107 1 rfl ?_
                refine a_getr (k1 := (rf (rf 36 (x1).toNatClampNeg) 2)) C dX5_copy_109 fl_X5_150 rfl (K_sheet hb3) rfl ?_
                refine a_iload_n C dX5_copy_112 4 rfl ?_
                refine a_aload C dX5_copy_113 0 rfl ?_
                refine a_getr (k1 := (rf (rf 36 (x3).toNatClampNeg) 2)) C dX5_copy_115 fl_X5_150 rfl (K_sheet hb4) rfl ?_
                refine a_iload C dX5_copy_118 6 rfl ?_
                refine a_iload C dX5_copy_120 7 rfl ?_
                obtain ⟨hb, h⟩ := ck_some h
                refine a_copy C dX5_copy_122 cp_X5_265 cp_1 cp_2 cp_3 (rk_2_2 (K_sheet hb3)) (rk_2_2 (K_sheet hb4)) (rl_2_2 (K_sheet hb3)) (rl_2_2 (K_sheet hb4)) hb (by decide) (Nat.le_of_ble_eq_true rfl) ?_
                refine a_iconst (v := 1) C dX5_copy_125 (by decide) ?_
                replace h := Option.some.inj h
                subst h
                exact a_iret C dX5_copy_126 hK
              · replace h := ip hc h
                exact a_sub [2] (t_X5_copy_101 C h hK) rfl
          · replace h := iq hc h
            refine a_aload_n C dX5_copy_72 2 rfl ?_
            refine a_iconst (v := 4) C dX5_copy_73 (by decide) ?_
            obtain ⟨r9, hcr9, h⟩ := bd_some h
            refine a_callVi C dX5_copy_74 lv_X5_143 lm_X5_finding ⟨rfl, rfl, by decide, by decide⟩ Kc_0 (m_X5_finding C.2.2.2.2.2.2.1 hcr9) rfl rfl (Nat.le_of_ble_eq_true rfl) ?_
            replace h := Option.some.inj h
            subst h
            exact a_iret C dX5_copy_77 hK
        · replace h := ip hc h
          exact a_sub [2] (t_X5_copy_53 C h hK) rfl
    · replace h := ip hc h
      refine a_bipush (v := -2) C dX5_copy_16 (by decide) ?_
      replace h := Option.some.inj h
      subst h
      exact a_iret C dX5_copy_18 hK
theorem m_X5_copy {Y : EY} (hY : HY Y) {x1 : Int32} {x2 : Int32} {x3 : Int32} {x4 : Int32} {x5 : Int32} {M : Mem}  {r : Int32 × Mem} (h : f_X5_copy x1 x2 x3 x4 x5 M = some r) : MX Y yX5_copy cX5_copy 8 (some .int) rm_X5_copy [.ref (Y.2.2.2.1 0), .int x1, .int x2, .int x3, .int x4, .int x5] M (some (.int r.1)) r.2 := MX.of hY (by decide) (Nat.le_of_ble_eq_true rfl) (fun _ hR C => a_sub [0, 1, 2, 3, 4, 5] (t_X5_copy C  h hR) rfl)
abbrev rm_X5_write : Room := { frames := 4, cells := 0, slots := 0, locals := 94 }
abbrev At_X5_write_49 (Y : EY) (X : CX) (x1 : Int32) (x3 : Nat) (s : Int32 × Int32 × Mem) : Prop := AW Y X 6 49 [(0, .ref (Y.2.2.2.1 0)), (1, .int x1), (3, .ref (Y.2.2.2.1 x3)), (4, .int s.1), (5, .int s.2.1)] [] s.2.2
abbrev Ex_X5_write_49 (Y : EY) (X : CX) (x1 : Int32) (x3 : Nat) (s : Int32 × Int32 × Mem) : Prop := AW Y X 6 94 [(4, .int s.1)] [] s.2.2
noncomputable def f_X5_write_49_49b (x1 : Int32) (x3 : Nat) (x4 : Int32) (x5 : Int32) (M : Mem) : Option ((Int32 × Int32 × Mem) ⊕ (Int32 × Int32 × Mem)) :=
  (if (30 : Int32) ≤ x5 then some (.inr (x4, x5, M)) else (if (M x3 1) ≤ x5 then some (.inr (x4, x5, M)) else Option.bind (f_X5_standBehind x5 M) (fun r4 => Option.bind (f_X4_takenFor 21 x1 r4) (fun r5 => Option.bind (f_X2_put x3 x5 r5 r4) (fun r6 => some (.inl ((x4 + (1 : Int32)), (x5 + (1 : Int32)), r6)))))))
theorem t_X5_write_49_49b {Y : EY} {X : CX} (C : CK Y X cX5_write RX5 6 (some .int) rm_X5_write) {x1 : Int32} {x3 : Nat} {x4 : Int32} {x5 : Int32} {M : Mem} (k3 : K x3 2) {res : (Int32 × Int32 × Mem) ⊕ (Int32 × Int32 × Mem)} (h : f_X5_write_49_49b x1 x3 x4 x5 M = some res) (hK : KL (At_X5_write_49 Y X x1 x3) (Ex_X5_write_49 Y X x1 x3) res) : AW Y X 6 49 [(0, .ref (Y.2.2.2.1 0)), (1, .int x1), (3, .ref (Y.2.2.2.1 x3)), (4, .int x4), (5, .int x5)] [] M := by
  unfold f_X5_write_49_49b at h
  refine a_iload C dX5_write_49 4 rfl ?_
  refine a_bipush (v := 30) C dX5_write_51 (by decide) ?_
  refine a_icmp_ge (tgt := 94) C dX5_write_53 (by decide) (fun hc => ?_) (fun hc => ?_)
  · replace h := ip hc h
    replace h := Option.some.inj h
    subst h
    exact a_sub [3] (hK) rfl
  · replace h := iq hc h
    refine a_iload C dX5_write_56 4 rfl ?_
    refine a_aload_n C dX5_write_58 2 rfl ?_
    refine a_geti C dX5_write_59 fl_X5_147 rfl k3 ?_
    refine a_icmp_ge (tgt := 94) C dX5_write_62 (by decide) (fun hc => ?_) (fun hc => ?_)
    · replace h := ip hc h
      replace h := Option.some.inj h
      subst h
      exact a_sub [3] (hK) rfl
    · replace h := iq hc h
      refine a_aload_n C dX5_write_65 0 rfl ?_
      refine a_iload C dX5_write_66 4 rfl ?_
      obtain ⟨r4, hcr4, h⟩ := bd_some h
      refine a_callVv C dX5_write_68 lv_X5_153 lm_X5_standBehind ⟨rfl, rfl, by decide, by decide⟩ Kc_0 (m_X5_standBehind C.2.2.2.2.2.2.1 hcr4) rfl rfl (Nat.le_of_ble_eq_true rfl) ?_
      refine a_aload_n C dX5_write_71 2 rfl ?_
      refine a_iload C dX5_write_72 4 rfl ?_
      refine a_aload_n C dX5_write_74 0 rfl ?_
      refine a_getr (k1 := 21) C dX5_write_75 fl_X5_40 rfl Kc_0 rfl ?_
      refine a_iload_n C dX5_write_78 1 rfl ?_
      obtain ⟨r5, hcr5, h⟩ := bd_some h
      refine a_callVi C dX5_write_79 lv_X5_162 lm_X4_takenFor ⟨rfl, rfl, by decide, by decide⟩ Kc_21 (m_X4_takenFor C.2.2.2.2.2.2.1 Kc_21 hcr5) rfl rfl (Nat.le_of_ble_eq_true rfl) ?_
      obtain ⟨r6, hcr6, h⟩ := bd_some h
      refine a_callVv C dX5_write_82 lv_X5_258 lm_X2_put ⟨rfl, rfl, by decide, by decide⟩ k3 (m_X2_put C.2.2.2.2.2.2.1 k3 hcr6) rfl rfl (Nat.le_of_ble_eq_true rfl) ?_
      refine a_iinc (v := 1) (lv' := [(4, _), (0, _), (1, _), (3, _), (5, _)]) C dX5_write_85 3 rfl (by decide) (by decide) rfl ?_
      refine a_iinc (v := 1) (lv' := [(5, _), (4, _), (0, _), (1, _), (3, _)]) C dX5_write_88 4 rfl (by decide) (by decide) rfl ?_
      refine a_goto (tgt := 49) C dX5_write_91 (by decide) ?_
      replace h := Option.some.inj h
      subst h
      exact a_sub [2, 3, 4, 1, 0] (hK) rfl
noncomputable def f_X5_write (x1 : Int32) (x2 : Int32) (M : Mem) : Option (Int32 × Mem) :=
  Option.bind (f_X1_hasPerson 5 x1 M) (fun r1 => (if r1 = 0 then some ((-2 : Int32), M) else Option.bind (f_X5_isBelow x2 (4 : Int32)) (fun r2 => (if r2 = 0 then some ((-2 : Int32), M) else ck (inb x2 4) ((if (M (rf 36 (x2).toNatClampNeg) 0) = (-1 : Int32) then Option.bind (f_X5_finding (1 : Int32) M) (fun r9 => some (r9.1, r9.2)) else Option.bind (loop (fun s7 : Int32 × Int32 × Mem => f_X5_write_49_49b x1 (rf 36 (x2).toNatClampNeg) s7.1 s7.2.1 s7.2.2) ((0 : Int32), (0 : Int32), M)) (fun s8 => some (s8.1, s8.2.2))))))))
theorem t_X5_write {Y : EY} {X : CX} (C : CK Y X cX5_write RX5 6 (some .int) rm_X5_write) {x1 : Int32} {x2 : Int32} {M : Mem}  {res : Int32 × Mem} (h : f_X5_write x1 x2 M = some res) (hK : RK Y X (some (.int res.1)) res.2) : AW Y X 6 0 [(0, .ref (Y.2.2.2.1 0)), (1, .int x1), (2, .int x2)] [] M := by
  unfold f_X5_write at h
  refine a_aload_n C dX5_write_0 0 rfl ?_
  refine a_getr (k1 := 5) C dX5_write_1 fl_X5_28 rfl Kc_0 rfl ?_
  refine a_iload_n C dX5_write_4 1 rfl ?_
  obtain ⟨r1, hcr1, h⟩ := bd_some h
  refine a_callVi C dX5_write_5 lv_X5_113 lm_X1_hasPerson ⟨rfl, rfl, by decide, by decide⟩ Kc_5 (m_X1_hasPerson C.2.2.2.2.2.2.1 Kc_5 hcr1) rfl rfl (Nat.le_of_ble_eq_true rfl) ?_
  refine a_if_eq (tgt := 19) C dX5_write_8 (by decide) (fun hc => ?_) (fun hc => ?_)
  · replace h := ip hc h
    refine a_bipush (v := -2) C dX5_write_19 (by decide) ?_
    replace h := Option.some.inj h
    subst h
    exact a_iret C dX5_write_21 hK
  · replace h := iq hc h
    refine a_iload_n C dX5_write_11 2 rfl ?_
    refine a_iconst (v := 4) C dX5_write_12 (by decide) ?_
    obtain ⟨r2, hcr2, h⟩ := bd_some h
    refine a_callSi C dX5_write_13 ls_X5_82 lm_X5_isBelow ⟨rfl, rfl, by decide, by decide⟩ (m_X5_isBelow C.2.2.2.2.2.2.1 hcr2) rfl rfl (Nat.le_of_ble_eq_true rfl) ?_
    refine a_if_ne (tgt := 22) C dX5_write_16 (by decide) (fun hc => ?_) (fun hc => ?_)
    · replace h := iq hc h
      refine a_aload_n C dX5_write_22 0 rfl ?_
      refine a_getr (k1 := 36) C dX5_write_23 fl_X5_56 rfl Kc_0 rfl ?_
      refine a_iload_n C dX5_write_26 2 rfl ?_
      obtain ⟨hb3, h⟩ := ck_some h
      refine a_aald C dX5_write_27 Kc_36 hb3 ?_
      refine a_astore_n (lv' := [(3, _), (0, _), (1, _), (2, _)]) C dX5_write_28 rfl (by decide) rfl ?_
      refine a_aload_n C dX5_write_29 0 rfl ?_
      refine a_geti C dX5_write_30 fl_X5_140 rfl (K_sheet hb3) ?_
      refine a_iconst (v := -1) C dX5_write_33 (by decide) ?_
      refine a_icmp_ne (tgt := 43) C dX5_write_34 (by decide) (fun hc => ?_) (fun hc => ?_)
      · replace h := iq hc h
        refine a_iconst (v := 0) C dX5_write_43 (by decide) ?_
        refine a_istore (lv' := [(4, _), (3, _), (0, _), (1, _), (2, _)]) C dX5_write_44 (by decide) rfl ?_
        refine a_iconst (v := 0) C dX5_write_46 (by decide) ?_
        refine a_istore (lv' := [(5, _), (4, _), (3, _), (0, _), (1, _), (2, _)]) C dX5_write_47 (by decide) rfl ?_
        obtain ⟨s8, hl, h⟩ := bd_some h
        have hE : Ex_X5_write_49 Y X x1 (rf 36 (x2).toNatClampNeg) s8 := by
          refine a_iload C dX5_write_94 0 rfl ?_
          replace h := Option.some.inj h
          subst h
          exact a_iret C dX5_write_96 hK
        have hA := aw_loop (At_X5_write_49 Y X x1 (rf 36 (x2).toNatClampNeg)) (Ex_X5_write_49 Y X x1 (rf 36 (x2).toNatClampNeg)) (fun _ _ hb hk => t_X5_write_49_49b C (K_sheet hb3) hb hk) hl hE
        exact a_sub [3, 4, 2, 1, 0] (hA) rfl
      · replace h := ip hc h
        refine a_aload_n C dX5_write_37 1 rfl ?_
        refine a_iconst (v := 1) C dX5_write_38 (by decide) ?_
        obtain ⟨r9, hcr9, h⟩ := bd_some h
        refine a_callVi C dX5_write_39 lv_X5_143 lm_X5_finding ⟨rfl, rfl, by decide, by decide⟩ Kc_0 (m_X5_finding C.2.2.2.2.2.2.1 hcr9) rfl rfl (Nat.le_of_ble_eq_true rfl) ?_
        replace h := Option.some.inj h
        subst h
        exact a_iret C dX5_write_42 hK
    · replace h := ip hc h
      refine a_bipush (v := -2) C dX5_write_19 (by decide) ?_
      replace h := Option.some.inj h
      subst h
      exact a_iret C dX5_write_21 hK
theorem m_X5_write {Y : EY} (hY : HY Y) {x1 : Int32} {x2 : Int32} {M : Mem}  {r : Int32 × Mem} (h : f_X5_write x1 x2 M = some r) : MX Y yX5_write cX5_write 6 (some .int) rm_X5_write [.ref (Y.2.2.2.1 0), .int x1, .int x2] M (some (.int r.1)) r.2 := MX.of hY (by decide) (Nat.le_of_ble_eq_true rfl) (fun _ hR C => a_sub [0, 1, 2] (t_X5_write C  h hR) rfl)
abbrev rm_X5_count : Room := { frames := 5, cells := 0, slots := 0, locals := 114 }
noncomputable def f_X5_count (x1 : Int32) (M : Mem) : Option (Int32 × Mem) :=
  (if x1 = (0 : Int32) then some ((M 5 0), M) else if x1 = (1 : Int32) then some ((M 5 3), M) else if x1 = (2 : Int32) then some ((M 1 4), M) else if x1 = (3 : Int32) then some ((M 3 4), M) else if x1 = (4 : Int32) then some ((M 5 6), M) else if x1 = (5 : Int32) then Option.bind (f_X5_astray M) (fun r1 => Option.bind (f_J6_bitCount_0f7a4 r1.1) (fun r2 => some (r2, r1.2))) else if x1 = (6 : Int32) then Option.bind (f_X5_findFirstDays 21 M) (fun r3 => some (r3.1, r3.2)) else if x1 = (7 : Int32) then some ((M 31 0), M) else if x1 = (8 : Int32) then some ((M 0 13), M) else some ((-2 : Int32), M))
theorem t_X5_count {Y : EY} {X : CX} (C : CK Y X cX5_count RX5 2 (some .int) rm_X5_count) {x1 : Int32} {M : Mem}  {res : Int32 × Mem} (h : f_X5_count x1 M = some res) (hK : RK Y X (some (.int res.1)) res.2) : AW Y X 2 0 [(0, .ref (Y.2.2.2.1 0)), (1, .int x1)] [] M := by
  unfold f_X5_count at h
  refine a_iload_n C dX5_count_0 1 rfl ?_
  by_cases e0 : x1 = (0 : Int32)
  · replace h := ip e0 h
    refine a_tabI (off := 51) (tgt := 52) C dX5_count_1 (by rw [e0]; decide) (by rw [e0]; decide) (by rw [e0]; rfl) (by decide) ?_
    refine a_aload_n C dX5_count_52 0 rfl ?_
    refine a_getr (k1 := 5) C dX5_count_53 fl_X5_28 rfl Kc_0 rfl ?_
    refine a_geti C dX5_count_56 fl_X5_190 rfl Kc_5 ?_
    replace h := Option.some.inj h
    subst h
    exact a_iret C dX5_count_59 hK
  replace h := iq e0 h
  by_cases e1 : x1 = (1 : Int32)
  · replace h := ip e1 h
    refine a_tabI (off := 59) (tgt := 60) C dX5_count_1 (by rw [e1]; decide) (by rw [e1]; decide) (by rw [e1]; rfl) (by decide) ?_
    refine a_aload_n C dX5_count_60 0 rfl ?_
    refine a_getr (k1 := 5) C dX5_count_61 fl_X5_28 rfl Kc_0 rfl ?_
    refine a_geti C dX5_count_64 fl_X5_183 rfl Kc_5 ?_
    replace h := Option.some.inj h
    subst h
    exact a_iret C dX5_count_67 hK
  replace h := iq e1 h
  by_cases e2 : x1 = (2 : Int32)
  · replace h := ip e2 h
    refine a_tabI (off := 67) (tgt := 68) C dX5_count_1 (by rw [e2]; decide) (by rw [e2]; decide) (by rw [e2]; rfl) (by decide) ?_
    refine a_aload_n C dX5_count_68 0 rfl ?_
    refine a_getr (k1 := 1) C dX5_count_69 fl_X5_16 rfl Kc_0 rfl ?_
    refine a_geti C dX5_count_72 fl_X5_97 rfl Kc_1 ?_
    replace h := Option.some.inj h
    subst h
    exact a_iret C dX5_count_75 hK
  replace h := iq e2 h
  by_cases e3 : x1 = (3 : Int32)
  · replace h := ip e3 h
    refine a_tabI (off := 75) (tgt := 76) C dX5_count_1 (by rw [e3]; decide) (by rw [e3]; decide) (by rw [e3]; rfl) (by decide) ?_
    refine a_aload_n C dX5_count_76 0 rfl ?_
    refine a_getr (k1 := 3) C dX5_count_77 fl_X5_22 rfl Kc_0 rfl ?_
    refine a_geti C dX5_count_80 fl_X5_97 rfl Kc_3 ?_
    replace h := Option.some.inj h
    subst h
    exact a_iret C dX5_count_83 hK
  replace h := iq e3 h
  by_cases e4 : x1 = (4 : Int32)
  · replace h := ip e4 h
    refine a_tabI (off := 83) (tgt := 84) C dX5_count_1 (by rw [e4]; decide) (by rw [e4]; decide) (by rw [e4]; rfl) (by decide) ?_
    refine a_aload_n C dX5_count_84 0 rfl ?_
    refine a_getr (k1 := 5) C dX5_count_85 fl_X5_28 rfl Kc_0 rfl ?_
    refine a_geti C dX5_count_88 fl_X5_126 rfl Kc_5 ?_
    replace h := Option.some.inj h
    subst h
    exact a_iret C dX5_count_91 hK
  replace h := iq e4 h
  by_cases e5 : x1 = (5 : Int32)
  · replace h := ip e5 h
    refine a_tabI (off := 91) (tgt := 92) C dX5_count_1 (by rw [e5]; decide) (by rw [e5]; decide) (by rw [e5]; rfl) (by decide) ?_
    refine a_aload_n C dX5_count_92 0 rfl ?_
    obtain ⟨r1, hcr1, h⟩ := bd_some h
    refine a_callVi C dX5_count_93 lv_X5_271 lm_X5_astray ⟨rfl, rfl, by decide, by decide⟩ Kc_0 (m_X5_astray C.2.2.2.2.2.2.1 hcr1) rfl rfl (Nat.le_of_ble_eq_true rfl) ?_
    obtain ⟨r2, hcr2, h⟩ := bd_some h
    refine a_callSi C dX5_count_96 ls_X5_209 lm_J6_bitCount_0f7a4 ⟨rfl, rfl, by decide, by decide⟩ (m_J6_bitCount_0f7a4 C.2.2.2.2.2.2.1 hcr2) rfl rfl (Nat.le_of_ble_eq_true rfl) ?_
    replace h := Option.some.inj h
    subst h
    exact a_iret C dX5_count_99 hK
  replace h := iq e5 h
  by_cases e6 : x1 = (6 : Int32)
  · replace h := ip e6 h
    refine a_tabI (off := 99) (tgt := 100) C dX5_count_1 (by rw [e6]; decide) (by rw [e6]; decide) (by rw [e6]; rfl) (by decide) ?_
    refine a_aload_n C dX5_count_100 0 rfl ?_
    refine a_aload_n C dX5_count_101 0 rfl ?_
    refine a_getr (k1 := 21) C dX5_count_102 fl_X5_40 rfl Kc_0 rfl ?_
    obtain ⟨r3, hcr3, h⟩ := bd_some h
    refine a_callVi C dX5_count_105 lv_X5_173 lm_X5_findFirstDays ⟨rfl, rfl, by decide, by decide⟩ Kc_0 (m_X5_findFirstDays C.2.2.2.2.2.2.1 Kc_21 hcr3) rfl rfl (Nat.le_of_ble_eq_true rfl) ?_
    replace h := Option.some.inj h
    subst h
    exact a_iret C dX5_count_108 hK
  replace h := iq e6 h
  by_cases e7 : x1 = (7 : Int32)
  · replace h := ip e7 h
    refine a_tabI (off := 108) (tgt := 109) C dX5_count_1 (by rw [e7]; decide) (by rw [e7]; decide) (by rw [e7]; rfl) (by decide) ?_
    refine a_aload_n C dX5_count_109 0 rfl ?_
    refine a_getr (k1 := 31) C dX5_count_110 fl_X5_50 rfl Kc_0 rfl ?_
    refine a_geti C dX5_count_113 fl_X5_221 rfl Kc_31 ?_
    replace h := Option.some.inj h
    subst h
    exact a_iret C dX5_count_116 hK
  replace h := iq e7 h
  by_cases e8 : x1 = (8 : Int32)
  · replace h := ip e8 h
    refine a_tabI (off := 116) (tgt := 117) C dX5_count_1 (by rw [e8]; decide) (by rw [e8]; decide) (by rw [e8]; rfl) (by decide) ?_
    refine a_aload_n C dX5_count_117 0 rfl ?_
    refine a_geti C dX5_count_118 fl_X5_78 rfl Kc_0 ?_
    replace h := Option.some.inj h
    subst h
    exact a_iret C dX5_count_121 hK
  replace h := iq e8 h
  refine a_tabO (tgt := 122) C dX5_count_1 (tab_out x1 9 (by decide) (by intro i hi; rcases (show i = 0 ∨ i = 1 ∨ i = 2 ∨ i = 3 ∨ i = 4 ∨ i = 5 ∨ i = 6 ∨ i = 7 ∨ i = 8 by omega) with rfl | rfl | rfl | rfl | rfl | rfl | rfl | rfl | rfl <;> first | exact e0 | exact e1 | exact e2 | exact e3 | exact e4 | exact e5 | exact e6 | exact e7 | exact e8)) (by decide) ?_
  refine a_bipush (v := -2) C dX5_count_122 (by decide) ?_
  replace h := Option.some.inj h
  subst h
  exact a_iret C dX5_count_124 hK
theorem m_X5_count {Y : EY} (hY : HY Y) {x1 : Int32} {M : Mem}  {r : Int32 × Mem} (h : f_X5_count x1 M = some r) : MX Y yX5_count cX5_count 2 (some .int) rm_X5_count [.ref (Y.2.2.2.1 0), .int x1] M (some (.int r.1)) r.2 := MX.of hY (by decide) (Nat.le_of_ble_eq_true rfl) (fun _ hR C => a_sub [0, 1] (t_X5_count C  h hR) rfl)
abbrev rm_X5_mixAccent : Room := { frames := 5, cells := 0, slots := 0, locals := 117 }
abbrev At_X5_mixAccent_6 (Y : EY) (X : CX) (x3 : Int32) (M : Mem) (s : Int64 × Int32) : Prop := AW Y X 11 6 [(0, .ref (Y.2.2.2.1 0)), (3, .int x3), (4, .long s.1), (6, .int s.2)] [] M
abbrev Ex_X5_mixAccent_6 (Y : EY) (X : CX) (x3 : Int32) (M : Mem) (s : Int64 × Int32) : Prop := AW Y X 11 35 [(0, .ref (Y.2.2.2.1 0)), (3, .int x3), (4, .long s.1)] [] M
noncomputable def f_X5_mixAccent_6_6b (x3 : Int32) (x4 : Int64) (x6 : Int32) (M : Mem) : Option ((Int64 × Int32) ⊕ (Int64 × Int32)) :=
  (if (5 : Int32) < x6 then some (.inr (x4, x6)) else Option.bind (f_X5_accent x3 x6 M) (fun r1 => some (.inl ((((31 : Int64) * x4) + (r1).toInt64), (x6 + (1 : Int32))))))
theorem t_X5_mixAccent_6_6b {Y : EY} {X : CX} (C : CK Y X cX5_mixAccent RX5 11 (some .long) rm_X5_mixAccent) {x3 : Int32} {x4 : Int64} {x6 : Int32} {M : Mem}  {res : (Int64 × Int32) ⊕ (Int64 × Int32)} (h : f_X5_mixAccent_6_6b x3 x4 x6 M = some res) (hK : KL (At_X5_mixAccent_6 Y X x3 M) (Ex_X5_mixAccent_6 Y X x3 M) res) : AW Y X 11 6 [(0, .ref (Y.2.2.2.1 0)), (3, .int x3), (4, .long x4), (6, .int x6)] [] M := by
  unfold f_X5_mixAccent_6_6b at h
  refine a_iload C dX5_mixAccent_6 3 rfl ?_
  refine a_iconst (v := 5) C dX5_mixAccent_8 (by decide) ?_
  refine a_icmp_gt (tgt := 35) C dX5_mixAccent_9 (by decide) (fun hc => ?_) (fun hc => ?_)
  · replace h := ip hc h
    replace h := Option.some.inj h
    subst h
    exact a_sub [0, 1, 2] (hK) rfl
  · replace h := iq hc h
    refine a_ldc2 C dX5_mixAccent_12 co_X5_276 ?_
    refine a_lload C dX5_mixAccent_15 2 rfl ?_
    refine a_lmul C dX5_mixAccent_17 ?_
    refine a_aload_n C dX5_mixAccent_18 0 rfl ?_
    refine a_iload_n C dX5_mixAccent_19 1 rfl ?_
    refine a_iload C dX5_mixAccent_20 3 rfl ?_
    obtain ⟨r1, hcr1, h⟩ := bd_some h
    refine a_callVi C dX5_mixAccent_22 lv_X5_327 lm_X5_accent ⟨rfl, rfl, by decide, by decide⟩ Kc_0 (m_X5_accent C.2.2.2.2.2.2.1 hcr1) rfl rfl (Nat.le_of_ble_eq_true rfl) ?_
    refine a_i2l C dX5_mixAccent_25 ?_
    refine a_ladd C dX5_mixAccent_26 ?_
    refine a_lstore (lv' := [(4, _), (0, _), (3, _), (6, _)]) C dX5_mixAccent_27 (by decide) rfl ?_
    refine a_iinc (v := 1) (lv' := [(6, _), (4, _), (0, _), (3, _)]) C dX5_mixAccent_29 3 rfl (by decide) (by decide) rfl ?_
    refine a_goto (tgt := 6) C dX5_mixAccent_32 (by decide) ?_
    replace h := Option.some.inj h
    subst h
    exact a_sub [2, 3, 1, 0] (hK) rfl
abbrev At_X5_mixAccent_48 (Y : EY) (X : CX) (x3 : Int32) (x7 : Int32) (s : Int64 × Int32 × Mem) : Prop := AW Y X 11 48 [(0, .ref (Y.2.2.2.1 0)), (3, .int x3), (4, .long s.1), (6, .ref (Y.2.2.2.1 73)), (7, .int x7), (8, .int s.2.1)] [] s.2.2
abbrev Ex_X5_mixAccent_48 (Y : EY) (X : CX) (x3 : Int32) (x7 : Int32) (s : Int64 × Int32 × Mem) : Prop := AW Y X 11 102 [(4, .long s.1)] [] s.2.2
abbrev At_X5_mixAccent_65 (Y : EY) (X : CX) (x3 : Int32) (x7 : Int32) (x8 : Int32) (x9 : Int32) (s : Int64 × Int32 × Mem) : Prop := AW Y X 11 65 [(0, .ref (Y.2.2.2.1 0)), (3, .int x3), (4, .long s.1), (6, .ref (Y.2.2.2.1 73)), (7, .int x7), (8, .int x8), (9, .int x9), (10, .int s.2.1)] [] s.2.2
abbrev Ex_X5_mixAccent_65 (Y : EY) (X : CX) (x3 : Int32) (x7 : Int32) (x8 : Int32) (x9 : Int32) (s : Int64 × Int32 × Mem) : Prop := AW Y X 11 96 [(0, .ref (Y.2.2.2.1 0)), (3, .int x3), (4, .long s.1), (6, .ref (Y.2.2.2.1 73)), (7, .int x7), (8, .int x8)] [] s.2.2
noncomputable def f_X5_mixAccent_65_65b (x3 : Int32) (x4 : Int64) (x7 : Int32) (x8 : Int32) (x9 : Int32) (x10 : Int32) (M : Mem) : Option ((Int64 × Int32 × Mem) ⊕ (Int64 × Int32 × Mem)) :=
  (if (5 : Int32) < x10 then some (.inr (x4, x10, M)) else Option.bind (f_X5_drawer x9 x3 x10 M) (fun r4 => some (.inl ((((31 : Int64) * x4) + (r4.1).toInt64), (x10 + (1 : Int32)), r4.2))))
theorem t_X5_mixAccent_65_65b {Y : EY} {X : CX} (C : CK Y X cX5_mixAccent RX5 11 (some .long) rm_X5_mixAccent) {x3 : Int32} {x4 : Int64} {x7 : Int32} {x8 : Int32} {x9 : Int32} {x10 : Int32} {M : Mem}  {res : (Int64 × Int32 × Mem) ⊕ (Int64 × Int32 × Mem)} (h : f_X5_mixAccent_65_65b x3 x4 x7 x8 x9 x10 M = some res) (hK : KL (At_X5_mixAccent_65 Y X x3 x7 x8 x9) (Ex_X5_mixAccent_65 Y X x3 x7 x8 x9) res) : AW Y X 11 65 [(0, .ref (Y.2.2.2.1 0)), (3, .int x3), (4, .long x4), (6, .ref (Y.2.2.2.1 73)), (7, .int x7), (8, .int x8), (9, .int x9), (10, .int x10)] [] M := by
  unfold f_X5_mixAccent_65_65b at h
  refine a_iload C dX5_mixAccent_65 7 rfl ?_
  refine a_iconst (v := 5) C dX5_mixAccent_67 (by decide) ?_
  refine a_icmp_gt (tgt := 96) C dX5_mixAccent_68 (by decide) (fun hc => ?_) (fun hc => ?_)
  · replace h := ip hc h
    replace h := Option.some.inj h
    subst h
    exact a_sub [0, 1, 2, 3, 4, 5] (hK) rfl
  · replace h := iq hc h
    refine a_ldc2 C dX5_mixAccent_71 co_X5_276 ?_
    refine a_lload C dX5_mixAccent_74 2 rfl ?_
    refine a_lmul C dX5_mixAccent_76 ?_
    refine a_aload_n C dX5_mixAccent_77 0 rfl ?_
    refine a_iload C dX5_mixAccent_78 6 rfl ?_
    refine a_iload_n C dX5_mixAccent_80 1 rfl ?_
    refine a_iload C dX5_mixAccent_81 7 rfl ?_
    obtain ⟨r4, hcr4, h⟩ := bd_some h
    refine a_callVi C dX5_mixAccent_83 lv_X5_333 lm_X5_drawer ⟨rfl, rfl, by decide, by decide⟩ Kc_0 (m_X5_drawer C.2.2.2.2.2.2.1 hcr4) rfl rfl (Nat.le_of_ble_eq_true rfl) ?_
    refine a_i2l C dX5_mixAccent_86 ?_
    refine a_ladd C dX5_mixAccent_87 ?_
    refine a_lstore (lv' := [(4, _), (0, _), (3, _), (6, _), (7, _), (8, _), (9, _), (10, _)]) C dX5_mixAccent_88 (by decide) rfl ?_
    refine a_iinc (v := 1) (lv' := [(10, _), (4, _), (0, _), (3, _), (6, _), (7, _), (8, _), (9, _)]) C dX5_mixAccent_90 7 rfl (by decide) (by decide) rfl ?_
    refine a_goto (tgt := 65) C dX5_mixAccent_93 (by decide) ?_
    replace h := Option.some.inj h
    subst h
    exact a_sub [2, 3, 1, 4, 5, 6, 7, 0] (hK) rfl
noncomputable def f_X5_mixAccent_48_48b (x3 : Int32) (x4 : Int64) (x7 : Int32) (x8 : Int32) (M : Mem) : Option ((Int64 × Int32 × Mem) ⊕ (Int64 × Int32 × Mem)) :=
  (if x7 ≤ x8 then some (.inr (x4, x8, M)) else ck (inb x8 3) (Option.bind (loop (fun s5 : Int64 × Int32 × Mem => f_X5_mixAccent_65_65b x3 s5.1 x7 x8 (roF 73 (x8).toNatClampNeg) s5.2.1 s5.2.2) (x4, (0 : Int32), M)) (fun s6 => some (.inl (s6.1, (x8 + (1 : Int32)), s6.2.2)))))
theorem t_X5_mixAccent_48_48b {Y : EY} {X : CX} (C : CK Y X cX5_mixAccent RX5 11 (some .long) rm_X5_mixAccent) {x3 : Int32} {x4 : Int64} {x7 : Int32} {x8 : Int32} {M : Mem}  {res : (Int64 × Int32 × Mem) ⊕ (Int64 × Int32 × Mem)} (h : f_X5_mixAccent_48_48b x3 x4 x7 x8 M = some res) (hK : KL (At_X5_mixAccent_48 Y X x3 x7) (Ex_X5_mixAccent_48 Y X x3 x7) res) : AW Y X 11 48 [(0, .ref (Y.2.2.2.1 0)), (3, .int x3), (4, .long x4), (6, .ref (Y.2.2.2.1 73)), (7, .int x7), (8, .int x8)] [] M := by
  unfold f_X5_mixAccent_48_48b at h
  refine a_iload C dX5_mixAccent_48 5 rfl ?_
  refine a_iload C dX5_mixAccent_50 4 rfl ?_
  refine a_icmp_ge (tgt := 102) C dX5_mixAccent_52 (by decide) (fun hc => ?_) (fun hc => ?_)
  · replace h := ip hc h
    replace h := Option.some.inj h
    subst h
    exact a_sub [2] (hK) rfl
  · replace h := iq hc h
    refine a_aload C dX5_mixAccent_55 3 rfl ?_
    refine a_iload C dX5_mixAccent_57 5 rfl ?_
    obtain ⟨hb, h⟩ := ck_some h
    refine a_ro73 C dX5_mixAccent_59 hb ?_
    refine a_istore (lv' := [(9, _), (0, _), (3, _), (4, _), (6, _), (7, _), (8, _)]) C dX5_mixAccent_60 (by decide) rfl ?_
    refine a_iconst (v := 0) C dX5_mixAccent_62 (by decide) ?_
    refine a_istore (lv' := [(10, _), (9, _), (0, _), (3, _), (4, _), (6, _), (7, _), (8, _)]) C dX5_mixAccent_63 (by decide) rfl ?_
    obtain ⟨s6, hl, h⟩ := bd_some h
    have hE : Ex_X5_mixAccent_65 Y X x3 x7 x8 (roF 73 (x8).toNatClampNeg) s6 := by
      refine a_iinc (v := 1) (lv' := [(8, _), (0, _), (3, _), (4, _), (6, _), (7, _)]) C dX5_mixAccent_96 5 rfl (by decide) (by decide) rfl ?_
      refine a_goto (tgt := 48) C dX5_mixAccent_99 (by decide) ?_
      replace h := Option.some.inj h
      subst h
      exact a_sub [1, 2, 3, 4, 5, 0] (hK) rfl
    have hA := aw_loop (At_X5_mixAccent_65 Y X x3 x7 x8 (roF 73 (x8).toNatClampNeg)) (Ex_X5_mixAccent_65 Y X x3 x7 x8 (roF 73 (x8).toNatClampNeg)) (fun _ _ hb hk => t_X5_mixAccent_65_65b C hb hk) hl hE
    exact a_sub [2, 3, 4, 5, 6, 7, 1, 0] (hA) rfl
noncomputable def f_X5_mixAccent (x1 : Int64) (x3 : Int32) (M : Mem) : Option (Int64 × Mem) :=
  Option.bind (loop (fun s2 : Int64 × Int32 => f_X5_mixAccent_6_6b x3 s2.1 s2.2 M) (x1, (0 : Int32))) (fun s3 => Option.bind (loop (fun s7 : Int64 × Int32 × Mem => f_X5_mixAccent_48_48b x3 s7.1 (3 : Int32) s7.2.1 s7.2.2) (s3.1, (0 : Int32), M)) (fun s8 => some (s8.1, s8.2.2)))
theorem t_X5_mixAccent {Y : EY} {X : CX} (C : CK Y X cX5_mixAccent RX5 11 (some .long) rm_X5_mixAccent) {x1 : Int64} {x3 : Int32} {M : Mem}  {res : Int64 × Mem} (h : f_X5_mixAccent x1 x3 M = some res) (hK : RK Y X (some (.long res.1)) res.2) : AW Y X 11 0 [(0, .ref (Y.2.2.2.1 0)), (1, .long x1), (3, .int x3)] [] M := by
  unfold f_X5_mixAccent at h
  refine a_lload_n C dX5_mixAccent_0 1 rfl ?_
  refine a_lstore (lv' := [(4, _), (0, _), (1, _), (3, _)]) C dX5_mixAccent_1 (by decide) rfl ?_
  refine a_iconst (v := 0) C dX5_mixAccent_3 (by decide) ?_
  refine a_istore (lv' := [(6, _), (4, _), (0, _), (1, _), (3, _)]) C dX5_mixAccent_4 (by decide) rfl ?_
  obtain ⟨s3, hl, h⟩ := bd_some h
  have hE : Ex_X5_mixAccent_6 Y X x3 M s3 := by
    refine a_gets73 C dX5_mixAccent_35 gs_X5_330 ?_
    refine a_astore (lv' := [(6, _), (0, _), (3, _), (4, _)]) C dX5_mixAccent_38 (by decide) rfl ?_
    refine a_aload C dX5_mixAccent_40 0 rfl ?_
    refine a_rolen73 C dX5_mixAccent_42 ?_
    refine a_istore (lv' := [(7, _), (6, _), (0, _), (3, _), (4, _)]) C dX5_mixAccent_43 (by decide) rfl ?_
    refine a_iconst (v := 0) C dX5_mixAccent_45 (by decide) ?_
    refine a_istore (lv' := [(8, _), (7, _), (6, _), (0, _), (3, _), (4, _)]) C dX5_mixAccent_46 (by decide) rfl ?_
    obtain ⟨s8, hl, h⟩ := bd_some h
    have hE : Ex_X5_mixAccent_48 Y X x3 (3 : Int32) s8 := by
      refine a_lload C dX5_mixAccent_102 0 rfl ?_
      replace h := Option.some.inj h
      subst h
      exact a_lret C dX5_mixAccent_104 hK
    have hA := aw_loop (At_X5_mixAccent_48 Y X x3 (3 : Int32)) (Ex_X5_mixAccent_48 Y X x3 (3 : Int32)) (fun _ _ hb hk => t_X5_mixAccent_48_48b C hb hk) hl hE
    exact a_sub [3, 4, 5, 2, 1, 0] (hA) rfl
  have hA := aw_loop (At_X5_mixAccent_6 Y X x3 M) (Ex_X5_mixAccent_6 Y X x3 M) (fun _ _ hb hk => t_X5_mixAccent_6_6b C hb hk) hl hE
  exact a_sub [2, 4, 1, 0] (hA) rfl
theorem m_X5_mixAccent {Y : EY} (hY : HY Y) {x1 : Int64} {x3 : Int32} {M : Mem}  {r : Int64 × Mem} (h : f_X5_mixAccent x1 x3 M = some r) : MX Y yX5_mixAccent cX5_mixAccent 11 (some .long) rm_X5_mixAccent [.ref (Y.2.2.2.1 0), .long x1, .int x3] M (some (.long r.1)) r.2 := MX.of hY (by decide) (Nat.le_of_ble_eq_true rfl) (fun _ hR C => a_sub [0, 1, 2] (t_X5_mixAccent C  h hR) rfl)
abbrev rm_X5_mixSpeech : Room := { frames := 5, cells := 0, slots := 0, locals := 118 }
abbrev At_X5_mixSpeech_48 (Y : EY) (X : CX) (x3 : Int32) (x7 : Int32) (s : Int64 × Int32 × Mem) : Prop := AW Y X 11 48 [(0, .ref (Y.2.2.2.1 0)), (3, .int x3), (4, .long s.1), (6, .ref (Y.2.2.2.1 74)), (7, .int x7), (8, .int s.2.1)] [] s.2.2
abbrev Ex_X5_mixSpeech_48 (Y : EY) (X : CX) (x3 : Int32) (x7 : Int32) (s : Int64 × Int32 × Mem) : Prop := AW Y X 11 103 [(4, .long s.1)] [] s.2.2
abbrev At_X5_mixSpeech_65 (Y : EY) (X : CX) (x3 : Int32) (x7 : Int32) (x8 : Int32) (x9 : Int32) (s : Int64 × Int32 × Mem) : Prop := AW Y X 11 65 [(0, .ref (Y.2.2.2.1 0)), (3, .int x3), (4, .long s.1), (6, .ref (Y.2.2.2.1 74)), (7, .int x7), (8, .int x8), (9, .int x9), (10, .int s.2.1)] [] s.2.2
abbrev Ex_X5_mixSpeech_65 (Y : EY) (X : CX) (x3 : Int32) (x7 : Int32) (x8 : Int32) (x9 : Int32) (s : Int64 × Int32 × Mem) : Prop := AW Y X 11 97 [(0, .ref (Y.2.2.2.1 0)), (3, .int x3), (4, .long s.1), (6, .ref (Y.2.2.2.1 74)), (7, .int x7), (8, .int x8)] [] s.2.2
noncomputable def f_X5_mixSpeech_65_65b (x3 : Int32) (x4 : Int64) (x7 : Int32) (x8 : Int32) (x9 : Int32) (x10 : Int32) (M : Mem) : Option ((Int64 × Int32 × Mem) ⊕ (Int64 × Int32 × Mem)) :=
  (if (8 : Int32) ≤ x10 then some (.inr (x4, x10, M)) else Option.bind (f_X5_at x9 x3 x10 M) (fun r3 => some (.inl ((((31 : Int64) * x4) + (r3.1).toInt64), (x10 + (1 : Int32)), r3.2))))
theorem t_X5_mixSpeech_65_65b {Y : EY} {X : CX} (C : CK Y X cX5_mixSpeech RX5 11 (some .long) rm_X5_mixSpeech) {x3 : Int32} {x4 : Int64} {x7 : Int32} {x8 : Int32} {x9 : Int32} {x10 : Int32} {M : Mem}  {res : (Int64 × Int32 × Mem) ⊕ (Int64 × Int32 × Mem)} (h : f_X5_mixSpeech_65_65b x3 x4 x7 x8 x9 x10 M = some res) (hK : KL (At_X5_mixSpeech_65 Y X x3 x7 x8 x9) (Ex_X5_mixSpeech_65 Y X x3 x7 x8 x9) res) : AW Y X 11 65 [(0, .ref (Y.2.2.2.1 0)), (3, .int x3), (4, .long x4), (6, .ref (Y.2.2.2.1 74)), (7, .int x7), (8, .int x8), (9, .int x9), (10, .int x10)] [] M := by
  unfold f_X5_mixSpeech_65_65b at h
  refine a_iload C dX5_mixSpeech_65 7 rfl ?_
  refine a_bipush (v := 8) C dX5_mixSpeech_67 (by decide) ?_
  refine a_icmp_ge (tgt := 97) C dX5_mixSpeech_69 (by decide) (fun hc => ?_) (fun hc => ?_)
  · replace h := ip hc h
    replace h := Option.some.inj h
    subst h
    exact a_sub [0, 1, 2, 3, 4, 5] (hK) rfl
  · replace h := iq hc h
    refine a_ldc2 C dX5_mixSpeech_72 co_X5_276 ?_
    refine a_lload C dX5_mixSpeech_75 2 rfl ?_
    refine a_lmul C dX5_mixSpeech_77 ?_
    refine a_aload_n C dX5_mixSpeech_78 0 rfl ?_
    refine a_iload C dX5_mixSpeech_79 6 rfl ?_
    refine a_iload_n C dX5_mixSpeech_81 1 rfl ?_
    refine a_iload C dX5_mixSpeech_82 7 rfl ?_
    obtain ⟨r3, hcr3, h⟩ := bd_some h
    refine a_callVi C dX5_mixSpeech_84 lv_X5_342 lm_X5_at ⟨rfl, rfl, by decide, by decide⟩ Kc_0 (m_X5_at C.2.2.2.2.2.2.1 hcr3) rfl rfl (Nat.le_of_ble_eq_true rfl) ?_
    refine a_i2l C dX5_mixSpeech_87 ?_
    refine a_ladd C dX5_mixSpeech_88 ?_
    refine a_lstore (lv' := [(4, _), (0, _), (3, _), (6, _), (7, _), (8, _), (9, _), (10, _)]) C dX5_mixSpeech_89 (by decide) rfl ?_
    refine a_iinc (v := 1) (lv' := [(10, _), (4, _), (0, _), (3, _), (6, _), (7, _), (8, _), (9, _)]) C dX5_mixSpeech_91 7 rfl (by decide) (by decide) rfl ?_
    refine a_goto (tgt := 65) C dX5_mixSpeech_94 (by decide) ?_
    replace h := Option.some.inj h
    subst h
    exact a_sub [2, 3, 1, 4, 5, 6, 7, 0] (hK) rfl
noncomputable def f_X5_mixSpeech_48_48b (x3 : Int32) (x4 : Int64) (x7 : Int32) (x8 : Int32) (M : Mem) : Option ((Int64 × Int32 × Mem) ⊕ (Int64 × Int32 × Mem)) :=
  (if x7 ≤ x8 then some (.inr (x4, x8, M)) else ck (inb x8 4) (Option.bind (loop (fun s4 : Int64 × Int32 × Mem => f_X5_mixSpeech_65_65b x3 s4.1 x7 x8 (roF 74 (x8).toNatClampNeg) s4.2.1 s4.2.2) (x4, (0 : Int32), M)) (fun s5 => some (.inl (s5.1, (x8 + (1 : Int32)), s5.2.2)))))
theorem t_X5_mixSpeech_48_48b {Y : EY} {X : CX} (C : CK Y X cX5_mixSpeech RX5 11 (some .long) rm_X5_mixSpeech) {x3 : Int32} {x4 : Int64} {x7 : Int32} {x8 : Int32} {M : Mem}  {res : (Int64 × Int32 × Mem) ⊕ (Int64 × Int32 × Mem)} (h : f_X5_mixSpeech_48_48b x3 x4 x7 x8 M = some res) (hK : KL (At_X5_mixSpeech_48 Y X x3 x7) (Ex_X5_mixSpeech_48 Y X x3 x7) res) : AW Y X 11 48 [(0, .ref (Y.2.2.2.1 0)), (3, .int x3), (4, .long x4), (6, .ref (Y.2.2.2.1 74)), (7, .int x7), (8, .int x8)] [] M := by
  unfold f_X5_mixSpeech_48_48b at h
  refine a_iload C dX5_mixSpeech_48 5 rfl ?_
  refine a_iload C dX5_mixSpeech_50 4 rfl ?_
  refine a_icmp_ge (tgt := 103) C dX5_mixSpeech_52 (by decide) (fun hc => ?_) (fun hc => ?_)
  · replace h := ip hc h
    replace h := Option.some.inj h
    subst h
    exact a_sub [2] (hK) rfl
  · replace h := iq hc h
    refine a_aload C dX5_mixSpeech_55 3 rfl ?_
    refine a_iload C dX5_mixSpeech_57 5 rfl ?_
    obtain ⟨hb, h⟩ := ck_some h
    refine a_ro74 C dX5_mixSpeech_59 hb ?_
    refine a_istore (lv' := [(9, _), (0, _), (3, _), (4, _), (6, _), (7, _), (8, _)]) C dX5_mixSpeech_60 (by decide) rfl ?_
    refine a_iconst (v := 0) C dX5_mixSpeech_62 (by decide) ?_
    refine a_istore (lv' := [(10, _), (9, _), (0, _), (3, _), (4, _), (6, _), (7, _), (8, _)]) C dX5_mixSpeech_63 (by decide) rfl ?_
    obtain ⟨s5, hl, h⟩ := bd_some h
    have hE : Ex_X5_mixSpeech_65 Y X x3 x7 x8 (roF 74 (x8).toNatClampNeg) s5 := by
      refine a_iinc (v := 1) (lv' := [(8, _), (0, _), (3, _), (4, _), (6, _), (7, _)]) C dX5_mixSpeech_97 5 rfl (by decide) (by decide) rfl ?_
      refine a_goto (tgt := 48) C dX5_mixSpeech_100 (by decide) ?_
      replace h := Option.some.inj h
      subst h
      exact a_sub [1, 2, 3, 4, 5, 0] (hK) rfl
    have hA := aw_loop (At_X5_mixSpeech_65 Y X x3 x7 x8 (roF 74 (x8).toNatClampNeg)) (Ex_X5_mixSpeech_65 Y X x3 x7 x8 (roF 74 (x8).toNatClampNeg)) (fun _ _ hb hk => t_X5_mixSpeech_65_65b C hb hk) hl hE
    exact a_sub [2, 3, 4, 5, 6, 7, 1, 0] (hA) rfl
noncomputable def f_X5_mixSpeech (x1 : Int64) (x3 : Int32) (M : Mem) : Option (Int64 × Mem) :=
  Option.bind (f_X5_person x3 (0 : Int32) M) (fun r1 => Option.bind (f_X5_person x3 (1 : Int32) M) (fun r2 => Option.bind (loop (fun s6 : Int64 × Int32 × Mem => f_X5_mixSpeech_48_48b x3 s6.1 (4 : Int32) s6.2.1 s6.2.2) ((((31 : Int64) * (((31 : Int64) * x1) + (r1).toInt64)) + (r2).toInt64), (0 : Int32), M)) (fun s7 => some (s7.1, s7.2.2))))
theorem t_X5_mixSpeech {Y : EY} {X : CX} (C : CK Y X cX5_mixSpeech RX5 11 (some .long) rm_X5_mixSpeech) {x1 : Int64} {x3 : Int32} {M : Mem}  {res : Int64 × Mem} (h : f_X5_mixSpeech x1 x3 M = some res) (hK : RK Y X (some (.long res.1)) res.2) : AW Y X 11 0 [(0, .ref (Y.2.2.2.1 0)), (1, .long x1), (3, .int x3)] [] M := by
  unfold f_X5_mixSpeech at h
  refine a_lload_n C dX5_mixSpeech_0 1 rfl ?_
  refine a_lstore (lv' := [(4, _), (0, _), (1, _), (3, _)]) C dX5_mixSpeech_1 (by decide) rfl ?_
  refine a_ldc2 C dX5_mixSpeech_3 co_X5_276 ?_
  refine a_lload C dX5_mixSpeech_6 0 rfl ?_
  refine a_lmul C dX5_mixSpeech_8 ?_
  refine a_aload_n C dX5_mixSpeech_9 1 rfl ?_
  refine a_iload_n C dX5_mixSpeech_10 3 rfl ?_
  refine a_iconst (v := 0) C dX5_mixSpeech_11 (by decide) ?_
  obtain ⟨r1, hcr1, h⟩ := bd_some h
  refine a_callVi C dX5_mixSpeech_12 lv_X5_336 lm_X5_person ⟨rfl, rfl, by decide, by decide⟩ Kc_0 (m_X5_person C.2.2.2.2.2.2.1 hcr1) rfl rfl (Nat.le_of_ble_eq_true rfl) ?_
  refine a_i2l C dX5_mixSpeech_15 ?_
  refine a_ladd C dX5_mixSpeech_16 ?_
  refine a_lstore (lv' := [(4, _), (0, _), (1, _), (3, _)]) C dX5_mixSpeech_17 (by decide) rfl ?_
  refine a_ldc2 C dX5_mixSpeech_19 co_X5_276 ?_
  refine a_lload C dX5_mixSpeech_22 0 rfl ?_
  refine a_lmul C dX5_mixSpeech_24 ?_
  refine a_aload_n C dX5_mixSpeech_25 1 rfl ?_
  refine a_iload_n C dX5_mixSpeech_26 3 rfl ?_
  refine a_iconst (v := 1) C dX5_mixSpeech_27 (by decide) ?_
  obtain ⟨r2, hcr2, h⟩ := bd_some h
  refine a_callVi C dX5_mixSpeech_28 lv_X5_336 lm_X5_person ⟨rfl, rfl, by decide, by decide⟩ Kc_0 (m_X5_person C.2.2.2.2.2.2.1 hcr2) rfl rfl (Nat.le_of_ble_eq_true rfl) ?_
  refine a_i2l C dX5_mixSpeech_31 ?_
  refine a_ladd C dX5_mixSpeech_32 ?_
  refine a_lstore (lv' := [(4, _), (0, _), (1, _), (3, _)]) C dX5_mixSpeech_33 (by decide) rfl ?_
  refine a_gets74 C dX5_mixSpeech_35 gs_X5_339 ?_
  refine a_astore (lv' := [(6, _), (4, _), (0, _), (1, _), (3, _)]) C dX5_mixSpeech_38 (by decide) rfl ?_
  refine a_aload C dX5_mixSpeech_40 0 rfl ?_
  refine a_rolen74 C dX5_mixSpeech_42 ?_
  refine a_istore (lv' := [(7, _), (6, _), (4, _), (0, _), (1, _), (3, _)]) C dX5_mixSpeech_43 (by decide) rfl ?_
  refine a_iconst (v := 0) C dX5_mixSpeech_45 (by decide) ?_
  refine a_istore (lv' := [(8, _), (7, _), (6, _), (4, _), (0, _), (1, _), (3, _)]) C dX5_mixSpeech_46 (by decide) rfl ?_
  obtain ⟨s7, hl, h⟩ := bd_some h
  have hE : Ex_X5_mixSpeech_48 Y X x3 (4 : Int32) s7 := by
    refine a_lload C dX5_mixSpeech_103 0 rfl ?_
    replace h := Option.some.inj h
    subst h
    exact a_lret C dX5_mixSpeech_105 hK
  have hA := aw_loop (At_X5_mixSpeech_48 Y X x3 (4 : Int32)) (Ex_X5_mixSpeech_48 Y X x3 (4 : Int32)) (fun _ _ hb hk => t_X5_mixSpeech_48_48b C hb hk) hl hE
  exact a_sub [4, 6, 3, 2, 1, 0] (hA) rfl
theorem m_X5_mixSpeech {Y : EY} (hY : HY Y) {x1 : Int64} {x3 : Int32} {M : Mem}  {r : Int64 × Mem} (h : f_X5_mixSpeech x1 x3 M = some r) : MX Y yX5_mixSpeech cX5_mixSpeech 11 (some .long) rm_X5_mixSpeech [.ref (Y.2.2.2.1 0), .long x1, .int x3] M (some (.long r.1)) r.2 := MX.of hY (by decide) (Nat.le_of_ble_eq_true rfl) (fun _ hR C => a_sub [0, 1, 2] (t_X5_mixSpeech C  h hR) rfl)
abbrev rm_X5_digest : Room := { frames := 10, cells := 0, slots := 0, locals := 238 }
abbrev At_X5_digest_6 (Y : EY) (X : CX)  (s : Int64 × Int32 × Mem) : Prop := AW Y X 4 6 [(0, .ref (Y.2.2.2.1 0)), (1, .long s.1), (3, .int s.2.1)] [] s.2.2
abbrev Ex_X5_digest_6 (Y : EY) (X : CX)  (s : Int64 × Int32 × Mem) : Prop := AW Y X 4 31 [(0, .ref (Y.2.2.2.1 0)), (1, .long s.1)] [] s.2.2
noncomputable def f_X5_digest_6_6b (x1 : Int64) (x3 : Int32) (M : Mem) : Option ((Int64 × Int32 × Mem) ⊕ (Int64 × Int32 × Mem)) :=
  (if (8 : Int32) ≤ x3 then some (.inr (x1, x3, M)) else Option.bind (f_X5_count x3 M) (fun r1 => some (.inl ((((31 : Int64) * x1) + (r1.1).toInt64), (x3 + (1 : Int32)), r1.2))))
theorem t_X5_digest_6_6b {Y : EY} {X : CX} (C : CK Y X cX5_digest RX5 4 (some .long) rm_X5_digest) {x1 : Int64} {x3 : Int32} {M : Mem}  {res : (Int64 × Int32 × Mem) ⊕ (Int64 × Int32 × Mem)} (h : f_X5_digest_6_6b x1 x3 M = some res) (hK : KL (At_X5_digest_6 Y X) (Ex_X5_digest_6 Y X) res) : AW Y X 4 6 [(0, .ref (Y.2.2.2.1 0)), (1, .long x1), (3, .int x3)] [] M := by
  unfold f_X5_digest_6_6b at h
  refine a_iload_n C dX5_digest_6 2 rfl ?_
  refine a_bipush (v := 8) C dX5_digest_7 (by decide) ?_
  refine a_icmp_ge (tgt := 31) C dX5_digest_9 (by decide) (fun hc => ?_) (fun hc => ?_)
  · replace h := ip hc h
    replace h := Option.some.inj h
    subst h
    exact a_sub [0, 1] (hK) rfl
  · replace h := iq hc h
    refine a_ldc2 C dX5_digest_12 co_X5_276 ?_
    refine a_lload_n C dX5_digest_15 1 rfl ?_
    refine a_lmul C dX5_digest_16 ?_
    refine a_aload_n C dX5_digest_17 0 rfl ?_
    refine a_iload_n C dX5_digest_18 2 rfl ?_
    obtain ⟨r1, hcr1, h⟩ := bd_some h
    refine a_callVi C dX5_digest_19 lv_X5_278 lm_X5_count ⟨rfl, rfl, by decide, by decide⟩ Kc_0 (m_X5_count C.2.2.2.2.2.2.1 hcr1) rfl rfl (Nat.le_of_ble_eq_true rfl) ?_
    refine a_i2l C dX5_digest_22 ?_
    refine a_ladd C dX5_digest_23 ?_
    refine a_lstore_n (lv' := [(1, _), (0, _), (3, _)]) C dX5_digest_24 rfl (by decide) rfl ?_
    refine a_iinc (v := 1) (lv' := [(3, _), (1, _), (0, _)]) C dX5_digest_25 2 rfl (by decide) (by decide) rfl ?_
    refine a_goto (tgt := 6) C dX5_digest_28 (by decide) ?_
    replace h := Option.some.inj h
    subst h
    exact a_sub [2, 1, 0] (hK) rfl
abbrev At_X5_digest_33 (Y : EY) (X : CX) (M : Mem) (s : Int64 × Int32) : Prop := AW Y X 4 33 [(0, .ref (Y.2.2.2.1 0)), (1, .long s.1), (3, .int s.2)] [] M
abbrev Ex_X5_digest_33 (Y : EY) (X : CX) (M : Mem) (s : Int64 × Int32) : Prop := AW Y X 4 57 [(0, .ref (Y.2.2.2.1 0)), (1, .long s.1)] [] M
noncomputable def f_X5_digest_33_33b (x1 : Int64) (x3 : Int32) (M : Mem) : Option ((Int64 × Int32) ⊕ (Int64 × Int32)) :=
  (if (2 : Int32) ≤ x3 then some (.inr (x1, x3)) else Option.bind (f_X5_fault x3 M) (fun r4 => some (.inl ((((31 : Int64) * x1) + (r4).toInt64), (x3 + (1 : Int32))))))
theorem t_X5_digest_33_33b {Y : EY} {X : CX} (C : CK Y X cX5_digest RX5 4 (some .long) rm_X5_digest) {x1 : Int64} {x3 : Int32} {M : Mem}  {res : (Int64 × Int32) ⊕ (Int64 × Int32)} (h : f_X5_digest_33_33b x1 x3 M = some res) (hK : KL (At_X5_digest_33 Y X M) (Ex_X5_digest_33 Y X M) res) : AW Y X 4 33 [(0, .ref (Y.2.2.2.1 0)), (1, .long x1), (3, .int x3)] [] M := by
  unfold f_X5_digest_33_33b at h
  refine a_iload_n C dX5_digest_33 2 rfl ?_
  refine a_iconst (v := 2) C dX5_digest_34 (by decide) ?_
  refine a_icmp_ge (tgt := 57) C dX5_digest_35 (by decide) (fun hc => ?_) (fun hc => ?_)
  · replace h := ip hc h
    replace h := Option.some.inj h
    subst h
    exact a_sub [0, 1] (hK) rfl
  · replace h := iq hc h
    refine a_ldc2 C dX5_digest_38 co_X5_276 ?_
    refine a_lload_n C dX5_digest_41 1 rfl ?_
    refine a_lmul C dX5_digest_42 ?_
    refine a_aload_n C dX5_digest_43 0 rfl ?_
    refine a_iload_n C dX5_digest_44 2 rfl ?_
    obtain ⟨r4, hcr4, h⟩ := bd_some h
    refine a_callVi C dX5_digest_45 lv_X5_281 lm_X5_fault ⟨rfl, rfl, by decide, by decide⟩ Kc_0 (m_X5_fault C.2.2.2.2.2.2.1 hcr4) rfl rfl (Nat.le_of_ble_eq_true rfl) ?_
    refine a_i2l C dX5_digest_48 ?_
    refine a_ladd C dX5_digest_49 ?_
    refine a_lstore_n (lv' := [(1, _), (0, _), (3, _)]) C dX5_digest_50 rfl (by decide) rfl ?_
    refine a_iinc (v := 1) (lv' := [(3, _), (1, _), (0, _)]) C dX5_digest_51 2 rfl (by decide) (by decide) rfl ?_
    refine a_goto (tgt := 33) C dX5_digest_54 (by decide) ?_
    replace h := Option.some.inj h
    subst h
    exact a_sub [2, 1, 0] (hK) rfl
abbrev At_X5_digest_59 (Y : EY) (X : CX)  (s : Int64 × Int32 × Mem) : Prop := AW Y X 4 59 [(0, .ref (Y.2.2.2.1 0)), (1, .long s.1), (3, .int s.2.1)] [] s.2.2
abbrev Ex_X5_digest_59 (Y : EY) (X : CX)  (s : Int64 × Int32 × Mem) : Prop := AW Y X 4 83 [(0, .ref (Y.2.2.2.1 0)), (1, .long s.1)] [] s.2.2
noncomputable def f_X5_digest_59_59b (x1 : Int64) (x3 : Int32) (M : Mem) : Option ((Int64 × Int32 × Mem) ⊕ (Int64 × Int32 × Mem)) :=
  (if (M 5 0) ≤ x3 then some (.inr (x1, x3, M)) else Option.bind (f_X5_mixAccent x1 x3 M) (fun r7 => some (.inl (r7.1, (x3 + (1 : Int32)), r7.2))))
theorem t_X5_digest_59_59b {Y : EY} {X : CX} (C : CK Y X cX5_digest RX5 4 (some .long) rm_X5_digest) {x1 : Int64} {x3 : Int32} {M : Mem}  {res : (Int64 × Int32 × Mem) ⊕ (Int64 × Int32 × Mem)} (h : f_X5_digest_59_59b x1 x3 M = some res) (hK : KL (At_X5_digest_59 Y X) (Ex_X5_digest_59 Y X) res) : AW Y X 4 59 [(0, .ref (Y.2.2.2.1 0)), (1, .long x1), (3, .int x3)] [] M := by
  unfold f_X5_digest_59_59b at h
  refine a_iload_n C dX5_digest_59 2 rfl ?_
  refine a_aload_n C dX5_digest_60 0 rfl ?_
  refine a_getr (k1 := 5) C dX5_digest_61 fl_X5_28 rfl Kc_0 rfl ?_
  refine a_geti C dX5_digest_64 fl_X5_190 rfl Kc_5 ?_
  refine a_icmp_ge (tgt := 83) C dX5_digest_67 (by decide) (fun hc => ?_) (fun hc => ?_)
  · replace h := ip hc h
    replace h := Option.some.inj h
    subst h
    exact a_sub [0, 1] (hK) rfl
  · replace h := iq hc h
    refine a_aload_n C dX5_digest_70 0 rfl ?_
    refine a_lload_n C dX5_digest_71 1 rfl ?_
    refine a_iload_n C dX5_digest_72 2 rfl ?_
    obtain ⟨r7, hcr7, h⟩ := bd_some h
    refine a_callVl C dX5_digest_73 lv_X5_284 lm_X5_mixAccent ⟨rfl, rfl, by decide, by decide⟩ Kc_0 (m_X5_mixAccent C.2.2.2.2.2.2.1 hcr7) rfl rfl (Nat.le_of_ble_eq_true rfl) ?_
    refine a_lstore_n (lv' := [(1, _), (0, _), (3, _)]) C dX5_digest_76 rfl (by decide) rfl ?_
    refine a_iinc (v := 1) (lv' := [(3, _), (1, _), (0, _)]) C dX5_digest_77 2 rfl (by decide) (by decide) rfl ?_
    refine a_goto (tgt := 59) C dX5_digest_80 (by decide) ?_
    replace h := Option.some.inj h
    subst h
    exact a_sub [2, 1, 0] (hK) rfl
abbrev At_X5_digest_85 (Y : EY) (X : CX)  (s : Int64 × Int32 × Mem) : Prop := AW Y X 4 85 [(0, .ref (Y.2.2.2.1 0)), (1, .long s.1), (3, .int s.2.1)] [] s.2.2
abbrev Ex_X5_digest_85 (Y : EY) (X : CX)  (s : Int64 × Int32 × Mem) : Prop := AW Y X 4 238 [(0, .ref (Y.2.2.2.1 0)), (1, .long s.1)] [] s.2.2
noncomputable def f_X5_digest_85_85b (x1 : Int64) (x3 : Int32) (M : Mem) : Option ((Int64 × Int32 × Mem) ⊕ (Int64 × Int32 × Mem)) :=
  (if (M 5 3) ≤ x3 then some (.inr (x1, x3, M)) else Option.bind (f_X5_mixSpeech x1 x3 M) (fun r10 => Option.bind (f_X5_becomes x3 r10.2) (fun r11 => Option.bind (f_X5_dress x3 (1 : Int32) (12 : Int32) (0 : Int32) r11.2) (fun r12 => Option.bind (f_X5_dress x3 (1 : Int32) (12 : Int32) (1 : Int32) r12.2) (fun r13 => Option.bind (f_X5_home x3 r13.2) (fun r14 => Option.bind (f_X5_was x3 (0 : Int32) r14.2) (fun r15 => Option.bind (f_X5_was x3 (1 : Int32) r15.2) (fun r16 => Option.bind (f_X5_ask x3 r16.2) (fun r17 => Option.bind (f_X5_custom (5 : Int32) x3 (0 : Int32) r17.2) (fun r18 => Option.bind (f_X5_custom (5 : Int32) x3 (1 : Int32) r18.2) (fun r19 => some (.inl ((((31 : Int64) * (((31 : Int64) * (((31 : Int64) * (((31 : Int64) * (((31 : Int64) * (((31 : Int64) * (((31 : Int64) * (((31 : Int64) * (((31 : Int64) * r10.1) + (r11.1).toInt64)) + (r12.1).toInt64)) + (r13.1).toInt64)) + (r14.1).toInt64)) + (r15.1).toInt64)) + (r16.1).toInt64)) + (r17.1).toInt64)) + r18.1)) + r19.1), (x3 + (1 : Int32)), r19.2)))))))))))))
theorem t_X5_digest_85_85b {Y : EY} {X : CX} (C : CK Y X cX5_digest RX5 4 (some .long) rm_X5_digest) {x1 : Int64} {x3 : Int32} {M : Mem}  {res : (Int64 × Int32 × Mem) ⊕ (Int64 × Int32 × Mem)} (h : f_X5_digest_85_85b x1 x3 M = some res) (hK : KL (At_X5_digest_85 Y X) (Ex_X5_digest_85 Y X) res) : AW Y X 4 85 [(0, .ref (Y.2.2.2.1 0)), (1, .long x1), (3, .int x3)] [] M := by
  unfold f_X5_digest_85_85b at h
  refine a_iload_n C dX5_digest_85 2 rfl ?_
  refine a_aload_n C dX5_digest_86 0 rfl ?_
  refine a_getr (k1 := 5) C dX5_digest_87 fl_X5_28 rfl Kc_0 rfl ?_
  refine a_geti C dX5_digest_90 fl_X5_183 rfl Kc_5 ?_
  refine a_icmp_ge (tgt := 238) C dX5_digest_93 (by decide) (fun hc => ?_) (fun hc => ?_)
  · replace h := ip hc h
    replace h := Option.some.inj h
    subst h
    exact a_sub [0, 1] (hK) rfl
  · replace h := iq hc h
    refine a_aload_n C dX5_digest_96 0 rfl ?_
    refine a_lload_n C dX5_digest_97 1 rfl ?_
    refine a_iload_n C dX5_digest_98 2 rfl ?_
    obtain ⟨r10, hcr10, h⟩ := bd_some h
    refine a_callVl C dX5_digest_99 lv_X5_288 lm_X5_mixSpeech ⟨rfl, rfl, by decide, by decide⟩ Kc_0 (m_X5_mixSpeech C.2.2.2.2.2.2.1 hcr10) rfl rfl (Nat.le_of_ble_eq_true rfl) ?_
    refine a_lstore_n (lv' := [(1, _), (0, _), (3, _)]) C dX5_digest_102 rfl (by decide) rfl ?_
    refine a_ldc2 C dX5_digest_103 co_X5_276 ?_
    refine a_lload_n C dX5_digest_106 0 rfl ?_
    refine a_lmul C dX5_digest_107 ?_
    refine a_aload_n C dX5_digest_108 1 rfl ?_
    refine a_iload_n C dX5_digest_109 2 rfl ?_
    obtain ⟨r11, hcr11, h⟩ := bd_some h
    refine a_callVi C dX5_digest_110 lv_X5_291 lm_X5_becomes ⟨rfl, rfl, by decide, by decide⟩ Kc_0 (m_X5_becomes C.2.2.2.2.2.2.1 hcr11) rfl rfl (Nat.le_of_ble_eq_true rfl) ?_
    refine a_i2l C dX5_digest_113 ?_
    refine a_ladd C dX5_digest_114 ?_
    refine a_lstore_n (lv' := [(1, _), (0, _), (3, _)]) C dX5_digest_115 rfl (by decide) rfl ?_
    refine a_ldc2 C dX5_digest_116 co_X5_276 ?_
    refine a_lload_n C dX5_digest_119 0 rfl ?_
    refine a_lmul C dX5_digest_120 ?_
    refine a_aload_n C dX5_digest_121 1 rfl ?_
    refine a_iload_n C dX5_digest_122 2 rfl ?_
    refine a_iconst (v := 1) C dX5_digest_123 (by decide) ?_
    refine a_bipush (v := 12) C dX5_digest_124 (by decide) ?_
    refine a_iconst (v := 0) C dX5_digest_126 (by decide) ?_
    obtain ⟨r12, hcr12, h⟩ := bd_some h
    refine a_callVi C dX5_digest_127 lv_X5_294 lm_X5_dress ⟨rfl, rfl, by decide, by decide⟩ Kc_0 (m_X5_dress C.2.2.2.2.2.2.1 hcr12) rfl rfl (Nat.le_of_ble_eq_true rfl) ?_
    refine a_i2l C dX5_digest_130 ?_
    refine a_ladd C dX5_digest_131 ?_
    refine a_lstore_n (lv' := [(1, _), (0, _), (3, _)]) C dX5_digest_132 rfl (by decide) rfl ?_
    refine a_ldc2 C dX5_digest_133 co_X5_276 ?_
    refine a_lload_n C dX5_digest_136 0 rfl ?_
    refine a_lmul C dX5_digest_137 ?_
    refine a_aload_n C dX5_digest_138 1 rfl ?_
    refine a_iload_n C dX5_digest_139 2 rfl ?_
    refine a_iconst (v := 1) C dX5_digest_140 (by decide) ?_
    refine a_bipush (v := 12) C dX5_digest_141 (by decide) ?_
    refine a_iconst (v := 1) C dX5_digest_143 (by decide) ?_
    obtain ⟨r13, hcr13, h⟩ := bd_some h
    refine a_callVi C dX5_digest_144 lv_X5_294 lm_X5_dress ⟨rfl, rfl, by decide, by decide⟩ Kc_0 (m_X5_dress C.2.2.2.2.2.2.1 hcr13) rfl rfl (Nat.le_of_ble_eq_true rfl) ?_
    refine a_i2l C dX5_digest_147 ?_
    refine a_ladd C dX5_digest_148 ?_
    refine a_lstore_n (lv' := [(1, _), (0, _), (3, _)]) C dX5_digest_149 rfl (by decide) rfl ?_
    refine a_ldc2 C dX5_digest_150 co_X5_276 ?_
    refine a_lload_n C dX5_digest_153 0 rfl ?_
    refine a_lmul C dX5_digest_154 ?_
    refine a_aload_n C dX5_digest_155 1 rfl ?_
    refine a_iload_n C dX5_digest_156 2 rfl ?_
    obtain ⟨r14, hcr14, h⟩ := bd_some h
    refine a_callVi C dX5_digest_157 lv_X5_298 lm_X5_home ⟨rfl, rfl, by decide, by decide⟩ Kc_0 (m_X5_home C.2.2.2.2.2.2.1 hcr14) rfl rfl (Nat.le_of_ble_eq_true rfl) ?_
    refine a_i2l C dX5_digest_160 ?_
    refine a_ladd C dX5_digest_161 ?_
    refine a_lstore_n (lv' := [(1, _), (0, _), (3, _)]) C dX5_digest_162 rfl (by decide) rfl ?_
    refine a_ldc2 C dX5_digest_163 co_X5_276 ?_
    refine a_lload_n C dX5_digest_166 0 rfl ?_
    refine a_lmul C dX5_digest_167 ?_
    refine a_aload_n C dX5_digest_168 1 rfl ?_
    refine a_iload_n C dX5_digest_169 2 rfl ?_
    refine a_iconst (v := 0) C dX5_digest_170 (by decide) ?_
    obtain ⟨r15, hcr15, h⟩ := bd_some h
    refine a_callVi C dX5_digest_171 lv_X5_301 lm_X5_was ⟨rfl, rfl, by decide, by decide⟩ Kc_0 (m_X5_was C.2.2.2.2.2.2.1 hcr15) rfl rfl (Nat.le_of_ble_eq_true rfl) ?_
    refine a_i2l C dX5_digest_174 ?_
    refine a_ladd C dX5_digest_175 ?_
    refine a_lstore_n (lv' := [(1, _), (0, _), (3, _)]) C dX5_digest_176 rfl (by decide) rfl ?_
    refine a_ldc2 C dX5_digest_177 co_X5_276 ?_
    refine a_lload_n C dX5_digest_180 0 rfl ?_
    refine a_lmul C dX5_digest_181 ?_
    refine a_aload_n C dX5_digest_182 1 rfl ?_
    refine a_iload_n C dX5_digest_183 2 rfl ?_
    refine a_iconst (v := 1) C dX5_digest_184 (by decide) ?_
    obtain ⟨r16, hcr16, h⟩ := bd_some h
    refine a_callVi C dX5_digest_185 lv_X5_301 lm_X5_was ⟨rfl, rfl, by decide, by decide⟩ Kc_0 (m_X5_was C.2.2.2.2.2.2.1 hcr16) rfl rfl (Nat.le_of_ble_eq_true rfl) ?_
    refine a_i2l C dX5_digest_188 ?_
    refine a_ladd C dX5_digest_189 ?_
    refine a_lstore_n (lv' := [(1, _), (0, _), (3, _)]) C dX5_digest_190 rfl (by decide) rfl ?_
    refine a_ldc2 C dX5_digest_191 co_X5_276 ?_
    refine a_lload_n C dX5_digest_194 0 rfl ?_
    refine a_lmul C dX5_digest_195 ?_
    refine a_aload_n C dX5_digest_196 1 rfl ?_
    refine a_iload_n C dX5_digest_197 2 rfl ?_
    obtain ⟨r17, hcr17, h⟩ := bd_some h
    refine a_callVi C dX5_digest_198 lv_X5_304 lm_X5_ask ⟨rfl, rfl, by decide, by decide⟩ Kc_0 (m_X5_ask C.2.2.2.2.2.2.1 hcr17) rfl rfl (Nat.le_of_ble_eq_true rfl) ?_
    refine a_i2l C dX5_digest_201 ?_
    refine a_ladd C dX5_digest_202 ?_
    refine a_lstore_n (lv' := [(1, _), (0, _), (3, _)]) C dX5_digest_203 rfl (by decide) rfl ?_
    refine a_ldc2 C dX5_digest_204 co_X5_276 ?_
    refine a_lload_n C dX5_digest_207 0 rfl ?_
    refine a_lmul C dX5_digest_208 ?_
    refine a_aload_n C dX5_digest_209 1 rfl ?_
    refine a_iconst (v := 5) C dX5_digest_210 (by decide) ?_
    refine a_iload_n C dX5_digest_211 2 rfl ?_
    refine a_iconst (v := 0) C dX5_digest_212 (by decide) ?_
    obtain ⟨r18, hcr18, h⟩ := bd_some h
    refine a_callVl C dX5_digest_213 lv_X5_307 lm_X5_custom ⟨rfl, rfl, by decide, by decide⟩ Kc_0 (m_X5_custom C.2.2.2.2.2.2.1 hcr18) rfl rfl (Nat.le_of_ble_eq_true rfl) ?_
    refine a_ladd C dX5_digest_216 ?_
    refine a_lstore_n (lv' := [(1, _), (0, _), (3, _)]) C dX5_digest_217 rfl (by decide) rfl ?_
    refine a_ldc2 C dX5_digest_218 co_X5_276 ?_
    refine a_lload_n C dX5_digest_221 0 rfl ?_
    refine a_lmul C dX5_digest_222 ?_
    refine a_aload_n C dX5_digest_223 1 rfl ?_
    refine a_iconst (v := 5) C dX5_digest_224 (by decide) ?_
    refine a_iload_n C dX5_digest_225 2 rfl ?_
    refine a_iconst (v := 1) C dX5_digest_226 (by decide) ?_
    obtain ⟨r19, hcr19, h⟩ := bd_some h
    refine a_callVl C dX5_digest_227 lv_X5_307 lm_X5_custom ⟨rfl, rfl, by decide, by decide⟩ Kc_0 (m_X5_custom C.2.2.2.2.2.2.1 hcr19) rfl rfl (Nat.le_of_ble_eq_true rfl) ?_
    refine a_ladd C dX5_digest_230 ?_
    refine a_lstore_n (lv' := [(1, _), (0, _), (3, _)]) C dX5_digest_231 rfl (by decide) rfl ?_
    refine a_iinc (v := 1) (lv' := [(3, _), (1, _), (0, _)]) C dX5_digest_232 2 rfl (by decide) (by decide) rfl ?_
    refine a_goto (tgt := 85) C dX5_digest_235 (by decide) ?_
    replace h := Option.some.inj h
    subst h
    exact a_sub [2, 1, 0] (hK) rfl
abbrev At_X5_digest_264 (Y : EY) (X : CX)  (s : Int64 × Int32 × Mem) : Prop := AW Y X 4 264 [(0, .ref (Y.2.2.2.1 0)), (1, .long s.1), (3, .int s.2.1)] [] s.2.2
abbrev Ex_X5_digest_264 (Y : EY) (X : CX)  (s : Int64 × Int32 × Mem) : Prop := AW Y X 4 288 [(0, .ref (Y.2.2.2.1 0)), (1, .long s.1)] [] s.2.2
noncomputable def f_X5_digest_264_264b (x1 : Int64) (x3 : Int32) (M : Mem) : Option ((Int64 × Int32 × Mem) ⊕ (Int64 × Int32 × Mem)) :=
  (if (3 : Int32) ≤ x3 then some (.inr (x1, x3, M)) else Option.bind (f_X5_tray x3 M) (fun r24 => some (.inl ((((31 : Int64) * x1) + (r24.1).toInt64), (x3 + (1 : Int32)), r24.2))))
theorem t_X5_digest_264_264b {Y : EY} {X : CX} (C : CK Y X cX5_digest RX5 4 (some .long) rm_X5_digest) {x1 : Int64} {x3 : Int32} {M : Mem}  {res : (Int64 × Int32 × Mem) ⊕ (Int64 × Int32 × Mem)} (h : f_X5_digest_264_264b x1 x3 M = some res) (hK : KL (At_X5_digest_264 Y X) (Ex_X5_digest_264 Y X) res) : AW Y X 4 264 [(0, .ref (Y.2.2.2.1 0)), (1, .long x1), (3, .int x3)] [] M := by
  unfold f_X5_digest_264_264b at h
  refine a_iload_n C dX5_digest_264 2 rfl ?_
  refine a_iconst (v := 3) C dX5_digest_265 (by decide) ?_
  refine a_icmp_ge (tgt := 288) C dX5_digest_266 (by decide) (fun hc => ?_) (fun hc => ?_)
  · replace h := ip hc h
    replace h := Option.some.inj h
    subst h
    exact a_sub [0, 1] (hK) rfl
  · replace h := iq hc h
    refine a_ldc2 C dX5_digest_269 co_X5_276 ?_
    refine a_lload_n C dX5_digest_272 1 rfl ?_
    refine a_lmul C dX5_digest_273 ?_
    refine a_aload_n C dX5_digest_274 0 rfl ?_
    refine a_iload_n C dX5_digest_275 2 rfl ?_
    obtain ⟨r24, hcr24, h⟩ := bd_some h
    refine a_callVi C dX5_digest_276 lv_X5_314 lm_X5_tray ⟨rfl, rfl, by decide, by decide⟩ Kc_0 (m_X5_tray C.2.2.2.2.2.2.1 hcr24) rfl rfl (Nat.le_of_ble_eq_true rfl) ?_
    refine a_i2l C dX5_digest_279 ?_
    refine a_ladd C dX5_digest_280 ?_
    refine a_lstore_n (lv' := [(1, _), (0, _), (3, _)]) C dX5_digest_281 rfl (by decide) rfl ?_
    refine a_iinc (v := 1) (lv' := [(3, _), (1, _), (0, _)]) C dX5_digest_282 2 rfl (by decide) (by decide) rfl ?_
    refine a_goto (tgt := 264) C dX5_digest_285 (by decide) ?_
    replace h := Option.some.inj h
    subst h
    exact a_sub [2, 1, 0] (hK) rfl
noncomputable def f_X5_digest  (M : Mem) : Option (Int64 × Mem) :=
  Option.bind (loop (fun s2 : Int64 × Int32 × Mem => f_X5_digest_6_6b s2.1 s2.2.1 s2.2.2) ((17 : Int64), (0 : Int32), M)) (fun s3 => Option.bind (loop (fun s5 : Int64 × Int32 => f_X5_digest_33_33b s5.1 s5.2 s3.2.2) (s3.1, (0 : Int32))) (fun s6 => Option.bind (loop (fun s8 : Int64 × Int32 × Mem => f_X5_digest_59_59b s8.1 s8.2.1 s8.2.2) (s6.1, (0 : Int32), s3.2.2)) (fun s9 => Option.bind (loop (fun s20 : Int64 × Int32 × Mem => f_X5_digest_85_85b s20.1 s20.2.1 s20.2.2) (s9.1, (0 : Int32), s9.2.2)) (fun s21 => Option.bind (f_X5_astray s21.2.2) (fun r22 => Option.bind (f_X5_crowd r22.2) (fun r23 => Option.bind (loop (fun s25 : Int64 × Int32 × Mem => f_X5_digest_264_264b s25.1 s25.2.1 s25.2.2) ((((31 : Int64) * (((31 : Int64) * s21.1) + (r22.1).toInt64)) + (r23.1).toInt64), (0 : Int32), r23.2)) (fun s26 => Option.bind (f_X5_refuse (-1 : Int32) s26.2.2) (fun r27 => Option.bind (f_X5_refuse (0 : Int32) r27.2) (fun r28 => Option.bind (f_X5_never r28.2) (fun r29 => Option.bind (f_X5_year (7 : Int32) (6 : Int32) (0 : Int32) r29.2) (fun r30 => Option.bind (f_X5_year (7 : Int32) (6 : Int32) (1 : Int32) r30.2) (fun r31 => some ((((31 : Int64) * (((31 : Int64) * (((31 : Int64) * (((31 : Int64) * (((31 : Int64) * s26.1) + (r27.1).toInt64)) + (r28.1).toInt64)) + (r29.1).toInt64)) + (r30.1).toInt64)) + (r31.1).toInt64), r31.2)))))))))))))
theorem t_X5_digest {Y : EY} {X : CX} (C : CK Y X cX5_digest RX5 4 (some .long) rm_X5_digest)  {M : Mem}  {res : Int64 × Mem} (h : f_X5_digest M = some res) (hK : RK Y X (some (.long res.1)) res.2) : AW Y X 4 0 [(0, .ref (Y.2.2.2.1 0))] [] M := by
  unfold f_X5_digest at h
  refine a_ldc2 C dX5_digest_0 co_X5_274 ?_
  refine a_lstore_n (lv' := [(1, _), (0, _)]) C dX5_digest_3 rfl (by decide) rfl ?_
  refine a_iconst (v := 0) C dX5_digest_4 (by decide) ?_
  refine a_istore_n (lv' := [(3, _), (1, _), (0, _)]) C dX5_digest_5 rfl (by decide) rfl ?_
  obtain ⟨s3, hl, h⟩ := bd_some h
  have hE : Ex_X5_digest_6 Y X s3 := by
    refine a_iconst (v := 0) C dX5_digest_31 (by decide) ?_
    refine a_istore_n (lv' := [(3, _), (0, _), (1, _)]) C dX5_digest_32 rfl (by decide) rfl ?_
    obtain ⟨s6, hl, h⟩ := bd_some h
    have hE : Ex_X5_digest_33 Y X s3.2.2 s6 := by
      refine a_iconst (v := 0) C dX5_digest_57 (by decide) ?_
      refine a_istore_n (lv' := [(3, _), (0, _), (1, _)]) C dX5_digest_58 rfl (by decide) rfl ?_
      obtain ⟨s9, hl, h⟩ := bd_some h
      have hE : Ex_X5_digest_59 Y X s9 := by
        refine a_iconst (v := 0) C dX5_digest_83 (by decide) ?_
        refine a_istore_n (lv' := [(3, _), (0, _), (1, _)]) C dX5_digest_84 rfl (by decide) rfl ?_
        obtain ⟨s21, hl, h⟩ := bd_some h
        have hE : Ex_X5_digest_85 Y X s21 := by
          refine a_ldc2 C dX5_digest_238 co_X5_276 ?_
          refine a_lload_n C dX5_digest_241 1 rfl ?_
          refine a_lmul C dX5_digest_242 ?_
          refine a_aload_n C dX5_digest_243 0 rfl ?_
          obtain ⟨r22, hcr22, h⟩ := bd_some h
          refine a_callVi C dX5_digest_244 lv_X5_271 lm_X5_astray ⟨rfl, rfl, by decide, by decide⟩ Kc_0 (m_X5_astray C.2.2.2.2.2.2.1 hcr22) rfl rfl (Nat.le_of_ble_eq_true rfl) ?_
          refine a_i2l C dX5_digest_247 ?_
          refine a_ladd C dX5_digest_248 ?_
          refine a_lstore_n (lv' := [(1, _), (0, _)]) C dX5_digest_249 rfl (by decide) rfl ?_
          refine a_ldc2 C dX5_digest_250 co_X5_276 ?_
          refine a_lload_n C dX5_digest_253 0 rfl ?_
          refine a_lmul C dX5_digest_254 ?_
          refine a_aload_n C dX5_digest_255 1 rfl ?_
          obtain ⟨r23, hcr23, h⟩ := bd_some h
          refine a_callVi C dX5_digest_256 lv_X5_311 lm_X5_crowd ⟨rfl, rfl, by decide, by decide⟩ Kc_0 (m_X5_crowd C.2.2.2.2.2.2.1 hcr23) rfl rfl (Nat.le_of_ble_eq_true rfl) ?_
          refine a_i2l C dX5_digest_259 ?_
          refine a_ladd C dX5_digest_260 ?_
          refine a_lstore_n (lv' := [(1, _), (0, _)]) C dX5_digest_261 rfl (by decide) rfl ?_
          refine a_iconst (v := 0) C dX5_digest_262 (by decide) ?_
          refine a_istore_n (lv' := [(3, _), (1, _), (0, _)]) C dX5_digest_263 rfl (by decide) rfl ?_
          obtain ⟨s26, hl, h⟩ := bd_some h
          have hE : Ex_X5_digest_264 Y X s26 := by
            refine a_ldc2 C dX5_digest_288 co_X5_276 ?_
            refine a_lload_n C dX5_digest_291 1 rfl ?_
            refine a_lmul C dX5_digest_292 ?_
            refine a_aload_n C dX5_digest_293 0 rfl ?_
            refine a_iconst (v := -1) C dX5_digest_294 (by decide) ?_
            obtain ⟨r27, hcr27, h⟩ := bd_some h
            refine a_callVi C dX5_digest_295 lv_X5_317 lm_X5_refuse ⟨rfl, rfl, by decide, by decide⟩ Kc_0 (m_X5_refuse C.2.2.2.2.2.2.1 hcr27) rfl rfl (Nat.le_of_ble_eq_true rfl) ?_
            refine a_i2l C dX5_digest_298 ?_
            refine a_ladd C dX5_digest_299 ?_
            refine a_lstore_n (lv' := [(1, _), (0, _)]) C dX5_digest_300 rfl (by decide) rfl ?_
            refine a_ldc2 C dX5_digest_301 co_X5_276 ?_
            refine a_lload_n C dX5_digest_304 0 rfl ?_
            refine a_lmul C dX5_digest_305 ?_
            refine a_aload_n C dX5_digest_306 1 rfl ?_
            refine a_iconst (v := 0) C dX5_digest_307 (by decide) ?_
            obtain ⟨r28, hcr28, h⟩ := bd_some h
            refine a_callVi C dX5_digest_308 lv_X5_317 lm_X5_refuse ⟨rfl, rfl, by decide, by decide⟩ Kc_0 (m_X5_refuse C.2.2.2.2.2.2.1 hcr28) rfl rfl (Nat.le_of_ble_eq_true rfl) ?_
            refine a_i2l C dX5_digest_311 ?_
            refine a_ladd C dX5_digest_312 ?_
            refine a_lstore_n (lv' := [(1, _), (0, _)]) C dX5_digest_313 rfl (by decide) rfl ?_
            refine a_ldc2 C dX5_digest_314 co_X5_276 ?_
            refine a_lload_n C dX5_digest_317 0 rfl ?_
            refine a_lmul C dX5_digest_318 ?_
            refine a_aload_n C dX5_digest_319 1 rfl ?_
            obtain ⟨r29, hcr29, h⟩ := bd_some h
            refine a_callVi C dX5_digest_320 lv_X5_320 lm_X5_never ⟨rfl, rfl, by decide, by decide⟩ Kc_0 (m_X5_never C.2.2.2.2.2.2.1 hcr29) rfl rfl (Nat.le_of_ble_eq_true rfl) ?_
            refine a_i2l C dX5_digest_323 ?_
            refine a_ladd C dX5_digest_324 ?_
            refine a_lstore_n (lv' := [(1, _), (0, _)]) C dX5_digest_325 rfl (by decide) rfl ?_
            refine a_ldc2 C dX5_digest_326 co_X5_276 ?_
            refine a_lload_n C dX5_digest_329 0 rfl ?_
            refine a_lmul C dX5_digest_330 ?_
            refine a_aload_n C dX5_digest_331 1 rfl ?_
            refine a_bipush (v := 7) C dX5_digest_332 (by decide) ?_
            refine a_bipush (v := 6) C dX5_digest_334 (by decide) ?_
            refine a_iconst (v := 0) C dX5_digest_336 (by decide) ?_
            obtain ⟨r30, hcr30, h⟩ := bd_some h
            refine a_callVi C dX5_digest_337 lv_X5_323 lm_X5_year ⟨rfl, rfl, by decide, by decide⟩ Kc_0 (m_X5_year C.2.2.2.2.2.2.1 hcr30) rfl rfl (Nat.le_of_ble_eq_true rfl) ?_
            refine a_i2l C dX5_digest_340 ?_
            refine a_ladd C dX5_digest_341 ?_
            refine a_lstore_n (lv' := [(1, _), (0, _)]) C dX5_digest_342 rfl (by decide) rfl ?_
            refine a_ldc2 C dX5_digest_343 co_X5_276 ?_
            refine a_lload_n C dX5_digest_346 0 rfl ?_
            refine a_lmul C dX5_digest_347 ?_
            refine a_aload_n C dX5_digest_348 1 rfl ?_
            refine a_bipush (v := 7) C dX5_digest_349 (by decide) ?_
            refine a_bipush (v := 6) C dX5_digest_351 (by decide) ?_
            refine a_iconst (v := 1) C dX5_digest_353 (by decide) ?_
            obtain ⟨r31, hcr31, h⟩ := bd_some h
            refine a_callVi C dX5_digest_354 lv_X5_323 lm_X5_year ⟨rfl, rfl, by decide, by decide⟩ Kc_0 (m_X5_year C.2.2.2.2.2.2.1 hcr31) rfl rfl (Nat.le_of_ble_eq_true rfl) ?_
            refine a_i2l C dX5_digest_357 ?_
            refine a_ladd C dX5_digest_358 ?_
            replace h := Option.some.inj h
            subst h
            exact a_lret C dX5_digest_359 hK
          have hA := aw_loop (At_X5_digest_264 Y X) (Ex_X5_digest_264 Y X) (fun _ _ hb hk => t_X5_digest_264_264b C hb hk) hl hE
          exact a_sub [2, 1, 0] (hA) rfl
        have hA := aw_loop (At_X5_digest_85 Y X) (Ex_X5_digest_85 Y X) (fun _ _ hb hk => t_X5_digest_85_85b C hb hk) hl hE
        exact a_sub [1, 2, 0] (hA) rfl
      have hA := aw_loop (At_X5_digest_59 Y X) (Ex_X5_digest_59 Y X) (fun _ _ hb hk => t_X5_digest_59_59b C hb hk) hl hE
      exact a_sub [1, 2, 0] (hA) rfl
    have hA := aw_loop (At_X5_digest_33 Y X s3.2.2) (Ex_X5_digest_33 Y X s3.2.2) (fun _ _ hb hk => t_X5_digest_33_33b C hb hk) hl hE
    exact a_sub [1, 2, 0] (hA) rfl
  have hA := aw_loop (At_X5_digest_6 Y X) (Ex_X5_digest_6 Y X) (fun _ _ hb hk => t_X5_digest_6_6b C hb hk) hl hE
  exact a_sub [2, 1, 0] (hA) rfl
theorem m_X5_digest {Y : EY} (hY : HY Y)  {M : Mem}  {r : Int64 × Mem} (h : f_X5_digest M = some r) : MX Y yX5_digest cX5_digest 4 (some .long) rm_X5_digest [.ref (Y.2.2.2.1 0)] M (some (.long r.1)) r.2 := MX.of hY (by decide) (Nat.le_of_ble_eq_true rfl) (fun _ hR C => a_sub [0] (t_X5_digest C  h hR) rfl)
