abbrev rm_X6_read : Room := { frames := 3, cells := 0, slots := 0, locals := 68 }
abbrev At_X6_read_29 (Y : EY) (X : CX) (x1 : Int32) (s : Int32 × Int32 × Mem) : Prop := AW Y X 5 29 [(0, .ref (Y.2.2.2.1 49)), (1, .int x1), (2, .int s.1), (3, .int s.2.1)] [] s.2.2
abbrev Ex_X6_read_29 (Y : EY) (X : CX) (x1 : Int32) (s : Int32 × Int32 × Mem) : Prop := AW Y X 5 110 [(2, .int s.1)] [] s.2.2
noncomputable def f_X6_read_105_29 (x1 : Int32) (x3 : Int32) (t0 : Int32) (t1 : Int32) (M : Mem) : Option ((Int32 × Int32 × Mem) ⊕ (Int32 × Int32 × Mem)) :=
  some (.inl ((t0 + t1), x3, M))
theorem t_X6_read_105_29 {Y : EY} {X : CX} (C : CK Y X cX6_read RX6 5 (some .int) rm_X6_read) {x1 : Int32} {x3 : Int32} {t0 : Int32} {t1 : Int32} {M : Mem}  {res : (Int32 × Int32 × Mem) ⊕ (Int32 × Int32 × Mem)} (h : f_X6_read_105_29 x1 x3 t0 t1 M = some res) (hK : KL (At_X6_read_29 Y X x1) (Ex_X6_read_29 Y X x1) res) : AW Y X 5 105 [(0, .ref (Y.2.2.2.1 49)), (1, .int x1), (3, .int x3)] [.int t1, .int t0] M := by
  unfold f_X6_read_105_29 at h
  refine a_iadd C dX6_read_105 ?_
  refine a_istore_n (lv' := [(2, _), (0, _), (1, _), (3, _)]) C dX6_read_106 rfl (by decide) rfl ?_
  refine a_goto (tgt := 29) C dX6_read_107 (by decide) ?_
  replace h := Option.some.inj h
  subst h
  exact a_sub [1, 2, 0, 3] (hK) rfl
noncomputable def f_X6_read_94_29 (x1 : Int32) (x2 : Int32) (t0 : Int32) (M : Mem) : Option ((Int32 × Int32 × Mem) ⊕ (Int32 × Int32 × Mem)) :=
  (if t0 = 0 then f_X6_read_105_29 x1 t0 x2 (0 : Int32) M else f_X6_read_105_29 x1 t0 x2 (1 : Int32) M)
theorem t_X6_read_94_29 {Y : EY} {X : CX} (C : CK Y X cX6_read RX6 5 (some .int) rm_X6_read) {x1 : Int32} {x2 : Int32} {t0 : Int32} {M : Mem}  {res : (Int32 × Int32 × Mem) ⊕ (Int32 × Int32 × Mem)} (h : f_X6_read_94_29 x1 x2 t0 M = some res) (hK : KL (At_X6_read_29 Y X x1) (Ex_X6_read_29 Y X x1) res) : AW Y X 5 94 [(0, .ref (Y.2.2.2.1 49)), (1, .int x1), (2, .int x2)] [.int t0] M := by
  unfold f_X6_read_94_29 at h
  refine a_istore_n (lv' := [(3, _), (0, _), (1, _), (2, _)]) C dX6_read_94 rfl (by decide) rfl ?_
  refine a_iload_n C dX6_read_95 3 rfl ?_
  refine a_iload_n C dX6_read_96 0 rfl ?_
  refine a_if_eq (tgt := 104) C dX6_read_97 (by decide) (fun hc => ?_) (fun hc => ?_)
  · replace h := ip hc h
    refine a_iconst (v := 0) C dX6_read_104 (by decide) ?_
    exact a_sub [1, 2, 0] (t_X6_read_105_29 C h hK) rfl
  · replace h := iq hc h
    refine a_iconst (v := 1) C dX6_read_100 (by decide) ?_
    refine a_goto (tgt := 105) C dX6_read_101 (by decide) ?_
    exact a_sub [1, 2, 0] (t_X6_read_105_29 C h hK) rfl
noncomputable def f_X6_read_29_29b (x1 : Int32) (x2 : Int32) (x3 : Int32) (M : Mem) : Option ((Int32 × Int32 × Mem) ⊕ (Int32 × Int32 × Mem)) :=
  (if x3 = 0 then some (.inr (x2, x3, M)) else ck (inb x1 4) ((if (M 51 (x1).toNatClampNeg) < (((3 : Int32) * x2) + (3 : Int32)) then some (.inr (x2, x3, M)) else ck (inb (((60 : Int32) * x1) + ((3 : Int32) * x2)) 240) (ck (inb ((((60 : Int32) * x1) + ((3 : Int32) * x2)) + (1 : Int32)) 240) (ck (inb ((((60 : Int32) * x1) + ((3 : Int32) * x2)) + (2 : Int32)) 240) (Option.bind (f_X6_hire (M 52 ((((60 : Int32) * x1) + ((3 : Int32) * x2))).toNatClampNeg) (M 52 (((((60 : Int32) * x1) + ((3 : Int32) * x2)) + (1 : Int32))).toNatClampNeg) (M 52 (((((60 : Int32) * x1) + ((3 : Int32) * x2)) + (2 : Int32))).toNatClampNeg) M) (fun r2 => (if r2.1 < 0 then f_X6_read_94_29 x1 x2 (0 : Int32) r2.2 else f_X6_read_94_29 x1 x2 (1 : Int32) r2.2))))))))
theorem t_X6_read_29_29b {Y : EY} {X : CX} (C : CK Y X cX6_read RX6 5 (some .int) rm_X6_read) {x1 : Int32} {x2 : Int32} {x3 : Int32} {M : Mem}  {res : (Int32 × Int32 × Mem) ⊕ (Int32 × Int32 × Mem)} (h : f_X6_read_29_29b x1 x2 x3 M = some res) (hK : KL (At_X6_read_29 Y X x1) (Ex_X6_read_29 Y X x1) res) : AW Y X 5 29 [(0, .ref (Y.2.2.2.1 49)), (1, .int x1), (2, .int x2), (3, .int x3)] [] M := by
  unfold f_X6_read_29_29b at h
  refine a_iload_n C dX6_read_29 3 rfl ?_
  refine a_if_eq (tgt := 110) C dX6_read_30 (by decide) (fun hc => ?_) (fun hc => ?_)
  · replace h := ip hc h
    replace h := Option.some.inj h
    subst h
    exact a_sub [2] (hK) rfl
  · replace h := iq hc h
    refine a_iconst (v := 3) C dX6_read_33 (by decide) ?_
    refine a_iload_n C dX6_read_34 2 rfl ?_
    refine a_imul C dX6_read_35 ?_
    refine a_iconst (v := 3) C dX6_read_36 (by decide) ?_
    refine a_iadd C dX6_read_37 ?_
    refine a_aload_n C dX6_read_38 0 rfl ?_
    refine a_getr (k1 := 51) C dX6_read_39 fl_X6_13 rfl Kc_49 rfl ?_
    refine a_iload_n C dX6_read_42 1 rfl ?_
    obtain ⟨hb, h⟩ := ck_some h
    refine a_iald C dX6_read_43 Kc_51 rfl hb ?_
    refine a_icmp_gt (tgt := 110) C dX6_read_44 (by decide) (fun hc => ?_) (fun hc => ?_)
    · replace h := ip hc h
      replace h := Option.some.inj h
      subst h
      exact a_sub [2] (hK) rfl
    · replace h := iq hc h
      refine a_bipush (v := 60) C dX6_read_47 (by decide) ?_
      refine a_iload_n C dX6_read_49 1 rfl ?_
      refine a_imul C dX6_read_50 ?_
      refine a_iconst (v := 3) C dX6_read_51 (by decide) ?_
      refine a_iload_n C dX6_read_52 2 rfl ?_
      refine a_imul C dX6_read_53 ?_
      refine a_iadd C dX6_read_54 ?_
      refine a_istore (lv' := [(4, _), (0, _), (1, _), (2, _), (3, _)]) C dX6_read_55 (by decide) rfl ?_
      refine a_aload_n C dX6_read_57 1 rfl ?_
      refine a_aload_n C dX6_read_58 1 rfl ?_
      refine a_getr (k1 := 52) C dX6_read_59 fl_X6_16 rfl Kc_49 rfl ?_
      refine a_iload C dX6_read_62 0 rfl ?_
      obtain ⟨hb, h⟩ := ck_some h
      refine a_iald C dX6_read_64 Kc_52 rfl hb ?_
      refine a_aload_n C dX6_read_65 1 rfl ?_
      refine a_getr (k1 := 52) C dX6_read_66 fl_X6_16 rfl Kc_49 rfl ?_
      refine a_iload C dX6_read_69 0 rfl ?_
      refine a_iconst (v := 1) C dX6_read_71 (by decide) ?_
      refine a_iadd C dX6_read_72 ?_
      obtain ⟨hb, h⟩ := ck_some h
      refine a_iald C dX6_read_73 Kc_52 rfl hb ?_
      refine a_aload_n C dX6_read_74 1 rfl ?_
      refine a_getr (k1 := 52) C dX6_read_75 fl_X6_16 rfl Kc_49 rfl ?_
      refine a_iload C dX6_read_78 0 rfl ?_
      refine a_iconst (v := 2) C dX6_read_80 (by decide) ?_
      refine a_iadd C dX6_read_81 ?_
      obtain ⟨hb, h⟩ := ck_some h
      refine a_iald C dX6_read_82 Kc_52 rfl hb ?_
      obtain ⟨r2, hcr2, h⟩ := bd_some h
      refine a_callVi C dX6_read_83 lv_X6_165 lm_X6_hire ⟨rfl, rfl, by decide, by decide⟩ Kc_49 (m_X6_hire C.2.2.2.2.2.2.1 hcr2) rfl rfl (Nat.le_of_ble_eq_true rfl) ?_
      refine a_if_lt (tgt := 93) C dX6_read_86 (by decide) (fun hc => ?_) (fun hc => ?_)
      · replace h := ip hc h
        refine a_iconst (v := 0) C dX6_read_93 (by decide) ?_
        exact a_sub [1, 2, 3] (t_X6_read_94_29 C h hK) rfl
      · replace h := iq hc h
        refine a_iconst (v := 1) C dX6_read_89 (by decide) ?_
        refine a_goto (tgt := 94) C dX6_read_90 (by decide) ?_
        exact a_sub [1, 2, 3] (t_X6_read_94_29 C h hK) rfl
noncomputable def f_X6_read (x1 : Int32) (M : Mem) : Option (Int32 × Mem) :=
  Option.bind (f_X6_isSheet x1) (fun r1 => (if r1 = 0 then some ((-2 : Int32), M) else ck (inb x1 4) ((if 0 ≤ (M 50 (x1).toNatClampNeg) then Option.bind (loop (fun s3 : Int32 × Int32 × Mem => f_X6_read_29_29b x1 s3.1 s3.2.1 s3.2.2) ((0 : Int32), (1 : Int32), M)) (fun s4 => some (s4.1, s4.2.2)) else Option.bind (f_X6_finds (1 : Int32) M) (fun r5 => some (r5.1, r5.2))))))
theorem t_X6_read {Y : EY} {X : CX} (C : CK Y X cX6_read RX6 5 (some .int) rm_X6_read) {x1 : Int32} {M : Mem}  {res : Int32 × Mem} (h : f_X6_read x1 M = some res) (hK : RK Y X (some (.int res.1)) res.2) : AW Y X 5 0 [(0, .ref (Y.2.2.2.1 49)), (1, .int x1)] [] M := by
  unfold f_X6_read at h
  refine a_iload_n C dX6_read_0 1 rfl ?_
  obtain ⟨r1, hcr1, h⟩ := bd_some h
  refine a_callSi C dX6_read_1 ls_X6_88 lm_X6_isSheet ⟨rfl, rfl, by decide, by decide⟩ (m_X6_isSheet C.2.2.2.2.2.2.1 hcr1) rfl rfl (Nat.le_of_ble_eq_true rfl) ?_
  refine a_if_ne (tgt := 10) C dX6_read_4 (by decide) (fun hc => ?_) (fun hc => ?_)
  · replace h := iq hc h
    refine a_aload_n C dX6_read_10 0 rfl ?_
    refine a_getr (k1 := 50) C dX6_read_11 fl_X6_7 rfl Kc_49 rfl ?_
    refine a_iload_n C dX6_read_14 1 rfl ?_
    obtain ⟨hb, h⟩ := ck_some h
    refine a_iald C dX6_read_15 Kc_50 rfl hb ?_
    refine a_if_ge (tgt := 25) C dX6_read_16 (by decide) (fun hc => ?_) (fun hc => ?_)
    · replace h := ip hc h
      refine a_iconst (v := 0) C dX6_read_25 (by decide) ?_
      refine a_istore_n (lv' := [(2, _), (0, _), (1, _)]) C dX6_read_26 rfl (by decide) rfl ?_
      refine a_iconst (v := 1) C dX6_read_27 (by decide) ?_
      refine a_istore_n (lv' := [(3, _), (2, _), (0, _), (1, _)]) C dX6_read_28 rfl (by decide) rfl ?_
      obtain ⟨s4, hl, h⟩ := bd_some h
      have hE : Ex_X6_read_29 Y X x1 s4 := by
        refine a_iload_n C dX6_read_110 0 rfl ?_
        replace h := Option.some.inj h
        subst h
        exact a_iret C dX6_read_111 hK
      have hA := aw_loop (At_X6_read_29 Y X x1) (Ex_X6_read_29 Y X x1) (fun _ _ hb hk => t_X6_read_29_29b C hb hk) hl hE
      exact a_sub [2, 3, 1, 0] (hA) rfl
    · replace h := iq hc h
      refine a_aload_n C dX6_read_19 0 rfl ?_
      refine a_iconst (v := 1) C dX6_read_20 (by decide) ?_
      obtain ⟨r5, hcr5, h⟩ := bd_some h
      refine a_callVi C dX6_read_21 lv_X6_94 lm_X6_finds ⟨rfl, rfl, by decide, by decide⟩ Kc_49 (m_X6_finds C.2.2.2.2.2.2.1 hcr5) rfl rfl (Nat.le_of_ble_eq_true rfl) ?_
      replace h := Option.some.inj h
      subst h
      exact a_iret C dX6_read_24 hK
  · replace h := ip hc h
    refine a_bipush (v := -2) C dX6_read_7 (by decide) ?_
    replace h := Option.some.inj h
    subst h
    exact a_iret C dX6_read_9 hK
theorem m_X6_read {Y : EY} (hY : HY Y) {x1 : Int32} {M : Mem}  {r : Int32 × Mem} (h : f_X6_read x1 M = some r) : MX Y yX6_read cX6_read 5 (some .int) rm_X6_read [.ref (Y.2.2.2.1 49), .int x1] M (some (.int r.1)) r.2 := MX.of hY (by decide) (Nat.le_of_ble_eq_true rfl) (fun _ hR C => a_sub [0, 1] (t_X6_read C  h hR) rfl)
abbrev rm_X6_isWorn : Room := { frames := 0, cells := 0, slots := 0, locals := 0 }
abbrev At_X6_isWorn_4 (Y : EY) (X : CX) (x1 : Int32) (M : Mem) (s : Int32 × Int32) : Prop := AW Y X 4 4 [(0, .ref (Y.2.2.2.1 49)), (1, .int x1), (2, .int s.1), (3, .int s.2)] [] M
abbrev Ex_X6_isWorn_4 (Y : EY) (X : CX) (x1 : Int32) (M : Mem) (s : Int32 × Int32) : Prop := AW Y X 4 38 [(2, .int s.1)] [] M
noncomputable def f_X6_isWorn_31_4 (x1 : Int32) (x3 : Int32) (t0 : Int32) (M : Mem) : Option ((Int32 × Int32) ⊕ (Int32 × Int32)) :=
  some (.inl (t0, (x3 + (1 : Int32))))
theorem t_X6_isWorn_31_4 {Y : EY} {X : CX} (C : CK Y X cX6_isWorn RX6 4 (some .boolean) rm_X6_isWorn) {x1 : Int32} {x3 : Int32} {t0 : Int32} {M : Mem}  {res : (Int32 × Int32) ⊕ (Int32 × Int32)} (h : f_X6_isWorn_31_4 x1 x3 t0 M = some res) (hK : KL (At_X6_isWorn_4 Y X x1 M) (Ex_X6_isWorn_4 Y X x1 M) res) : AW Y X 4 31 [(0, .ref (Y.2.2.2.1 49)), (1, .int x1), (3, .int x3)] [.int t0] M := by
  unfold f_X6_isWorn_31_4 at h
  refine a_istore_n (lv' := [(2, _), (0, _), (1, _), (3, _)]) C dX6_isWorn_31 rfl (by decide) rfl ?_
  refine a_iinc (v := 1) (lv' := [(3, _), (2, _), (0, _), (1, _)]) C dX6_isWorn_32 3 rfl (by decide) (by decide) rfl ?_
  refine a_goto (tgt := 4) C dX6_isWorn_35 (by decide) ?_
  replace h := Option.some.inj h
  subst h
  exact a_sub [2, 3, 1, 0] (hK) rfl
noncomputable def f_X6_isWorn_26_4 (x1 : Int32) (x3 : Int32) (M : Mem) : Option ((Int32 × Int32) ⊕ (Int32 × Int32)) :=
  f_X6_isWorn_31_4 x1 x3 (1 : Int32) M
theorem t_X6_isWorn_26_4 {Y : EY} {X : CX} (C : CK Y X cX6_isWorn RX6 4 (some .boolean) rm_X6_isWorn) {x1 : Int32} {x3 : Int32} {M : Mem}  {res : (Int32 × Int32) ⊕ (Int32 × Int32)} (h : f_X6_isWorn_26_4 x1 x3 M = some res) (hK : KL (At_X6_isWorn_4 Y X x1 M) (Ex_X6_isWorn_4 Y X x1 M) res) : AW Y X 4 26 [(0, .ref (Y.2.2.2.1 49)), (1, .int x1), (3, .int x3)] [] M := by
  unfold f_X6_isWorn_26_4 at h
  refine a_iconst (v := 1) C dX6_isWorn_26 (by decide) ?_
  refine a_goto (tgt := 31) C dX6_isWorn_27 (by decide) ?_
  exact a_sub [0, 1, 2] (t_X6_isWorn_31_4 C h hK) rfl
noncomputable def f_X6_isWorn_4_4b (x1 : Int32) (x2 : Int32) (x3 : Int32) (M : Mem) : Option ((Int32 × Int32) ⊕ (Int32 × Int32)) :=
  (if (M 49 9) ≤ x3 then some (.inr (x2, x3)) else (if x2 = 0 then ck (inb x3 8) ((if (M 61 (x3).toNatClampNeg) = x1 then f_X6_isWorn_26_4 x1 x3 M else f_X6_isWorn_31_4 x1 x3 (0 : Int32) M)) else f_X6_isWorn_26_4 x1 x3 M))
theorem t_X6_isWorn_4_4b {Y : EY} {X : CX} (C : CK Y X cX6_isWorn RX6 4 (some .boolean) rm_X6_isWorn) {x1 : Int32} {x2 : Int32} {x3 : Int32} {M : Mem}  {res : (Int32 × Int32) ⊕ (Int32 × Int32)} (h : f_X6_isWorn_4_4b x1 x2 x3 M = some res) (hK : KL (At_X6_isWorn_4 Y X x1 M) (Ex_X6_isWorn_4 Y X x1 M) res) : AW Y X 4 4 [(0, .ref (Y.2.2.2.1 49)), (1, .int x1), (2, .int x2), (3, .int x3)] [] M := by
  unfold f_X6_isWorn_4_4b at h
  refine a_iload_n C dX6_isWorn_4 3 rfl ?_
  refine a_aload_n C dX6_isWorn_5 0 rfl ?_
  refine a_geti C dX6_isWorn_6 fl_X6_124 rfl Kc_49 ?_
  refine a_icmp_ge (tgt := 38) C dX6_isWorn_9 (by decide) (fun hc => ?_) (fun hc => ?_)
  · replace h := ip hc h
    replace h := Option.some.inj h
    subst h
    exact a_sub [2] (hK) rfl
  · replace h := iq hc h
    refine a_iload_n C dX6_isWorn_12 2 rfl ?_
    refine a_if_ne (tgt := 26) C dX6_isWorn_13 (by decide) (fun hc => ?_) (fun hc => ?_)
    · replace h := iq hc h
      exact a_sub [0, 1, 3] (t_X6_isWorn_26_4 C h hK) rfl
    · replace h := ip hc h
      refine a_aload_n C dX6_isWorn_16 0 rfl ?_
      refine a_getr (k1 := 61) C dX6_isWorn_17 fl_X6_43 rfl Kc_49 rfl ?_
      refine a_iload_n C dX6_isWorn_20 3 rfl ?_
      obtain ⟨hb, h⟩ := ck_some h
      refine a_iald C dX6_isWorn_21 Kc_61 rfl hb ?_
      refine a_iload_n C dX6_isWorn_22 1 rfl ?_
      refine a_icmp_ne (tgt := 30) C dX6_isWorn_23 (by decide) (fun hc => ?_) (fun hc => ?_)
      · replace h := iq hc h
        refine a_iconst (v := 0) C dX6_isWorn_30 (by decide) ?_
        exact a_sub [0, 1, 3] (t_X6_isWorn_31_4 C h hK) rfl
      · replace h := ip hc h
        exact a_sub [0, 1, 3] (t_X6_isWorn_26_4 C h hK) rfl
noncomputable def f_X6_isWorn (x1 : Int32) (M : Mem) : Option (Int32) :=
  Option.bind (loop (fun s1 : Int32 × Int32 => f_X6_isWorn_4_4b x1 s1.1 s1.2 M) ((0 : Int32), (0 : Int32))) (fun s2 => ck (isB s2.1) (some s2.1))
theorem t_X6_isWorn {Y : EY} {X : CX} (C : CK Y X cX6_isWorn RX6 4 (some .boolean) rm_X6_isWorn) {x1 : Int32} {M : Mem}  {res : Int32} (h : f_X6_isWorn x1 M = some res) (hK : RK Y X (some (.int res)) M) : AW Y X 4 0 [(0, .ref (Y.2.2.2.1 49)), (1, .int x1)] [] M := by
  unfold f_X6_isWorn at h
  refine a_iconst (v := 0) C dX6_isWorn_0 (by decide) ?_
  refine a_istore_n (lv' := [(2, _), (0, _), (1, _)]) C dX6_isWorn_1 rfl (by decide) rfl ?_
  refine a_iconst (v := 0) C dX6_isWorn_2 (by decide) ?_
  refine a_istore_n (lv' := [(3, _), (2, _), (0, _), (1, _)]) C dX6_isWorn_3 rfl (by decide) rfl ?_
  obtain ⟨s2, hl, h⟩ := bd_some h
  have hE : Ex_X6_isWorn_4 Y X x1 M s2 := by
    refine a_iload_n C dX6_isWorn_38 0 rfl ?_
    obtain ⟨hb, h⟩ := ck_some h
    replace h := Option.some.inj h
    subst h
    exact a_zret C dX6_isWorn_39 hb hK
  have hA := aw_loop (At_X6_isWorn_4 Y X x1 M) (Ex_X6_isWorn_4 Y X x1 M) (fun _ _ hb hk => t_X6_isWorn_4_4b C hb hk) hl hE
  exact a_sub [2, 3, 1, 0] (hA) rfl
theorem m_X6_isWorn {Y : EY} (hY : HY Y) {x1 : Int32} {M : Mem}  {r : Int32} (h : f_X6_isWorn x1 M = some r) : MX Y yX6_isWorn cX6_isWorn 4 (some .boolean) rm_X6_isWorn [.ref (Y.2.2.2.1 49), .int x1] M (some (.int r)) M := MX.of hY (by decide) (Nat.le_of_ble_eq_true rfl) (fun _ hR C => a_sub [0, 1] (t_X6_isWorn C  h hR) rfl)
abbrev rm_X6_towards : Room := { frames := 1, cells := 0, slots := 0, locals := 21 }
noncomputable def f_X6_towards (x0 : Int32) (x1 : Int32) (x2 : Int32) : Option (Int32) :=
  (if x1 ≤ x0 then Option.bind (f_X6_greater (x0 - x2) x1) (fun r1 => some r1) else Option.bind (f_X6_lesser (x0 + x2) x1) (fun r2 => some r2))
theorem t_X6_towards {Y : EY} {X : CX} (C : CK Y X cX6_towards RX6 3 (some .int) rm_X6_towards) {x0 : Int32} {x1 : Int32} {x2 : Int32} {M : Mem}  {res : Int32} (h : f_X6_towards x0 x1 x2 = some res) (hK : RK Y X (some (.int res)) M) : AW Y X 3 0 [(0, .int x0), (1, .int x1), (2, .int x2)] [] M := by
  unfold f_X6_towards at h
  refine a_iload_n C dX6_towards_0 0 rfl ?_
  refine a_iload_n C dX6_towards_1 1 rfl ?_
  refine a_icmp_ge (tgt := 15) C dX6_towards_2 (by decide) (fun hc => ?_) (fun hc => ?_)
  · replace h := ip hc h
    refine a_iload_n C dX6_towards_15 0 rfl ?_
    refine a_iload_n C dX6_towards_16 2 rfl ?_
    refine a_isub C dX6_towards_17 ?_
    refine a_iload_n C dX6_towards_18 1 rfl ?_
    obtain ⟨r1, hcr1, h⟩ := bd_some h
    refine a_callSi C dX6_towards_19 ls_X6_171 lm_X6_greater ⟨rfl, rfl, by decide, by decide⟩ (m_X6_greater C.2.2.2.2.2.2.1 hcr1) rfl rfl (Nat.le_of_ble_eq_true rfl) ?_
    replace h := Option.some.inj h
    subst h
    exact a_iret C dX6_towards_22 hK
  · replace h := iq hc h
    refine a_iload_n C dX6_towards_5 0 rfl ?_
    refine a_iload_n C dX6_towards_6 2 rfl ?_
    refine a_iadd C dX6_towards_7 ?_
    refine a_iload_n C dX6_towards_8 1 rfl ?_
    obtain ⟨r2, hcr2, h⟩ := bd_some h
    refine a_callSi C dX6_towards_9 ls_X6_168 lm_X6_lesser ⟨rfl, rfl, by decide, by decide⟩ (m_X6_lesser C.2.2.2.2.2.2.1 hcr2) rfl rfl (Nat.le_of_ble_eq_true rfl) ?_
    refine a_goto (tgt := 22) C dX6_towards_12 (by decide) ?_
    replace h := Option.some.inj h
    subst h
    exact a_iret C dX6_towards_22 hK
theorem m_X6_towards {Y : EY} (hY : HY Y) {x0 : Int32} {x1 : Int32} {x2 : Int32} {M : Mem}  {r : Int32} (h : f_X6_towards x0 x1 x2 = some r) : MX Y yX6_towards cX6_towards 3 (some .int) rm_X6_towards [.int x0, .int x1, .int x2] M (some (.int r)) M := MX.of hY (by decide) (Nat.le_of_ble_eq_true rfl) (fun _ hR C => a_sub [0, 1, 2] (t_X6_towards C  h hR) rfl)
abbrev rm_X6_talk : Room := { frames := 2, cells := 0, slots := 0, locals := 43 }
abbrev At_X6_talk_2 (Y : EY) (X : CX) (x1 : Int32) (s : Int32 × Mem) : Prop := AW Y X 3 2 [(0, .ref (Y.2.2.2.1 49)), (1, .int x1), (2, .int s.1)] [] s.2
abbrev Ex_X6_talk_2 (Y : EY) (X : CX) (x1 : Int32) (s : Int32 × Mem) : Prop := AW Y X 3 80 [] [] s.2
noncomputable def f_X6_talk_74_2 (x1 : Int32) (x2 : Int32) (M : Mem) : Option ((Int32 × Mem) ⊕ (Int32 × Mem)) :=
  some (.inl ((x2 + (1 : Int32)), M))
theorem t_X6_talk_74_2 {Y : EY} {X : CX} (C : CK Y X cX6_talk RX6 3 none rm_X6_talk) {x1 : Int32} {x2 : Int32} {M : Mem}  {res : (Int32 × Mem) ⊕ (Int32 × Mem)} (h : f_X6_talk_74_2 x1 x2 M = some res) (hK : KL (At_X6_talk_2 Y X x1) (Ex_X6_talk_2 Y X x1) res) : AW Y X 3 74 [(0, .ref (Y.2.2.2.1 49)), (1, .int x1), (2, .int x2)] [] M := by
  unfold f_X6_talk_74_2 at h
  refine a_iinc (v := 1) (lv' := [(2, _), (0, _), (1, _)]) C dX6_talk_74 2 rfl (by decide) (by decide) rfl ?_
  refine a_goto (tgt := 2) C dX6_talk_77 (by decide) ?_
  replace h := Option.some.inj h
  subst h
  exact a_sub [1, 2, 0] (hK) rfl
noncomputable def f_X6_talk_2_2b (x1 : Int32) (x2 : Int32) (M : Mem) : Option ((Int32 × Mem) ⊕ (Int32 × Mem)) :=
  (if (M 49 7) ≤ (x2 + (1 : Int32)) then some (.inr (x2, M)) else Option.bind (f_X6_isWorn x2 M) (fun r1 => (if r1 = 0 then Option.bind (f_X6_isWorn (x2 + (1 : Int32)) M) (fun r2 => (if r2 = 0 then ck (inb (((5 : Int32) * x2) + x1) 40) (ck (inb ((((5 : Int32) * x2) + (5 : Int32)) + x1) 40) (ck (inb ((6 : Int32) * x2) 48) (Option.bind (f_X6_towards (M 59 ((((5 : Int32) * x2) + x1)).toNatClampNeg) (M 59 (((((5 : Int32) * x2) + (5 : Int32)) + x1)).toNatClampNeg) (M 56 (((6 : Int32) * x2)).toNatClampNeg)) (fun r3 => ck (inb (((5 : Int32) * x2) + x1) 40) (f_X6_talk_74_2 x1 x2 (upM M 59 ((((5 : Int32) * x2) + x1)).toNatClampNeg r3)))))) else f_X6_talk_74_2 x1 x2 M)) else f_X6_talk_74_2 x1 x2 M)))
theorem t_X6_talk_2_2b {Y : EY} {X : CX} (C : CK Y X cX6_talk RX6 3 none rm_X6_talk) {x1 : Int32} {x2 : Int32} {M : Mem}  {res : (Int32 × Mem) ⊕ (Int32 × Mem)} (h : f_X6_talk_2_2b x1 x2 M = some res) (hK : KL (At_X6_talk_2 Y X x1) (Ex_X6_talk_2 Y X x1) res) : AW Y X 3 2 [(0, .ref (Y.2.2.2.1 49)), (1, .int x1), (2, .int x2)] [] M := by
  unfold f_X6_talk_2_2b at h
  refine a_iload_n C dX6_talk_2 2 rfl ?_
  refine a_iconst (v := 1) C dX6_talk_3 (by decide) ?_
  refine a_iadd C dX6_talk_4 ?_
  refine a_aload_n C dX6_talk_5 0 rfl ?_
  refine a_geti C dX6_talk_6 fl_X6_116 rfl Kc_49 ?_
  refine a_icmp_ge (tgt := 80) C dX6_talk_9 (by decide) (fun hc => ?_) (fun hc => ?_)
  · replace h := ip hc h
    replace h := Option.some.inj h
    subst h
    exact a_sub [] (hK) rfl
  · replace h := iq hc h
    refine a_aload_n C dX6_talk_12 0 rfl ?_
    refine a_iload_n C dX6_talk_13 2 rfl ?_
    obtain ⟨r1, hcr1, h⟩ := bd_some h
    refine a_callVi C dX6_talk_14 lv_X6_174 lm_X6_isWorn ⟨rfl, rfl, by decide, by decide⟩ Kc_49 (m_X6_isWorn C.2.2.2.2.2.2.1 hcr1) rfl rfl (Nat.le_of_ble_eq_true rfl) ?_
    refine a_if_ne (tgt := 74) C dX6_talk_17 (by decide) (fun hc => ?_) (fun hc => ?_)
    · replace h := iq hc h
      exact a_sub [0, 1, 2] (t_X6_talk_74_2 C h hK) rfl
    · replace h := ip hc h
      refine a_aload_n C dX6_talk_20 0 rfl ?_
      refine a_iload_n C dX6_talk_21 2 rfl ?_
      refine a_iconst (v := 1) C dX6_talk_22 (by decide) ?_
      refine a_iadd C dX6_talk_23 ?_
      obtain ⟨r2, hcr2, h⟩ := bd_some h
      refine a_callVi C dX6_talk_24 lv_X6_174 lm_X6_isWorn ⟨rfl, rfl, by decide, by decide⟩ Kc_49 (m_X6_isWorn C.2.2.2.2.2.2.1 hcr2) rfl rfl (Nat.le_of_ble_eq_true rfl) ?_
      refine a_if_ne (tgt := 74) C dX6_talk_27 (by decide) (fun hc => ?_) (fun hc => ?_)
      · replace h := iq hc h
        exact a_sub [0, 1, 2] (t_X6_talk_74_2 C h hK) rfl
      · replace h := ip hc h
        refine a_aload_n C dX6_talk_30 0 rfl ?_
        refine a_getr (k1 := 59) C dX6_talk_31 fl_X6_37 rfl Kc_49 rfl ?_
        refine a_iconst (v := 5) C dX6_talk_34 (by decide) ?_
        refine a_iload_n C dX6_talk_35 2 rfl ?_
        refine a_imul C dX6_talk_36 ?_
        refine a_iload_n C dX6_talk_37 1 rfl ?_
        refine a_iadd C dX6_talk_38 ?_
        refine a_aload_n C dX6_talk_39 0 rfl ?_
        refine a_getr (k1 := 59) C dX6_talk_40 fl_X6_37 rfl Kc_49 rfl ?_
        refine a_iconst (v := 5) C dX6_talk_43 (by decide) ?_
        refine a_iload_n C dX6_talk_44 2 rfl ?_
        refine a_imul C dX6_talk_45 ?_
        refine a_iload_n C dX6_talk_46 1 rfl ?_
        refine a_iadd C dX6_talk_47 ?_
        obtain ⟨hb, h⟩ := ck_some h
        refine a_iald C dX6_talk_48 Kc_59 rfl hb ?_
        refine a_aload_n C dX6_talk_49 0 rfl ?_
        refine a_getr (k1 := 59) C dX6_talk_50 fl_X6_37 rfl Kc_49 rfl ?_
        refine a_iconst (v := 5) C dX6_talk_53 (by decide) ?_
        refine a_iload_n C dX6_talk_54 2 rfl ?_
        refine a_imul C dX6_talk_55 ?_
        refine a_iconst (v := 5) C dX6_talk_56 (by decide) ?_
        refine a_iadd C dX6_talk_57 ?_
        refine a_iload_n C dX6_talk_58 1 rfl ?_
        refine a_iadd C dX6_talk_59 ?_
        obtain ⟨hb, h⟩ := ck_some h
        refine a_iald C dX6_talk_60 Kc_59 rfl hb ?_
        refine a_aload_n C dX6_talk_61 0 rfl ?_
        refine a_getr (k1 := 56) C dX6_talk_62 fl_X6_28 rfl Kc_49 rfl ?_
        refine a_bipush (v := 6) C dX6_talk_65 (by decide) ?_
        refine a_iload_n C dX6_talk_67 2 rfl ?_
        refine a_imul C dX6_talk_68 ?_
        obtain ⟨hb, h⟩ := ck_some h
        refine a_iald C dX6_talk_69 Kc_56 rfl hb ?_
        obtain ⟨r3, hcr3, h⟩ := bd_some h
        refine a_callSi C dX6_talk_70 ls_X6_177 lm_X6_towards ⟨rfl, rfl, by decide, by decide⟩ (m_X6_towards C.2.2.2.2.2.2.1 hcr3) rfl rfl (Nat.le_of_ble_eq_true rfl) ?_
        obtain ⟨hb, h⟩ := ck_some h
        refine a_iast C dX6_talk_73 Kc_59 rfl hb ?_
        exact a_sub [0, 1, 2] (t_X6_talk_74_2 C h hK) rfl
noncomputable def f_X6_talk (x1 : Int32) (M : Mem) : Option (Mem) :=
  Option.bind (loop (fun s4 : Int32 × Mem => f_X6_talk_2_2b x1 s4.1 s4.2) ((0 : Int32), M)) (fun s5 => some s5.2)
theorem t_X6_talk {Y : EY} {X : CX} (C : CK Y X cX6_talk RX6 3 none rm_X6_talk) {x1 : Int32} {M : Mem}  {res : Mem} (h : f_X6_talk x1 M = some res) (hK : RK Y X none res) : AW Y X 3 0 [(0, .ref (Y.2.2.2.1 49)), (1, .int x1)] [] M := by
  unfold f_X6_talk at h
  refine a_iconst (v := 0) C dX6_talk_0 (by decide) ?_
  refine a_istore_n (lv' := [(2, _), (0, _), (1, _)]) C dX6_talk_1 rfl (by decide) rfl ?_
  obtain ⟨s5, hl, h⟩ := bd_some h
  have hE : Ex_X6_talk_2 Y X x1 s5 := by
    replace h := Option.some.inj h
    subst h
    exact a_vret C dX6_talk_80 hK
  have hA := aw_loop (At_X6_talk_2 Y X x1) (Ex_X6_talk_2 Y X x1) (fun _ _ hb hk => t_X6_talk_2_2b C hb hk) hl hE
  exact a_sub [1, 2, 0] (hA) rfl
theorem m_X6_talk {Y : EY} (hY : HY Y) {x1 : Int32} {M : Mem}  {r : Mem} (h : f_X6_talk x1 M = some r) : MX Y yX6_talk cX6_talk 3 none rm_X6_talk [.ref (Y.2.2.2.1 49), .int x1] M (none) r := MX.of hY (by decide) (Nat.le_of_ble_eq_true rfl) (fun _ hR C => a_sub [0, 1] (t_X6_talk C  h hR) rfl)
abbrev rm_X6_speaks : Room := { frames := 2, cells := 0, slots := 0, locals := 43 }
abbrev At_X6_speaks_26 (Y : EY) (X : CX) (x1 : Int32) (x2 : Int32) (x3 : Int32) (x4 : Int32) (M : Mem) (s : Int32 × Int32 × Int32) : Prop := AW Y X 9 26 [(0, .ref (Y.2.2.2.1 49)), (1, .int x1), (2, .int x2), (3, .int x3), (4, .int x4), (5, .int s.1), (6, .int s.2.1), (7, .int s.2.2)] [] M
abbrev Ex_X6_speaks_26 (Y : EY) (X : CX) (x1 : Int32) (x2 : Int32) (x3 : Int32) (x4 : Int32) (M : Mem) (s : Int32 × Int32 × Int32) : Prop := AW Y X 9 91 [(0, .ref (Y.2.2.2.1 49)), (1, .int x1), (2, .int x2), (3, .int x3), (4, .int x4), (5, .int s.1)] [] M
noncomputable def f_X6_speaks_74_26 (x1 : Int32) (x2 : Int32) (x3 : Int32) (x4 : Int32) (x6 : Int32) (x7 : Int32) (x8 : Int32) (t0 : Int32) (M : Mem) : Option ((Int32 × Int32 × Int32) ⊕ (Int32 × Int32 × Int32)) :=
  Option.bind (f_X6_greater x8 x6) (fun r2 => some (.inl (t0, r2, (x7 + (1 : Int32)))))
theorem t_X6_speaks_74_26 {Y : EY} {X : CX} (C : CK Y X cX6_speaks RX6 9 none rm_X6_speaks) {x1 : Int32} {x2 : Int32} {x3 : Int32} {x4 : Int32} {x6 : Int32} {x7 : Int32} {x8 : Int32} {t0 : Int32} {M : Mem}  {res : (Int32 × Int32 × Int32) ⊕ (Int32 × Int32 × Int32)} (h : f_X6_speaks_74_26 x1 x2 x3 x4 x6 x7 x8 t0 M = some res) (hK : KL (At_X6_speaks_26 Y X x1 x2 x3 x4 M) (Ex_X6_speaks_26 Y X x1 x2 x3 x4 M) res) : AW Y X 9 74 [(0, .ref (Y.2.2.2.1 49)), (1, .int x1), (2, .int x2), (3, .int x3), (4, .int x4), (6, .int x6), (7, .int x7), (8, .int x8)] [.int t0] M := by
  unfold f_X6_speaks_74_26 at h
  refine a_istore (lv' := [(5, _), (0, _), (1, _), (2, _), (3, _), (4, _), (6, _), (7, _), (8, _)]) C dX6_speaks_74 (by decide) rfl ?_
  refine a_iload C dX6_speaks_76 8 rfl ?_
  refine a_iload C dX6_speaks_78 6 rfl ?_
  obtain ⟨r2, hcr2, h⟩ := bd_some h
  refine a_callSi C dX6_speaks_80 ls_X6_171 lm_X6_greater ⟨rfl, rfl, by decide, by decide⟩ (m_X6_greater C.2.2.2.2.2.2.1 hcr2) rfl rfl (Nat.le_of_ble_eq_true rfl) ?_
  refine a_istore (lv' := [(6, _), (5, _), (0, _), (1, _), (2, _), (3, _), (4, _), (7, _), (8, _)]) C dX6_speaks_83 (by decide) rfl ?_
  refine a_iinc (v := 1) (lv' := [(7, _), (6, _), (5, _), (0, _), (1, _), (2, _), (3, _), (4, _), (8, _)]) C dX6_speaks_85 7 rfl (by decide) (by decide) rfl ?_
  refine a_goto (tgt := 26) C dX6_speaks_88 (by decide) ?_
  replace h := Option.some.inj h
  subst h
  exact a_sub [3, 4, 5, 6, 7, 2, 1, 0] (hK) rfl
noncomputable def f_X6_speaks_26_26b (x1 : Int32) (x2 : Int32) (x3 : Int32) (x4 : Int32) (x5 : Int32) (x6 : Int32) (x7 : Int32) (M : Mem) : Option ((Int32 × Int32 × Int32) ⊕ (Int32 × Int32 × Int32)) :=
  (if (5 : Int32) ≤ x7 then some (.inr (x5, x6, x7)) else ck (inb (((5 : Int32) * x3) + x7) 40) (ck (inb (((5 : Int32) * x2) + x7) 40) (Option.bind (f_X6_size ((M 59 ((((5 : Int32) * x3) + x7)).toNatClampNeg) - (M 60 ((((5 : Int32) * x2) + x7)).toNatClampNeg))) (fun r1 => (if r1 ≤ x6 then f_X6_speaks_74_26 x1 x2 x3 x4 x6 x7 r1 x5 M else f_X6_speaks_74_26 x1 x2 x3 x4 x6 x7 r1 x7 M)))))
theorem t_X6_speaks_26_26b {Y : EY} {X : CX} (C : CK Y X cX6_speaks RX6 9 none rm_X6_speaks) {x1 : Int32} {x2 : Int32} {x3 : Int32} {x4 : Int32} {x5 : Int32} {x6 : Int32} {x7 : Int32} {M : Mem}  {res : (Int32 × Int32 × Int32) ⊕ (Int32 × Int32 × Int32)} (h : f_X6_speaks_26_26b x1 x2 x3 x4 x5 x6 x7 M = some res) (hK : KL (At_X6_speaks_26 Y X x1 x2 x3 x4 M) (Ex_X6_speaks_26 Y X x1 x2 x3 x4 M) res) : AW Y X 9 26 [(0, .ref (Y.2.2.2.1 49)), (1, .int x1), (2, .int x2), (3, .int x3), (4, .int x4), (5, .int x5), (6, .int x6), (7, .int x7)] [] M := by
  unfold f_X6_speaks_26_26b at h
  refine a_iload C dX6_speaks_26 7 rfl ?_
  refine a_iconst (v := 5) C dX6_speaks_28 (by decide) ?_
  refine a_icmp_ge (tgt := 91) C dX6_speaks_29 (by decide) (fun hc => ?_) (fun hc => ?_)
  · replace h := ip hc h
    replace h := Option.some.inj h
    subst h
    exact a_sub [0, 1, 2, 3, 4, 5] (hK) rfl
  · replace h := iq hc h
    refine a_aload_n C dX6_speaks_32 0 rfl ?_
    refine a_getr (k1 := 59) C dX6_speaks_33 fl_X6_37 rfl Kc_49 rfl ?_
    refine a_iconst (v := 5) C dX6_speaks_36 (by decide) ?_
    refine a_iload_n C dX6_speaks_37 3 rfl ?_
    refine a_imul C dX6_speaks_38 ?_
    refine a_iload C dX6_speaks_39 7 rfl ?_
    refine a_iadd C dX6_speaks_41 ?_
    obtain ⟨hb, h⟩ := ck_some h
    refine a_iald C dX6_speaks_42 Kc_59 rfl hb ?_
    refine a_aload_n C dX6_speaks_43 0 rfl ?_
    refine a_getr (k1 := 60) C dX6_speaks_44 fl_X6_40 rfl Kc_49 rfl ?_
    refine a_iconst (v := 5) C dX6_speaks_47 (by decide) ?_
    refine a_iload_n C dX6_speaks_48 2 rfl ?_
    refine a_imul C dX6_speaks_49 ?_
    refine a_iload C dX6_speaks_50 7 rfl ?_
    refine a_iadd C dX6_speaks_52 ?_
    obtain ⟨hb, h⟩ := ck_some h
    refine a_iald C dX6_speaks_53 Kc_60 rfl hb ?_
    refine a_isub C dX6_speaks_54 ?_
    obtain ⟨r1, hcr1, h⟩ := bd_some h
    refine a_callSi C dX6_speaks_55 ls_X6_180 lm_X6_size ⟨rfl, rfl, by decide, by decide⟩ (m_X6_size C.2.2.2.2.2.2.1 hcr1) rfl rfl (Nat.le_of_ble_eq_true rfl) ?_
    refine a_istore (lv' := [(8, _), (0, _), (1, _), (2, _), (3, _), (4, _), (5, _), (6, _), (7, _)]) C dX6_speaks_58 (by decide) rfl ?_
    refine a_iload C dX6_speaks_60 0 rfl ?_
    refine a_iload C dX6_speaks_62 7 rfl ?_
    refine a_icmp_le (tgt := 72) C dX6_speaks_64 (by decide) (fun hc => ?_) (fun hc => ?_)
    · replace h := ip hc h
      refine a_iload C dX6_speaks_72 6 rfl ?_
      exact a_sub [1, 2, 3, 4, 5, 7, 8, 0] (t_X6_speaks_74_26 C h hK) rfl
    · replace h := iq hc h
      refine a_iload C dX6_speaks_67 8 rfl ?_
      refine a_goto (tgt := 74) C dX6_speaks_69 (by decide) ?_
      exact a_sub [1, 2, 3, 4, 5, 7, 8, 0] (t_X6_speaks_74_26 C h hK) rfl
abbrev At_X6_speaks_94 (Y : EY) (X : CX) (x1 : Int32) (x2 : Int32) (x3 : Int32) (x4 : Int32) (x5 : Int32) (s : Int32 × Mem) : Prop := AW Y X 9 94 [(0, .ref (Y.2.2.2.1 49)), (1, .int x1), (2, .int x2), (3, .int x3), (4, .int x4), (5, .int x5), (7, .int s.1)] [] s.2
abbrev Ex_X6_speaks_94 (Y : EY) (X : CX) (x1 : Int32) (x2 : Int32) (x3 : Int32) (x4 : Int32) (x5 : Int32) (s : Int32 × Mem) : Prop := AW Y X 9 193 [] [] s.2
noncomputable def f_X6_speaks_186_94 (x1 : Int32) (x2 : Int32) (x3 : Int32) (x4 : Int32) (x5 : Int32) (x7 : Int32) (t1 : Int32) (t2 : Int32) (M : Mem) : Option ((Int32 × Mem) ⊕ (Int32 × Mem)) :=
  ck (inb t1 40) (some (.inl ((x7 + (1 : Int32)), (upM M 60 (t1).toNatClampNeg t2))))
theorem t_X6_speaks_186_94 {Y : EY} {X : CX} (C : CK Y X cX6_speaks RX6 9 none rm_X6_speaks) {x1 : Int32} {x2 : Int32} {x3 : Int32} {x4 : Int32} {x5 : Int32} {x7 : Int32} {t1 : Int32} {t2 : Int32} {M : Mem}  {res : (Int32 × Mem) ⊕ (Int32 × Mem)} (h : f_X6_speaks_186_94 x1 x2 x3 x4 x5 x7 t1 t2 M = some res) (hK : KL (At_X6_speaks_94 Y X x1 x2 x3 x4 x5) (Ex_X6_speaks_94 Y X x1 x2 x3 x4 x5) res) : AW Y X 9 186 [(0, .ref (Y.2.2.2.1 49)), (1, .int x1), (2, .int x2), (3, .int x3), (4, .int x4), (5, .int x5), (7, .int x7)] [.int t2, .int t1, .ref (Y.2.2.2.1 60)] M := by
  unfold f_X6_speaks_186_94 at h
  obtain ⟨hb, h⟩ := ck_some h
  refine a_iast C dX6_speaks_186 Kc_60 rfl hb ?_
  refine a_iinc (v := 1) (lv' := [(7, _), (0, _), (1, _), (2, _), (3, _), (4, _), (5, _)]) C dX6_speaks_187 6 rfl (by decide) (by decide) rfl ?_
  refine a_goto (tgt := 94) C dX6_speaks_190 (by decide) ?_
  replace h := Option.some.inj h
  subst h
  exact a_sub [1, 2, 3, 4, 5, 6, 0] (hK) rfl
noncomputable def f_X6_speaks_129_94 (x1 : Int32) (x2 : Int32) (x3 : Int32) (x4 : Int32) (x5 : Int32) (x7 : Int32) (t0 : Int32) (M : Mem) : Option ((Int32 × Mem) ⊕ (Int32 × Mem)) :=
  (if t0 = 0 then ck (inb (((5 : Int32) * x2) + x7) 40) (f_X6_speaks_186_94 x1 x2 x3 x4 x5 x7 (((5 : Int32) * x2) + x7) (M 60 ((((5 : Int32) * x2) + x7)).toNatClampNeg) M) else ck (inb (((5 : Int32) * x2) + x7) 40) (ck (inb (((5 : Int32) * x3) + x7) 40) (Option.bind (f_X6_towards (M 60 ((((5 : Int32) * x2) + x7)).toNatClampNeg) (M 59 ((((5 : Int32) * x3) + x7)).toNatClampNeg) (1 : Int32)) (fun r5 => f_X6_speaks_186_94 x1 x2 x3 x4 x5 x7 (((5 : Int32) * x2) + x7) r5 M))))
theorem t_X6_speaks_129_94 {Y : EY} {X : CX} (C : CK Y X cX6_speaks RX6 9 none rm_X6_speaks) {x1 : Int32} {x2 : Int32} {x3 : Int32} {x4 : Int32} {x5 : Int32} {x7 : Int32} {t0 : Int32} {M : Mem}  {res : (Int32 × Mem) ⊕ (Int32 × Mem)} (h : f_X6_speaks_129_94 x1 x2 x3 x4 x5 x7 t0 M = some res) (hK : KL (At_X6_speaks_94 Y X x1 x2 x3 x4 x5) (Ex_X6_speaks_94 Y X x1 x2 x3 x4 x5) res) : AW Y X 9 129 [(0, .ref (Y.2.2.2.1 49)), (1, .int x1), (2, .int x2), (3, .int x3), (4, .int x4), (5, .int x5), (7, .int x7)] [.int t0] M := by
  unfold f_X6_speaks_129_94 at h
  refine a_istore (lv' := [(8, _), (0, _), (1, _), (2, _), (3, _), (4, _), (5, _), (7, _)]) C dX6_speaks_129 (by decide) rfl ?_
  refine a_aload_n C dX6_speaks_131 1 rfl ?_
  refine a_getr (k1 := 60) C dX6_speaks_132 fl_X6_40 rfl Kc_49 rfl ?_
  refine a_iconst (v := 5) C dX6_speaks_135 (by decide) ?_
  refine a_iload_n C dX6_speaks_136 3 rfl ?_
  refine a_imul C dX6_speaks_137 ?_
  refine a_iload C dX6_speaks_138 7 rfl ?_
  refine a_iadd C dX6_speaks_140 ?_
  refine a_iload C dX6_speaks_141 0 rfl ?_
  refine a_if_eq (tgt := 175) C dX6_speaks_143 (by decide) (fun hc => ?_) (fun hc => ?_)
  · replace h := ip hc h
    refine a_aload_n C dX6_speaks_175 1 rfl ?_
    refine a_getr (k1 := 60) C dX6_speaks_176 fl_X6_40 rfl Kc_49 rfl ?_
    refine a_iconst (v := 5) C dX6_speaks_179 (by decide) ?_
    refine a_iload_n C dX6_speaks_180 3 rfl ?_
    refine a_imul C dX6_speaks_181 ?_
    refine a_iload C dX6_speaks_182 7 rfl ?_
    refine a_iadd C dX6_speaks_184 ?_
    obtain ⟨hb, h⟩ := ck_some h
    refine a_iald C dX6_speaks_185 Kc_60 rfl hb ?_
    exact a_sub [1, 2, 3, 4, 5, 6, 7] (t_X6_speaks_186_94 C h hK) rfl
  · replace h := iq hc h
    refine a_aload_n C dX6_speaks_146 1 rfl ?_
    refine a_getr (k1 := 60) C dX6_speaks_147 fl_X6_40 rfl Kc_49 rfl ?_
    refine a_iconst (v := 5) C dX6_speaks_150 (by decide) ?_
    refine a_iload_n C dX6_speaks_151 3 rfl ?_
    refine a_imul C dX6_speaks_152 ?_
    refine a_iload C dX6_speaks_153 7 rfl ?_
    refine a_iadd C dX6_speaks_155 ?_
    obtain ⟨hb, h⟩ := ck_some h
    refine a_iald C dX6_speaks_156 Kc_60 rfl hb ?_
    refine a_aload_n C dX6_speaks_157 1 rfl ?_
    refine a_getr (k1 := 59) C dX6_speaks_158 fl_X6_37 rfl Kc_49 rfl ?_
    refine a_iconst (v := 5) C dX6_speaks_161 (by decide) ?_
    refine a_iload_n C dX6_speaks_162 4 rfl ?_
    refine a_imul C dX6_speaks_163 ?_
    refine a_iload C dX6_speaks_164 7 rfl ?_
    refine a_iadd C dX6_speaks_166 ?_
    obtain ⟨hb, h⟩ := ck_some h
    refine a_iald C dX6_speaks_167 Kc_59 rfl hb ?_
    refine a_iconst (v := 1) C dX6_speaks_168 (by decide) ?_
    obtain ⟨r5, hcr5, h⟩ := bd_some h
    refine a_callSi C dX6_speaks_169 ls_X6_177 lm_X6_towards ⟨rfl, rfl, by decide, by decide⟩ (m_X6_towards C.2.2.2.2.2.2.1 hcr5) rfl rfl (Nat.le_of_ble_eq_true rfl) ?_
    refine a_goto (tgt := 186) C dX6_speaks_172 (by decide) ?_
    exact a_sub [1, 2, 3, 4, 5, 6, 7] (t_X6_speaks_186_94 C h hK) rfl
noncomputable def f_X6_speaks_124_94 (x1 : Int32) (x2 : Int32) (x3 : Int32) (x4 : Int32) (x5 : Int32) (x7 : Int32) (M : Mem) : Option ((Int32 × Mem) ⊕ (Int32 × Mem)) :=
  f_X6_speaks_129_94 x1 x2 x3 x4 x5 x7 (1 : Int32) M
theorem t_X6_speaks_124_94 {Y : EY} {X : CX} (C : CK Y X cX6_speaks RX6 9 none rm_X6_speaks) {x1 : Int32} {x2 : Int32} {x3 : Int32} {x4 : Int32} {x5 : Int32} {x7 : Int32} {M : Mem}  {res : (Int32 × Mem) ⊕ (Int32 × Mem)} (h : f_X6_speaks_124_94 x1 x2 x3 x4 x5 x7 M = some res) (hK : KL (At_X6_speaks_94 Y X x1 x2 x3 x4 x5) (Ex_X6_speaks_94 Y X x1 x2 x3 x4 x5) res) : AW Y X 9 124 [(0, .ref (Y.2.2.2.1 49)), (1, .int x1), (2, .int x2), (3, .int x3), (4, .int x4), (5, .int x5), (7, .int x7)] [] M := by
  unfold f_X6_speaks_124_94 at h
  refine a_iconst (v := 1) C dX6_speaks_124 (by decide) ?_
  refine a_goto (tgt := 129) C dX6_speaks_125 (by decide) ?_
  exact a_sub [0, 1, 2, 3, 4, 5, 6] (t_X6_speaks_129_94 C h hK) rfl
noncomputable def f_X6_speaks_128_94 (x1 : Int32) (x2 : Int32) (x3 : Int32) (x4 : Int32) (x5 : Int32) (x7 : Int32) (M : Mem) : Option ((Int32 × Mem) ⊕ (Int32 × Mem)) :=
  f_X6_speaks_129_94 x1 x2 x3 x4 x5 x7 (0 : Int32) M
theorem t_X6_speaks_128_94 {Y : EY} {X : CX} (C : CK Y X cX6_speaks RX6 9 none rm_X6_speaks) {x1 : Int32} {x2 : Int32} {x3 : Int32} {x4 : Int32} {x5 : Int32} {x7 : Int32} {M : Mem}  {res : (Int32 × Mem) ⊕ (Int32 × Mem)} (h : f_X6_speaks_128_94 x1 x2 x3 x4 x5 x7 M = some res) (hK : KL (At_X6_speaks_94 Y X x1 x2 x3 x4 x5) (Ex_X6_speaks_94 Y X x1 x2 x3 x4 x5) res) : AW Y X 9 128 [(0, .ref (Y.2.2.2.1 49)), (1, .int x1), (2, .int x2), (3, .int x3), (4, .int x4), (5, .int x5), (7, .int x7)] [] M := by
  unfold f_X6_speaks_128_94 at h
  refine a_iconst (v := 0) C dX6_speaks_128 (by decide) ?_
  exact a_sub [0, 1, 2, 3, 4, 5, 6] (t_X6_speaks_129_94 C h hK) rfl
noncomputable def f_X6_speaks_94_94b (x1 : Int32) (x2 : Int32) (x3 : Int32) (x4 : Int32) (x5 : Int32) (x7 : Int32) (M : Mem) : Option ((Int32 × Mem) ⊕ (Int32 × Mem)) :=
  (if (5 : Int32) ≤ x7 then some (.inr (x7, M)) else (if x4 = (1 : Int32) then f_X6_speaks_124_94 x1 x2 x3 x4 x5 x7 M else (if x7 = x5 then (if x4 = 0 then f_X6_speaks_124_94 x1 x2 x3 x4 x5 x7 M else (if (remI x1 (2 : Int32)) = 0 then f_X6_speaks_124_94 x1 x2 x3 x4 x5 x7 M else f_X6_speaks_128_94 x1 x2 x3 x4 x5 x7 M)) else f_X6_speaks_128_94 x1 x2 x3 x4 x5 x7 M)))
theorem t_X6_speaks_94_94b {Y : EY} {X : CX} (C : CK Y X cX6_speaks RX6 9 none rm_X6_speaks) {x1 : Int32} {x2 : Int32} {x3 : Int32} {x4 : Int32} {x5 : Int32} {x7 : Int32} {M : Mem}  {res : (Int32 × Mem) ⊕ (Int32 × Mem)} (h : f_X6_speaks_94_94b x1 x2 x3 x4 x5 x7 M = some res) (hK : KL (At_X6_speaks_94 Y X x1 x2 x3 x4 x5) (Ex_X6_speaks_94 Y X x1 x2 x3 x4 x5) res) : AW Y X 9 94 [(0, .ref (Y.2.2.2.1 49)), (1, .int x1), (2, .int x2), (3, .int x3), (4, .int x4), (5, .int x5), (7, .int x7)] [] M := by
  unfold f_X6_speaks_94_94b at h
  refine a_iload C dX6_speaks_94 6 rfl ?_
  refine a_iconst (v := 5) C dX6_speaks_96 (by decide) ?_
  refine a_icmp_ge (tgt := 193) C dX6_speaks_97 (by decide) (fun hc => ?_) (fun hc => ?_)
  · replace h := ip hc h
    replace h := Option.some.inj h
    subst h
    exact a_sub [] (hK) rfl
  · replace h := iq hc h
    refine a_iload C dX6_speaks_100 4 rfl ?_
    refine a_iconst (v := 1) C dX6_speaks_102 (by decide) ?_
    refine a_icmp_eq (tgt := 124) C dX6_speaks_103 (by decide) (fun hc => ?_) (fun hc => ?_)
    · replace h := ip hc h
      exact a_sub [0, 1, 2, 3, 4, 5, 6] (t_X6_speaks_124_94 C h hK) rfl
    · replace h := iq hc h
      refine a_iload C dX6_speaks_106 6 rfl ?_
      refine a_iload C dX6_speaks_108 5 rfl ?_
      refine a_icmp_ne (tgt := 128) C dX6_speaks_110 (by decide) (fun hc => ?_) (fun hc => ?_)
      · replace h := iq hc h
        exact a_sub [0, 1, 2, 3, 4, 5, 6] (t_X6_speaks_128_94 C h hK) rfl
      · replace h := ip hc h
        refine a_iload C dX6_speaks_113 4 rfl ?_
        refine a_if_eq (tgt := 124) C dX6_speaks_115 (by decide) (fun hc => ?_) (fun hc => ?_)
        · replace h := ip hc h
          exact a_sub [0, 1, 2, 3, 4, 5, 6] (t_X6_speaks_124_94 C h hK) rfl
        · replace h := iq hc h
          refine a_iload_n C dX6_speaks_118 1 rfl ?_
          refine a_iconst (v := 2) C dX6_speaks_119 (by decide) ?_
          refine a_irem C dX6_speaks_120 (by decide) ?_
          refine a_if_ne (tgt := 128) C dX6_speaks_121 (by decide) (fun hc => ?_) (fun hc => ?_)
          · replace h := iq hc h
            exact a_sub [0, 1, 2, 3, 4, 5, 6] (t_X6_speaks_128_94 C h hK) rfl
          · replace h := ip hc h
            exact a_sub [0, 1, 2, 3, 4, 5, 6] (t_X6_speaks_124_94 C h hK) rfl
noncomputable def f_X6_speaks (x1 : Int32) (x2 : Int32) (M : Mem) : Option (Mem) :=
  ck (inb x2 8) (ck (inb ((2 : Int32) * x2) 16) (Option.bind (loop (fun s3 : Int32 × Int32 × Int32 => f_X6_speaks_26_26b x1 x2 (M 61 (x2).toNatClampNeg) (M 57 (((2 : Int32) * x2)).toNatClampNeg) s3.1 s3.2.1 s3.2.2 M) ((-1 : Int32), (0 : Int32), (0 : Int32))) (fun s4 => Option.bind (loop (fun s6 : Int32 × Mem => f_X6_speaks_94_94b x1 x2 (M 61 (x2).toNatClampNeg) (M 57 (((2 : Int32) * x2)).toNatClampNeg) s4.1 s6.1 s6.2) ((0 : Int32), M)) (fun s7 => some s7.2))))
theorem t_X6_speaks {Y : EY} {X : CX} (C : CK Y X cX6_speaks RX6 9 none rm_X6_speaks) {x1 : Int32} {x2 : Int32} {M : Mem}  {res : Mem} (h : f_X6_speaks x1 x2 M = some res) (hK : RK Y X none res) : AW Y X 9 0 [(0, .ref (Y.2.2.2.1 49)), (1, .int x1), (2, .int x2)] [] M := by
  unfold f_X6_speaks at h
  refine a_aload_n C dX6_speaks_0 0 rfl ?_
  refine a_getr (k1 := 61) C dX6_speaks_1 fl_X6_43 rfl Kc_49 rfl ?_
  refine a_iload_n C dX6_speaks_4 2 rfl ?_
  obtain ⟨hb, h⟩ := ck_some h
  refine a_iald C dX6_speaks_5 Kc_61 rfl hb ?_
  refine a_istore_n (lv' := [(3, _), (0, _), (1, _), (2, _)]) C dX6_speaks_6 rfl (by decide) rfl ?_
  refine a_aload_n C dX6_speaks_7 1 rfl ?_
  refine a_getr (k1 := 57) C dX6_speaks_8 fl_X6_31 rfl Kc_49 rfl ?_
  refine a_iconst (v := 2) C dX6_speaks_11 (by decide) ?_
  refine a_iload_n C dX6_speaks_12 3 rfl ?_
  refine a_imul C dX6_speaks_13 ?_
  obtain ⟨hb, h⟩ := ck_some h
  refine a_iald C dX6_speaks_14 Kc_57 rfl hb ?_
  refine a_istore (lv' := [(4, _), (3, _), (0, _), (1, _), (2, _)]) C dX6_speaks_15 (by decide) rfl ?_
  refine a_iconst (v := -1) C dX6_speaks_17 (by decide) ?_
  refine a_istore (lv' := [(5, _), (4, _), (3, _), (0, _), (1, _), (2, _)]) C dX6_speaks_18 (by decide) rfl ?_
  refine a_iconst (v := 0) C dX6_speaks_20 (by decide) ?_
  refine a_istore (lv' := [(6, _), (5, _), (4, _), (3, _), (0, _), (1, _), (2, _)]) C dX6_speaks_21 (by decide) rfl ?_
  refine a_iconst (v := 0) C dX6_speaks_23 (by decide) ?_
  refine a_istore (lv' := [(7, _), (6, _), (5, _), (4, _), (3, _), (0, _), (1, _), (2, _)]) C dX6_speaks_24 (by decide) rfl ?_
  obtain ⟨s4, hl, h⟩ := bd_some h
  have hE : Ex_X6_speaks_26 Y X x1 x2 (M 61 (x2).toNatClampNeg) (M 57 (((2 : Int32) * x2)).toNatClampNeg) M s4 := by
    refine a_iconst (v := 0) C dX6_speaks_91 (by decide) ?_
    refine a_istore (lv' := [(7, _), (0, _), (1, _), (2, _), (3, _), (4, _), (5, _)]) C dX6_speaks_92 (by decide) rfl ?_
    obtain ⟨s7, hl, h⟩ := bd_some h
    have hE : Ex_X6_speaks_94 Y X x1 x2 (M 61 (x2).toNatClampNeg) (M 57 (((2 : Int32) * x2)).toNatClampNeg) s4.1 s7 := by
      replace h := Option.some.inj h
      subst h
      exact a_vret C dX6_speaks_193 hK
    have hA := aw_loop (At_X6_speaks_94 Y X x1 x2 (M 61 (x2).toNatClampNeg) (M 57 (((2 : Int32) * x2)).toNatClampNeg) s4.1) (Ex_X6_speaks_94 Y X x1 x2 (M 61 (x2).toNatClampNeg) (M 57 (((2 : Int32) * x2)).toNatClampNeg) s4.1) (fun _ _ hb hk => t_X6_speaks_94_94b C hb hk) hl hE
    exact a_sub [1, 2, 3, 4, 5, 6, 0] (hA) rfl
  have hA := aw_loop (At_X6_speaks_26 Y X x1 x2 (M 61 (x2).toNatClampNeg) (M 57 (((2 : Int32) * x2)).toNatClampNeg) M) (Ex_X6_speaks_26 Y X x1 x2 (M 61 (x2).toNatClampNeg) (M 57 (((2 : Int32) * x2)).toNatClampNeg) M) (fun _ _ hb hk => t_X6_speaks_26_26b C hb hk) hl hE
  exact a_sub [5, 6, 7, 4, 3, 2, 1, 0] (hA) rfl
theorem m_X6_speaks {Y : EY} (hY : HY Y) {x1 : Int32} {x2 : Int32} {M : Mem}  {r : Mem} (h : f_X6_speaks x1 x2 M = some r) : MX Y yX6_speaks cX6_speaks 9 none rm_X6_speaks [.ref (Y.2.2.2.1 49), .int x1, .int x2] M (none) r := MX.of hY (by decide) (Nat.le_of_ble_eq_true rfl) (fun _ hR C => a_sub [0, 1, 2] (t_X6_speaks C  h hR) rfl)
abbrev rm_X6_farOf : Room := { frames := 1, cells := 0, slots := 0, locals := 20 }
abbrev At_X6_farOf_5 (Y : EY) (X : CX) (x1 : Int32) (x2 : Int32) (M : Mem) (s : Int32 × Int32) : Prop := AW Y X 5 5 [(0, .ref (Y.2.2.2.1 49)), (1, .int x1), (2, .int x2), (3, .int s.1), (4, .int s.2)] [] M
abbrev Ex_X6_farOf_5 (Y : EY) (X : CX) (x1 : Int32) (x2 : Int32) (M : Mem) (s : Int32 × Int32) : Prop := AW Y X 5 46 [(3, .int s.1)] [] M
noncomputable def f_X6_farOf_5_5b (x1 : Int32) (x2 : Int32) (x3 : Int32) (x4 : Int32) (M : Mem) : Option ((Int32 × Int32) ⊕ (Int32 × Int32)) :=
  (if (5 : Int32) ≤ x4 then some (.inr (x3, x4)) else ck (inb (((5 : Int32) * x2) + x4) 40) (ck (inb (((5 : Int32) * x1) + x4) 40) (Option.bind (f_X6_size ((M 59 ((((5 : Int32) * x2) + x4)).toNatClampNeg) - (M 60 ((((5 : Int32) * x1) + x4)).toNatClampNeg))) (fun r1 => some (.inl ((x3 + r1), (x4 + (1 : Int32))))))))
theorem t_X6_farOf_5_5b {Y : EY} {X : CX} (C : CK Y X cX6_farOf RX6 5 (some .int) rm_X6_farOf) {x1 : Int32} {x2 : Int32} {x3 : Int32} {x4 : Int32} {M : Mem}  {res : (Int32 × Int32) ⊕ (Int32 × Int32)} (h : f_X6_farOf_5_5b x1 x2 x3 x4 M = some res) (hK : KL (At_X6_farOf_5 Y X x1 x2 M) (Ex_X6_farOf_5 Y X x1 x2 M) res) : AW Y X 5 5 [(0, .ref (Y.2.2.2.1 49)), (1, .int x1), (2, .int x2), (3, .int x3), (4, .int x4)] [] M := by
  unfold f_X6_farOf_5_5b at h
  refine a_iload C dX6_farOf_5 4 rfl ?_
  refine a_iconst (v := 5) C dX6_farOf_7 (by decide) ?_
  refine a_icmp_ge (tgt := 46) C dX6_farOf_8 (by decide) (fun hc => ?_) (fun hc => ?_)
  · replace h := ip hc h
    replace h := Option.some.inj h
    subst h
    exact a_sub [3] (hK) rfl
  · replace h := iq hc h
    refine a_iload_n C dX6_farOf_11 3 rfl ?_
    refine a_aload_n C dX6_farOf_12 0 rfl ?_
    refine a_getr (k1 := 59) C dX6_farOf_13 fl_X6_37 rfl Kc_49 rfl ?_
    refine a_iconst (v := 5) C dX6_farOf_16 (by decide) ?_
    refine a_iload_n C dX6_farOf_17 2 rfl ?_
    refine a_imul C dX6_farOf_18 ?_
    refine a_iload C dX6_farOf_19 4 rfl ?_
    refine a_iadd C dX6_farOf_21 ?_
    obtain ⟨hb, h⟩ := ck_some h
    refine a_iald C dX6_farOf_22 Kc_59 rfl hb ?_
    refine a_aload_n C dX6_farOf_23 0 rfl ?_
    refine a_getr (k1 := 60) C dX6_farOf_24 fl_X6_40 rfl Kc_49 rfl ?_
    refine a_iconst (v := 5) C dX6_farOf_27 (by decide) ?_
    refine a_iload_n C dX6_farOf_28 1 rfl ?_
    refine a_imul C dX6_farOf_29 ?_
    refine a_iload C dX6_farOf_30 4 rfl ?_
    refine a_iadd C dX6_farOf_32 ?_
    obtain ⟨hb, h⟩ := ck_some h
    refine a_iald C dX6_farOf_33 Kc_60 rfl hb ?_
    refine a_isub C dX6_farOf_34 ?_
    obtain ⟨r1, hcr1, h⟩ := bd_some h
    refine a_callSi C dX6_farOf_35 ls_X6_180 lm_X6_size ⟨rfl, rfl, by decide, by decide⟩ (m_X6_size C.2.2.2.2.2.2.1 hcr1) rfl rfl (Nat.le_of_ble_eq_true rfl) ?_
    refine a_iadd C dX6_farOf_38 ?_
    refine a_istore_n (lv' := [(3, _), (0, _), (1, _), (2, _), (4, _)]) C dX6_farOf_39 rfl (by decide) rfl ?_
    refine a_iinc (v := 1) (lv' := [(4, _), (3, _), (0, _), (1, _), (2, _)]) C dX6_farOf_40 4 rfl (by decide) (by decide) rfl ?_
    refine a_goto (tgt := 5) C dX6_farOf_43 (by decide) ?_
    replace h := Option.some.inj h
    subst h
    exact a_sub [2, 3, 4, 1, 0] (hK) rfl
noncomputable def f_X6_farOf (x1 : Int32) (x2 : Int32) (M : Mem) : Option (Int32) :=
  Option.bind (loop (fun s2 : Int32 × Int32 => f_X6_farOf_5_5b x1 x2 s2.1 s2.2 M) ((0 : Int32), (0 : Int32))) (fun s3 => some s3.1)
theorem t_X6_farOf {Y : EY} {X : CX} (C : CK Y X cX6_farOf RX6 5 (some .int) rm_X6_farOf) {x1 : Int32} {x2 : Int32} {M : Mem}  {res : Int32} (h : f_X6_farOf x1 x2 M = some res) (hK : RK Y X (some (.int res)) M) : AW Y X 5 0 [(0, .ref (Y.2.2.2.1 49)), (1, .int x1), (2, .int x2)] [] M := by
  unfold f_X6_farOf at h
  refine a_iconst (v := 0) C dX6_farOf_0 (by decide) ?_
  refine a_istore_n (lv' := [(3, _), (0, _), (1, _), (2, _)]) C dX6_farOf_1 rfl (by decide) rfl ?_
  refine a_iconst (v := 0) C dX6_farOf_2 (by decide) ?_
  refine a_istore (lv' := [(4, _), (3, _), (0, _), (1, _), (2, _)]) C dX6_farOf_3 (by decide) rfl ?_
  obtain ⟨s3, hl, h⟩ := bd_some h
  have hE : Ex_X6_farOf_5 Y X x1 x2 M s3 := by
    refine a_iload_n C dX6_farOf_46 0 rfl ?_
    replace h := Option.some.inj h
    subst h
    exact a_iret C dX6_farOf_47 hK
  have hA := aw_loop (At_X6_farOf_5 Y X x1 x2 M) (Ex_X6_farOf_5 Y X x1 x2 M) (fun _ _ hb hk => t_X6_farOf_5_5b C hb hk) hl hE
  exact a_sub [2, 3, 4, 1, 0] (hA) rfl
theorem m_X6_farOf {Y : EY} (hY : HY Y) {x1 : Int32} {x2 : Int32} {M : Mem}  {r : Int32} (h : f_X6_farOf x1 x2 M = some r) : MX Y yX6_farOf cX6_farOf 5 (some .int) rm_X6_farOf [.ref (Y.2.2.2.1 49), .int x1, .int x2] M (some (.int r)) M := MX.of hY (by decide) (Nat.le_of_ble_eq_true rfl) (fun _ hR C => a_sub [0, 1, 2] (t_X6_farOf C  h hR) rfl)
abbrev rm_X6_judges : Room := { frames := 2, cells := 0, slots := 0, locals := 46 }
abbrev At_X6_judges_9 (Y : EY) (X : CX) (x1 : Int32) (x2 : Int32) (M : Mem) (s : Int32 × Int32 × Int32) : Prop := AW Y X 7 9 [(0, .ref (Y.2.2.2.1 49)), (1, .int x1), (2, .int x2), (3, .int s.1), (4, .int s.2.1), (5, .int s.2.2)] [] M
abbrev Ex_X6_judges_9 (Y : EY) (X : CX) (x1 : Int32) (x2 : Int32) (M : Mem) (s : Int32 × Int32 × Int32) : Prop := AW Y X 7 56 [(0, .ref (Y.2.2.2.1 49)), (1, .int x1), (2, .int x2), (3, .int s.1), (4, .int s.2.1)] [] M
noncomputable def f_X6_judges_40_9 (x1 : Int32) (x2 : Int32) (x4 : Int32) (x5 : Int32) (x6 : Int32) (t0 : Int32) (M : Mem) : Option ((Int32 × Int32 × Int32) ⊕ (Int32 × Int32 × Int32)) :=
  Option.bind (f_X6_lesser x6 x4) (fun r2 => some (.inl (t0, r2, (x5 + (1 : Int32)))))
theorem t_X6_judges_40_9 {Y : EY} {X : CX} (C : CK Y X cX6_judges RX6 7 none rm_X6_judges) {x1 : Int32} {x2 : Int32} {x4 : Int32} {x5 : Int32} {x6 : Int32} {t0 : Int32} {M : Mem}  {res : (Int32 × Int32 × Int32) ⊕ (Int32 × Int32 × Int32)} (h : f_X6_judges_40_9 x1 x2 x4 x5 x6 t0 M = some res) (hK : KL (At_X6_judges_9 Y X x1 x2 M) (Ex_X6_judges_9 Y X x1 x2 M) res) : AW Y X 7 40 [(0, .ref (Y.2.2.2.1 49)), (1, .int x1), (2, .int x2), (4, .int x4), (5, .int x5), (6, .int x6)] [.int t0] M := by
  unfold f_X6_judges_40_9 at h
  refine a_istore_n (lv' := [(3, _), (0, _), (1, _), (2, _), (4, _), (5, _), (6, _)]) C dX6_judges_40 rfl (by decide) rfl ?_
  refine a_iload C dX6_judges_41 6 rfl ?_
  refine a_iload C dX6_judges_43 4 rfl ?_
  obtain ⟨r2, hcr2, h⟩ := bd_some h
  refine a_callSi C dX6_judges_45 ls_X6_168 lm_X6_lesser ⟨rfl, rfl, by decide, by decide⟩ (m_X6_lesser C.2.2.2.2.2.2.1 hcr2) rfl rfl (Nat.le_of_ble_eq_true rfl) ?_
  refine a_istore (lv' := [(4, _), (3, _), (0, _), (1, _), (2, _), (5, _), (6, _)]) C dX6_judges_48 (by decide) rfl ?_
  refine a_iinc (v := 1) (lv' := [(5, _), (4, _), (3, _), (0, _), (1, _), (2, _), (6, _)]) C dX6_judges_50 5 rfl (by decide) (by decide) rfl ?_
  refine a_goto (tgt := 9) C dX6_judges_53 (by decide) ?_
  replace h := Option.some.inj h
  subst h
  exact a_sub [3, 4, 5, 2, 1, 0] (hK) rfl
noncomputable def f_X6_judges_9_9b (x1 : Int32) (x2 : Int32) (x3 : Int32) (x4 : Int32) (x5 : Int32) (M : Mem) : Option ((Int32 × Int32 × Int32) ⊕ (Int32 × Int32 × Int32)) :=
  (if (M 49 7) ≤ x5 then some (.inr (x3, x4, x5)) else Option.bind (f_X6_farOf x2 x5 M) (fun r1 => (if x4 ≤ r1 then f_X6_judges_40_9 x1 x2 x4 x5 r1 x3 M else f_X6_judges_40_9 x1 x2 x4 x5 r1 x5 M)))
theorem t_X6_judges_9_9b {Y : EY} {X : CX} (C : CK Y X cX6_judges RX6 7 none rm_X6_judges) {x1 : Int32} {x2 : Int32} {x3 : Int32} {x4 : Int32} {x5 : Int32} {M : Mem}  {res : (Int32 × Int32 × Int32) ⊕ (Int32 × Int32 × Int32)} (h : f_X6_judges_9_9b x1 x2 x3 x4 x5 M = some res) (hK : KL (At_X6_judges_9 Y X x1 x2 M) (Ex_X6_judges_9 Y X x1 x2 M) res) : AW Y X 7 9 [(0, .ref (Y.2.2.2.1 49)), (1, .int x1), (2, .int x2), (3, .int x3), (4, .int x4), (5, .int x5)] [] M := by
  unfold f_X6_judges_9_9b at h
  refine a_iload C dX6_judges_9 5 rfl ?_
  refine a_aload_n C dX6_judges_11 0 rfl ?_
  refine a_geti C dX6_judges_12 fl_X6_116 rfl Kc_49 ?_
  refine a_icmp_ge (tgt := 56) C dX6_judges_15 (by decide) (fun hc => ?_) (fun hc => ?_)
  · replace h := ip hc h
    replace h := Option.some.inj h
    subst h
    exact a_sub [0, 1, 2, 3, 4] (hK) rfl
  · replace h := iq hc h
    refine a_aload_n C dX6_judges_18 0 rfl ?_
    refine a_iload_n C dX6_judges_19 2 rfl ?_
    refine a_iload C dX6_judges_20 5 rfl ?_
    obtain ⟨r1, hcr1, h⟩ := bd_some h
    refine a_callVi C dX6_judges_22 lv_X6_183 lm_X6_farOf ⟨rfl, rfl, by decide, by decide⟩ Kc_49 (m_X6_farOf C.2.2.2.2.2.2.1 hcr1) rfl rfl (Nat.le_of_ble_eq_true rfl) ?_
    refine a_istore (lv' := [(6, _), (0, _), (1, _), (2, _), (3, _), (4, _), (5, _)]) C dX6_judges_25 (by decide) rfl ?_
    refine a_iload C dX6_judges_27 0 rfl ?_
    refine a_iload C dX6_judges_29 5 rfl ?_
    refine a_icmp_ge (tgt := 39) C dX6_judges_31 (by decide) (fun hc => ?_) (fun hc => ?_)
    · replace h := ip hc h
      refine a_iload_n C dX6_judges_39 4 rfl ?_
      exact a_sub [1, 2, 3, 5, 6, 0] (t_X6_judges_40_9 C h hK) rfl
    · replace h := iq hc h
      refine a_iload C dX6_judges_34 6 rfl ?_
      refine a_goto (tgt := 40) C dX6_judges_36 (by decide) ?_
      exact a_sub [1, 2, 3, 5, 6, 0] (t_X6_judges_40_9 C h hK) rfl
noncomputable def f_X6_judges_158 (x1 : Int32) (x2 : Int32) (t0 : Int32) (M : Mem) : Option (Mem) :=
  ck (inb x2 8) ((if (M 67 (x2).toNatClampNeg) = (-1 : Int32) then (if t0 = 0 then ck (inb x2 8) (ck (inb x2 8) (some (upM M 67 (x2).toNatClampNeg (M 67 (x2).toNatClampNeg)))) else ck (inb x2 8) (some (upM M 67 (x2).toNatClampNeg x1))) else ck (inb x2 8) (ck (inb x2 8) (some (upM M 67 (x2).toNatClampNeg (M 67 (x2).toNatClampNeg))))))
theorem t_X6_judges_158 {Y : EY} {X : CX} (C : CK Y X cX6_judges RX6 7 none rm_X6_judges) {x1 : Int32} {x2 : Int32} {t0 : Int32} {M : Mem}  {res : Mem} (h : f_X6_judges_158 x1 x2 t0 M = some res) (hK : RK Y X none res) : AW Y X 7 158 [(0, .ref (Y.2.2.2.1 49)), (1, .int x1), (2, .int x2)] [.int t0] M := by
  unfold f_X6_judges_158 at h
  refine a_istore (lv' := [(5, _), (0, _), (1, _), (2, _)]) C dX6_judges_158 (by decide) rfl ?_
  refine a_aload_n C dX6_judges_160 1 rfl ?_
  refine a_getr (k1 := 67) C dX6_judges_161 fl_X6_61 rfl Kc_49 rfl ?_
  refine a_iload_n C dX6_judges_164 3 rfl ?_
  refine a_aload_n C dX6_judges_165 1 rfl ?_
  refine a_getr (k1 := 67) C dX6_judges_166 fl_X6_61 rfl Kc_49 rfl ?_
  refine a_iload_n C dX6_judges_169 3 rfl ?_
  obtain ⟨hb, h⟩ := ck_some h
  refine a_iald C dX6_judges_170 Kc_67 rfl hb ?_
  refine a_iconst (v := -1) C dX6_judges_171 (by decide) ?_
  refine a_icmp_ne (tgt := 184) C dX6_judges_172 (by decide) (fun hc => ?_) (fun hc => ?_)
  · replace h := iq hc h
    refine a_aload_n C dX6_judges_184 1 rfl ?_
    refine a_getr (k1 := 67) C dX6_judges_185 fl_X6_61 rfl Kc_49 rfl ?_
    refine a_iload_n C dX6_judges_188 3 rfl ?_
    obtain ⟨hb, h⟩ := ck_some h
    refine a_iald C dX6_judges_189 Kc_67 rfl hb ?_
    obtain ⟨hb, h⟩ := ck_some h
    refine a_iast C dX6_judges_190 Kc_67 rfl hb ?_
    replace h := Option.some.inj h
    subst h
    exact a_vret C dX6_judges_191 hK
  · replace h := ip hc h
    refine a_iload C dX6_judges_175 0 rfl ?_
    refine a_if_eq (tgt := 184) C dX6_judges_177 (by decide) (fun hc => ?_) (fun hc => ?_)
    · replace h := ip hc h
      refine a_aload_n C dX6_judges_184 1 rfl ?_
      refine a_getr (k1 := 67) C dX6_judges_185 fl_X6_61 rfl Kc_49 rfl ?_
      refine a_iload_n C dX6_judges_188 3 rfl ?_
      obtain ⟨hb, h⟩ := ck_some h
      refine a_iald C dX6_judges_189 Kc_67 rfl hb ?_
      obtain ⟨hb, h⟩ := ck_some h
      refine a_iast C dX6_judges_190 Kc_67 rfl hb ?_
      replace h := Option.some.inj h
      subst h
      exact a_vret C dX6_judges_191 hK
    · replace h := iq hc h
      refine a_iload_n C dX6_judges_180 2 rfl ?_
      refine a_goto (tgt := 190) C dX6_judges_181 (by decide) ?_
      obtain ⟨hb, h⟩ := ck_some h
      refine a_iast C dX6_judges_190 Kc_67 rfl hb ?_
      replace h := Option.some.inj h
      subst h
      exact a_vret C dX6_judges_191 hK
noncomputable def f_X6_judges_157 (x1 : Int32) (x2 : Int32) (M : Mem) : Option (Mem) :=
  f_X6_judges_158 x1 x2 (0 : Int32) M
theorem t_X6_judges_157 {Y : EY} {X : CX} (C : CK Y X cX6_judges RX6 7 none rm_X6_judges) {x1 : Int32} {x2 : Int32} {M : Mem}  {res : Mem} (h : f_X6_judges_157 x1 x2 M = some res) (hK : RK Y X none res) : AW Y X 7 157 [(0, .ref (Y.2.2.2.1 49)), (1, .int x1), (2, .int x2)] [] M := by
  unfold f_X6_judges_157 at h
  refine a_iconst (v := 0) C dX6_judges_157 (by decide) ?_
  exact a_sub [0, 1, 2] (t_X6_judges_158 C h hK) rfl
noncomputable def f_X6_judges_89 (x1 : Int32) (x2 : Int32) (t1 : Int32) (t2 : Int32) (M : Mem) : Option (Mem) :=
  ck (inb t1 240) (ck (inb x2 8) (ck (inb (((8 : Int32) * x1) + x2) 240) (ck (inb x2 8) (Option.bind (f_X6_isAccent ((upM (upM M 66 (t1).toNatClampNeg t2) 64 ((((8 : Int32) * x1) + x2)).toNatClampNeg ((upM M 66 (t1).toNatClampNeg t2) 61 (x2).toNatClampNeg)) 61 (x2).toNatClampNeg) (upM (upM M 66 (t1).toNatClampNeg t2) 64 ((((8 : Int32) * x1) + x2)).toNatClampNeg ((upM M 66 (t1).toNatClampNeg t2) 61 (x2).toNatClampNeg))) (fun r5 => (if r5 = 0 then f_X6_judges_157 x1 x2 (upM (upM M 66 (t1).toNatClampNeg t2) 64 ((((8 : Int32) * x1) + x2)).toNatClampNeg ((upM M 66 (t1).toNatClampNeg t2) 61 (x2).toNatClampNeg)) else ck (inb x2 8) (ck (inb (((2 : Int32) * x2) + (1 : Int32)) 16) ((if ((upM (upM M 66 (t1).toNatClampNeg t2) 64 ((((8 : Int32) * x1) + x2)).toNatClampNeg ((upM M 66 (t1).toNatClampNeg t2) 61 (x2).toNatClampNeg)) 61 (x2).toNatClampNeg) = ((upM (upM M 66 (t1).toNatClampNeg t2) 64 ((((8 : Int32) * x1) + x2)).toNatClampNeg ((upM M 66 (t1).toNatClampNeg t2) 61 (x2).toNatClampNeg)) 57 ((((2 : Int32) * x2) + (1 : Int32))).toNatClampNeg) then f_X6_judges_157 x1 x2 (upM (upM M 66 (t1).toNatClampNeg t2) 64 ((((8 : Int32) * x1) + x2)).toNatClampNeg ((upM M 66 (t1).toNatClampNeg t2) 61 (x2).toNatClampNeg)) else ck (inb x2 8) (Option.bind (f_X6_farOf x2 ((upM (upM M 66 (t1).toNatClampNeg t2) 64 ((((8 : Int32) * x1) + x2)).toNatClampNeg ((upM M 66 (t1).toNatClampNeg t2) 61 (x2).toNatClampNeg)) 61 (x2).toNatClampNeg) (upM (upM M 66 (t1).toNatClampNeg t2) 64 ((((8 : Int32) * x1) + x2)).toNatClampNeg ((upM M 66 (t1).toNatClampNeg t2) 61 (x2).toNatClampNeg))) (fun r6 => (if r6 = 0 then f_X6_judges_158 x1 x2 (1 : Int32) (upM (upM M 66 (t1).toNatClampNeg t2) 64 ((((8 : Int32) * x1) + x2)).toNatClampNeg ((upM M 66 (t1).toNatClampNeg t2) 61 (x2).toNatClampNeg)) else f_X6_judges_157 x1 x2 (upM (upM M 66 (t1).toNatClampNeg t2) 64 ((((8 : Int32) * x1) + x2)).toNatClampNeg ((upM M 66 (t1).toNatClampNeg t2) 61 (x2).toNatClampNeg))))))))))))))
theorem t_X6_judges_89 {Y : EY} {X : CX} (C : CK Y X cX6_judges RX6 7 none rm_X6_judges) {x1 : Int32} {x2 : Int32} {t1 : Int32} {t2 : Int32} {M : Mem}  {res : Mem} (h : f_X6_judges_89 x1 x2 t1 t2 M = some res) (hK : RK Y X none res) : AW Y X 7 89 [(0, .ref (Y.2.2.2.1 49)), (1, .int x1), (2, .int x2)] [.int t2, .int t1, .ref (Y.2.2.2.1 66)] M := by
  unfold f_X6_judges_89 at h
  obtain ⟨hb, h⟩ := ck_some h
  refine a_iast C dX6_judges_89 Kc_66 rfl hb ?_
  refine a_aload_n C dX6_judges_90 0 rfl ?_
  refine a_getr (k1 := 64) C dX6_judges_91 fl_X6_52 rfl Kc_49 rfl ?_
  refine a_bipush (v := 8) C dX6_judges_94 (by decide) ?_
  refine a_iload_n C dX6_judges_96 1 rfl ?_
  refine a_imul C dX6_judges_97 ?_
  refine a_iload_n C dX6_judges_98 2 rfl ?_
  refine a_iadd C dX6_judges_99 ?_
  refine a_aload_n C dX6_judges_100 0 rfl ?_
  refine a_getr (k1 := 61) C dX6_judges_101 fl_X6_43 rfl Kc_49 rfl ?_
  refine a_iload_n C dX6_judges_104 2 rfl ?_
  obtain ⟨hb, h⟩ := ck_some h
  refine a_iald C dX6_judges_105 Kc_61 rfl hb ?_
  obtain ⟨hb, h⟩ := ck_some h
  refine a_iast C dX6_judges_106 Kc_64 rfl hb ?_
  refine a_aload_n C dX6_judges_107 0 rfl ?_
  refine a_aload_n C dX6_judges_108 0 rfl ?_
  refine a_getr (k1 := 61) C dX6_judges_109 fl_X6_43 rfl Kc_49 rfl ?_
  refine a_iload_n C dX6_judges_112 2 rfl ?_
  obtain ⟨hb, h⟩ := ck_some h
  refine a_iald C dX6_judges_113 Kc_61 rfl hb ?_
  obtain ⟨r5, hcr5, h⟩ := bd_some h
  refine a_callVi C dX6_judges_114 lv_X6_144 lm_X6_isAccent ⟨rfl, rfl, by decide, by decide⟩ Kc_49 (m_X6_isAccent C.2.2.2.2.2.2.1 hcr5) rfl rfl (Nat.le_of_ble_eq_true rfl) ?_
  refine a_if_eq (tgt := 157) C dX6_judges_117 (by decide) (fun hc => ?_) (fun hc => ?_)
  · replace h := ip hc h
    exact a_sub [0, 1, 2] (t_X6_judges_157 C h hK) rfl
  · replace h := iq hc h
    refine a_aload_n C dX6_judges_120 0 rfl ?_
    refine a_getr (k1 := 61) C dX6_judges_121 fl_X6_43 rfl Kc_49 rfl ?_
    refine a_iload_n C dX6_judges_124 2 rfl ?_
    obtain ⟨hb, h⟩ := ck_some h
    refine a_iald C dX6_judges_125 Kc_61 rfl hb ?_
    refine a_aload_n C dX6_judges_126 0 rfl ?_
    refine a_getr (k1 := 57) C dX6_judges_127 fl_X6_31 rfl Kc_49 rfl ?_
    refine a_iconst (v := 2) C dX6_judges_130 (by decide) ?_
    refine a_iload_n C dX6_judges_131 2 rfl ?_
    refine a_imul C dX6_judges_132 ?_
    refine a_iconst (v := 1) C dX6_judges_133 (by decide) ?_
    refine a_iadd C dX6_judges_134 ?_
    obtain ⟨hb, h⟩ := ck_some h
    refine a_iald C dX6_judges_135 Kc_57 rfl hb ?_
    refine a_icmp_eq (tgt := 157) C dX6_judges_136 (by decide) (fun hc => ?_) (fun hc => ?_)
    · replace h := ip hc h
      exact a_sub [0, 1, 2] (t_X6_judges_157 C h hK) rfl
    · replace h := iq hc h
      refine a_aload_n C dX6_judges_139 0 rfl ?_
      refine a_iload_n C dX6_judges_140 2 rfl ?_
      refine a_aload_n C dX6_judges_141 0 rfl ?_
      refine a_getr (k1 := 61) C dX6_judges_142 fl_X6_43 rfl Kc_49 rfl ?_
      refine a_iload_n C dX6_judges_145 2 rfl ?_
      obtain ⟨hb, h⟩ := ck_some h
      refine a_iald C dX6_judges_146 Kc_61 rfl hb ?_
      obtain ⟨r6, hcr6, h⟩ := bd_some h
      refine a_callVi C dX6_judges_147 lv_X6_183 lm_X6_farOf ⟨rfl, rfl, by decide, by decide⟩ Kc_49 (m_X6_farOf C.2.2.2.2.2.2.1 hcr6) rfl rfl (Nat.le_of_ble_eq_true rfl) ?_
      refine a_if_ne (tgt := 157) C dX6_judges_150 (by decide) (fun hc => ?_) (fun hc => ?_)
      · replace h := iq hc h
        exact a_sub [0, 1, 2] (t_X6_judges_157 C h hK) rfl
      · replace h := ip hc h
        refine a_iconst (v := 1) C dX6_judges_153 (by decide) ?_
        refine a_goto (tgt := 158) C dX6_judges_154 (by decide) ?_
        exact a_sub [0, 1, 2] (t_X6_judges_158 C h hK) rfl
noncomputable def f_X6_judges (x1 : Int32) (x2 : Int32) (M : Mem) : Option (Mem) :=
  Option.bind (loop (fun s3 : Int32 × Int32 × Int32 => f_X6_judges_9_9b x1 x2 s3.1 s3.2.1 s3.2.2 M) ((-1 : Int32), (99 : Int32), (0 : Int32))) (fun s4 => ck (inb (((8 : Int32) * x1) + x2) 240) ((if s4.1 = (-1 : Int32) then f_X6_judges_89 x1 x2 (((8 : Int32) * x1) + x2) (-1 : Int32) (upM M 65 ((((8 : Int32) * x1) + x2)).toNatClampNeg s4.1) else f_X6_judges_89 x1 x2 (((8 : Int32) * x1) + x2) s4.2.1 (upM M 65 ((((8 : Int32) * x1) + x2)).toNatClampNeg s4.1))))
theorem t_X6_judges {Y : EY} {X : CX} (C : CK Y X cX6_judges RX6 7 none rm_X6_judges) {x1 : Int32} {x2 : Int32} {M : Mem}  {res : Mem} (h : f_X6_judges x1 x2 M = some res) (hK : RK Y X none res) : AW Y X 7 0 [(0, .ref (Y.2.2.2.1 49)), (1, .int x1), (2, .int x2)] [] M := by
  unfold f_X6_judges at h
  refine a_iconst (v := -1) C dX6_judges_0 (by decide) ?_
  refine a_istore_n (lv' := [(3, _), (0, _), (1, _), (2, _)]) C dX6_judges_1 rfl (by decide) rfl ?_
  refine a_bipush (v := 99) C dX6_judges_2 (by decide) ?_
  refine a_istore (lv' := [(4, _), (3, _), (0, _), (1, _), (2, _)]) C dX6_judges_4 (by decide) rfl ?_
  refine a_iconst (v := 0) C dX6_judges_6 (by decide) ?_
  refine a_istore (lv' := [(5, _), (4, _), (3, _), (0, _), (1, _), (2, _)]) C dX6_judges_7 (by decide) rfl ?_
  obtain ⟨s4, hl, h⟩ := bd_some h
  have hE : Ex_X6_judges_9 Y X x1 x2 M s4 := by
    refine a_aload_n C dX6_judges_56 0 rfl ?_
    refine a_getr (k1 := 65) C dX6_judges_57 fl_X6_55 rfl Kc_49 rfl ?_
    refine a_bipush (v := 8) C dX6_judges_60 (by decide) ?_
    refine a_iload_n C dX6_judges_62 1 rfl ?_
    refine a_imul C dX6_judges_63 ?_
    refine a_iload_n C dX6_judges_64 2 rfl ?_
    refine a_iadd C dX6_judges_65 ?_
    refine a_iload_n C dX6_judges_66 3 rfl ?_
    obtain ⟨hb, h⟩ := ck_some h
    refine a_iast C dX6_judges_67 Kc_65 rfl hb ?_
    refine a_aload_n C dX6_judges_68 0 rfl ?_
    refine a_getr (k1 := 66) C dX6_judges_69 fl_X6_58 rfl Kc_49 rfl ?_
    refine a_bipush (v := 8) C dX6_judges_72 (by decide) ?_
    refine a_iload_n C dX6_judges_74 1 rfl ?_
    refine a_imul C dX6_judges_75 ?_
    refine a_iload_n C dX6_judges_76 2 rfl ?_
    refine a_iadd C dX6_judges_77 ?_
    refine a_iload_n C dX6_judges_78 3 rfl ?_
    refine a_iconst (v := -1) C dX6_judges_79 (by decide) ?_
    refine a_icmp_ne (tgt := 87) C dX6_judges_80 (by decide) (fun hc => ?_) (fun hc => ?_)
    · replace h := iq hc h
      refine a_iload C dX6_judges_87 4 rfl ?_
      exact a_sub [0, 1, 2] (t_X6_judges_89 C h hK) rfl
    · replace h := ip hc h
      refine a_iconst (v := -1) C dX6_judges_83 (by decide) ?_
      refine a_goto (tgt := 89) C dX6_judges_84 (by decide) ?_
      exact a_sub [0, 1, 2] (t_X6_judges_89 C h hK) rfl
  have hA := aw_loop (At_X6_judges_9 Y X x1 x2 M) (Ex_X6_judges_9 Y X x1 x2 M) (fun _ _ hb hk => t_X6_judges_9_9b C hb hk) hl hE
  exact a_sub [3, 4, 5, 2, 1, 0] (hA) rfl
theorem m_X6_judges {Y : EY} (hY : HY Y) {x1 : Int32} {x2 : Int32} {M : Mem}  {r : Mem} (h : f_X6_judges x1 x2 M = some r) : MX Y yX6_judges cX6_judges 7 none rm_X6_judges [.ref (Y.2.2.2.1 49), .int x1, .int x2] M (none) r := MX.of hY (by decide) (Nat.le_of_ble_eq_true rfl) (fun _ hR C => a_sub [0, 1, 2] (t_X6_judges C  h hR) rfl)
abbrev rm_X6_passes : Room := { frames := 3, cells := 0, slots := 0, locals := 72 }
abbrev At_X6_passes_2 (Y : EY) (X : CX) (x1 : Int32) (s : Int32 × Mem) : Prop := AW Y X 3 2 [(0, .ref (Y.2.2.2.1 49)), (1, .int x1), (2, .int s.1)] [] s.2
abbrev Ex_X6_passes_2 (Y : EY) (X : CX) (x1 : Int32) (s : Int32 × Mem) : Prop := AW Y X 3 81 [(0, .ref (Y.2.2.2.1 49)), (1, .int x1)] [] s.2
noncomputable def f_X6_passes_75_2 (x1 : Int32) (x2 : Int32) (M : Mem) : Option ((Int32 × Mem) ⊕ (Int32 × Mem)) :=
  some (.inl ((x2 + (1 : Int32)), M))
theorem t_X6_passes_75_2 {Y : EY} {X : CX} (C : CK Y X cX6_passes RX6 3 none rm_X6_passes) {x1 : Int32} {x2 : Int32} {M : Mem}  {res : (Int32 × Mem) ⊕ (Int32 × Mem)} (h : f_X6_passes_75_2 x1 x2 M = some res) (hK : KL (At_X6_passes_2 Y X x1) (Ex_X6_passes_2 Y X x1) res) : AW Y X 3 75 [(0, .ref (Y.2.2.2.1 49)), (1, .int x1), (2, .int x2)] [] M := by
  unfold f_X6_passes_75_2 at h
  refine a_iinc (v := 1) (lv' := [(2, _), (0, _), (1, _)]) C dX6_passes_75 2 rfl (by decide) (by decide) rfl ?_
  refine a_goto (tgt := 2) C dX6_passes_78 (by decide) ?_
  replace h := Option.some.inj h
  subst h
  exact a_sub [1, 2, 0] (hK) rfl
noncomputable def f_X6_passes_2_2b (x1 : Int32) (x2 : Int32) (M : Mem) : Option ((Int32 × Mem) ⊕ (Int32 × Mem)) :=
  (if (M 49 11) ≤ x2 then some (.inr (x2, M)) else ck (inb ((3 : Int32) * x2) 24) ((if (M 58 (((3 : Int32) * x2)).toNatClampNeg) = x1 then ck (inb (((3 : Int32) * x2) + (1 : Int32)) 24) (Option.bind (f_X6_isPerson (M 58 ((((3 : Int32) * x2) + (1 : Int32))).toNatClampNeg) M) (fun r1 => (if r1 = 0 then f_X6_passes_75_2 x1 x2 M else Option.bind (f_X6_isIn (M 49 13) x2) (fun r2 => (if r2 = 0 then ck (inb (((3 : Int32) * x2) + (1 : Int32)) 24) (ck (inb (((3 : Int32) * x2) + (2 : Int32)) 24) (ck (inb (M 58 ((((3 : Int32) * x2) + (1 : Int32))).toNatClampNeg) 8) (f_X6_passes_75_2 x1 x2 (upM M 61 ((M 58 ((((3 : Int32) * x2) + (1 : Int32))).toNatClampNeg)).toNatClampNeg (M 58 ((((3 : Int32) * x2) + (2 : Int32))).toNatClampNeg))))) else f_X6_passes_75_2 x1 x2 M))))) else f_X6_passes_75_2 x1 x2 M)))
theorem t_X6_passes_2_2b {Y : EY} {X : CX} (C : CK Y X cX6_passes RX6 3 none rm_X6_passes) {x1 : Int32} {x2 : Int32} {M : Mem}  {res : (Int32 × Mem) ⊕ (Int32 × Mem)} (h : f_X6_passes_2_2b x1 x2 M = some res) (hK : KL (At_X6_passes_2 Y X x1) (Ex_X6_passes_2 Y X x1) res) : AW Y X 3 2 [(0, .ref (Y.2.2.2.1 49)), (1, .int x1), (2, .int x2)] [] M := by
  unfold f_X6_passes_2_2b at h
  refine a_iload_n C dX6_passes_2 2 rfl ?_
  refine a_aload_n C dX6_passes_3 0 rfl ?_
  refine a_geti C dX6_passes_4 fl_X6_152 rfl Kc_49 ?_
  refine a_icmp_ge (tgt := 81) C dX6_passes_7 (by decide) (fun hc => ?_) (fun hc => ?_)
  · replace h := ip hc h
    replace h := Option.some.inj h
    subst h
    exact a_sub [0, 1] (hK) rfl
  · replace h := iq hc h
    refine a_aload_n C dX6_passes_10 0 rfl ?_
    refine a_getr (k1 := 58) C dX6_passes_11 fl_X6_34 rfl Kc_49 rfl ?_
    refine a_iconst (v := 3) C dX6_passes_14 (by decide) ?_
    refine a_iload_n C dX6_passes_15 2 rfl ?_
    refine a_imul C dX6_passes_16 ?_
    obtain ⟨hb, h⟩ := ck_some h
    refine a_iald C dX6_passes_17 Kc_58 rfl hb ?_
    refine a_iload_n C dX6_passes_18 1 rfl ?_
    refine a_icmp_ne (tgt := 75) C dX6_passes_19 (by decide) (fun hc => ?_) (fun hc => ?_)
    · replace h := iq hc h
      exact a_sub [0, 1, 2] (t_X6_passes_75_2 C h hK) rfl
    · replace h := ip hc h
      refine a_aload_n C dX6_passes_22 0 rfl ?_
      refine a_aload_n C dX6_passes_23 0 rfl ?_
      refine a_getr (k1 := 58) C dX6_passes_24 fl_X6_34 rfl Kc_49 rfl ?_
      refine a_iconst (v := 3) C dX6_passes_27 (by decide) ?_
      refine a_iload_n C dX6_passes_28 2 rfl ?_
      refine a_imul C dX6_passes_29 ?_
      refine a_iconst (v := 1) C dX6_passes_30 (by decide) ?_
      refine a_iadd C dX6_passes_31 ?_
      obtain ⟨hb, h⟩ := ck_some h
      refine a_iald C dX6_passes_32 Kc_58 rfl hb ?_
      obtain ⟨r1, hcr1, h⟩ := bd_some h
      refine a_callVi C dX6_passes_33 lv_X6_149 lm_X6_isPerson ⟨rfl, rfl, by decide, by decide⟩ Kc_49 (m_X6_isPerson C.2.2.2.2.2.2.1 hcr1) rfl rfl (Nat.le_of_ble_eq_true rfl) ?_
      refine a_if_eq (tgt := 75) C dX6_passes_36 (by decide) (fun hc => ?_) (fun hc => ?_)
      · replace h := ip hc h
        exact a_sub [0, 1, 2] (t_X6_passes_75_2 C h hK) rfl
      · replace h := iq hc h
        refine a_aload_n C dX6_passes_39 0 rfl ?_
        refine a_geti C dX6_passes_40 fl_X6_186 rfl Kc_49 ?_
        refine a_iload_n C dX6_passes_43 2 rfl ?_
        obtain ⟨r2, hcr2, h⟩ := bd_some h
        refine a_callSi C dX6_passes_44 ls_X6_189 lm_X6_isIn ⟨rfl, rfl, by decide, by decide⟩ (m_X6_isIn C.2.2.2.2.2.2.1 hcr2) rfl rfl (Nat.le_of_ble_eq_true rfl) ?_
        refine a_if_ne (tgt := 75) C dX6_passes_47 (by decide) (fun hc => ?_) (fun hc => ?_)
        · replace h := iq hc h
          exact a_sub [0, 1, 2] (t_X6_passes_75_2 C h hK) rfl
        · replace h := ip hc h
          refine a_aload_n C dX6_passes_50 0 rfl ?_
          refine a_getr (k1 := 61) C dX6_passes_51 fl_X6_43 rfl Kc_49 rfl ?_
          refine a_aload_n C dX6_passes_54 0 rfl ?_
          refine a_getr (k1 := 58) C dX6_passes_55 fl_X6_34 rfl Kc_49 rfl ?_
          refine a_iconst (v := 3) C dX6_passes_58 (by decide) ?_
          refine a_iload_n C dX6_passes_59 2 rfl ?_
          refine a_imul C dX6_passes_60 ?_
          refine a_iconst (v := 1) C dX6_passes_61 (by decide) ?_
          refine a_iadd C dX6_passes_62 ?_
          obtain ⟨hb, h⟩ := ck_some h
          refine a_iald C dX6_passes_63 Kc_58 rfl hb ?_
          refine a_aload_n C dX6_passes_64 0 rfl ?_
          refine a_getr (k1 := 58) C dX6_passes_65 fl_X6_34 rfl Kc_49 rfl ?_
          refine a_iconst (v := 3) C dX6_passes_68 (by decide) ?_
          refine a_iload_n C dX6_passes_69 2 rfl ?_
          refine a_imul C dX6_passes_70 ?_
          refine a_iconst (v := 2) C dX6_passes_71 (by decide) ?_
          refine a_iadd C dX6_passes_72 ?_
          obtain ⟨hb, h⟩ := ck_some h
          refine a_iald C dX6_passes_73 Kc_58 rfl hb ?_
          obtain ⟨hb, h⟩ := ck_some h
          refine a_iast C dX6_passes_74 Kc_61 rfl hb ?_
          exact a_sub [0, 1, 2] (t_X6_passes_75_2 C h hK) rfl
abbrev At_X6_passes_121 (Y : EY) (X : CX) (x1 : Int32) (s : Int32 × Mem) : Prop := AW Y X 3 121 [(0, .ref (Y.2.2.2.1 49)), (1, .int x1), (2, .int s.1)] [] s.2
abbrev Ex_X6_passes_121 (Y : EY) (X : CX) (x1 : Int32) (s : Int32 × Mem) : Prop := AW Y X 3 154 [(0, .ref (Y.2.2.2.1 49)), (1, .int x1)] [] s.2
noncomputable def f_X6_passes_148_121 (x1 : Int32) (x2 : Int32) (M : Mem) : Option ((Int32 × Mem) ⊕ (Int32 × Mem)) :=
  some (.inl ((x2 + (1 : Int32)), M))
theorem t_X6_passes_148_121 {Y : EY} {X : CX} (C : CK Y X cX6_passes RX6 3 none rm_X6_passes) {x1 : Int32} {x2 : Int32} {M : Mem}  {res : (Int32 × Mem) ⊕ (Int32 × Mem)} (h : f_X6_passes_148_121 x1 x2 M = some res) (hK : KL (At_X6_passes_121 Y X x1) (Ex_X6_passes_121 Y X x1) res) : AW Y X 3 148 [(0, .ref (Y.2.2.2.1 49)), (1, .int x1), (2, .int x2)] [] M := by
  unfold f_X6_passes_148_121 at h
  refine a_iinc (v := 1) (lv' := [(2, _), (0, _), (1, _)]) C dX6_passes_148 2 rfl (by decide) (by decide) rfl ?_
  refine a_goto (tgt := 121) C dX6_passes_151 (by decide) ?_
  replace h := Option.some.inj h
  subst h
  exact a_sub [1, 2, 0] (hK) rfl
noncomputable def f_X6_passes_121_121b (x1 : Int32) (x2 : Int32) (M : Mem) : Option ((Int32 × Mem) ⊕ (Int32 × Mem)) :=
  (if (M 49 9) ≤ x2 then some (.inr (x2, M)) else ck (inb x2 8) (Option.bind (f_X6_isAccent (M 61 (x2).toNatClampNeg) M) (fun r5 => (if r5 = 0 then f_X6_passes_148_121 x1 x2 M else Option.bind (f_X6_speaks x1 x2 M) (fun r6 => f_X6_passes_148_121 x1 x2 r6)))))
theorem t_X6_passes_121_121b {Y : EY} {X : CX} (C : CK Y X cX6_passes RX6 3 none rm_X6_passes) {x1 : Int32} {x2 : Int32} {M : Mem}  {res : (Int32 × Mem) ⊕ (Int32 × Mem)} (h : f_X6_passes_121_121b x1 x2 M = some res) (hK : KL (At_X6_passes_121 Y X x1) (Ex_X6_passes_121 Y X x1) res) : AW Y X 3 121 [(0, .ref (Y.2.2.2.1 49)), (1, .int x1), (2, .int x2)] [] M := by
  unfold f_X6_passes_121_121b at h
  refine a_iload_n C dX6_passes_121 2 rfl ?_
  refine a_aload_n C dX6_passes_122 0 rfl ?_
  refine a_geti C dX6_passes_123 fl_X6_124 rfl Kc_49 ?_
  refine a_icmp_ge (tgt := 154) C dX6_passes_126 (by decide) (fun hc => ?_) (fun hc => ?_)
  · replace h := ip hc h
    replace h := Option.some.inj h
    subst h
    exact a_sub [0, 1] (hK) rfl
  · replace h := iq hc h
    refine a_aload_n C dX6_passes_129 0 rfl ?_
    refine a_aload_n C dX6_passes_130 0 rfl ?_
    refine a_getr (k1 := 61) C dX6_passes_131 fl_X6_43 rfl Kc_49 rfl ?_
    refine a_iload_n C dX6_passes_134 2 rfl ?_
    obtain ⟨hb, h⟩ := ck_some h
    refine a_iald C dX6_passes_135 Kc_61 rfl hb ?_
    obtain ⟨r5, hcr5, h⟩ := bd_some h
    refine a_callVi C dX6_passes_136 lv_X6_144 lm_X6_isAccent ⟨rfl, rfl, by decide, by decide⟩ Kc_49 (m_X6_isAccent C.2.2.2.2.2.2.1 hcr5) rfl rfl (Nat.le_of_ble_eq_true rfl) ?_
    refine a_if_eq (tgt := 148) C dX6_passes_139 (by decide) (fun hc => ?_) (fun hc => ?_)
    · replace h := ip hc h
      exact a_sub [0, 1, 2] (t_X6_passes_148_121 C h hK) rfl
    · replace h := iq hc h
      refine a_aload_n C dX6_passes_142 0 rfl ?_
      refine a_iload_n C dX6_passes_143 1 rfl ?_
      refine a_iload_n C dX6_passes_144 2 rfl ?_
      obtain ⟨r6, hcr6, h⟩ := bd_some h
      refine a_callVv C dX6_passes_145 lv_X6_203 lm_X6_speaks ⟨rfl, rfl, by decide, by decide⟩ Kc_49 (m_X6_speaks C.2.2.2.2.2.2.1 hcr6) rfl rfl (Nat.le_of_ble_eq_true rfl) ?_
      exact a_sub [0, 1, 2] (t_X6_passes_148_121 C h hK) rfl
abbrev At_X6_passes_156 (Y : EY) (X : CX) (x1 : Int32) (s : Int32 × Mem) : Prop := AW Y X 3 156 [(0, .ref (Y.2.2.2.1 49)), (1, .int x1), (2, .int s.1)] [] s.2
abbrev Ex_X6_passes_156 (Y : EY) (X : CX) (x1 : Int32) (s : Int32 × Mem) : Prop := AW Y X 3 176 [(0, .ref (Y.2.2.2.1 49)), (1, .int x1)] [] s.2
noncomputable def f_X6_passes_156_156b (x1 : Int32) (x2 : Int32) (M : Mem) : Option ((Int32 × Mem) ⊕ (Int32 × Mem)) :=
  (if (M 49 9) ≤ x2 then some (.inr (x2, M)) else Option.bind (f_X6_judges x1 x2 M) (fun r9 => some (.inl ((x2 + (1 : Int32)), r9))))
theorem t_X6_passes_156_156b {Y : EY} {X : CX} (C : CK Y X cX6_passes RX6 3 none rm_X6_passes) {x1 : Int32} {x2 : Int32} {M : Mem}  {res : (Int32 × Mem) ⊕ (Int32 × Mem)} (h : f_X6_passes_156_156b x1 x2 M = some res) (hK : KL (At_X6_passes_156 Y X x1) (Ex_X6_passes_156 Y X x1) res) : AW Y X 3 156 [(0, .ref (Y.2.2.2.1 49)), (1, .int x1), (2, .int x2)] [] M := by
  unfold f_X6_passes_156_156b at h
  refine a_iload_n C dX6_passes_156 2 rfl ?_
  refine a_aload_n C dX6_passes_157 0 rfl ?_
  refine a_geti C dX6_passes_158 fl_X6_124 rfl Kc_49 ?_
  refine a_icmp_ge (tgt := 176) C dX6_passes_161 (by decide) (fun hc => ?_) (fun hc => ?_)
  · replace h := ip hc h
    replace h := Option.some.inj h
    subst h
    exact a_sub [0, 1] (hK) rfl
  · replace h := iq hc h
    refine a_aload_n C dX6_passes_164 0 rfl ?_
    refine a_iload_n C dX6_passes_165 1 rfl ?_
    refine a_iload_n C dX6_passes_166 2 rfl ?_
    obtain ⟨r9, hcr9, h⟩ := bd_some h
    refine a_callVv C dX6_passes_167 lv_X6_207 lm_X6_judges ⟨rfl, rfl, by decide, by decide⟩ Kc_49 (m_X6_judges C.2.2.2.2.2.2.1 hcr9) rfl rfl (Nat.le_of_ble_eq_true rfl) ?_
    refine a_iinc (v := 1) (lv' := [(2, _), (0, _), (1, _)]) C dX6_passes_170 2 rfl (by decide) (by decide) rfl ?_
    refine a_goto (tgt := 156) C dX6_passes_173 (by decide) ?_
    replace h := Option.some.inj h
    subst h
    exact a_sub [1, 2, 0] (hK) rfl
abbrev At_X6_passes_178 (Y : EY) (X : CX) (x1 : Int32) (s : Int32 × Mem) : Prop := AW Y X 3 178 [(0, .ref (Y.2.2.2.1 49)), (1, .int x1), (2, .int s.1)] [] s.2
abbrev Ex_X6_passes_178 (Y : EY) (X : CX) (x1 : Int32) (s : Int32 × Mem) : Prop := AW Y X 3 224 [] [] s.2
noncomputable def f_X6_passes_178_178b (x1 : Int32) (x2 : Int32) (M : Mem) : Option ((Int32 × Mem) ⊕ (Int32 × Mem)) :=
  (if (40 : Int32) ≤ x2 then some (.inr (x2, M)) else ck (inb x2 40) (ck (inb (((40 : Int32) * x1) + x2) 1200) (ck (inb x2 40) (ck (inb (((40 : Int32) * x1) + x2) 1200) (some (.inl ((x2 + (1 : Int32)), (upM (upM M 62 ((((40 : Int32) * x1) + x2)).toNatClampNeg (M 59 (x2).toNatClampNeg)) 63 ((((40 : Int32) * x1) + x2)).toNatClampNeg ((upM M 62 ((((40 : Int32) * x1) + x2)).toNatClampNeg (M 59 (x2).toNatClampNeg)) 60 (x2).toNatClampNeg)))))))))
theorem t_X6_passes_178_178b {Y : EY} {X : CX} (C : CK Y X cX6_passes RX6 3 none rm_X6_passes) {x1 : Int32} {x2 : Int32} {M : Mem}  {res : (Int32 × Mem) ⊕ (Int32 × Mem)} (h : f_X6_passes_178_178b x1 x2 M = some res) (hK : KL (At_X6_passes_178 Y X x1) (Ex_X6_passes_178 Y X x1) res) : AW Y X 3 178 [(0, .ref (Y.2.2.2.1 49)), (1, .int x1), (2, .int x2)] [] M := by
  unfold f_X6_passes_178_178b at h
  refine a_iload_n C dX6_passes_178 2 rfl ?_
  refine a_bipush (v := 40) C dX6_passes_179 (by decide) ?_
  refine a_icmp_ge (tgt := 224) C dX6_passes_181 (by decide) (fun hc => ?_) (fun hc => ?_)
  · replace h := ip hc h
    replace h := Option.some.inj h
    subst h
    exact a_sub [] (hK) rfl
  · replace h := iq hc h
    refine a_aload_n C dX6_passes_184 0 rfl ?_
    refine a_getr (k1 := 62) C dX6_passes_185 fl_X6_46 rfl Kc_49 rfl ?_
    refine a_bipush (v := 40) C dX6_passes_188 (by decide) ?_
    refine a_iload_n C dX6_passes_190 1 rfl ?_
    refine a_imul C dX6_passes_191 ?_
    refine a_iload_n C dX6_passes_192 2 rfl ?_
    refine a_iadd C dX6_passes_193 ?_
    refine a_aload_n C dX6_passes_194 0 rfl ?_
    refine a_getr (k1 := 59) C dX6_passes_195 fl_X6_37 rfl Kc_49 rfl ?_
    refine a_iload_n C dX6_passes_198 2 rfl ?_
    obtain ⟨hb, h⟩ := ck_some h
    refine a_iald C dX6_passes_199 Kc_59 rfl hb ?_
    obtain ⟨hb, h⟩ := ck_some h
    refine a_iast C dX6_passes_200 Kc_62 rfl hb ?_
    refine a_aload_n C dX6_passes_201 0 rfl ?_
    refine a_getr (k1 := 63) C dX6_passes_202 fl_X6_49 rfl Kc_49 rfl ?_
    refine a_bipush (v := 40) C dX6_passes_205 (by decide) ?_
    refine a_iload_n C dX6_passes_207 1 rfl ?_
    refine a_imul C dX6_passes_208 ?_
    refine a_iload_n C dX6_passes_209 2 rfl ?_
    refine a_iadd C dX6_passes_210 ?_
    refine a_aload_n C dX6_passes_211 0 rfl ?_
    refine a_getr (k1 := 60) C dX6_passes_212 fl_X6_40 rfl Kc_49 rfl ?_
    refine a_iload_n C dX6_passes_215 2 rfl ?_
    obtain ⟨hb, h⟩ := ck_some h
    refine a_iald C dX6_passes_216 Kc_60 rfl hb ?_
    obtain ⟨hb, h⟩ := ck_some h
    refine a_iast C dX6_passes_217 Kc_63 rfl hb ?_
    refine a_iinc (v := 1) (lv' := [(2, _), (0, _), (1, _)]) C dX6_passes_218 2 rfl (by decide) (by decide) rfl ?_
    refine a_goto (tgt := 178) C dX6_passes_221 (by decide) ?_
    replace h := Option.some.inj h
    subst h
    exact a_sub [1, 2, 0] (hK) rfl
noncomputable def f_X6_passes_119 (x1 : Int32) (M : Mem) : Option (Mem) :=
  Option.bind (loop (fun s7 : Int32 × Mem => f_X6_passes_121_121b x1 s7.1 s7.2) ((0 : Int32), M)) (fun s8 => Option.bind (loop (fun s10 : Int32 × Mem => f_X6_passes_156_156b x1 s10.1 s10.2) ((0 : Int32), s8.2)) (fun s11 => Option.bind (loop (fun s12 : Int32 × Mem => f_X6_passes_178_178b x1 s12.1 s12.2) ((0 : Int32), s11.2)) (fun s13 => some s13.2)))
theorem t_X6_passes_119 {Y : EY} {X : CX} (C : CK Y X cX6_passes RX6 3 none rm_X6_passes) {x1 : Int32} {M : Mem}  {res : Mem} (h : f_X6_passes_119 x1 M = some res) (hK : RK Y X none res) : AW Y X 3 119 [(0, .ref (Y.2.2.2.1 49)), (1, .int x1)] [] M := by
  unfold f_X6_passes_119 at h
  refine a_iconst (v := 0) C dX6_passes_119 (by decide) ?_
  refine a_istore_n (lv' := [(2, _), (0, _), (1, _)]) C dX6_passes_120 rfl (by decide) rfl ?_
  obtain ⟨s8, hl, h⟩ := bd_some h
  have hE : Ex_X6_passes_121 Y X x1 s8 := by
    refine a_iconst (v := 0) C dX6_passes_154 (by decide) ?_
    refine a_istore_n (lv' := [(2, _), (0, _), (1, _)]) C dX6_passes_155 rfl (by decide) rfl ?_
    obtain ⟨s11, hl, h⟩ := bd_some h
    have hE : Ex_X6_passes_156 Y X x1 s11 := by
      refine a_iconst (v := 0) C dX6_passes_176 (by decide) ?_
      refine a_istore_n (lv' := [(2, _), (0, _), (1, _)]) C dX6_passes_177 rfl (by decide) rfl ?_
      obtain ⟨s13, hl, h⟩ := bd_some h
      have hE : Ex_X6_passes_178 Y X x1 s13 := by
        replace h := Option.some.inj h
        subst h
        exact a_vret C dX6_passes_224 hK
      have hA := aw_loop (At_X6_passes_178 Y X x1) (Ex_X6_passes_178 Y X x1) (fun _ _ hb hk => t_X6_passes_178_178b C hb hk) hl hE
      exact a_sub [1, 2, 0] (hA) rfl
    have hA := aw_loop (At_X6_passes_156 Y X x1) (Ex_X6_passes_156 Y X x1) (fun _ _ hb hk => t_X6_passes_156_156b C hb hk) hl hE
    exact a_sub [1, 2, 0] (hA) rfl
  have hA := aw_loop (At_X6_passes_121 Y X x1) (Ex_X6_passes_121 Y X x1) (fun _ _ hb hk => t_X6_passes_121_121b C hb hk) hl hE
  exact a_sub [1, 2, 0] (hA) rfl
noncomputable def f_X6_passes_102 (x1 : Int32) (M : Mem) : Option (Mem) :=
  (if (remI x1 (7 : Int32)) = (6 : Int32) then Option.bind (f_X6_talk (x1 / (7 : Int32)) M) (fun r14 => f_X6_passes_119 x1 r14) else f_X6_passes_119 x1 M)
theorem t_X6_passes_102 {Y : EY} {X : CX} (C : CK Y X cX6_passes RX6 3 none rm_X6_passes) {x1 : Int32} {M : Mem}  {res : Mem} (h : f_X6_passes_102 x1 M = some res) (hK : RK Y X none res) : AW Y X 3 102 [(0, .ref (Y.2.2.2.1 49)), (1, .int x1)] [] M := by
  unfold f_X6_passes_102 at h
  refine a_iload_n C dX6_passes_102 1 rfl ?_
  refine a_bipush (v := 7) C dX6_passes_103 (by decide) ?_
  refine a_irem C dX6_passes_105 (by decide) ?_
  refine a_bipush (v := 6) C dX6_passes_106 (by decide) ?_
  refine a_icmp_ne (tgt := 119) C dX6_passes_108 (by decide) (fun hc => ?_) (fun hc => ?_)
  · replace h := iq hc h
    exact a_sub [0, 1] (t_X6_passes_119 C h hK) rfl
  · replace h := ip hc h
    refine a_aload_n C dX6_passes_111 0 rfl ?_
    refine a_iload_n C dX6_passes_112 1 rfl ?_
    refine a_bipush (v := 7) C dX6_passes_113 (by decide) ?_
    refine a_idiv C dX6_passes_115 (by decide) ?_
    obtain ⟨r14, hcr14, h⟩ := bd_some h
    refine a_callVv C dX6_passes_116 lv_X6_199 lm_X6_talk ⟨rfl, rfl, by decide, by decide⟩ Kc_49 (m_X6_talk C.2.2.2.2.2.2.1 hcr14) rfl rfl (Nat.le_of_ble_eq_true rfl) ?_
    exact a_sub [0, 1] (t_X6_passes_119 C h hK) rfl
noncomputable def f_X6_passes (x1 : Int32) (M : Mem) : Option (Mem) :=
  Option.bind (loop (fun s3 : Int32 × Mem => f_X6_passes_2_2b x1 s3.1 s3.2) ((0 : Int32), M)) (fun s4 => (if (s4.2 49 14) = x1 then ck (inb (s4.2 49 15) 8) (f_X6_passes_102 x1 (upM s4.2 61 ((s4.2 49 15)).toNatClampNeg (s4.2 49 16))) else f_X6_passes_102 x1 s4.2))
theorem t_X6_passes {Y : EY} {X : CX} (C : CK Y X cX6_passes RX6 3 none rm_X6_passes) {x1 : Int32} {M : Mem}  {res : Mem} (h : f_X6_passes x1 M = some res) (hK : RK Y X none res) : AW Y X 3 0 [(0, .ref (Y.2.2.2.1 49)), (1, .int x1)] [] M := by
  unfold f_X6_passes at h
  refine a_iconst (v := 0) C dX6_passes_0 (by decide) ?_
  refine a_istore_n (lv' := [(2, _), (0, _), (1, _)]) C dX6_passes_1 rfl (by decide) rfl ?_
  obtain ⟨s4, hl, h⟩ := bd_some h
  have hE : Ex_X6_passes_2 Y X x1 s4 := by
    refine a_aload_n C dX6_passes_81 0 rfl ?_
    refine a_geti C dX6_passes_82 fl_X6_73 rfl Kc_49 ?_
    refine a_iload_n C dX6_passes_85 1 rfl ?_
    refine a_icmp_ne (tgt := 102) C dX6_passes_86 (by decide) (fun hc => ?_) (fun hc => ?_)
    · replace h := iq hc h
      exact a_sub [0, 1] (t_X6_passes_102 C h hK) rfl
    · replace h := ip hc h
      refine a_aload_n C dX6_passes_89 0 rfl ?_
      refine a_getr (k1 := 61) C dX6_passes_90 fl_X6_43 rfl Kc_49 rfl ?_
      refine a_aload_n C dX6_passes_93 0 rfl ?_
      refine a_geti C dX6_passes_94 fl_X6_193 rfl Kc_49 ?_
      refine a_aload_n C dX6_passes_97 0 rfl ?_
      refine a_geti C dX6_passes_98 fl_X6_196 rfl Kc_49 ?_
      obtain ⟨hb, h⟩ := ck_some h
      refine a_iast C dX6_passes_101 Kc_61 rfl hb ?_
      exact a_sub [0, 1] (t_X6_passes_102 C h hK) rfl
  have hA := aw_loop (At_X6_passes_2 Y X x1) (Ex_X6_passes_2 Y X x1) (fun _ _ hb hk => t_X6_passes_2_2b C hb hk) hl hE
  exact a_sub [1, 2, 0] (hA) rfl
theorem m_X6_passes {Y : EY} (hY : HY Y) {x1 : Int32} {M : Mem}  {r : Mem} (h : f_X6_passes x1 M = some r) : MX Y yX6_passes cX6_passes 3 none rm_X6_passes [.ref (Y.2.2.2.1 49), .int x1] M (none) r := MX.of hY (by decide) (Nat.le_of_ble_eq_true rfl) (fun _ hR C => a_sub [0, 1] (t_X6_passes C  h hR) rfl)
abbrev rm_X6_lives : Room := { frames := 4, cells := 0, slots := 0, locals := 94 }
abbrev At_X6_lives_2 (Y : EY) (X : CX)  (s : Int32 × Mem) : Prop := AW Y X 4 2 [(0, .ref (Y.2.2.2.1 49)), (1, .int s.1)] [] s.2
abbrev Ex_X6_lives_2 (Y : EY) (X : CX)  (s : Int32 × Mem) : Prop := AW Y X 4 52 [(0, .ref (Y.2.2.2.1 49))] [] s.2
abbrev At_X6_lives_12 (Y : EY) (X : CX) (x1 : Int32) (s : Int32 × Mem) : Prop := AW Y X 4 12 [(0, .ref (Y.2.2.2.1 49)), (1, .int x1), (2, .int s.1)] [] s.2
abbrev Ex_X6_lives_12 (Y : EY) (X : CX) (x1 : Int32) (s : Int32 × Mem) : Prop := AW Y X 4 46 [(0, .ref (Y.2.2.2.1 49)), (1, .int x1)] [] s.2
noncomputable def f_X6_lives_12_12b (x1 : Int32) (x2 : Int32) (M : Mem) : Option ((Int32 × Mem) ⊕ (Int32 × Mem)) :=
  (if (5 : Int32) ≤ x2 then some (.inr (x2, M)) else ck (inb ((((6 : Int32) * x1) + (1 : Int32)) + x2) 48) (ck (inb (((5 : Int32) * x1) + x2) 40) (some (.inl ((x2 + (1 : Int32)), (upM M 59 ((((5 : Int32) * x1) + x2)).toNatClampNeg (M 56 (((((6 : Int32) * x1) + (1 : Int32)) + x2)).toNatClampNeg)))))))
theorem t_X6_lives_12_12b {Y : EY} {X : CX} (C : CK Y X cX6_lives RX6 4 none rm_X6_lives) {x1 : Int32} {x2 : Int32} {M : Mem}  {res : (Int32 × Mem) ⊕ (Int32 × Mem)} (h : f_X6_lives_12_12b x1 x2 M = some res) (hK : KL (At_X6_lives_12 Y X x1) (Ex_X6_lives_12 Y X x1) res) : AW Y X 4 12 [(0, .ref (Y.2.2.2.1 49)), (1, .int x1), (2, .int x2)] [] M := by
  unfold f_X6_lives_12_12b at h
  refine a_iload_n C dX6_lives_12 2 rfl ?_
  refine a_iconst (v := 5) C dX6_lives_13 (by decide) ?_
  refine a_icmp_ge (tgt := 46) C dX6_lives_14 (by decide) (fun hc => ?_) (fun hc => ?_)
  · replace h := ip hc h
    replace h := Option.some.inj h
    subst h
    exact a_sub [0, 1] (hK) rfl
  · replace h := iq hc h
    refine a_aload_n C dX6_lives_17 0 rfl ?_
    refine a_getr (k1 := 59) C dX6_lives_18 fl_X6_37 rfl Kc_49 rfl ?_
    refine a_iconst (v := 5) C dX6_lives_21 (by decide) ?_
    refine a_iload_n C dX6_lives_22 1 rfl ?_
    refine a_imul C dX6_lives_23 ?_
    refine a_iload_n C dX6_lives_24 2 rfl ?_
    refine a_iadd C dX6_lives_25 ?_
    refine a_aload_n C dX6_lives_26 0 rfl ?_
    refine a_getr (k1 := 56) C dX6_lives_27 fl_X6_28 rfl Kc_49 rfl ?_
    refine a_bipush (v := 6) C dX6_lives_30 (by decide) ?_
    refine a_iload_n C dX6_lives_32 1 rfl ?_
    refine a_imul C dX6_lives_33 ?_
    refine a_iconst (v := 1) C dX6_lives_34 (by decide) ?_
    refine a_iadd C dX6_lives_35 ?_
    refine a_iload_n C dX6_lives_36 2 rfl ?_
    refine a_iadd C dX6_lives_37 ?_
    obtain ⟨hb, h⟩ := ck_some h
    refine a_iald C dX6_lives_38 Kc_56 rfl hb ?_
    obtain ⟨hb, h⟩ := ck_some h
    refine a_iast C dX6_lives_39 Kc_59 rfl hb ?_
    refine a_iinc (v := 1) (lv' := [(2, _), (0, _), (1, _)]) C dX6_lives_40 2 rfl (by decide) (by decide) rfl ?_
    refine a_goto (tgt := 12) C dX6_lives_43 (by decide) ?_
    replace h := Option.some.inj h
    subst h
    exact a_sub [1, 2, 0] (hK) rfl
noncomputable def f_X6_lives_2_2b (x1 : Int32) (M : Mem) : Option ((Int32 × Mem) ⊕ (Int32 × Mem)) :=
  (if (M 49 7) ≤ x1 then some (.inr (x1, M)) else Option.bind (loop (fun s1 : Int32 × Mem => f_X6_lives_12_12b x1 s1.1 s1.2) ((0 : Int32), M)) (fun s2 => some (.inl ((x1 + (1 : Int32)), s2.2))))
theorem t_X6_lives_2_2b {Y : EY} {X : CX} (C : CK Y X cX6_lives RX6 4 none rm_X6_lives) {x1 : Int32} {M : Mem}  {res : (Int32 × Mem) ⊕ (Int32 × Mem)} (h : f_X6_lives_2_2b x1 M = some res) (hK : KL (At_X6_lives_2 Y X) (Ex_X6_lives_2 Y X) res) : AW Y X 4 2 [(0, .ref (Y.2.2.2.1 49)), (1, .int x1)] [] M := by
  unfold f_X6_lives_2_2b at h
  refine a_iload_n C dX6_lives_2 1 rfl ?_
  refine a_aload_n C dX6_lives_3 0 rfl ?_
  refine a_geti C dX6_lives_4 fl_X6_116 rfl Kc_49 ?_
  refine a_icmp_ge (tgt := 52) C dX6_lives_7 (by decide) (fun hc => ?_) (fun hc => ?_)
  · replace h := ip hc h
    replace h := Option.some.inj h
    subst h
    exact a_sub [0] (hK) rfl
  · replace h := iq hc h
    refine a_iconst (v := 0) C dX6_lives_10 (by decide) ?_
    refine a_istore_n (lv' := [(2, _), (0, _), (1, _)]) C dX6_lives_11 rfl (by decide) rfl ?_
    obtain ⟨s2, hl, h⟩ := bd_some h
    have hE : Ex_X6_lives_12 Y X x1 s2 := by
      refine a_iinc (v := 1) (lv' := [(1, _), (0, _)]) C dX6_lives_46 1 rfl (by decide) (by decide) rfl ?_
      refine a_goto (tgt := 2) C dX6_lives_49 (by decide) ?_
      replace h := Option.some.inj h
      subst h
      exact a_sub [1, 0] (hK) rfl
    have hA := aw_loop (At_X6_lives_12 Y X x1) (Ex_X6_lives_12 Y X x1) (fun _ _ hb hk => t_X6_lives_12_12b C hb hk) hl hE
    exact a_sub [1, 2, 0] (hA) rfl
abbrev At_X6_lives_54 (Y : EY) (X : CX)  (s : Int32 × Mem) : Prop := AW Y X 4 54 [(0, .ref (Y.2.2.2.1 49)), (1, .int s.1)] [] s.2
abbrev Ex_X6_lives_54 (Y : EY) (X : CX)  (s : Int32 × Mem) : Prop := AW Y X 4 141 [(0, .ref (Y.2.2.2.1 49))] [] s.2
abbrev At_X6_lives_89 (Y : EY) (X : CX) (x1 : Int32) (x2 : Int32) (s : Int32 × Mem) : Prop := AW Y X 4 89 [(0, .ref (Y.2.2.2.1 49)), (1, .int x1), (2, .int x2), (3, .int s.1)] [] s.2
abbrev Ex_X6_lives_89 (Y : EY) (X : CX) (x1 : Int32) (x2 : Int32) (s : Int32 × Mem) : Prop := AW Y X 4 135 [(0, .ref (Y.2.2.2.1 49)), (1, .int x1)] [] s.2
noncomputable def f_X6_lives_128_89 (x1 : Int32) (x2 : Int32) (x3 : Int32) (t1 : Int32) (t2 : Int32) (M : Mem) : Option ((Int32 × Mem) ⊕ (Int32 × Mem)) :=
  ck (inb t1 40) (some (.inl ((x3 + (1 : Int32)), (upM M 60 (t1).toNatClampNeg t2))))
theorem t_X6_lives_128_89 {Y : EY} {X : CX} (C : CK Y X cX6_lives RX6 4 none rm_X6_lives) {x1 : Int32} {x2 : Int32} {x3 : Int32} {t1 : Int32} {t2 : Int32} {M : Mem}  {res : (Int32 × Mem) ⊕ (Int32 × Mem)} (h : f_X6_lives_128_89 x1 x2 x3 t1 t2 M = some res) (hK : KL (At_X6_lives_89 Y X x1 x2) (Ex_X6_lives_89 Y X x1 x2) res) : AW Y X 4 128 [(0, .ref (Y.2.2.2.1 49)), (1, .int x1), (2, .int x2), (3, .int x3)] [.int t2, .int t1, .ref (Y.2.2.2.1 60)] M := by
  unfold f_X6_lives_128_89 at h
  obtain ⟨hb, h⟩ := ck_some h
  refine a_iast C dX6_lives_128 Kc_60 rfl hb ?_
  refine a_iinc (v := 1) (lv' := [(3, _), (0, _), (1, _), (2, _)]) C dX6_lives_129 3 rfl (by decide) (by decide) rfl ?_
  refine a_goto (tgt := 89) C dX6_lives_132 (by decide) ?_
  replace h := Option.some.inj h
  subst h
  exact a_sub [1, 2, 3, 0] (hK) rfl
noncomputable def f_X6_lives_89_89b (x1 : Int32) (x2 : Int32) (x3 : Int32) (M : Mem) : Option ((Int32 × Mem) ⊕ (Int32 × Mem)) :=
  (if (5 : Int32) ≤ x3 then some (.inr (x3, M)) else Option.bind (f_X6_isAccent x2 M) (fun r5 => (if r5 = 0 then f_X6_lives_128_89 x1 x2 x3 (((5 : Int32) * x1) + x3) (5 : Int32) M else ck (inb ((((6 : Int32) * x2) + (1 : Int32)) + x3) 48) (f_X6_lives_128_89 x1 x2 x3 (((5 : Int32) * x1) + x3) (M 56 (((((6 : Int32) * x2) + (1 : Int32)) + x3)).toNatClampNeg) M))))
theorem t_X6_lives_89_89b {Y : EY} {X : CX} (C : CK Y X cX6_lives RX6 4 none rm_X6_lives) {x1 : Int32} {x2 : Int32} {x3 : Int32} {M : Mem}  {res : (Int32 × Mem) ⊕ (Int32 × Mem)} (h : f_X6_lives_89_89b x1 x2 x3 M = some res) (hK : KL (At_X6_lives_89 Y X x1 x2) (Ex_X6_lives_89 Y X x1 x2) res) : AW Y X 4 89 [(0, .ref (Y.2.2.2.1 49)), (1, .int x1), (2, .int x2), (3, .int x3)] [] M := by
  unfold f_X6_lives_89_89b at h
  refine a_iload_n C dX6_lives_89 3 rfl ?_
  refine a_iconst (v := 5) C dX6_lives_90 (by decide) ?_
  refine a_icmp_ge (tgt := 135) C dX6_lives_91 (by decide) (fun hc => ?_) (fun hc => ?_)
  · replace h := ip hc h
    replace h := Option.some.inj h
    subst h
    exact a_sub [0, 1] (hK) rfl
  · replace h := iq hc h
    refine a_aload_n C dX6_lives_94 0 rfl ?_
    refine a_getr (k1 := 60) C dX6_lives_95 fl_X6_40 rfl Kc_49 rfl ?_
    refine a_iconst (v := 5) C dX6_lives_98 (by decide) ?_
    refine a_iload_n C dX6_lives_99 1 rfl ?_
    refine a_imul C dX6_lives_100 ?_
    refine a_iload_n C dX6_lives_101 3 rfl ?_
    refine a_iadd C dX6_lives_102 ?_
    refine a_aload_n C dX6_lives_103 0 rfl ?_
    refine a_iload_n C dX6_lives_104 2 rfl ?_
    obtain ⟨r5, hcr5, h⟩ := bd_some h
    refine a_callVi C dX6_lives_105 lv_X6_144 lm_X6_isAccent ⟨rfl, rfl, by decide, by decide⟩ Kc_49 (m_X6_isAccent C.2.2.2.2.2.2.1 hcr5) rfl rfl (Nat.le_of_ble_eq_true rfl) ?_
    refine a_if_eq (tgt := 127) C dX6_lives_108 (by decide) (fun hc => ?_) (fun hc => ?_)
    · replace h := ip hc h
      refine a_iconst (v := 5) C dX6_lives_127 (by decide) ?_
      exact a_sub [0, 1, 2, 3] (t_X6_lives_128_89 C h hK) rfl
    · replace h := iq hc h
      refine a_aload_n C dX6_lives_111 0 rfl ?_
      refine a_getr (k1 := 56) C dX6_lives_112 fl_X6_28 rfl Kc_49 rfl ?_
      refine a_bipush (v := 6) C dX6_lives_115 (by decide) ?_
      refine a_iload_n C dX6_lives_117 2 rfl ?_
      refine a_imul C dX6_lives_118 ?_
      refine a_iconst (v := 1) C dX6_lives_119 (by decide) ?_
      refine a_iadd C dX6_lives_120 ?_
      refine a_iload_n C dX6_lives_121 3 rfl ?_
      refine a_iadd C dX6_lives_122 ?_
      obtain ⟨hb, h⟩ := ck_some h
      refine a_iald C dX6_lives_123 Kc_56 rfl hb ?_
      refine a_goto (tgt := 128) C dX6_lives_124 (by decide) ?_
      exact a_sub [0, 1, 2, 3] (t_X6_lives_128_89 C h hK) rfl
noncomputable def f_X6_lives_54_54b (x1 : Int32) (M : Mem) : Option ((Int32 × Mem) ⊕ (Int32 × Mem)) :=
  (if (M 49 9) ≤ x1 then some (.inr (x1, M)) else ck (inb (((2 : Int32) * x1) + (1 : Int32)) 16) (ck (inb x1 8) (ck (inb x1 8) (Option.bind (loop (fun s6 : Int32 × Mem => f_X6_lives_89_89b x1 (M 57 ((((2 : Int32) * x1) + (1 : Int32))).toNatClampNeg) s6.1 s6.2) ((0 : Int32), (upM (upM M 61 (x1).toNatClampNeg (M 57 ((((2 : Int32) * x1) + (1 : Int32))).toNatClampNeg)) 67 (x1).toNatClampNeg (-1 : Int32)))) (fun s7 => some (.inl ((x1 + (1 : Int32)), s7.2)))))))
theorem t_X6_lives_54_54b {Y : EY} {X : CX} (C : CK Y X cX6_lives RX6 4 none rm_X6_lives) {x1 : Int32} {M : Mem}  {res : (Int32 × Mem) ⊕ (Int32 × Mem)} (h : f_X6_lives_54_54b x1 M = some res) (hK : KL (At_X6_lives_54 Y X) (Ex_X6_lives_54 Y X) res) : AW Y X 4 54 [(0, .ref (Y.2.2.2.1 49)), (1, .int x1)] [] M := by
  unfold f_X6_lives_54_54b at h
  refine a_iload_n C dX6_lives_54 1 rfl ?_
  refine a_aload_n C dX6_lives_55 0 rfl ?_
  refine a_geti C dX6_lives_56 fl_X6_124 rfl Kc_49 ?_
  refine a_icmp_ge (tgt := 141) C dX6_lives_59 (by decide) (fun hc => ?_) (fun hc => ?_)
  · replace h := ip hc h
    replace h := Option.some.inj h
    subst h
    exact a_sub [0] (hK) rfl
  · replace h := iq hc h
    refine a_aload_n C dX6_lives_62 0 rfl ?_
    refine a_getr (k1 := 57) C dX6_lives_63 fl_X6_31 rfl Kc_49 rfl ?_
    refine a_iconst (v := 2) C dX6_lives_66 (by decide) ?_
    refine a_iload_n C dX6_lives_67 1 rfl ?_
    refine a_imul C dX6_lives_68 ?_
    refine a_iconst (v := 1) C dX6_lives_69 (by decide) ?_
    refine a_iadd C dX6_lives_70 ?_
    obtain ⟨hb, h⟩ := ck_some h
    refine a_iald C dX6_lives_71 Kc_57 rfl hb ?_
    refine a_istore_n (lv' := [(2, _), (0, _), (1, _)]) C dX6_lives_72 rfl (by decide) rfl ?_
    refine a_aload_n C dX6_lives_73 1 rfl ?_
    refine a_getr (k1 := 61) C dX6_lives_74 fl_X6_43 rfl Kc_49 rfl ?_
    refine a_iload_n C dX6_lives_77 2 rfl ?_
    refine a_iload_n C dX6_lives_78 0 rfl ?_
    obtain ⟨hb, h⟩ := ck_some h
    refine a_iast C dX6_lives_79 Kc_61 rfl hb ?_
    refine a_aload_n C dX6_lives_80 1 rfl ?_
    refine a_getr (k1 := 67) C dX6_lives_81 fl_X6_61 rfl Kc_49 rfl ?_
    refine a_iload_n C dX6_lives_84 2 rfl ?_
    refine a_iconst (v := -1) C dX6_lives_85 (by decide) ?_
    obtain ⟨hb, h⟩ := ck_some h
    refine a_iast C dX6_lives_86 Kc_67 rfl hb ?_
    refine a_iconst (v := 0) C dX6_lives_87 (by decide) ?_
    refine a_istore_n (lv' := [(3, _), (2, _), (0, _), (1, _)]) C dX6_lives_88 rfl (by decide) rfl ?_
    obtain ⟨s7, hl, h⟩ := bd_some h
    have hE : Ex_X6_lives_89 Y X x1 (M 57 ((((2 : Int32) * x1) + (1 : Int32))).toNatClampNeg) s7 := by
      refine a_iinc (v := 1) (lv' := [(1, _), (0, _)]) C dX6_lives_135 1 rfl (by decide) (by decide) rfl ?_
      refine a_goto (tgt := 54) C dX6_lives_138 (by decide) ?_
      replace h := Option.some.inj h
      subst h
      exact a_sub [1, 0] (hK) rfl
    have hA := aw_loop (At_X6_lives_89 Y X x1 (M 57 ((((2 : Int32) * x1) + (1 : Int32))).toNatClampNeg)) (Ex_X6_lives_89 Y X x1 (M 57 ((((2 : Int32) * x1) + (1 : Int32))).toNatClampNeg)) (fun _ _ hb hk => t_X6_lives_89_89b C hb hk) hl hE
    exact a_sub [2, 3, 1, 0] (hA) rfl
abbrev At_X6_lives_143 (Y : EY) (X : CX)  (s : Int32 × Mem) : Prop := AW Y X 4 143 [(0, .ref (Y.2.2.2.1 49)), (1, .int s.1)] [] s.2
abbrev Ex_X6_lives_143 (Y : EY) (X : CX)  (s : Int32 × Mem) : Prop := AW Y X 4 160 [] [] s.2
noncomputable def f_X6_lives_143_143b (x1 : Int32) (M : Mem) : Option ((Int32 × Mem) ⊕ (Int32 × Mem)) :=
  (if (30 : Int32) ≤ x1 then some (.inr (x1, M)) else Option.bind (f_X6_passes x1 M) (fun r10 => some (.inl ((x1 + (1 : Int32)), r10))))
theorem t_X6_lives_143_143b {Y : EY} {X : CX} (C : CK Y X cX6_lives RX6 4 none rm_X6_lives) {x1 : Int32} {M : Mem}  {res : (Int32 × Mem) ⊕ (Int32 × Mem)} (h : f_X6_lives_143_143b x1 M = some res) (hK : KL (At_X6_lives_143 Y X) (Ex_X6_lives_143 Y X) res) : AW Y X 4 143 [(0, .ref (Y.2.2.2.1 49)), (1, .int x1)] [] M := by
  unfold f_X6_lives_143_143b at h
  refine a_iload_n C dX6_lives_143 1 rfl ?_
  refine a_bipush (v := 30) C dX6_lives_144 (by decide) ?_
  refine a_icmp_ge (tgt := 160) C dX6_lives_146 (by decide) (fun hc => ?_) (fun hc => ?_)
  · replace h := ip hc h
    replace h := Option.some.inj h
    subst h
    exact a_sub [] (hK) rfl
  · replace h := iq hc h
    refine a_aload_n C dX6_lives_149 0 rfl ?_
    refine a_iload_n C dX6_lives_150 1 rfl ?_
    obtain ⟨r10, hcr10, h⟩ := bd_some h
    refine a_callVv C dX6_lives_151 lv_X6_210 lm_X6_passes ⟨rfl, rfl, by decide, by decide⟩ Kc_49 (m_X6_passes C.2.2.2.2.2.2.1 hcr10) rfl rfl (Nat.le_of_ble_eq_true rfl) ?_
    refine a_iinc (v := 1) (lv' := [(1, _), (0, _)]) C dX6_lives_154 1 rfl (by decide) (by decide) rfl ?_
    refine a_goto (tgt := 143) C dX6_lives_157 (by decide) ?_
    replace h := Option.some.inj h
    subst h
    exact a_sub [1, 0] (hK) rfl
noncomputable def f_X6_lives  (M : Mem) : Option (Mem) :=
  Option.bind (loop (fun s3 : Int32 × Mem => f_X6_lives_2_2b s3.1 s3.2) ((0 : Int32), M)) (fun s4 => Option.bind (loop (fun s8 : Int32 × Mem => f_X6_lives_54_54b s8.1 s8.2) ((0 : Int32), s4.2)) (fun s9 => Option.bind (loop (fun s11 : Int32 × Mem => f_X6_lives_143_143b s11.1 s11.2) ((0 : Int32), s9.2)) (fun s12 => some s12.2)))
theorem t_X6_lives {Y : EY} {X : CX} (C : CK Y X cX6_lives RX6 4 none rm_X6_lives)  {M : Mem}  {res : Mem} (h : f_X6_lives M = some res) (hK : RK Y X none res) : AW Y X 4 0 [(0, .ref (Y.2.2.2.1 49))] [] M := by
  unfold f_X6_lives at h
  refine a_iconst (v := 0) C dX6_lives_0 (by decide) ?_
  refine a_istore_n (lv' := [(1, _), (0, _)]) C dX6_lives_1 rfl (by decide) rfl ?_
  obtain ⟨s4, hl, h⟩ := bd_some h
  have hE : Ex_X6_lives_2 Y X s4 := by
    refine a_iconst (v := 0) C dX6_lives_52 (by decide) ?_
    refine a_istore_n (lv' := [(1, _), (0, _)]) C dX6_lives_53 rfl (by decide) rfl ?_
    obtain ⟨s9, hl, h⟩ := bd_some h
    have hE : Ex_X6_lives_54 Y X s9 := by
      refine a_iconst (v := 0) C dX6_lives_141 (by decide) ?_
      refine a_istore_n (lv' := [(1, _), (0, _)]) C dX6_lives_142 rfl (by decide) rfl ?_
      obtain ⟨s12, hl, h⟩ := bd_some h
      have hE : Ex_X6_lives_143 Y X s12 := by
        replace h := Option.some.inj h
        subst h
        exact a_vret C dX6_lives_160 hK
      have hA := aw_loop (At_X6_lives_143 Y X) (Ex_X6_lives_143 Y X) (fun _ _ hb hk => t_X6_lives_143_143b C hb hk) hl hE
      exact a_sub [1, 0] (hA) rfl
    have hA := aw_loop (At_X6_lives_54 Y X) (Ex_X6_lives_54 Y X) (fun _ _ hb hk => t_X6_lives_54_54b C hb hk) hl hE
    exact a_sub [1, 0] (hA) rfl
  have hA := aw_loop (At_X6_lives_2 Y X) (Ex_X6_lives_2 Y X) (fun _ _ hb hk => t_X6_lives_2_2b C hb hk) hl hE
  exact a_sub [1, 0] (hA) rfl
theorem m_X6_lives {Y : EY} (hY : HY Y)  {M : Mem}  {r : Mem} (h : f_X6_lives M = some r) : MX Y yX6_lives cX6_lives 4 none rm_X6_lives [.ref (Y.2.2.2.1 49)] M (none) r := MX.of hY (by decide) (Nat.le_of_ble_eq_true rfl) (fun _ hR C => a_sub [0] (t_X6_lives C  h hR) rfl)
abbrev rm_X6_find : Room := { frames := 5, cells := 0, slots := 0, locals := 117 }
noncomputable def f_X6_find  (M : Mem) : Option (Mem) :=
  Option.bind (f_X6_readsAccents M) (fun r1 => Option.bind (f_X6_readsPeople r1.2) (fun r2 => Option.bind (f_X6_lives r2.2) (fun r3 => some r3)))
theorem t_X6_find {Y : EY} {X : CX} (C : CK Y X cX6_find RX6 1 none rm_X6_find)  {M : Mem}  {res : Mem} (h : f_X6_find M = some res) (hK : RK Y X none res) : AW Y X 1 0 [(0, .ref (Y.2.2.2.1 49))] [] M := by
  unfold f_X6_find at h
  refine a_aload_n C dX6_find_0 0 rfl ?_
  obtain ⟨r1, hcr1, h⟩ := bd_some h
  refine a_callVi C dX6_find_1 lv_X6_130 lm_X6_readsAccents ⟨rfl, rfl, by decide, by decide⟩ Kc_49 (m_X6_readsAccents C.2.2.2.2.2.2.1 hcr1) rfl rfl (Nat.le_of_ble_eq_true rfl) ?_
  refine a_pop C dX6_find_4 rfl ?_
  refine a_aload_n C dX6_find_5 0 rfl ?_
  obtain ⟨r2, hcr2, h⟩ := bd_some h
  refine a_callVi C dX6_find_6 lv_X6_134 lm_X6_readsPeople ⟨rfl, rfl, by decide, by decide⟩ Kc_49 (m_X6_readsPeople C.2.2.2.2.2.2.1 hcr2) rfl rfl (Nat.le_of_ble_eq_true rfl) ?_
  refine a_pop C dX6_find_9 rfl ?_
  refine a_aload_n C dX6_find_10 0 rfl ?_
  obtain ⟨r3, hcr3, h⟩ := bd_some h
  refine a_callVv C dX6_find_11 lv_X6_213 lm_X6_lives ⟨rfl, rfl, by decide, by decide⟩ Kc_49 (m_X6_lives C.2.2.2.2.2.2.1 hcr3) rfl rfl (Nat.le_of_ble_eq_true rfl) ?_
  replace h := Option.some.inj h
  subst h
  exact a_vret C dX6_find_14 hK
theorem m_X6_find {Y : EY} (hY : HY Y)  {M : Mem}  {r : Mem} (h : f_X6_find M = some r) : MX Y yX6_find cX6_find 1 none rm_X6_find [.ref (Y.2.2.2.1 49)] M (none) r := MX.of hY (by decide) (Nat.le_of_ble_eq_true rfl) (fun _ hR C => a_sub [0] (t_X6_find C  h hR) rfl)
abbrev rm_X6_atBy : Room := { frames := 0, cells := 0, slots := 0, locals := 0 }
noncomputable def f_X6_atBy (x1 : Int32) (x2 : Int32) (x3 : Int32) (M : Mem) : Option (Int32) :=
  (if (5 : Int32) ≤ x3 then (if x3 = (5 : Int32) then ck (inb (((8 : Int32) * x1) + x2) 240) (some (M 64 ((((8 : Int32) * x1) + x2)).toNatClampNeg)) else (if x3 = (6 : Int32) then ck (inb (((8 : Int32) * x1) + x2) 240) (some (M 65 ((((8 : Int32) * x1) + x2)).toNatClampNeg)) else ck (inb (((8 : Int32) * x1) + x2) 240) (some (M 66 ((((8 : Int32) * x1) + x2)).toNatClampNeg)))) else ck (inb ((((40 : Int32) * x1) + ((5 : Int32) * x2)) + x3) 1200) (some (M 63 (((((40 : Int32) * x1) + ((5 : Int32) * x2)) + x3)).toNatClampNeg)))
theorem t_X6_atBy {Y : EY} {X : CX} (C : CK Y X cX6_atBy RX6 4 (some .int) rm_X6_atBy) {x1 : Int32} {x2 : Int32} {x3 : Int32} {M : Mem}  {res : Int32} (h : f_X6_atBy x1 x2 x3 M = some res) (hK : RK Y X (some (.int res)) M) : AW Y X 4 0 [(0, .ref (Y.2.2.2.1 49)), (1, .int x1), (2, .int x2), (3, .int x3)] [] M := by
  unfold f_X6_atBy at h
  refine a_iload_n C dX6_atBy_0 3 rfl ?_
  refine a_iconst (v := 5) C dX6_atBy_1 (by decide) ?_
  refine a_icmp_ge (tgt := 21) C dX6_atBy_2 (by decide) (fun hc => ?_) (fun hc => ?_)
  · replace h := ip hc h
    refine a_iload_n C dX6_atBy_21 3 rfl ?_
    refine a_iconst (v := 5) C dX6_atBy_22 (by decide) ?_
    refine a_icmp_ne (tgt := 40) C dX6_atBy_23 (by decide) (fun hc => ?_) (fun hc => ?_)
    · replace h := iq hc h
      refine a_iload_n C dX6_atBy_40 3 rfl ?_
      refine a_bipush (v := 6) C dX6_atBy_41 (by decide) ?_
      refine a_icmp_ne (tgt := 60) C dX6_atBy_43 (by decide) (fun hc => ?_) (fun hc => ?_)
      · replace h := iq hc h
        refine a_aload_n C dX6_atBy_60 0 rfl ?_
        refine a_getr (k1 := 66) C dX6_atBy_61 fl_X6_58 rfl Kc_49 rfl ?_
        refine a_bipush (v := 8) C dX6_atBy_64 (by decide) ?_
        refine a_iload_n C dX6_atBy_66 1 rfl ?_
        refine a_imul C dX6_atBy_67 ?_
        refine a_iload_n C dX6_atBy_68 2 rfl ?_
        refine a_iadd C dX6_atBy_69 ?_
        obtain ⟨hb, h⟩ := ck_some h
        refine a_iald C dX6_atBy_70 Kc_66 rfl hb ?_
        replace h := Option.some.inj h
        subst h
        exact a_iret C dX6_atBy_71 hK
      · replace h := ip hc h
        refine a_aload_n C dX6_atBy_46 0 rfl ?_
        refine a_getr (k1 := 65) C dX6_atBy_47 fl_X6_55 rfl Kc_49 rfl ?_
        refine a_bipush (v := 8) C dX6_atBy_50 (by decide) ?_
        refine a_iload_n C dX6_atBy_52 1 rfl ?_
        refine a_imul C dX6_atBy_53 ?_
        refine a_iload_n C dX6_atBy_54 2 rfl ?_
        refine a_iadd C dX6_atBy_55 ?_
        obtain ⟨hb, h⟩ := ck_some h
        refine a_iald C dX6_atBy_56 Kc_65 rfl hb ?_
        refine a_goto (tgt := 71) C dX6_atBy_57 (by decide) ?_
        replace h := Option.some.inj h
        subst h
        exact a_iret C dX6_atBy_71 hK
    · replace h := ip hc h
      refine a_aload_n C dX6_atBy_26 0 rfl ?_
      refine a_getr (k1 := 64) C dX6_atBy_27 fl_X6_52 rfl Kc_49 rfl ?_
      refine a_bipush (v := 8) C dX6_atBy_30 (by decide) ?_
      refine a_iload_n C dX6_atBy_32 1 rfl ?_
      refine a_imul C dX6_atBy_33 ?_
      refine a_iload_n C dX6_atBy_34 2 rfl ?_
      refine a_iadd C dX6_atBy_35 ?_
      obtain ⟨hb, h⟩ := ck_some h
      refine a_iald C dX6_atBy_36 Kc_64 rfl hb ?_
      refine a_goto (tgt := 71) C dX6_atBy_37 (by decide) ?_
      replace h := Option.some.inj h
      subst h
      exact a_iret C dX6_atBy_71 hK
  · replace h := iq hc h
    refine a_aload_n C dX6_atBy_5 0 rfl ?_
    refine a_getr (k1 := 63) C dX6_atBy_6 fl_X6_49 rfl Kc_49 rfl ?_
    refine a_bipush (v := 40) C dX6_atBy_9 (by decide) ?_
    refine a_iload_n C dX6_atBy_11 1 rfl ?_
    refine a_imul C dX6_atBy_12 ?_
    refine a_iconst (v := 5) C dX6_atBy_13 (by decide) ?_
    refine a_iload_n C dX6_atBy_14 2 rfl ?_
    refine a_imul C dX6_atBy_15 ?_
    refine a_iadd C dX6_atBy_16 ?_
    refine a_iload_n C dX6_atBy_17 3 rfl ?_
    refine a_iadd C dX6_atBy_18 ?_
    obtain ⟨hb, h⟩ := ck_some h
    refine a_iald C dX6_atBy_19 Kc_63 rfl hb ?_
    replace h := Option.some.inj h
    subst h
    exact a_iret C dX6_atBy_20 hK
theorem m_X6_atBy {Y : EY} (hY : HY Y) {x1 : Int32} {x2 : Int32} {x3 : Int32} {M : Mem}  {r : Int32} (h : f_X6_atBy x1 x2 x3 M = some r) : MX Y yX6_atBy cX6_atBy 4 (some .int) rm_X6_atBy [.ref (Y.2.2.2.1 49), .int x1, .int x2, .int x3] M (some (.int r)) M := MX.of hY (by decide) (Nat.le_of_ble_eq_true rfl) (fun _ hR C => a_sub [0, 1, 2, 3] (t_X6_atBy C  h hR) rfl)
abbrev rm_X6_at : Room := { frames := 6, cells := 0, slots := 0, locals := 137 }
noncomputable def f_X6_at (x1 : Int32) (x2 : Int32) (x3 : Int32) (M : Mem) : Option (Int32 × Mem) :=
  Option.bind (f_X6_find M) (fun r1 => Option.bind (f_X6_isDay x1) (fun r2 => (if r2 = 0 then some ((-2 : Int32), r1) else Option.bind (f_X6_isPerson x2 r1) (fun r3 => (if r3 = 0 then some ((-2 : Int32), r1) else Option.bind (f_X6_in (x3).toInt64 (0 : Int64) (7 : Int64)) (fun r4 => (if r4 = 0 then some ((-2 : Int32), r1) else Option.bind (f_X6_atBy x1 x2 x3 r1) (fun r5 => some (r5, r1)))))))))
theorem t_X6_at {Y : EY} {X : CX} (C : CK Y X cX6_at RX6 4 (some .int) rm_X6_at) {x1 : Int32} {x2 : Int32} {x3 : Int32} {M : Mem}  {res : Int32 × Mem} (h : f_X6_at x1 x2 x3 M = some res) (hK : RK Y X (some (.int res.1)) res.2) : AW Y X 4 0 [(0, .ref (Y.2.2.2.1 49)), (1, .int x1), (2, .int x2), (3, .int x3)] [] M := by
  unfold f_X6_at at h
  refine a_aload_n C dX6_at_0 0 rfl ?_
  obtain ⟨r1, hcr1, h⟩ := bd_some h
  refine a_callVv C dX6_at_1 lv_X6_216 lm_X6_find ⟨rfl, rfl, by decide, by decide⟩ Kc_49 (m_X6_find C.2.2.2.2.2.2.1 hcr1) rfl rfl (Nat.le_of_ble_eq_true rfl) ?_
  refine a_iload_n C dX6_at_4 1 rfl ?_
  obtain ⟨r2, hcr2, h⟩ := bd_some h
  refine a_callSi C dX6_at_5 ls_X6_155 lm_X6_isDay ⟨rfl, rfl, by decide, by decide⟩ (m_X6_isDay C.2.2.2.2.2.2.1 hcr2) rfl rfl (Nat.le_of_ble_eq_true rfl) ?_
  refine a_if_eq (tgt := 41) C dX6_at_8 (by decide) (fun hc => ?_) (fun hc => ?_)
  · replace h := ip hc h
    refine a_bipush (v := -2) C dX6_at_41 (by decide) ?_
    replace h := Option.some.inj h
    subst h
    exact a_iret C dX6_at_43 hK
  · replace h := iq hc h
    refine a_aload_n C dX6_at_11 0 rfl ?_
    refine a_iload_n C dX6_at_12 2 rfl ?_
    obtain ⟨r3, hcr3, h⟩ := bd_some h
    refine a_callVi C dX6_at_13 lv_X6_149 lm_X6_isPerson ⟨rfl, rfl, by decide, by decide⟩ Kc_49 (m_X6_isPerson C.2.2.2.2.2.2.1 hcr3) rfl rfl (Nat.le_of_ble_eq_true rfl) ?_
    refine a_if_eq (tgt := 41) C dX6_at_16 (by decide) (fun hc => ?_) (fun hc => ?_)
    · replace h := ip hc h
      refine a_bipush (v := -2) C dX6_at_41 (by decide) ?_
      replace h := Option.some.inj h
      subst h
      exact a_iret C dX6_at_43 hK
    · replace h := iq hc h
      refine a_iload_n C dX6_at_19 3 rfl ?_
      refine a_i2l C dX6_at_20 ?_
      refine a_lconst (v := 0) C dX6_at_21 (by decide) ?_
      refine a_ldc2 C dX6_at_22 co_X6_142 ?_
      obtain ⟨r4, hcr4, h⟩ := bd_some h
      refine a_callSi C dX6_at_25 ls_X6_79 lm_X6_in ⟨rfl, rfl, by decide, by decide⟩ (m_X6_in C.2.2.2.2.2.2.1 hcr4) rfl rfl (Nat.le_of_ble_eq_true rfl) ?_
      refine a_if_eq (tgt := 41) C dX6_at_28 (by decide) (fun hc => ?_) (fun hc => ?_)
      · replace h := ip hc h
        refine a_bipush (v := -2) C dX6_at_41 (by decide) ?_
        replace h := Option.some.inj h
        subst h
        exact a_iret C dX6_at_43 hK
      · replace h := iq hc h
        refine a_aload_n C dX6_at_31 0 rfl ?_
        refine a_iload_n C dX6_at_32 1 rfl ?_
        refine a_iload_n C dX6_at_33 2 rfl ?_
        refine a_iload_n C dX6_at_34 3 rfl ?_
        obtain ⟨r5, hcr5, h⟩ := bd_some h
        refine a_callVi C dX6_at_35 lv_X6_219 lm_X6_atBy ⟨rfl, rfl, by decide, by decide⟩ Kc_49 (m_X6_atBy C.2.2.2.2.2.2.1 hcr5) rfl rfl (Nat.le_of_ble_eq_true rfl) ?_
        refine a_goto (tgt := 43) C dX6_at_38 (by decide) ?_
        replace h := Option.some.inj h
        subst h
        exact a_iret C dX6_at_43 hK
theorem m_X6_at {Y : EY} (hY : HY Y) {x1 : Int32} {x2 : Int32} {x3 : Int32} {M : Mem}  {r : Int32 × Mem} (h : f_X6_at x1 x2 x3 M = some r) : MX Y yX6_at cX6_at 4 (some .int) rm_X6_at [.ref (Y.2.2.2.1 49), .int x1, .int x2, .int x3] M (some (.int r.1)) r.2 := MX.of hY (by decide) (Nat.le_of_ble_eq_true rfl) (fun _ hR C => a_sub [0, 1, 2, 3] (t_X6_at C  h hR) rfl)
abbrev rm_X6_drawerBy : Room := { frames := 0, cells := 0, slots := 0, locals := 0 }
abbrev At_X6_drawerBy_27 (Y : EY) (X : CX) (x1 : Int32) (x2 : Int32) (M : Mem) (s : Int32 × Int32) : Prop := AW Y X 6 27 [(0, .ref (Y.2.2.2.1 49)), (1, .int x1), (2, .int x2), (4, .int s.1), (5, .int s.2)] [] M
abbrev Ex_X6_drawerBy_27 (Y : EY) (X : CX) (x1 : Int32) (x2 : Int32) (M : Mem) (s : Int32 × Int32) : Prop := AW Y X 6 68 [(4, .int s.1)] [] M
noncomputable def f_X6_drawerBy_59_27 (x1 : Int32) (x2 : Int32) (x5 : Int32) (t0 : Int32) (t1 : Int32) (M : Mem) : Option ((Int32 × Int32) ⊕ (Int32 × Int32)) :=
  some (.inl ((t0 + t1), (x5 + (1 : Int32))))
theorem t_X6_drawerBy_59_27 {Y : EY} {X : CX} (C : CK Y X cX6_drawerBy RX6 6 (some .int) rm_X6_drawerBy) {x1 : Int32} {x2 : Int32} {x5 : Int32} {t0 : Int32} {t1 : Int32} {M : Mem}  {res : (Int32 × Int32) ⊕ (Int32 × Int32)} (h : f_X6_drawerBy_59_27 x1 x2 x5 t0 t1 M = some res) (hK : KL (At_X6_drawerBy_27 Y X x1 x2 M) (Ex_X6_drawerBy_27 Y X x1 x2 M) res) : AW Y X 6 59 [(0, .ref (Y.2.2.2.1 49)), (1, .int x1), (2, .int x2), (5, .int x5)] [.int t1, .int t0] M := by
  unfold f_X6_drawerBy_59_27 at h
  refine a_iadd C dX6_drawerBy_59 ?_
  refine a_istore (lv' := [(4, _), (0, _), (1, _), (2, _), (5, _)]) C dX6_drawerBy_60 (by decide) rfl ?_
  refine a_iinc (v := 1) (lv' := [(5, _), (4, _), (0, _), (1, _), (2, _)]) C dX6_drawerBy_62 4 rfl (by decide) (by decide) rfl ?_
  refine a_goto (tgt := 27) C dX6_drawerBy_65 (by decide) ?_
  replace h := Option.some.inj h
  subst h
  exact a_sub [2, 3, 4, 1, 0] (hK) rfl
noncomputable def f_X6_drawerBy_27_27b (x1 : Int32) (x2 : Int32) (x4 : Int32) (x5 : Int32) (M : Mem) : Option ((Int32 × Int32) ⊕ (Int32 × Int32)) :=
  (if (M 49 9) ≤ x5 then some (.inr (x4, x5)) else ck (inb (((8 : Int32) * x1) + x5) 240) ((if (M 64 ((((8 : Int32) * x1) + x5)).toNatClampNeg) = x2 then f_X6_drawerBy_59_27 x1 x2 x5 x4 (1 : Int32) M else f_X6_drawerBy_59_27 x1 x2 x5 x4 (0 : Int32) M)))
theorem t_X6_drawerBy_27_27b {Y : EY} {X : CX} (C : CK Y X cX6_drawerBy RX6 6 (some .int) rm_X6_drawerBy) {x1 : Int32} {x2 : Int32} {x4 : Int32} {x5 : Int32} {M : Mem}  {res : (Int32 × Int32) ⊕ (Int32 × Int32)} (h : f_X6_drawerBy_27_27b x1 x2 x4 x5 M = some res) (hK : KL (At_X6_drawerBy_27 Y X x1 x2 M) (Ex_X6_drawerBy_27 Y X x1 x2 M) res) : AW Y X 6 27 [(0, .ref (Y.2.2.2.1 49)), (1, .int x1), (2, .int x2), (4, .int x4), (5, .int x5)] [] M := by
  unfold f_X6_drawerBy_27_27b at h
  refine a_iload C dX6_drawerBy_27 4 rfl ?_
  refine a_aload_n C dX6_drawerBy_29 0 rfl ?_
  refine a_geti C dX6_drawerBy_30 fl_X6_124 rfl Kc_49 ?_
  refine a_icmp_ge (tgt := 68) C dX6_drawerBy_33 (by decide) (fun hc => ?_) (fun hc => ?_)
  · replace h := ip hc h
    replace h := Option.some.inj h
    subst h
    exact a_sub [3] (hK) rfl
  · replace h := iq hc h
    refine a_iload C dX6_drawerBy_36 3 rfl ?_
    refine a_aload_n C dX6_drawerBy_38 0 rfl ?_
    refine a_getr (k1 := 64) C dX6_drawerBy_39 fl_X6_52 rfl Kc_49 rfl ?_
    refine a_bipush (v := 8) C dX6_drawerBy_42 (by decide) ?_
    refine a_iload_n C dX6_drawerBy_44 1 rfl ?_
    refine a_imul C dX6_drawerBy_45 ?_
    refine a_iload C dX6_drawerBy_46 4 rfl ?_
    refine a_iadd C dX6_drawerBy_48 ?_
    obtain ⟨hb, h⟩ := ck_some h
    refine a_iald C dX6_drawerBy_49 Kc_64 rfl hb ?_
    refine a_iload_n C dX6_drawerBy_50 2 rfl ?_
    refine a_icmp_ne (tgt := 58) C dX6_drawerBy_51 (by decide) (fun hc => ?_) (fun hc => ?_)
    · replace h := iq hc h
      refine a_iconst (v := 0) C dX6_drawerBy_58 (by decide) ?_
      exact a_sub [0, 1, 2, 4] (t_X6_drawerBy_59_27 C h hK) rfl
    · replace h := ip hc h
      refine a_iconst (v := 1) C dX6_drawerBy_54 (by decide) ?_
      refine a_goto (tgt := 59) C dX6_drawerBy_55 (by decide) ?_
      exact a_sub [0, 1, 2, 4] (t_X6_drawerBy_59_27 C h hK) rfl
noncomputable def f_X6_drawerBy (x1 : Int32) (x2 : Int32) (x3 : Int32) (M : Mem) : Option (Int32) :=
  (if (5 : Int32) ≤ x3 then Option.bind (loop (fun s1 : Int32 × Int32 => f_X6_drawerBy_27_27b x1 x2 s1.1 s1.2 M) ((0 : Int32), (0 : Int32))) (fun s2 => some s2.1) else ck (inb ((((40 : Int32) * x1) + ((5 : Int32) * x2)) + x3) 1200) (some (M 62 (((((40 : Int32) * x1) + ((5 : Int32) * x2)) + x3)).toNatClampNeg)))
theorem t_X6_drawerBy {Y : EY} {X : CX} (C : CK Y X cX6_drawerBy RX6 6 (some .int) rm_X6_drawerBy) {x1 : Int32} {x2 : Int32} {x3 : Int32} {M : Mem}  {res : Int32} (h : f_X6_drawerBy x1 x2 x3 M = some res) (hK : RK Y X (some (.int res)) M) : AW Y X 6 0 [(0, .ref (Y.2.2.2.1 49)), (1, .int x1), (2, .int x2), (3, .int x3)] [] M := by
  unfold f_X6_drawerBy at h
  refine a_iload_n C dX6_drawerBy_0 3 rfl ?_
  refine a_iconst (v := 5) C dX6_drawerBy_1 (by decide) ?_
  refine a_icmp_ge (tgt := 21) C dX6_drawerBy_2 (by decide) (fun hc => ?_) (fun hc => ?_)
  · replace h := ip hc h
    refine a_iconst (v := 0) C dX6_drawerBy_21 (by decide) ?_
    refine a_istore (lv' := [(4, _), (0, _), (1, _), (2, _), (3, _)]) C dX6_drawerBy_22 (by decide) rfl ?_
    refine a_iconst (v := 0) C dX6_drawerBy_24 (by decide) ?_
    refine a_istore (lv' := [(5, _), (4, _), (0, _), (1, _), (2, _), (3, _)]) C dX6_drawerBy_25 (by decide) rfl ?_
    obtain ⟨s2, hl, h⟩ := bd_some h
    have hE : Ex_X6_drawerBy_27 Y X x1 x2 M s2 := by
      refine a_iload C dX6_drawerBy_68 0 rfl ?_
      replace h := Option.some.inj h
      subst h
      exact a_iret C dX6_drawerBy_70 hK
    have hA := aw_loop (At_X6_drawerBy_27 Y X x1 x2 M) (Ex_X6_drawerBy_27 Y X x1 x2 M) (fun _ _ hb hk => t_X6_drawerBy_27_27b C hb hk) hl hE
    exact a_sub [2, 3, 4, 1, 0] (hA) rfl
  · replace h := iq hc h
    refine a_aload_n C dX6_drawerBy_5 0 rfl ?_
    refine a_getr (k1 := 62) C dX6_drawerBy_6 fl_X6_46 rfl Kc_49 rfl ?_
    refine a_bipush (v := 40) C dX6_drawerBy_9 (by decide) ?_
    refine a_iload_n C dX6_drawerBy_11 1 rfl ?_
    refine a_imul C dX6_drawerBy_12 ?_
    refine a_iconst (v := 5) C dX6_drawerBy_13 (by decide) ?_
    refine a_iload_n C dX6_drawerBy_14 2 rfl ?_
    refine a_imul C dX6_drawerBy_15 ?_
    refine a_iadd C dX6_drawerBy_16 ?_
    refine a_iload_n C dX6_drawerBy_17 3 rfl ?_
    refine a_iadd C dX6_drawerBy_18 ?_
    obtain ⟨hb, h⟩ := ck_some h
    refine a_iald C dX6_drawerBy_19 Kc_62 rfl hb ?_
    replace h := Option.some.inj h
    subst h
    exact a_iret C dX6_drawerBy_20 hK
theorem m_X6_drawerBy {Y : EY} (hY : HY Y) {x1 : Int32} {x2 : Int32} {x3 : Int32} {M : Mem}  {r : Int32} (h : f_X6_drawerBy x1 x2 x3 M = some r) : MX Y yX6_drawerBy cX6_drawerBy 6 (some .int) rm_X6_drawerBy [.ref (Y.2.2.2.1 49), .int x1, .int x2, .int x3] M (some (.int r)) M := MX.of hY (by decide) (Nat.le_of_ble_eq_true rfl) (fun _ hR C => a_sub [0, 1, 2, 3] (t_X6_drawerBy C  h hR) rfl)
abbrev rm_X6_drawer : Room := { frames := 6, cells := 0, slots := 0, locals := 137 }
noncomputable def f_X6_drawer (x1 : Int32) (x2 : Int32) (x3 : Int32) (M : Mem) : Option (Int32 × Mem) :=
  Option.bind (f_X6_find M) (fun r1 => Option.bind (f_X6_isDay x1) (fun r2 => (if r2 = 0 then some ((-2 : Int32), r1) else Option.bind (f_X6_isAccent x2 r1) (fun r3 => (if r3 = 0 then some ((-2 : Int32), r1) else Option.bind (f_X6_in (x3).toInt64 (0 : Int64) (5 : Int64)) (fun r4 => (if r4 = 0 then some ((-2 : Int32), r1) else Option.bind (f_X6_drawerBy x1 x2 x3 r1) (fun r5 => some (r5, r1)))))))))
theorem t_X6_drawer {Y : EY} {X : CX} (C : CK Y X cX6_drawer RX6 4 (some .int) rm_X6_drawer) {x1 : Int32} {x2 : Int32} {x3 : Int32} {M : Mem}  {res : Int32 × Mem} (h : f_X6_drawer x1 x2 x3 M = some res) (hK : RK Y X (some (.int res.1)) res.2) : AW Y X 4 0 [(0, .ref (Y.2.2.2.1 49)), (1, .int x1), (2, .int x2), (3, .int x3)] [] M := by
  unfold f_X6_drawer at h
  refine a_aload_n C dX6_drawer_0 0 rfl ?_
  obtain ⟨r1, hcr1, h⟩ := bd_some h
  refine a_callVv C dX6_drawer_1 lv_X6_216 lm_X6_find ⟨rfl, rfl, by decide, by decide⟩ Kc_49 (m_X6_find C.2.2.2.2.2.2.1 hcr1) rfl rfl (Nat.le_of_ble_eq_true rfl) ?_
  refine a_iload_n C dX6_drawer_4 1 rfl ?_
  obtain ⟨r2, hcr2, h⟩ := bd_some h
  refine a_callSi C dX6_drawer_5 ls_X6_155 lm_X6_isDay ⟨rfl, rfl, by decide, by decide⟩ (m_X6_isDay C.2.2.2.2.2.2.1 hcr2) rfl rfl (Nat.le_of_ble_eq_true rfl) ?_
  refine a_if_eq (tgt := 41) C dX6_drawer_8 (by decide) (fun hc => ?_) (fun hc => ?_)
  · replace h := ip hc h
    refine a_bipush (v := -2) C dX6_drawer_41 (by decide) ?_
    replace h := Option.some.inj h
    subst h
    exact a_iret C dX6_drawer_43 hK
  · replace h := iq hc h
    refine a_aload_n C dX6_drawer_11 0 rfl ?_
    refine a_iload_n C dX6_drawer_12 2 rfl ?_
    obtain ⟨r3, hcr3, h⟩ := bd_some h
    refine a_callVi C dX6_drawer_13 lv_X6_144 lm_X6_isAccent ⟨rfl, rfl, by decide, by decide⟩ Kc_49 (m_X6_isAccent C.2.2.2.2.2.2.1 hcr3) rfl rfl (Nat.le_of_ble_eq_true rfl) ?_
    refine a_if_eq (tgt := 41) C dX6_drawer_16 (by decide) (fun hc => ?_) (fun hc => ?_)
    · replace h := ip hc h
      refine a_bipush (v := -2) C dX6_drawer_41 (by decide) ?_
      replace h := Option.some.inj h
      subst h
      exact a_iret C dX6_drawer_43 hK
    · replace h := iq hc h
      refine a_iload_n C dX6_drawer_19 3 rfl ?_
      refine a_i2l C dX6_drawer_20 ?_
      refine a_lconst (v := 0) C dX6_drawer_21 (by decide) ?_
      refine a_ldc2 C dX6_drawer_22 co_X6_147 ?_
      obtain ⟨r4, hcr4, h⟩ := bd_some h
      refine a_callSi C dX6_drawer_25 ls_X6_79 lm_X6_in ⟨rfl, rfl, by decide, by decide⟩ (m_X6_in C.2.2.2.2.2.2.1 hcr4) rfl rfl (Nat.le_of_ble_eq_true rfl) ?_
      refine a_if_eq (tgt := 41) C dX6_drawer_28 (by decide) (fun hc => ?_) (fun hc => ?_)
      · replace h := ip hc h
        refine a_bipush (v := -2) C dX6_drawer_41 (by decide) ?_
        replace h := Option.some.inj h
        subst h
        exact a_iret C dX6_drawer_43 hK
      · replace h := iq hc h
        refine a_aload_n C dX6_drawer_31 0 rfl ?_
        refine a_iload_n C dX6_drawer_32 1 rfl ?_
        refine a_iload_n C dX6_drawer_33 2 rfl ?_
        refine a_iload_n C dX6_drawer_34 3 rfl ?_
        obtain ⟨r5, hcr5, h⟩ := bd_some h
        refine a_callVi C dX6_drawer_35 lv_X6_222 lm_X6_drawerBy ⟨rfl, rfl, by decide, by decide⟩ Kc_49 (m_X6_drawerBy C.2.2.2.2.2.2.1 hcr5) rfl rfl (Nat.le_of_ble_eq_true rfl) ?_
        refine a_goto (tgt := 43) C dX6_drawer_38 (by decide) ?_
        replace h := Option.some.inj h
        subst h
        exact a_iret C dX6_drawer_43 hK
theorem m_X6_drawer {Y : EY} (hY : HY Y) {x1 : Int32} {x2 : Int32} {x3 : Int32} {M : Mem}  {r : Int32 × Mem} (h : f_X6_drawer x1 x2 x3 M = some r) : MX Y yX6_drawer cX6_drawer 4 (some .int) rm_X6_drawer [.ref (Y.2.2.2.1 49), .int x1, .int x2, .int x3] M (some (.int r.1)) r.2 := MX.of hY (by decide) (Nat.le_of_ble_eq_true rfl) (fun _ hR C => a_sub [0, 1, 2, 3] (t_X6_drawer C  h hR) rfl)
abbrev rm_X6_becomes : Room := { frames := 6, cells := 0, slots := 0, locals := 137 }
noncomputable def f_X6_becomes (x1 : Int32) (M : Mem) : Option (Int32 × Mem) :=
  Option.bind (f_X6_find M) (fun r1 => Option.bind (f_X6_isPerson x1 r1) (fun r2 => (if r2 = 0 then some ((-2 : Int32), r1) else ck (inb x1 8) (some ((r1 67 (x1).toNatClampNeg), r1)))))
theorem t_X6_becomes {Y : EY} {X : CX} (C : CK Y X cX6_becomes RX6 2 (some .int) rm_X6_becomes) {x1 : Int32} {M : Mem}  {res : Int32 × Mem} (h : f_X6_becomes x1 M = some res) (hK : RK Y X (some (.int res.1)) res.2) : AW Y X 2 0 [(0, .ref (Y.2.2.2.1 49)), (1, .int x1)] [] M := by
  unfold f_X6_becomes at h
  refine a_aload_n C dX6_becomes_0 0 rfl ?_
  obtain ⟨r1, hcr1, h⟩ := bd_some h
  refine a_callVv C dX6_becomes_1 lv_X6_216 lm_X6_find ⟨rfl, rfl, by decide, by decide⟩ Kc_49 (m_X6_find C.2.2.2.2.2.2.1 hcr1) rfl rfl (Nat.le_of_ble_eq_true rfl) ?_
  refine a_aload_n C dX6_becomes_4 0 rfl ?_
  refine a_iload_n C dX6_becomes_5 1 rfl ?_
  obtain ⟨r2, hcr2, h⟩ := bd_some h
  refine a_callVi C dX6_becomes_6 lv_X6_149 lm_X6_isPerson ⟨rfl, rfl, by decide, by decide⟩ Kc_49 (m_X6_isPerson C.2.2.2.2.2.2.1 hcr2) rfl rfl (Nat.le_of_ble_eq_true rfl) ?_
  refine a_if_eq (tgt := 21) C dX6_becomes_9 (by decide) (fun hc => ?_) (fun hc => ?_)
  · replace h := ip hc h
    refine a_bipush (v := -2) C dX6_becomes_21 (by decide) ?_
    replace h := Option.some.inj h
    subst h
    exact a_iret C dX6_becomes_23 hK
  · replace h := iq hc h
    refine a_aload_n C dX6_becomes_12 0 rfl ?_
    refine a_getr (k1 := 67) C dX6_becomes_13 fl_X6_61 rfl Kc_49 rfl ?_
    refine a_iload_n C dX6_becomes_16 1 rfl ?_
    obtain ⟨hb, h⟩ := ck_some h
    refine a_iald C dX6_becomes_17 Kc_67 rfl hb ?_
    refine a_goto (tgt := 23) C dX6_becomes_18 (by decide) ?_
    replace h := Option.some.inj h
    subst h
    exact a_iret C dX6_becomes_23 hK
theorem m_X6_becomes {Y : EY} (hY : HY Y) {x1 : Int32} {M : Mem}  {r : Int32 × Mem} (h : f_X6_becomes x1 M = some r) : MX Y yX6_becomes cX6_becomes 2 (some .int) rm_X6_becomes [.ref (Y.2.2.2.1 49), .int x1] M (some (.int r.1)) r.2 := MX.of hY (by decide) (Nat.le_of_ble_eq_true rfl) (fun _ hR C => a_sub [0, 1] (t_X6_becomes C  h hR) rfl)
abbrev rm_X6_isAstray : Room := { frames := 0, cells := 0, slots := 0, locals := 0 }
noncomputable def f_X6_isAstray (x1 : Int32) (M : Mem) : Option (Int32) :=
  ck (inb ((232 : Int32) + x1) 240) ((if (M 65 (((232 : Int32) + x1)).toNatClampNeg) = (-1 : Int32) then some (0 : Int32) else ck (inb ((232 : Int32) + x1) 240) (ck (inb (((2 : Int32) * x1) + (1 : Int32)) 16) ((if (M 65 (((232 : Int32) + x1)).toNatClampNeg) = (M 57 ((((2 : Int32) * x1) + (1 : Int32))).toNatClampNeg) then some (0 : Int32) else some (1 : Int32))))))
theorem t_X6_isAstray {Y : EY} {X : CX} (C : CK Y X cX6_isAstray RX6 2 (some .boolean) rm_X6_isAstray) {x1 : Int32} {M : Mem}  {res : Int32} (h : f_X6_isAstray x1 M = some res) (hK : RK Y X (some (.int res)) M) : AW Y X 2 0 [(0, .ref (Y.2.2.2.1 49)), (1, .int x1)] [] M := by
  unfold f_X6_isAstray at h
  refine a_aload_n C dX6_isAstray_0 0 rfl ?_
  refine a_getr (k1 := 65) C dX6_isAstray_1 fl_X6_55 rfl Kc_49 rfl ?_
  refine a_sipush (v := 232) C dX6_isAstray_4 (by decide) ?_
  refine a_iload_n C dX6_isAstray_7 1 rfl ?_
  refine a_iadd C dX6_isAstray_8 ?_
  obtain ⟨hb, h⟩ := ck_some h
  refine a_iald C dX6_isAstray_9 Kc_65 rfl hb ?_
  refine a_iconst (v := -1) C dX6_isAstray_10 (by decide) ?_
  refine a_icmp_eq (tgt := 41) C dX6_isAstray_11 (by decide) (fun hc => ?_) (fun hc => ?_)
  · replace h := ip hc h
    refine a_iconst (v := 0) C dX6_isAstray_41 (by decide) ?_
    replace h := Option.some.inj h
    subst h
    exact a_zret C dX6_isAstray_42 rfl hK
  · replace h := iq hc h
    refine a_aload_n C dX6_isAstray_14 0 rfl ?_
    refine a_getr (k1 := 65) C dX6_isAstray_15 fl_X6_55 rfl Kc_49 rfl ?_
    refine a_sipush (v := 232) C dX6_isAstray_18 (by decide) ?_
    refine a_iload_n C dX6_isAstray_21 1 rfl ?_
    refine a_iadd C dX6_isAstray_22 ?_
    obtain ⟨hb, h⟩ := ck_some h
    refine a_iald C dX6_isAstray_23 Kc_65 rfl hb ?_
    refine a_aload_n C dX6_isAstray_24 0 rfl ?_
    refine a_getr (k1 := 57) C dX6_isAstray_25 fl_X6_31 rfl Kc_49 rfl ?_
    refine a_iconst (v := 2) C dX6_isAstray_28 (by decide) ?_
    refine a_iload_n C dX6_isAstray_29 1 rfl ?_
    refine a_imul C dX6_isAstray_30 ?_
    refine a_iconst (v := 1) C dX6_isAstray_31 (by decide) ?_
    refine a_iadd C dX6_isAstray_32 ?_
    obtain ⟨hb, h⟩ := ck_some h
    refine a_iald C dX6_isAstray_33 Kc_57 rfl hb ?_
    refine a_icmp_eq (tgt := 41) C dX6_isAstray_34 (by decide) (fun hc => ?_) (fun hc => ?_)
    · replace h := ip hc h
      refine a_iconst (v := 0) C dX6_isAstray_41 (by decide) ?_
      replace h := Option.some.inj h
      subst h
      exact a_zret C dX6_isAstray_42 rfl hK
    · replace h := iq hc h
      refine a_iconst (v := 1) C dX6_isAstray_37 (by decide) ?_
      refine a_goto (tgt := 42) C dX6_isAstray_38 (by decide) ?_
      replace h := Option.some.inj h
      subst h
      exact a_zret C dX6_isAstray_42 rfl hK
theorem m_X6_isAstray {Y : EY} (hY : HY Y) {x1 : Int32} {M : Mem}  {r : Int32} (h : f_X6_isAstray x1 M = some r) : MX Y yX6_isAstray cX6_isAstray 2 (some .boolean) rm_X6_isAstray [.ref (Y.2.2.2.1 49), .int x1] M (some (.int r)) M := MX.of hY (by decide) (Nat.le_of_ble_eq_true rfl) (fun _ hR C => a_sub [0, 1] (t_X6_isAstray C  h hR) rfl)
abbrev rm_X6_astrayNow : Room := { frames := 1, cells := 0, slots := 0, locals := 21 }
abbrev At_X6_astrayNow_4 (Y : EY) (X : CX) (M : Mem) (s : Int32 × Int32) : Prop := AW Y X 3 4 [(0, .ref (Y.2.2.2.1 49)), (1, .int s.1), (2, .int s.2)] [] M
abbrev Ex_X6_astrayNow_4 (Y : EY) (X : CX) (M : Mem) (s : Int32 × Int32) : Prop := AW Y X 3 36 [(1, .int s.1)] [] M
noncomputable def f_X6_astrayNow_28_4 (x2 : Int32) (t0 : Int32) (t1 : Int32) (M : Mem) : Option ((Int32 × Int32) ⊕ (Int32 × Int32)) :=
  some (.inl ((t0 ||| t1), (x2 + (1 : Int32))))
theorem t_X6_astrayNow_28_4 {Y : EY} {X : CX} (C : CK Y X cX6_astrayNow RX6 3 (some .int) rm_X6_astrayNow) {x2 : Int32} {t0 : Int32} {t1 : Int32} {M : Mem}  {res : (Int32 × Int32) ⊕ (Int32 × Int32)} (h : f_X6_astrayNow_28_4 x2 t0 t1 M = some res) (hK : KL (At_X6_astrayNow_4 Y X M) (Ex_X6_astrayNow_4 Y X M) res) : AW Y X 3 28 [(0, .ref (Y.2.2.2.1 49)), (2, .int x2)] [.int t1, .int t0] M := by
  unfold f_X6_astrayNow_28_4 at h
  refine a_ior C dX6_astrayNow_28 ?_
  refine a_istore_n (lv' := [(1, _), (0, _), (2, _)]) C dX6_astrayNow_29 rfl (by decide) rfl ?_
  refine a_iinc (v := 1) (lv' := [(2, _), (1, _), (0, _)]) C dX6_astrayNow_30 2 rfl (by decide) (by decide) rfl ?_
  refine a_goto (tgt := 4) C dX6_astrayNow_33 (by decide) ?_
  replace h := Option.some.inj h
  subst h
  exact a_sub [2, 1, 0] (hK) rfl
noncomputable def f_X6_astrayNow_4_4b (x1 : Int32) (x2 : Int32) (M : Mem) : Option ((Int32 × Int32) ⊕ (Int32 × Int32)) :=
  (if (M 49 9) ≤ x2 then some (.inr (x1, x2)) else Option.bind (f_X6_isAstray x2 M) (fun r1 => (if r1 = 0 then f_X6_astrayNow_28_4 x2 x1 (0 : Int32) M else f_X6_astrayNow_28_4 x2 x1 (shlI (1 : Int32) x2) M)))
theorem t_X6_astrayNow_4_4b {Y : EY} {X : CX} (C : CK Y X cX6_astrayNow RX6 3 (some .int) rm_X6_astrayNow) {x1 : Int32} {x2 : Int32} {M : Mem}  {res : (Int32 × Int32) ⊕ (Int32 × Int32)} (h : f_X6_astrayNow_4_4b x1 x2 M = some res) (hK : KL (At_X6_astrayNow_4 Y X M) (Ex_X6_astrayNow_4 Y X M) res) : AW Y X 3 4 [(0, .ref (Y.2.2.2.1 49)), (1, .int x1), (2, .int x2)] [] M := by
  unfold f_X6_astrayNow_4_4b at h
  refine a_iload_n C dX6_astrayNow_4 2 rfl ?_
  refine a_aload_n C dX6_astrayNow_5 0 rfl ?_
  refine a_geti C dX6_astrayNow_6 fl_X6_124 rfl Kc_49 ?_
  refine a_icmp_ge (tgt := 36) C dX6_astrayNow_9 (by decide) (fun hc => ?_) (fun hc => ?_)
  · replace h := ip hc h
    replace h := Option.some.inj h
    subst h
    exact a_sub [1] (hK) rfl
  · replace h := iq hc h
    refine a_iload_n C dX6_astrayNow_12 1 rfl ?_
    refine a_aload_n C dX6_astrayNow_13 0 rfl ?_
    refine a_iload_n C dX6_astrayNow_14 2 rfl ?_
    obtain ⟨r1, hcr1, h⟩ := bd_some h
    refine a_callVi C dX6_astrayNow_15 lv_X6_225 lm_X6_isAstray ⟨rfl, rfl, by decide, by decide⟩ Kc_49 (m_X6_isAstray C.2.2.2.2.2.2.1 hcr1) rfl rfl (Nat.le_of_ble_eq_true rfl) ?_
    refine a_if_eq (tgt := 27) C dX6_astrayNow_18 (by decide) (fun hc => ?_) (fun hc => ?_)
    · replace h := ip hc h
      refine a_iconst (v := 0) C dX6_astrayNow_27 (by decide) ?_
      exact a_sub [0, 2] (t_X6_astrayNow_28_4 C h hK) rfl
    · replace h := iq hc h
      refine a_iconst (v := 1) C dX6_astrayNow_21 (by decide) ?_
      refine a_iload_n C dX6_astrayNow_22 2 rfl ?_
      refine a_ishl C dX6_astrayNow_23 ?_
      refine a_goto (tgt := 28) C dX6_astrayNow_24 (by decide) ?_
      exact a_sub [0, 2] (t_X6_astrayNow_28_4 C h hK) rfl
noncomputable def f_X6_astrayNow  (M : Mem) : Option (Int32) :=
  Option.bind (loop (fun s2 : Int32 × Int32 => f_X6_astrayNow_4_4b s2.1 s2.2 M) ((0 : Int32), (0 : Int32))) (fun s3 => some s3.1)
theorem t_X6_astrayNow {Y : EY} {X : CX} (C : CK Y X cX6_astrayNow RX6 3 (some .int) rm_X6_astrayNow)  {M : Mem}  {res : Int32} (h : f_X6_astrayNow M = some res) (hK : RK Y X (some (.int res)) M) : AW Y X 3 0 [(0, .ref (Y.2.2.2.1 49))] [] M := by
  unfold f_X6_astrayNow at h
  refine a_iconst (v := 0) C dX6_astrayNow_0 (by decide) ?_
  refine a_istore_n (lv' := [(1, _), (0, _)]) C dX6_astrayNow_1 rfl (by decide) rfl ?_
  refine a_iconst (v := 0) C dX6_astrayNow_2 (by decide) ?_
  refine a_istore_n (lv' := [(2, _), (1, _), (0, _)]) C dX6_astrayNow_3 rfl (by decide) rfl ?_
  obtain ⟨s3, hl, h⟩ := bd_some h
  have hE : Ex_X6_astrayNow_4 Y X M s3 := by
    refine a_iload_n C dX6_astrayNow_36 0 rfl ?_
    replace h := Option.some.inj h
    subst h
    exact a_iret C dX6_astrayNow_37 hK
  have hA := aw_loop (At_X6_astrayNow_4 Y X M) (Ex_X6_astrayNow_4 Y X M) (fun _ _ hb hk => t_X6_astrayNow_4_4b C hb hk) hl hE
  exact a_sub [2, 1, 0] (hA) rfl
theorem m_X6_astrayNow {Y : EY} (hY : HY Y)  {M : Mem}  {r : Int32} (h : f_X6_astrayNow M = some r) : MX Y yX6_astrayNow cX6_astrayNow 3 (some .int) rm_X6_astrayNow [.ref (Y.2.2.2.1 49)] M (some (.int r)) M := MX.of hY (by decide) (Nat.le_of_ble_eq_true rfl) (fun _ hR C => a_sub [0] (t_X6_astrayNow C  h hR) rfl)
