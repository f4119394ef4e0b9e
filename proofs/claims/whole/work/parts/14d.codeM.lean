abbrev rm_X6_wasOf : Room := { frames := 7, cells := 0, slots := 0, locals := 165 }
noncomputable def f_X6_wasOf (x1 : Int32) (x2 : Int32) (M : Mem) : Option (Int32 × Mem) :=
  (if x2 = 0 then Option.bind (f_X6_whoseOf x1 M) (fun r2 => some (r2.1, r2.2)) else Option.bind (f_X6_sortOf x1 M) (fun r1 => some (r1.1, r1.2)))
theorem t_X6_wasOf {Y : EY} {X : CX} (C : CK Y X cX6_wasOf RX6 3 (some .int) rm_X6_wasOf) {x1 : Int32} {x2 : Int32} {M : Mem}  {res : Int32 × Mem} (h : f_X6_wasOf x1 x2 M = some res) (hK : RK Y X (some (.int res.1)) res.2) : AW Y X 3 0 [(0, .ref (Y.2.2.2.1 49)), (1, .int x1), (2, .int x2)] [] M := by
  unfold f_X6_wasOf at h
  refine a_iload_n C dX6_wasOf_0 2 rfl ?_
  refine a_if_ne (tgt := 12) C dX6_wasOf_1 (by decide) (fun hc => ?_) (fun hc => ?_)
  · replace h := iq hc h
    refine a_aload_n C dX6_wasOf_12 0 rfl ?_
    refine a_iload_n C dX6_wasOf_13 1 rfl ?_
    obtain ⟨r1, hcr1, h⟩ := bd_some h
    refine a_callVi C dX6_wasOf_14 lv_X6_278 lm_X6_sortOf ⟨rfl, rfl, by decide, by decide⟩ Kc_49 (m_X6_sortOf C.2.2.2.2.2.2.1 hcr1) rfl rfl (Nat.le_of_ble_eq_true rfl) ?_
    replace h := Option.some.inj h
    subst h
    exact a_iret C dX6_wasOf_17 hK
  · replace h := ip hc h
    refine a_aload_n C dX6_wasOf_4 0 rfl ?_
    refine a_iload_n C dX6_wasOf_5 1 rfl ?_
    obtain ⟨r2, hcr2, h⟩ := bd_some h
    refine a_callVi C dX6_wasOf_6 lv_X6_275 lm_X6_whoseOf ⟨rfl, rfl, by decide, by decide⟩ Kc_49 (m_X6_whoseOf C.2.2.2.2.2.2.1 hcr2) rfl rfl (Nat.le_of_ble_eq_true rfl) ?_
    refine a_goto (tgt := 17) C dX6_wasOf_9 (by decide) ?_
    replace h := Option.some.inj h
    subst h
    exact a_iret C dX6_wasOf_17 hK
theorem m_X6_wasOf {Y : EY} (hY : HY Y) {x1 : Int32} {x2 : Int32} {M : Mem}  {r : Int32 × Mem} (h : f_X6_wasOf x1 x2 M = some r) : MX Y yX6_wasOf cX6_wasOf 3 (some .int) rm_X6_wasOf [.ref (Y.2.2.2.1 49), .int x1, .int x2] M (some (.int r.1)) r.2 := MX.of hY (by decide) (Nat.le_of_ble_eq_true rfl) (fun _ hR C => a_sub [0, 1, 2] (t_X6_wasOf C  h hR) rfl)
abbrev rm_X6_was : Room := { frames := 8, cells := 0, slots := 0, locals := 187 }
noncomputable def f_X6_was (x1 : Int32) (x2 : Int32) (M : Mem) : Option (Int32 × Mem) :=
  Option.bind (f_X6_find M) (fun r1 => Option.bind (f_X6_isPerson x1 r1) (fun r2 => (if r2 = 0 then some ((-2 : Int32), r1) else Option.bind (f_X6_isTwo x2) (fun r3 => (if r3 = 0 then some ((-2 : Int32), r1) else Option.bind (f_X6_wasOf x1 x2 r1) (fun r4 => some (r4.1, r4.2)))))))
theorem t_X6_was {Y : EY} {X : CX} (C : CK Y X cX6_was RX6 3 (some .int) rm_X6_was) {x1 : Int32} {x2 : Int32} {M : Mem}  {res : Int32 × Mem} (h : f_X6_was x1 x2 M = some res) (hK : RK Y X (some (.int res.1)) res.2) : AW Y X 3 0 [(0, .ref (Y.2.2.2.1 49)), (1, .int x1), (2, .int x2)] [] M := by
  unfold f_X6_was at h
  refine a_aload_n C dX6_was_0 0 rfl ?_
  obtain ⟨r1, hcr1, h⟩ := bd_some h
  refine a_callVv C dX6_was_1 lv_X6_216 lm_X6_find ⟨rfl, rfl, by decide, by decide⟩ Kc_49 (m_X6_find C.2.2.2.2.2.2.1 hcr1) rfl rfl (Nat.le_of_ble_eq_true rfl) ?_
  refine a_aload_n C dX6_was_4 0 rfl ?_
  refine a_iload_n C dX6_was_5 1 rfl ?_
  obtain ⟨r2, hcr2, h⟩ := bd_some h
  refine a_callVi C dX6_was_6 lv_X6_149 lm_X6_isPerson ⟨rfl, rfl, by decide, by decide⟩ Kc_49 (m_X6_isPerson C.2.2.2.2.2.2.1 hcr2) rfl rfl (Nat.le_of_ble_eq_true rfl) ?_
  refine a_if_eq (tgt := 28) C dX6_was_9 (by decide) (fun hc => ?_) (fun hc => ?_)
  · replace h := ip hc h
    refine a_bipush (v := -2) C dX6_was_28 (by decide) ?_
    replace h := Option.some.inj h
    subst h
    exact a_iret C dX6_was_30 hK
  · replace h := iq hc h
    refine a_iload_n C dX6_was_12 2 rfl ?_
    obtain ⟨r3, hcr3, h⟩ := bd_some h
    refine a_callSi C dX6_was_13 ls_X6_107 lm_X6_isTwo ⟨rfl, rfl, by decide, by decide⟩ (m_X6_isTwo C.2.2.2.2.2.2.1 hcr3) rfl rfl (Nat.le_of_ble_eq_true rfl) ?_
    refine a_if_eq (tgt := 28) C dX6_was_16 (by decide) (fun hc => ?_) (fun hc => ?_)
    · replace h := ip hc h
      refine a_bipush (v := -2) C dX6_was_28 (by decide) ?_
      replace h := Option.some.inj h
      subst h
      exact a_iret C dX6_was_30 hK
    · replace h := iq hc h
      refine a_aload_n C dX6_was_19 0 rfl ?_
      refine a_iload_n C dX6_was_20 1 rfl ?_
      refine a_iload_n C dX6_was_21 2 rfl ?_
      obtain ⟨r4, hcr4, h⟩ := bd_some h
      refine a_callVi C dX6_was_22 lv_X6_281 lm_X6_wasOf ⟨rfl, rfl, by decide, by decide⟩ Kc_49 (m_X6_wasOf C.2.2.2.2.2.2.1 hcr4) rfl rfl (Nat.le_of_ble_eq_true rfl) ?_
      refine a_goto (tgt := 30) C dX6_was_25 (by decide) ?_
      replace h := Option.some.inj h
      subst h
      exact a_iret C dX6_was_30 hK
theorem m_X6_was {Y : EY} (hY : HY Y) {x1 : Int32} {x2 : Int32} {M : Mem}  {r : Int32 × Mem} (h : f_X6_was x1 x2 M = some r) : MX Y yX6_was cX6_was 3 (some .int) rm_X6_was [.ref (Y.2.2.2.1 49), .int x1, .int x2] M (some (.int r.1)) r.2 := MX.of hY (by decide) (Nat.le_of_ble_eq_true rfl) (fun _ hR C => a_sub [0, 1, 2] (t_X6_was C  h hR) rfl)
abbrev rm_X6_alike : Room := { frames := 1, cells := 0, slots := 0, locals := 21 }
abbrev At_X6_alike_5 (Y : EY) (X : CX) (x1 : Int32) (x2 : Int32) (M : Mem) (s : Int32 × Int32) : Prop := AW Y X 7 5 [(0, .ref (Y.2.2.2.1 49)), (1, .int x1), (2, .int x2), (3, .int s.1), (4, .int s.2)] [] M
abbrev Ex_X6_alike_5 (Y : EY) (X : CX) (x1 : Int32) (x2 : Int32) (M : Mem) (s : Int32 × Int32) : Prop := AW Y X 7 99 [(3, .int s.1)] [] M
abbrev At_X6_alike_18 (Y : EY) (X : CX) (x1 : Int32) (x2 : Int32) (x3 : Int32) (x4 : Int32) (M : Mem) (s : Int32 × Int32) : Prop := AW Y X 7 18 [(0, .ref (Y.2.2.2.1 49)), (1, .int x1), (2, .int x2), (3, .int x3), (4, .int x4), (5, .int s.1), (6, .int s.2)] [] M
abbrev Ex_X6_alike_18 (Y : EY) (X : CX) (x1 : Int32) (x2 : Int32) (x3 : Int32) (x4 : Int32) (M : Mem) (s : Int32 × Int32) : Prop := AW Y X 7 86 [(0, .ref (Y.2.2.2.1 49)), (1, .int x1), (2, .int x2), (3, .int x3), (4, .int x4), (5, .int s.1)] [] M
noncomputable def f_X6_alike_77_18 (x1 : Int32) (x2 : Int32) (x3 : Int32) (x4 : Int32) (x6 : Int32) (t0 : Int32) (t1 : Int32) (M : Mem) : Option ((Int32 × Int32) ⊕ (Int32 × Int32)) :=
  some (.inl ((t0 + t1), (x6 + (1 : Int32))))
theorem t_X6_alike_77_18 {Y : EY} {X : CX} (C : CK Y X cX6_alike RX6 7 (some .int) rm_X6_alike) {x1 : Int32} {x2 : Int32} {x3 : Int32} {x4 : Int32} {x6 : Int32} {t0 : Int32} {t1 : Int32} {M : Mem}  {res : (Int32 × Int32) ⊕ (Int32 × Int32)} (h : f_X6_alike_77_18 x1 x2 x3 x4 x6 t0 t1 M = some res) (hK : KL (At_X6_alike_18 Y X x1 x2 x3 x4 M) (Ex_X6_alike_18 Y X x1 x2 x3 x4 M) res) : AW Y X 7 77 [(0, .ref (Y.2.2.2.1 49)), (1, .int x1), (2, .int x2), (3, .int x3), (4, .int x4), (6, .int x6)] [.int t1, .int t0] M := by
  unfold f_X6_alike_77_18 at h
  refine a_iadd C dX6_alike_77 ?_
  refine a_istore (lv' := [(5, _), (0, _), (1, _), (2, _), (3, _), (4, _), (6, _)]) C dX6_alike_78 (by decide) rfl ?_
  refine a_iinc (v := 1) (lv' := [(6, _), (5, _), (0, _), (1, _), (2, _), (3, _), (4, _)]) C dX6_alike_80 6 rfl (by decide) (by decide) rfl ?_
  refine a_goto (tgt := 18) C dX6_alike_83 (by decide) ?_
  replace h := Option.some.inj h
  subst h
  exact a_sub [2, 3, 4, 5, 6, 1, 0] (hK) rfl
noncomputable def f_X6_alike_76_18 (x1 : Int32) (x2 : Int32) (x3 : Int32) (x4 : Int32) (x6 : Int32) (t0 : Int32) (M : Mem) : Option ((Int32 × Int32) ⊕ (Int32 × Int32)) :=
  f_X6_alike_77_18 x1 x2 x3 x4 x6 t0 (0 : Int32) M
theorem t_X6_alike_76_18 {Y : EY} {X : CX} (C : CK Y X cX6_alike RX6 7 (some .int) rm_X6_alike) {x1 : Int32} {x2 : Int32} {x3 : Int32} {x4 : Int32} {x6 : Int32} {t0 : Int32} {M : Mem}  {res : (Int32 × Int32) ⊕ (Int32 × Int32)} (h : f_X6_alike_76_18 x1 x2 x3 x4 x6 t0 M = some res) (hK : KL (At_X6_alike_18 Y X x1 x2 x3 x4 M) (Ex_X6_alike_18 Y X x1 x2 x3 x4 M) res) : AW Y X 7 76 [(0, .ref (Y.2.2.2.1 49)), (1, .int x1), (2, .int x2), (3, .int x3), (4, .int x4), (6, .int x6)] [.int t0] M := by
  unfold f_X6_alike_76_18 at h
  refine a_iconst (v := 0) C dX6_alike_76 (by decide) ?_
  exact a_sub [0, 1, 2, 3, 4, 5] (t_X6_alike_77_18 C h hK) rfl
noncomputable def f_X6_alike_18_18b (x1 : Int32) (x2 : Int32) (x3 : Int32) (x4 : Int32) (x5 : Int32) (x6 : Int32) (M : Mem) : Option ((Int32 × Int32) ⊕ (Int32 × Int32)) :=
  (if (8 : Int32) ≤ x6 then some (.inr (x5, x6)) else Option.bind (f_X6_isIn x1 x4) (fun r1 => (if r1 = 0 then f_X6_alike_76_18 x1 x2 x3 x4 x6 x5 M else Option.bind (f_X6_isIn x1 x6) (fun r2 => (if r2 = 0 then f_X6_alike_76_18 x1 x2 x3 x4 x6 x5 M else ck (inb (((30 : Int32) * x4) + x2) 240) (ck (inb (((30 : Int32) * x6) + x2) 240) ((if (M 69 ((((30 : Int32) * x4) + x2)).toNatClampNeg) = (M 69 ((((30 : Int32) * x6) + x2)).toNatClampNeg) then f_X6_alike_77_18 x1 x2 x3 x4 x6 x5 (1 : Int32) M else f_X6_alike_76_18 x1 x2 x3 x4 x6 x5 M))))))))
theorem t_X6_alike_18_18b {Y : EY} {X : CX} (C : CK Y X cX6_alike RX6 7 (some .int) rm_X6_alike) {x1 : Int32} {x2 : Int32} {x3 : Int32} {x4 : Int32} {x5 : Int32} {x6 : Int32} {M : Mem}  {res : (Int32 × Int32) ⊕ (Int32 × Int32)} (h : f_X6_alike_18_18b x1 x2 x3 x4 x5 x6 M = some res) (hK : KL (At_X6_alike_18 Y X x1 x2 x3 x4 M) (Ex_X6_alike_18 Y X x1 x2 x3 x4 M) res) : AW Y X 7 18 [(0, .ref (Y.2.2.2.1 49)), (1, .int x1), (2, .int x2), (3, .int x3), (4, .int x4), (5, .int x5), (6, .int x6)] [] M := by
  unfold f_X6_alike_18_18b at h
  refine a_iload C dX6_alike_18 6 rfl ?_
  refine a_bipush (v := 8) C dX6_alike_20 (by decide) ?_
  refine a_icmp_ge (tgt := 86) C dX6_alike_22 (by decide) (fun hc => ?_) (fun hc => ?_)
  · replace h := ip hc h
    replace h := Option.some.inj h
    subst h
    exact a_sub [0, 1, 2, 3, 4, 5] (hK) rfl
  · replace h := iq hc h
    refine a_iload C dX6_alike_25 5 rfl ?_
    refine a_iload_n C dX6_alike_27 1 rfl ?_
    refine a_iload C dX6_alike_28 4 rfl ?_
    obtain ⟨r1, hcr1, h⟩ := bd_some h
    refine a_callSi C dX6_alike_30 ls_X6_189 lm_X6_isIn ⟨rfl, rfl, by decide, by decide⟩ (m_X6_isIn C.2.2.2.2.2.2.1 hcr1) rfl rfl (Nat.le_of_ble_eq_true rfl) ?_
    refine a_if_eq (tgt := 76) C dX6_alike_33 (by decide) (fun hc => ?_) (fun hc => ?_)
    · replace h := ip hc h
      exact a_sub [0, 1, 2, 3, 4, 6] (t_X6_alike_76_18 C h hK) rfl
    · replace h := iq hc h
      refine a_iload_n C dX6_alike_36 1 rfl ?_
      refine a_iload C dX6_alike_37 6 rfl ?_
      obtain ⟨r2, hcr2, h⟩ := bd_some h
      refine a_callSi C dX6_alike_39 ls_X6_189 lm_X6_isIn ⟨rfl, rfl, by decide, by decide⟩ (m_X6_isIn C.2.2.2.2.2.2.1 hcr2) rfl rfl (Nat.le_of_ble_eq_true rfl) ?_
      refine a_if_eq (tgt := 76) C dX6_alike_42 (by decide) (fun hc => ?_) (fun hc => ?_)
      · replace h := ip hc h
        exact a_sub [0, 1, 2, 3, 4, 6] (t_X6_alike_76_18 C h hK) rfl
      · replace h := iq hc h
        refine a_aload_n C dX6_alike_45 0 rfl ?_
        refine a_getr (k1 := 69) C dX6_alike_46 fl_X6_67 rfl Kc_49 rfl ?_
        refine a_bipush (v := 30) C dX6_alike_49 (by decide) ?_
        refine a_iload C dX6_alike_51 4 rfl ?_
        refine a_imul C dX6_alike_53 ?_
        refine a_iload_n C dX6_alike_54 2 rfl ?_
        refine a_iadd C dX6_alike_55 ?_
        obtain ⟨hb, h⟩ := ck_some h
        refine a_iald C dX6_alike_56 Kc_69 rfl hb ?_
        refine a_aload_n C dX6_alike_57 0 rfl ?_
        refine a_getr (k1 := 69) C dX6_alike_58 fl_X6_67 rfl Kc_49 rfl ?_
        refine a_bipush (v := 30) C dX6_alike_61 (by decide) ?_
        refine a_iload C dX6_alike_63 6 rfl ?_
        refine a_imul C dX6_alike_65 ?_
        refine a_iload_n C dX6_alike_66 2 rfl ?_
        refine a_iadd C dX6_alike_67 ?_
        obtain ⟨hb, h⟩ := ck_some h
        refine a_iald C dX6_alike_68 Kc_69 rfl hb ?_
        refine a_icmp_ne (tgt := 76) C dX6_alike_69 (by decide) (fun hc => ?_) (fun hc => ?_)
        · replace h := iq hc h
          exact a_sub [0, 1, 2, 3, 4, 6] (t_X6_alike_76_18 C h hK) rfl
        · replace h := ip hc h
          refine a_iconst (v := 1) C dX6_alike_72 (by decide) ?_
          refine a_goto (tgt := 77) C dX6_alike_73 (by decide) ?_
          exact a_sub [0, 1, 2, 3, 4, 6] (t_X6_alike_77_18 C h hK) rfl
noncomputable def f_X6_alike_5_5b (x1 : Int32) (x2 : Int32) (x3 : Int32) (x4 : Int32) (M : Mem) : Option ((Int32 × Int32) ⊕ (Int32 × Int32)) :=
  (if (8 : Int32) ≤ x4 then some (.inr (x3, x4)) else Option.bind (loop (fun s3 : Int32 × Int32 => f_X6_alike_18_18b x1 x2 x3 x4 s3.1 s3.2 M) ((0 : Int32), (0 : Int32))) (fun s4 => Option.bind (f_X6_greater s4.1 x3) (fun r5 => some (.inl (r5, (x4 + (1 : Int32)))))))
theorem t_X6_alike_5_5b {Y : EY} {X : CX} (C : CK Y X cX6_alike RX6 7 (some .int) rm_X6_alike) {x1 : Int32} {x2 : Int32} {x3 : Int32} {x4 : Int32} {M : Mem}  {res : (Int32 × Int32) ⊕ (Int32 × Int32)} (h : f_X6_alike_5_5b x1 x2 x3 x4 M = some res) (hK : KL (At_X6_alike_5 Y X x1 x2 M) (Ex_X6_alike_5 Y X x1 x2 M) res) : AW Y X 7 5 [(0, .ref (Y.2.2.2.1 49)), (1, .int x1), (2, .int x2), (3, .int x3), (4, .int x4)] [] M := by
  unfold f_X6_alike_5_5b at h
  refine a_iload C dX6_alike_5 4 rfl ?_
  refine a_bipush (v := 8) C dX6_alike_7 (by decide) ?_
  refine a_icmp_ge (tgt := 99) C dX6_alike_9 (by decide) (fun hc => ?_) (fun hc => ?_)
  · replace h := ip hc h
    replace h := Option.some.inj h
    subst h
    exact a_sub [3] (hK) rfl
  · replace h := iq hc h
    refine a_iconst (v := 0) C dX6_alike_12 (by decide) ?_
    refine a_istore (lv' := [(5, _), (0, _), (1, _), (2, _), (3, _), (4, _)]) C dX6_alike_13 (by decide) rfl ?_
    refine a_iconst (v := 0) C dX6_alike_15 (by decide) ?_
    refine a_istore (lv' := [(6, _), (5, _), (0, _), (1, _), (2, _), (3, _), (4, _)]) C dX6_alike_16 (by decide) rfl ?_
    obtain ⟨s4, hl, h⟩ := bd_some h
    have hE : Ex_X6_alike_18 Y X x1 x2 x3 x4 M s4 := by
      refine a_iload C dX6_alike_86 5 rfl ?_
      refine a_iload_n C dX6_alike_88 3 rfl ?_
      obtain ⟨r5, hcr5, h⟩ := bd_some h
      refine a_callSi C dX6_alike_89 ls_X6_171 lm_X6_greater ⟨rfl, rfl, by decide, by decide⟩ (m_X6_greater C.2.2.2.2.2.2.1 hcr5) rfl rfl (Nat.le_of_ble_eq_true rfl) ?_
      refine a_istore_n (lv' := [(3, _), (0, _), (1, _), (2, _), (4, _), (5, _)]) C dX6_alike_92 rfl (by decide) rfl ?_
      refine a_iinc (v := 1) (lv' := [(4, _), (3, _), (0, _), (1, _), (2, _), (5, _)]) C dX6_alike_93 4 rfl (by decide) (by decide) rfl ?_
      refine a_goto (tgt := 5) C dX6_alike_96 (by decide) ?_
      replace h := Option.some.inj h
      subst h
      exact a_sub [2, 3, 4, 1, 0] (hK) rfl
    have hA := aw_loop (At_X6_alike_18 Y X x1 x2 x3 x4 M) (Ex_X6_alike_18 Y X x1 x2 x3 x4 M) (fun _ _ hb hk => t_X6_alike_18_18b C hb hk) hl hE
    exact a_sub [2, 3, 4, 5, 6, 1, 0] (hA) rfl
noncomputable def f_X6_alike (x1 : Int32) (x2 : Int32) (M : Mem) : Option (Int32) :=
  Option.bind (loop (fun s6 : Int32 × Int32 => f_X6_alike_5_5b x1 x2 s6.1 s6.2 M) ((0 : Int32), (0 : Int32))) (fun s7 => some s7.1)
theorem t_X6_alike {Y : EY} {X : CX} (C : CK Y X cX6_alike RX6 7 (some .int) rm_X6_alike) {x1 : Int32} {x2 : Int32} {M : Mem}  {res : Int32} (h : f_X6_alike x1 x2 M = some res) (hK : RK Y X (some (.int res)) M) : AW Y X 7 0 [(0, .ref (Y.2.2.2.1 49)), (1, .int x1), (2, .int x2)] [] M := by
  unfold f_X6_alike at h
  refine a_iconst (v := 0) C dX6_alike_0 (by decide) ?_
  refine a_istore_n (lv' := [(3, _), (0, _), (1, _), (2, _)]) C dX6_alike_1 rfl (by decide) rfl ?_
  refine a_iconst (v := 0) C dX6_alike_2 (by decide) ?_
  refine a_istore (lv' := [(4, _), (3, _), (0, _), (1, _), (2, _)]) C dX6_alike_3 (by decide) rfl ?_
  obtain ⟨s7, hl, h⟩ := bd_some h
  have hE : Ex_X6_alike_5 Y X x1 x2 M s7 := by
    refine a_iload_n C dX6_alike_99 0 rfl ?_
    replace h := Option.some.inj h
    subst h
    exact a_iret C dX6_alike_100 hK
  have hA := aw_loop (At_X6_alike_5 Y X x1 x2 M) (Ex_X6_alike_5 Y X x1 x2 M) (fun _ _ hb hk => t_X6_alike_5_5b C hb hk) hl hE
  exact a_sub [2, 3, 4, 1, 0] (hA) rfl
theorem m_X6_alike {Y : EY} (hY : HY Y) {x1 : Int32} {x2 : Int32} {M : Mem}  {r : Int32} (h : f_X6_alike x1 x2 M = some r) : MX Y yX6_alike cX6_alike 7 (some .int) rm_X6_alike [.ref (Y.2.2.2.1 49), .int x1, .int x2] M (some (.int r)) M := MX.of hY (by decide) (Nat.le_of_ble_eq_true rfl) (fun _ hR C => a_sub [0, 1, 2] (t_X6_alike C  h hR) rfl)
abbrev rm_X6_askOf : Room := { frames := 7, cells := 0, slots := 0, locals := 165 }
abbrev At_X6_askOf_11 (Y : EY) (X : CX) (x2 : Int32) (M : Mem) (s : Int32 × Int32) : Prop := AW Y X 5 11 [(0, .ref (Y.2.2.2.1 49)), (2, .int x2), (3, .int s.1), (4, .int s.2)] [] M
abbrev Ex_X6_askOf_11 (Y : EY) (X : CX) (x2 : Int32) (M : Mem) (s : Int32 × Int32) : Prop := AW Y X 5 47 [(3, .int s.1)] [] M
noncomputable def f_X6_askOf_40_11 (x2 : Int32) (x4 : Int32) (t0 : Int32) (M : Mem) : Option ((Int32 × Int32) ⊕ (Int32 × Int32)) :=
  some (.inl (t0, (x4 + (1 : Int32))))
theorem t_X6_askOf_40_11 {Y : EY} {X : CX} (C : CK Y X cX6_askOf RX6 5 (some .int) rm_X6_askOf) {x2 : Int32} {x4 : Int32} {t0 : Int32} {M : Mem}  {res : (Int32 × Int32) ⊕ (Int32 × Int32)} (h : f_X6_askOf_40_11 x2 x4 t0 M = some res) (hK : KL (At_X6_askOf_11 Y X x2 M) (Ex_X6_askOf_11 Y X x2 M) res) : AW Y X 5 40 [(0, .ref (Y.2.2.2.1 49)), (2, .int x2), (4, .int x4)] [.int t0] M := by
  unfold f_X6_askOf_40_11 at h
  refine a_istore_n (lv' := [(3, _), (0, _), (2, _), (4, _)]) C dX6_askOf_40 rfl (by decide) rfl ?_
  refine a_iinc (v := 1) (lv' := [(4, _), (3, _), (0, _), (2, _)]) C dX6_askOf_41 3 rfl (by decide) (by decide) rfl ?_
  refine a_goto (tgt := 11) C dX6_askOf_44 (by decide) ?_
  replace h := Option.some.inj h
  subst h
  exact a_sub [2, 3, 1, 0] (hK) rfl
noncomputable def f_X6_askOf_11_11b (x2 : Int32) (x3 : Int32) (x4 : Int32) (M : Mem) : Option ((Int32 × Int32) ⊕ (Int32 × Int32)) :=
  (if (30 : Int32) ≤ x4 then some (.inr (x3, x4)) else Option.bind (f_X6_alike x2 x4 M) (fun r2 => Option.bind (f_X6_alike x2 x3 M) (fun r3 => (if r3 ≤ r2 then f_X6_askOf_40_11 x2 x4 x3 M else f_X6_askOf_40_11 x2 x4 x4 M))))
theorem t_X6_askOf_11_11b {Y : EY} {X : CX} (C : CK Y X cX6_askOf RX6 5 (some .int) rm_X6_askOf) {x2 : Int32} {x3 : Int32} {x4 : Int32} {M : Mem}  {res : (Int32 × Int32) ⊕ (Int32 × Int32)} (h : f_X6_askOf_11_11b x2 x3 x4 M = some res) (hK : KL (At_X6_askOf_11 Y X x2 M) (Ex_X6_askOf_11 Y X x2 M) res) : AW Y X 5 11 [(0, .ref (Y.2.2.2.1 49)), (2, .int x2), (3, .int x3), (4, .int x4)] [] M := by
  unfold f_X6_askOf_11_11b at h
  refine a_iload C dX6_askOf_11 3 rfl ?_
  refine a_bipush (v := 30) C dX6_askOf_13 (by decide) ?_
  refine a_icmp_ge (tgt := 47) C dX6_askOf_15 (by decide) (fun hc => ?_) (fun hc => ?_)
  · replace h := ip hc h
    replace h := Option.some.inj h
    subst h
    exact a_sub [2] (hK) rfl
  · replace h := iq hc h
    refine a_aload_n C dX6_askOf_18 0 rfl ?_
    refine a_iload_n C dX6_askOf_19 1 rfl ?_
    refine a_iload C dX6_askOf_20 3 rfl ?_
    obtain ⟨r2, hcr2, h⟩ := bd_some h
    refine a_callVi C dX6_askOf_22 lv_X6_284 lm_X6_alike ⟨rfl, rfl, by decide, by decide⟩ Kc_49 (m_X6_alike C.2.2.2.2.2.2.1 hcr2) rfl rfl (Nat.le_of_ble_eq_true rfl) ?_
    refine a_aload_n C dX6_askOf_25 0 rfl ?_
    refine a_iload_n C dX6_askOf_26 1 rfl ?_
    refine a_iload_n C dX6_askOf_27 2 rfl ?_
    obtain ⟨r3, hcr3, h⟩ := bd_some h
    refine a_callVi C dX6_askOf_28 lv_X6_284 lm_X6_alike ⟨rfl, rfl, by decide, by decide⟩ Kc_49 (m_X6_alike C.2.2.2.2.2.2.1 hcr3) rfl rfl (Nat.le_of_ble_eq_true rfl) ?_
    refine a_icmp_ge (tgt := 39) C dX6_askOf_31 (by decide) (fun hc => ?_) (fun hc => ?_)
    · replace h := ip hc h
      refine a_iload_n C dX6_askOf_39 2 rfl ?_
      exact a_sub [0, 1, 3] (t_X6_askOf_40_11 C h hK) rfl
    · replace h := iq hc h
      refine a_iload C dX6_askOf_34 3 rfl ?_
      refine a_goto (tgt := 40) C dX6_askOf_36 (by decide) ?_
      exact a_sub [0, 1, 3] (t_X6_askOf_40_11 C h hK) rfl
noncomputable def f_X6_askOf (x1 : Int32) (M : Mem) : Option (Int32 × Mem) :=
  Option.bind (f_X6_whoseOf x1 M) (fun r1 => Option.bind (loop (fun s4 : Int32 × Int32 => f_X6_askOf_11_11b r1.1 s4.1 s4.2 r1.2) ((0 : Int32), (1 : Int32))) (fun s5 => some (s5.1, r1.2)))
theorem t_X6_askOf {Y : EY} {X : CX} (C : CK Y X cX6_askOf RX6 5 (some .int) rm_X6_askOf) {x1 : Int32} {M : Mem}  {res : Int32 × Mem} (h : f_X6_askOf x1 M = some res) (hK : RK Y X (some (.int res.1)) res.2) : AW Y X 5 0 [(0, .ref (Y.2.2.2.1 49)), (1, .int x1)] [] M := by
  unfold f_X6_askOf at h
  refine a_aload_n C dX6_askOf_0 0 rfl ?_
  refine a_iload_n C dX6_askOf_1 1 rfl ?_
  obtain ⟨r1, hcr1, h⟩ := bd_some h
  refine a_callVi C dX6_askOf_2 lv_X6_275 lm_X6_whoseOf ⟨rfl, rfl, by decide, by decide⟩ Kc_49 (m_X6_whoseOf C.2.2.2.2.2.2.1 hcr1) rfl rfl (Nat.le_of_ble_eq_true rfl) ?_
  refine a_istore_n (lv' := [(2, _), (0, _), (1, _)]) C dX6_askOf_5 rfl (by decide) rfl ?_
  refine a_iconst (v := 0) C dX6_askOf_6 (by decide) ?_
  refine a_istore_n (lv' := [(3, _), (2, _), (0, _), (1, _)]) C dX6_askOf_7 rfl (by decide) rfl ?_
  refine a_iconst (v := 1) C dX6_askOf_8 (by decide) ?_
  refine a_istore (lv' := [(4, _), (3, _), (2, _), (0, _), (1, _)]) C dX6_askOf_9 (by decide) rfl ?_
  obtain ⟨s5, hl, h⟩ := bd_some h
  have hE : Ex_X6_askOf_11 Y X r1.1 r1.2 s5 := by
    refine a_iload_n C dX6_askOf_47 0 rfl ?_
    replace h := Option.some.inj h
    subst h
    exact a_iret C dX6_askOf_48 hK
  have hA := aw_loop (At_X6_askOf_11 Y X r1.1 r1.2) (Ex_X6_askOf_11 Y X r1.1 r1.2) (fun _ _ hb hk => t_X6_askOf_11_11b C hb hk) hl hE
  exact a_sub [3, 2, 1, 0] (hA) rfl
theorem m_X6_askOf {Y : EY} (hY : HY Y) {x1 : Int32} {M : Mem}  {r : Int32 × Mem} (h : f_X6_askOf x1 M = some r) : MX Y yX6_askOf cX6_askOf 5 (some .int) rm_X6_askOf [.ref (Y.2.2.2.1 49), .int x1] M (some (.int r.1)) r.2 := MX.of hY (by decide) (Nat.le_of_ble_eq_true rfl) (fun _ hR C => a_sub [0, 1] (t_X6_askOf C  h hR) rfl)
abbrev rm_X6_ask : Room := { frames := 8, cells := 0, slots := 0, locals := 189 }
noncomputable def f_X6_ask (x1 : Int32) (M : Mem) : Option (Int32 × Mem) :=
  Option.bind (f_X6_find M) (fun r1 => Option.bind (f_X6_isPerson x1 r1) (fun r2 => (if r2 = 0 then some ((-2 : Int32), r1) else Option.bind (f_X6_askOf x1 r1) (fun r3 => some (r3.1, r3.2)))))
theorem t_X6_ask {Y : EY} {X : CX} (C : CK Y X cX6_ask RX6 2 (some .int) rm_X6_ask) {x1 : Int32} {M : Mem}  {res : Int32 × Mem} (h : f_X6_ask x1 M = some res) (hK : RK Y X (some (.int res.1)) res.2) : AW Y X 2 0 [(0, .ref (Y.2.2.2.1 49)), (1, .int x1)] [] M := by
  unfold f_X6_ask at h
  refine a_aload_n C dX6_ask_0 0 rfl ?_
  obtain ⟨r1, hcr1, h⟩ := bd_some h
  refine a_callVv C dX6_ask_1 lv_X6_216 lm_X6_find ⟨rfl, rfl, by decide, by decide⟩ Kc_49 (m_X6_find C.2.2.2.2.2.2.1 hcr1) rfl rfl (Nat.le_of_ble_eq_true rfl) ?_
  refine a_aload_n C dX6_ask_4 0 rfl ?_
  refine a_iload_n C dX6_ask_5 1 rfl ?_
  obtain ⟨r2, hcr2, h⟩ := bd_some h
  refine a_callVi C dX6_ask_6 lv_X6_149 lm_X6_isPerson ⟨rfl, rfl, by decide, by decide⟩ Kc_49 (m_X6_isPerson C.2.2.2.2.2.2.1 hcr2) rfl rfl (Nat.le_of_ble_eq_true rfl) ?_
  refine a_if_eq (tgt := 20) C dX6_ask_9 (by decide) (fun hc => ?_) (fun hc => ?_)
  · replace h := ip hc h
    refine a_bipush (v := -2) C dX6_ask_20 (by decide) ?_
    replace h := Option.some.inj h
    subst h
    exact a_iret C dX6_ask_22 hK
  · replace h := iq hc h
    refine a_aload_n C dX6_ask_12 0 rfl ?_
    refine a_iload_n C dX6_ask_13 1 rfl ?_
    obtain ⟨r3, hcr3, h⟩ := bd_some h
    refine a_callVi C dX6_ask_14 lv_X6_287 lm_X6_askOf ⟨rfl, rfl, by decide, by decide⟩ Kc_49 (m_X6_askOf C.2.2.2.2.2.2.1 hcr3) rfl rfl (Nat.le_of_ble_eq_true rfl) ?_
    refine a_goto (tgt := 22) C dX6_ask_17 (by decide) ?_
    replace h := Option.some.inj h
    subst h
    exact a_iret C dX6_ask_22 hK
theorem m_X6_ask {Y : EY} (hY : HY Y) {x1 : Int32} {M : Mem}  {r : Int32 × Mem} (h : f_X6_ask x1 M = some r) : MX Y yX6_ask cX6_ask 2 (some .int) rm_X6_ask [.ref (Y.2.2.2.1 49), .int x1] M (some (.int r.1)) r.2 := MX.of hY (by decide) (Nat.le_of_ble_eq_true rfl) (fun _ hR C => a_sub [0, 1] (t_X6_ask C  h hR) rfl)
abbrev rm_X6_customOf : Room := { frames := 5, cells := 0, slots := 0, locals := 117 }
abbrev At_X6_customOf_6 (Y : EY) (X : CX) (x1 : Int32) (x2 : Int32) (x3 : Int32) (s : Int64 × Int32 × Mem) : Prop := AW Y X 10 6 [(0, .ref (Y.2.2.2.1 49)), (1, .int x1), (2, .int x2), (3, .int x3), (4, .long s.1), (6, .int s.2.1)] [] s.2.2
abbrev Ex_X6_customOf_6 (Y : EY) (X : CX) (x1 : Int32) (x2 : Int32) (x3 : Int32) (s : Int64 × Int32 × Mem) : Prop := AW Y X 10 98 [(0, .ref (Y.2.2.2.1 49)), (3, .int x3), (4, .long s.1)] [] s.2.2
abbrev At_X6_customOf_45 (Y : EY) (X : CX) (x1 : Int32) (x2 : Int32) (x3 : Int32) (x4 : Int64) (x6 : Int32) (M : Mem) (s : Int64 × Int32) : Prop := AW Y X 10 45 [(0, .ref (Y.2.2.2.1 49)), (1, .int x1), (2, .int x2), (3, .int x3), (4, .long x4), (6, .int x6), (7, .long s.1), (9, .int s.2)] [] M
abbrev Ex_X6_customOf_45 (Y : EY) (X : CX) (x1 : Int32) (x2 : Int32) (x3 : Int32) (x4 : Int64) (x6 : Int32) (M : Mem) (s : Int64 × Int32) : Prop := AW Y X 10 85 [(0, .ref (Y.2.2.2.1 49)), (1, .int x1), (2, .int x2), (3, .int x3), (4, .long x4), (6, .int x6), (7, .long s.1)] [] M
noncomputable def f_X6_customOf_76_45 (x1 : Int32) (x2 : Int32) (x3 : Int32) (x4 : Int64) (x6 : Int32) (x9 : Int32) (t0 : Int64) (t1 : Int64) (M : Mem) : Option ((Int64 × Int32) ⊕ (Int64 × Int32)) :=
  some (.inl ((t0 * t1), (x9 + (1 : Int32))))
theorem t_X6_customOf_76_45 {Y : EY} {X : CX} (C : CK Y X cX6_customOf RX6 10 (some .long) rm_X6_customOf) {x1 : Int32} {x2 : Int32} {x3 : Int32} {x4 : Int64} {x6 : Int32} {x9 : Int32} {t0 : Int64} {t1 : Int64} {M : Mem}  {res : (Int64 × Int32) ⊕ (Int64 × Int32)} (h : f_X6_customOf_76_45 x1 x2 x3 x4 x6 x9 t0 t1 M = some res) (hK : KL (At_X6_customOf_45 Y X x1 x2 x3 x4 x6 M) (Ex_X6_customOf_45 Y X x1 x2 x3 x4 x6 M) res) : AW Y X 10 76 [(0, .ref (Y.2.2.2.1 49)), (1, .int x1), (2, .int x2), (3, .int x3), (4, .long x4), (6, .int x6), (9, .int x9)] [.long t1, .long t0] M := by
  unfold f_X6_customOf_76_45 at h
  refine a_lmul C dX6_customOf_76 ?_
  refine a_lstore (lv' := [(7, _), (0, _), (1, _), (2, _), (3, _), (4, _), (6, _), (9, _)]) C dX6_customOf_77 (by decide) rfl ?_
  refine a_iinc (v := 1) (lv' := [(9, _), (7, _), (0, _), (1, _), (2, _), (3, _), (4, _), (6, _)]) C dX6_customOf_79 7 rfl (by decide) (by decide) rfl ?_
  refine a_goto (tgt := 45) C dX6_customOf_82 (by decide) ?_
  replace h := Option.some.inj h
  subst h
  exact a_sub [2, 3, 4, 5, 6, 7, 1, 0] (hK) rfl
noncomputable def f_X6_customOf_45_45b (x1 : Int32) (x2 : Int32) (x3 : Int32) (x4 : Int64) (x6 : Int32) (x7 : Int64) (x9 : Int32) (M : Mem) : Option ((Int64 × Int32) ⊕ (Int64 × Int32)) :=
  (if (M 49 11) ≤ x9 then some (.inr (x7, x9)) else Option.bind (f_X6_isIn x6 x9) (fun r3 => (if r3 = 0 then f_X6_customOf_76_45 x1 x2 x3 x4 x6 x9 x7 (x1).toInt64 M else f_X6_customOf_76_45 x1 x2 x3 x4 x6 x9 x7 (((16 : Int32) - x1)).toInt64 M)))
theorem t_X6_customOf_45_45b {Y : EY} {X : CX} (C : CK Y X cX6_customOf RX6 10 (some .long) rm_X6_customOf) {x1 : Int32} {x2 : Int32} {x3 : Int32} {x4 : Int64} {x6 : Int32} {x7 : Int64} {x9 : Int32} {M : Mem}  {res : (Int64 × Int32) ⊕ (Int64 × Int32)} (h : f_X6_customOf_45_45b x1 x2 x3 x4 x6 x7 x9 M = some res) (hK : KL (At_X6_customOf_45 Y X x1 x2 x3 x4 x6 M) (Ex_X6_customOf_45 Y X x1 x2 x3 x4 x6 M) res) : AW Y X 10 45 [(0, .ref (Y.2.2.2.1 49)), (1, .int x1), (2, .int x2), (3, .int x3), (4, .long x4), (6, .int x6), (7, .long x7), (9, .int x9)] [] M := by
  unfold f_X6_customOf_45_45b at h
  refine a_iload C dX6_customOf_45 7 rfl ?_
  refine a_aload_n C dX6_customOf_47 0 rfl ?_
  refine a_geti C dX6_customOf_48 fl_X6_152 rfl Kc_49 ?_
  refine a_icmp_ge (tgt := 85) C dX6_customOf_51 (by decide) (fun hc => ?_) (fun hc => ?_)
  · replace h := ip hc h
    replace h := Option.some.inj h
    subst h
    exact a_sub [0, 1, 2, 3, 4, 5, 6] (hK) rfl
  · replace h := iq hc h
    refine a_lload C dX6_customOf_54 6 rfl ?_
    refine a_iload C dX6_customOf_56 5 rfl ?_
    refine a_iload C dX6_customOf_58 7 rfl ?_
    obtain ⟨r3, hcr3, h⟩ := bd_some h
    refine a_callSi C dX6_customOf_60 ls_X6_189 lm_X6_isIn ⟨rfl, rfl, by decide, by decide⟩ (m_X6_isIn C.2.2.2.2.2.2.1 hcr3) rfl rfl (Nat.le_of_ble_eq_true rfl) ?_
    refine a_if_eq (tgt := 74) C dX6_customOf_63 (by decide) (fun hc => ?_) (fun hc => ?_)
    · replace h := ip hc h
      refine a_iload_n C dX6_customOf_74 1 rfl ?_
      refine a_i2l C dX6_customOf_75 ?_
      exact a_sub [0, 1, 2, 3, 4, 5, 7] (t_X6_customOf_76_45 C h hK) rfl
    · replace h := iq hc h
      refine a_bipush (v := 16) C dX6_customOf_66 (by decide) ?_
      refine a_iload_n C dX6_customOf_68 1 rfl ?_
      refine a_isub C dX6_customOf_69 ?_
      refine a_i2l C dX6_customOf_70 ?_
      refine a_goto (tgt := 76) C dX6_customOf_71 (by decide) ?_
      exact a_sub [0, 1, 2, 3, 4, 5, 7] (t_X6_customOf_76_45 C h hK) rfl
noncomputable def f_X6_customOf_40_6 (x1 : Int32) (x2 : Int32) (x3 : Int32) (x4 : Int64) (x6 : Int32) (t0 : Int64) (M : Mem) : Option ((Int64 × Int32 × Mem) ⊕ (Int64 × Int32 × Mem)) :=
  Option.bind (loop (fun s4 : Int64 × Int32 => f_X6_customOf_45_45b x1 x2 x3 x4 x6 s4.1 s4.2 M) (t0, (0 : Int32))) (fun s5 => some (.inl ((x4 + s5.1), (x6 + (1 : Int32)), M)))
theorem t_X6_customOf_40_6 {Y : EY} {X : CX} (C : CK Y X cX6_customOf RX6 10 (some .long) rm_X6_customOf) {x1 : Int32} {x2 : Int32} {x3 : Int32} {x4 : Int64} {x6 : Int32} {t0 : Int64} {M : Mem}  {res : (Int64 × Int32 × Mem) ⊕ (Int64 × Int32 × Mem)} (h : f_X6_customOf_40_6 x1 x2 x3 x4 x6 t0 M = some res) (hK : KL (At_X6_customOf_6 Y X x1 x2 x3) (Ex_X6_customOf_6 Y X x1 x2 x3) res) : AW Y X 10 40 [(0, .ref (Y.2.2.2.1 49)), (1, .int x1), (2, .int x2), (3, .int x3), (4, .long x4), (6, .int x6)] [.long t0] M := by
  unfold f_X6_customOf_40_6 at h
  refine a_lstore (lv' := [(7, _), (0, _), (1, _), (2, _), (3, _), (4, _), (6, _)]) C dX6_customOf_40 (by decide) rfl ?_
  refine a_iconst (v := 0) C dX6_customOf_42 (by decide) ?_
  refine a_istore (lv' := [(9, _), (7, _), (0, _), (1, _), (2, _), (3, _), (4, _), (6, _)]) C dX6_customOf_43 (by decide) rfl ?_
  obtain ⟨s5, hl, h⟩ := bd_some h
  have hE : Ex_X6_customOf_45 Y X x1 x2 x3 x4 x6 M s5 := by
    refine a_lload C dX6_customOf_85 4 rfl ?_
    refine a_lload C dX6_customOf_87 6 rfl ?_
    refine a_ladd C dX6_customOf_89 ?_
    refine a_lstore (lv' := [(4, _), (0, _), (1, _), (2, _), (3, _), (6, _), (7, _)]) C dX6_customOf_90 (by decide) rfl ?_
    refine a_iinc (v := 1) (lv' := [(6, _), (4, _), (0, _), (1, _), (2, _), (3, _), (7, _)]) C dX6_customOf_92 5 rfl (by decide) (by decide) rfl ?_
    refine a_goto (tgt := 6) C dX6_customOf_95 (by decide) ?_
    replace h := Option.some.inj h
    subst h
    exact a_sub [2, 3, 4, 5, 1, 0] (hK) rfl
  have hA := aw_loop (At_X6_customOf_45 Y X x1 x2 x3 x4 x6 M) (Ex_X6_customOf_45 Y X x1 x2 x3 x4 x6 M) (fun _ _ hb hk => t_X6_customOf_45_45b C hb hk) hl hE
  exact a_sub [2, 3, 4, 5, 6, 7, 1, 0] (hA) rfl
noncomputable def f_X6_customOf_6_6b (x1 : Int32) (x2 : Int32) (x3 : Int32) (x4 : Int64) (x6 : Int32) (M : Mem) : Option ((Int64 × Int32 × Mem) ⊕ (Int64 × Int32 × Mem)) :=
  (if (shlI (1 : Int32) (M 49 11)) ≤ x6 then some (.inr (x4, x6, M)) else Option.bind (f_X6_lives (upM M 49 13 x6)) (fun r1 => Option.bind (f_X6_isAstray x2 r1) (fun r2 => (if r2 = 0 then f_X6_customOf_40_6 x1 x2 x3 x4 x6 (0 : Int64) r1 else f_X6_customOf_40_6 x1 x2 x3 x4 x6 (1 : Int64) r1))))
theorem t_X6_customOf_6_6b {Y : EY} {X : CX} (C : CK Y X cX6_customOf RX6 10 (some .long) rm_X6_customOf) {x1 : Int32} {x2 : Int32} {x3 : Int32} {x4 : Int64} {x6 : Int32} {M : Mem}  {res : (Int64 × Int32 × Mem) ⊕ (Int64 × Int32 × Mem)} (h : f_X6_customOf_6_6b x1 x2 x3 x4 x6 M = some res) (hK : KL (At_X6_customOf_6 Y X x1 x2 x3) (Ex_X6_customOf_6 Y X x1 x2 x3) res) : AW Y X 10 6 [(0, .ref (Y.2.2.2.1 49)), (1, .int x1), (2, .int x2), (3, .int x3), (4, .long x4), (6, .int x6)] [] M := by
  unfold f_X6_customOf_6_6b at h
  refine a_iload C dX6_customOf_6 5 rfl ?_
  refine a_iconst (v := 1) C dX6_customOf_8 (by decide) ?_
  refine a_aload_n C dX6_customOf_9 0 rfl ?_
  refine a_geti C dX6_customOf_10 fl_X6_152 rfl Kc_49 ?_
  refine a_ishl C dX6_customOf_13 ?_
  refine a_icmp_ge (tgt := 98) C dX6_customOf_14 (by decide) (fun hc => ?_) (fun hc => ?_)
  · replace h := ip hc h
    replace h := Option.some.inj h
    subst h
    exact a_sub [0, 3, 4] (hK) rfl
  · replace h := iq hc h
    refine a_aload_n C dX6_customOf_17 0 rfl ?_
    refine a_iload C dX6_customOf_18 5 rfl ?_
    refine a_put (ty := .int) C dX6_customOf_20 fl_X6_186 (fp_6_13) rfl Kc_49 rfl rfl ?_
    refine a_aload_n C dX6_customOf_23 0 rfl ?_
    obtain ⟨r1, hcr1, h⟩ := bd_some h
    refine a_callVv C dX6_customOf_24 lv_X6_213 lm_X6_lives ⟨rfl, rfl, by decide, by decide⟩ Kc_49 (m_X6_lives C.2.2.2.2.2.2.1 hcr1) rfl rfl (Nat.le_of_ble_eq_true rfl) ?_
    refine a_aload_n C dX6_customOf_27 0 rfl ?_
    refine a_iload_n C dX6_customOf_28 2 rfl ?_
    obtain ⟨r2, hcr2, h⟩ := bd_some h
    refine a_callVi C dX6_customOf_29 lv_X6_225 lm_X6_isAstray ⟨rfl, rfl, by decide, by decide⟩ Kc_49 (m_X6_isAstray C.2.2.2.2.2.2.1 hcr2) rfl rfl (Nat.le_of_ble_eq_true rfl) ?_
    refine a_if_eq (tgt := 39) C dX6_customOf_32 (by decide) (fun hc => ?_) (fun hc => ?_)
    · replace h := ip hc h
      refine a_lconst (v := 0) C dX6_customOf_39 (by decide) ?_
      exact a_sub [0, 1, 2, 3, 4, 5] (t_X6_customOf_40_6 C h hK) rfl
    · replace h := iq hc h
      refine a_lconst (v := 1) C dX6_customOf_35 (by decide) ?_
      refine a_goto (tgt := 40) C dX6_customOf_36 (by decide) ?_
      exact a_sub [0, 1, 2, 3, 4, 5] (t_X6_customOf_40_6 C h hK) rfl
noncomputable def f_X6_customOf (x1 : Int32) (x2 : Int32) (x3 : Int32) (M : Mem) : Option (Int64 × Mem) :=
  Option.bind (loop (fun s6 : Int64 × Int32 × Mem => f_X6_customOf_6_6b x1 x2 x3 s6.1 s6.2.1 s6.2.2) ((0 : Int64), (0 : Int32), M)) (fun s7 => Option.bind (f_X6_part s7.1 (shlL (1 : Int64) ((4 : Int32) * ((upM s7.2.2 49 13 (0 : Int32)) 49 11))) x3) (fun r8 => some (r8, (upM s7.2.2 49 13 (0 : Int32)))))
theorem t_X6_customOf {Y : EY} {X : CX} (C : CK Y X cX6_customOf RX6 10 (some .long) rm_X6_customOf) {x1 : Int32} {x2 : Int32} {x3 : Int32} {M : Mem}  {res : Int64 × Mem} (h : f_X6_customOf x1 x2 x3 M = some res) (hK : RK Y X (some (.long res.1)) res.2) : AW Y X 10 0 [(0, .ref (Y.2.2.2.1 49)), (1, .int x1), (2, .int x2), (3, .int x3)] [] M := by
  unfold f_X6_customOf at h
  refine a_lconst (v := 0) C dX6_customOf_0 (by decide) ?_
  refine a_lstore (lv' := [(4, _), (0, _), (1, _), (2, _), (3, _)]) C dX6_customOf_1 (by decide) rfl ?_
  refine a_iconst (v := 0) C dX6_customOf_3 (by decide) ?_
  refine a_istore (lv' := [(6, _), (4, _), (0, _), (1, _), (2, _), (3, _)]) C dX6_customOf_4 (by decide) rfl ?_
  obtain ⟨s7, hl, h⟩ := bd_some h
  have hE : Ex_X6_customOf_6 Y X x1 x2 x3 s7 := by
    refine a_aload_n C dX6_customOf_98 0 rfl ?_
    refine a_iconst (v := 0) C dX6_customOf_99 (by decide) ?_
    refine a_put (ty := .int) C dX6_customOf_100 fl_X6_186 (fp_6_13) rfl Kc_49 rfl rfl ?_
    refine a_lload C dX6_customOf_103 2 rfl ?_
    refine a_lconst (v := 1) C dX6_customOf_105 (by decide) ?_
    refine a_iconst (v := 4) C dX6_customOf_106 (by decide) ?_
    refine a_aload_n C dX6_customOf_107 0 rfl ?_
    refine a_geti C dX6_customOf_108 fl_X6_152 rfl Kc_49 ?_
    refine a_imul C dX6_customOf_111 ?_
    refine a_lshl C dX6_customOf_112 ?_
    refine a_iload_n C dX6_customOf_113 1 rfl ?_
    obtain ⟨r8, hcr8, h⟩ := bd_some h
    refine a_callSl C dX6_customOf_114 ls_X6_290 lm_X6_part ⟨rfl, rfl, by decide, by decide⟩ (m_X6_part C.2.2.2.2.2.2.1 hcr8) rfl rfl (Nat.le_of_ble_eq_true rfl) ?_
    replace h := Option.some.inj h
    subst h
    exact a_lret C dX6_customOf_117 hK
  have hA := aw_loop (At_X6_customOf_6 Y X x1 x2 x3) (Ex_X6_customOf_6 Y X x1 x2 x3) (fun _ _ hb hk => t_X6_customOf_6_6b C hb hk) hl hE
  exact a_sub [2, 3, 4, 5, 1, 0] (hA) rfl
theorem m_X6_customOf {Y : EY} (hY : HY Y) {x1 : Int32} {x2 : Int32} {x3 : Int32} {M : Mem}  {r : Int64 × Mem} (h : f_X6_customOf x1 x2 x3 M = some r) : MX Y yX6_customOf cX6_customOf 10 (some .long) rm_X6_customOf [.ref (Y.2.2.2.1 49), .int x1, .int x2, .int x3] M (some (.long r.1)) r.2 := MX.of hY (by decide) (Nat.le_of_ble_eq_true rfl) (fun _ hR C => a_sub [0, 1, 2, 3] (t_X6_customOf C  h hR) rfl)
abbrev rm_X6_custom : Room := { frames := 6, cells := 0, slots := 0, locals := 146 }
noncomputable def f_X6_custom_41  (M : Mem) : Option (Int64 × Mem) :=
  Option.bind (f_X6_no (-2 : Int32)) (fun r3 => some (r3, M))
theorem t_X6_custom_41 {Y : EY} {X : CX} (C : CK Y X cX6_custom RX6 4 (some .long) rm_X6_custom)  {M : Mem}  {res : Int64 × Mem} (h : f_X6_custom_41 M = some res) (hK : RK Y X (some (.long res.1)) res.2) : AW Y X 4 41 [] [] M := by
  unfold f_X6_custom_41 at h
  refine a_bipush (v := -2) C dX6_custom_41 (by decide) ?_
  obtain ⟨r3, hcr3, h⟩ := bd_some h
  refine a_callSl C dX6_custom_43 ls_X6_300 lm_X6_no ⟨rfl, rfl, by decide, by decide⟩ (m_X6_no C.2.2.2.2.2.2.1 hcr3) rfl rfl (Nat.le_of_ble_eq_true rfl) ?_
  replace h := Option.some.inj h
  subst h
  exact a_lret C dX6_custom_46 hK
noncomputable def f_X6_custom (x1 : Int32) (x2 : Int32) (x3 : Int32) (M : Mem) : Option (Int64 × Mem) :=
  Option.bind (f_X6_find M) (fun r1 => Option.bind (f_X6_in (x1).toInt64 (0 : Int64) (16 : Int64)) (fun r2 => (if r2 = 0 then f_X6_custom_41 r1 else Option.bind (f_X6_isPerson x2 r1) (fun r4 => (if r4 = 0 then f_X6_custom_41 r1 else Option.bind (f_X6_isTwo x3) (fun r5 => (if r5 = 0 then f_X6_custom_41 r1 else Option.bind (f_X6_customOf x1 x2 x3 r1) (fun r6 => some (r6.1, r6.2)))))))))
theorem t_X6_custom {Y : EY} {X : CX} (C : CK Y X cX6_custom RX6 4 (some .long) rm_X6_custom) {x1 : Int32} {x2 : Int32} {x3 : Int32} {M : Mem}  {res : Int64 × Mem} (h : f_X6_custom x1 x2 x3 M = some res) (hK : RK Y X (some (.long res.1)) res.2) : AW Y X 4 0 [(0, .ref (Y.2.2.2.1 49)), (1, .int x1), (2, .int x2), (3, .int x3)] [] M := by
  unfold f_X6_custom at h
  refine a_aload_n C dX6_custom_0 0 rfl ?_
  obtain ⟨r1, hcr1, h⟩ := bd_some h
  refine a_callVv C dX6_custom_1 lv_X6_216 lm_X6_find ⟨rfl, rfl, by decide, by decide⟩ Kc_49 (m_X6_find C.2.2.2.2.2.2.1 hcr1) rfl rfl (Nat.le_of_ble_eq_true rfl) ?_
  refine a_iload_n C dX6_custom_4 1 rfl ?_
  refine a_i2l C dX6_custom_5 ?_
  refine a_lconst (v := 0) C dX6_custom_6 (by decide) ?_
  refine a_ldc2 C dX6_custom_7 co_X6_294 ?_
  obtain ⟨r2, hcr2, h⟩ := bd_some h
  refine a_callSi C dX6_custom_10 ls_X6_79 lm_X6_in ⟨rfl, rfl, by decide, by decide⟩ (m_X6_in C.2.2.2.2.2.2.1 hcr2) rfl rfl (Nat.le_of_ble_eq_true rfl) ?_
  refine a_if_eq (tgt := 41) C dX6_custom_13 (by decide) (fun hc => ?_) (fun hc => ?_)
  · replace h := ip hc h
    exact a_sub [] (t_X6_custom_41 C h hK) rfl
  · replace h := iq hc h
    refine a_aload_n C dX6_custom_16 0 rfl ?_
    refine a_iload_n C dX6_custom_17 2 rfl ?_
    obtain ⟨r4, hcr4, h⟩ := bd_some h
    refine a_callVi C dX6_custom_18 lv_X6_149 lm_X6_isPerson ⟨rfl, rfl, by decide, by decide⟩ Kc_49 (m_X6_isPerson C.2.2.2.2.2.2.1 hcr4) rfl rfl (Nat.le_of_ble_eq_true rfl) ?_
    refine a_if_eq (tgt := 41) C dX6_custom_21 (by decide) (fun hc => ?_) (fun hc => ?_)
    · replace h := ip hc h
      exact a_sub [] (t_X6_custom_41 C h hK) rfl
    · replace h := iq hc h
      refine a_iload_n C dX6_custom_24 3 rfl ?_
      obtain ⟨r5, hcr5, h⟩ := bd_some h
      refine a_callSi C dX6_custom_25 ls_X6_107 lm_X6_isTwo ⟨rfl, rfl, by decide, by decide⟩ (m_X6_isTwo C.2.2.2.2.2.2.1 hcr5) rfl rfl (Nat.le_of_ble_eq_true rfl) ?_
      refine a_if_eq (tgt := 41) C dX6_custom_28 (by decide) (fun hc => ?_) (fun hc => ?_)
      · replace h := ip hc h
        exact a_sub [] (t_X6_custom_41 C h hK) rfl
      · replace h := iq hc h
        refine a_aload_n C dX6_custom_31 0 rfl ?_
        refine a_iload_n C dX6_custom_32 1 rfl ?_
        refine a_iload_n C dX6_custom_33 2 rfl ?_
        refine a_iload_n C dX6_custom_34 3 rfl ?_
        obtain ⟨r6, hcr6, h⟩ := bd_some h
        refine a_callVl C dX6_custom_35 lv_X6_296 lm_X6_customOf ⟨rfl, rfl, by decide, by decide⟩ Kc_49 (m_X6_customOf C.2.2.2.2.2.2.1 hcr6) rfl rfl (Nat.le_of_ble_eq_true rfl) ?_
        refine a_goto (tgt := 46) C dX6_custom_38 (by decide) ?_
        replace h := Option.some.inj h
        subst h
        exact a_lret C dX6_custom_46 hK
theorem m_X6_custom {Y : EY} (hY : HY Y) {x1 : Int32} {x2 : Int32} {x3 : Int32} {M : Mem}  {r : Int64 × Mem} (h : f_X6_custom x1 x2 x3 M = some r) : MX Y yX6_custom cX6_custom 4 (some .long) rm_X6_custom [.ref (Y.2.2.2.1 49), .int x1, .int x2, .int x3] M (some (.long r.1)) r.2 := MX.of hY (by decide) (Nat.le_of_ble_eq_true rfl) (fun _ hR C => a_sub [0, 1, 2, 3] (t_X6_custom C  h hR) rfl)
abbrev rm_X6_lot : Room := { frames := 0, cells := 0, slots := 0, locals := 0 }
noncomputable def f_X6_lot (x1 : Int32) (M : Mem) : Option (Int32 × Mem) :=
  ck (nzI x1) (some ((remI (shrI ((upM M 49 29 (((1103515245 : Int32) * (M 49 29)) + (12345 : Int32))) 49 29) (16 : Int32)) x1), (upM M 49 29 (((1103515245 : Int32) * (M 49 29)) + (12345 : Int32)))))
theorem t_X6_lot {Y : EY} {X : CX} (C : CK Y X cX6_lot RX6 2 (some .int) rm_X6_lot) {x1 : Int32} {M : Mem}  {res : Int32 × Mem} (h : f_X6_lot x1 M = some res) (hK : RK Y X (some (.int res.1)) res.2) : AW Y X 2 0 [(0, .ref (Y.2.2.2.1 49)), (1, .int x1)] [] M := by
  unfold f_X6_lot at h
  refine a_aload_n C dX6_lot_0 0 rfl ?_
  refine a_ldcw C dX6_lot_1 co_X6_304 ?_
  refine a_aload_n C dX6_lot_4 0 rfl ?_
  refine a_geti C dX6_lot_5 fl_X6_305 rfl Kc_49 ?_
  refine a_imul C dX6_lot_8 ?_
  refine a_sipush (v := 12345) C dX6_lot_9 (by decide) ?_
  refine a_iadd C dX6_lot_12 ?_
  refine a_put (ty := .int) C dX6_lot_13 fl_X6_305 (fp_6_29) rfl Kc_49 rfl rfl ?_
  refine a_aload_n C dX6_lot_16 0 rfl ?_
  refine a_geti C dX6_lot_17 fl_X6_305 rfl Kc_49 ?_
  refine a_bipush (v := 16) C dX6_lot_20 (by decide) ?_
  refine a_iushr C dX6_lot_22 ?_
  refine a_iload_n C dX6_lot_23 1 rfl ?_
  obtain ⟨hb, h⟩ := ck_some h
  refine a_irem C dX6_lot_24 (of_decide_eq_true hb) ?_
  replace h := Option.some.inj h
  subst h
  exact a_iret C dX6_lot_25 hK
theorem m_X6_lot {Y : EY} (hY : HY Y) {x1 : Int32} {M : Mem}  {r : Int32 × Mem} (h : f_X6_lot x1 M = some r) : MX Y yX6_lot cX6_lot 2 (some .int) rm_X6_lot [.ref (Y.2.2.2.1 49), .int x1] M (some (.int r.1)) r.2 := MX.of hY (by decide) (Nat.le_of_ble_eq_true rfl) (fun _ hR C => a_sub [0, 1] (t_X6_lot C  h hR) rfl)
abbrev rm_X6_yearOf : Room := { frames := 5, cells := 0, slots := 0, locals := 117 }
abbrev At_X6_yearOf_9 (Y : EY) (X : CX) (x1 : Int32) (x2 : Int32) (x3 : Int32) (x4 : Int32) (s : Int32 × Mem) : Prop := AW Y X 8 9 [(0, .ref (Y.2.2.2.1 49)), (1, .int x1), (2, .int x2), (3, .int x3), (4, .int x4), (5, .int s.1)] [] s.2
abbrev Ex_X6_yearOf_9 (Y : EY) (X : CX) (x1 : Int32) (x2 : Int32) (x3 : Int32) (x4 : Int32) (s : Int32 × Mem) : Prop := AW Y X 8 36 [(0, .ref (Y.2.2.2.1 49)), (1, .int x1), (2, .int x2), (3, .int x3), (4, .int x4)] [] s.2
noncomputable def f_X6_yearOf_9_9b (x1 : Int32) (x2 : Int32) (x3 : Int32) (x4 : Int32) (x5 : Int32) (M : Mem) : Option ((Int32 × Mem) ⊕ (Int32 × Mem)) :=
  (if (24 : Int32) ≤ x5 then some (.inr (x5, M)) else ck (inb x5 24) (ck (inb x5 24) (some (.inl ((x5 + (1 : Int32)), (upM M 70 (x5).toNatClampNeg (M 58 (x5).toNatClampNeg)))))))
theorem t_X6_yearOf_9_9b {Y : EY} {X : CX} (C : CK Y X cX6_yearOf RX6 8 (some .int) rm_X6_yearOf) {x1 : Int32} {x2 : Int32} {x3 : Int32} {x4 : Int32} {x5 : Int32} {M : Mem}  {res : (Int32 × Mem) ⊕ (Int32 × Mem)} (h : f_X6_yearOf_9_9b x1 x2 x3 x4 x5 M = some res) (hK : KL (At_X6_yearOf_9 Y X x1 x2 x3 x4) (Ex_X6_yearOf_9 Y X x1 x2 x3 x4) res) : AW Y X 8 9 [(0, .ref (Y.2.2.2.1 49)), (1, .int x1), (2, .int x2), (3, .int x3), (4, .int x4), (5, .int x5)] [] M := by
  unfold f_X6_yearOf_9_9b at h
  refine a_iload C dX6_yearOf_9 5 rfl ?_
  refine a_bipush (v := 24) C dX6_yearOf_11 (by decide) ?_
  refine a_icmp_ge (tgt := 36) C dX6_yearOf_13 (by decide) (fun hc => ?_) (fun hc => ?_)
  · replace h := ip hc h
    replace h := Option.some.inj h
    subst h
    exact a_sub [0, 1, 2, 3, 4] (hK) rfl
  · replace h := iq hc h
    refine a_aload_n C dX6_yearOf_16 0 rfl ?_
    refine a_getr (k1 := 70) C dX6_yearOf_17 fl_X6_70 rfl Kc_49 rfl ?_
    refine a_iload C dX6_yearOf_20 5 rfl ?_
    refine a_aload_n C dX6_yearOf_22 0 rfl ?_
    refine a_getr (k1 := 58) C dX6_yearOf_23 fl_X6_34 rfl Kc_49 rfl ?_
    refine a_iload C dX6_yearOf_26 5 rfl ?_
    obtain ⟨hb, h⟩ := ck_some h
    refine a_iald C dX6_yearOf_28 Kc_58 rfl hb ?_
    obtain ⟨hb, h⟩ := ck_some h
    refine a_iast C dX6_yearOf_29 Kc_70 rfl hb ?_
    refine a_iinc (v := 1) (lv' := [(5, _), (0, _), (1, _), (2, _), (3, _), (4, _)]) C dX6_yearOf_30 5 rfl (by decide) (by decide) rfl ?_
    refine a_goto (tgt := 9) C dX6_yearOf_33 (by decide) ?_
    replace h := Option.some.inj h
    subst h
    exact a_sub [1, 2, 3, 4, 5, 0] (hK) rfl
abbrev At_X6_yearOf_49 (Y : EY) (X : CX) (x2 : Int32) (x3 : Int32) (x4 : Int32) (s : Int32 × Mem) : Prop := AW Y X 8 49 [(0, .ref (Y.2.2.2.1 49)), (2, .int x2), (3, .int x3), (4, .int x4), (5, .int s.1)] [] s.2
abbrev Ex_X6_yearOf_49 (Y : EY) (X : CX) (x2 : Int32) (x3 : Int32) (x4 : Int32) (s : Int32 × Mem) : Prop := AW Y X 8 109 [(0, .ref (Y.2.2.2.1 49)), (3, .int x3), (4, .int x4)] [] s.2
noncomputable def f_X6_yearOf_49_49b (x2 : Int32) (x3 : Int32) (x4 : Int32) (x5 : Int32) (M : Mem) : Option ((Int32 × Mem) ⊕ (Int32 × Mem)) :=
  (if x2 ≤ x5 then some (.inr (x5, M)) else (if (M 49 9) ≤ 0 then some (.inr (x5, M)) else (if (M 49 7) ≤ 0 then some (.inr (x5, M)) else Option.bind (f_X6_lot (30 : Int32) M) (fun r3 => Option.bind (f_X6_lot (r3.2 49 9) r3.2) (fun r4 => Option.bind (f_X6_lot (r4.2 49 7) r4.2) (fun r5 => Option.bind (f_X6_puts r3.1 r4.1 r5.1 r5.2) (fun r6 => some (.inl ((x5 + (1 : Int32)), r6)))))))))
theorem t_X6_yearOf_49_49b {Y : EY} {X : CX} (C : CK Y X cX6_yearOf RX6 8 (some .int) rm_X6_yearOf) {x2 : Int32} {x3 : Int32} {x4 : Int32} {x5 : Int32} {M : Mem}  {res : (Int32 × Mem) ⊕ (Int32 × Mem)} (h : f_X6_yearOf_49_49b x2 x3 x4 x5 M = some res) (hK : KL (At_X6_yearOf_49 Y X x2 x3 x4) (Ex_X6_yearOf_49 Y X x2 x3 x4) res) : AW Y X 8 49 [(0, .ref (Y.2.2.2.1 49)), (2, .int x2), (3, .int x3), (4, .int x4), (5, .int x5)] [] M := by
  unfold f_X6_yearOf_49_49b at h
  refine a_iload C dX6_yearOf_49 4 rfl ?_
  refine a_iload_n C dX6_yearOf_51 1 rfl ?_
  refine a_icmp_ge (tgt := 109) C dX6_yearOf_52 (by decide) (fun hc => ?_) (fun hc => ?_)
  · replace h := ip hc h
    replace h := Option.some.inj h
    subst h
    exact a_sub [0, 2, 3] (hK) rfl
  · replace h := iq hc h
    refine a_aload_n C dX6_yearOf_55 0 rfl ?_
    refine a_geti C dX6_yearOf_56 fl_X6_124 rfl Kc_49 ?_
    refine a_if_le (tgt := 109) C dX6_yearOf_59 (by decide) (fun hc => ?_) (fun hc => ?_)
    · replace h := ip hc h
      replace h := Option.some.inj h
      subst h
      exact a_sub [0, 2, 3] (hK) rfl
    · replace h := iq hc h
      refine a_aload_n C dX6_yearOf_62 0 rfl ?_
      refine a_geti C dX6_yearOf_63 fl_X6_116 rfl Kc_49 ?_
      refine a_if_le (tgt := 109) C dX6_yearOf_66 (by decide) (fun hc => ?_) (fun hc => ?_)
      · replace h := ip hc h
        replace h := Option.some.inj h
        subst h
        exact a_sub [0, 2, 3] (hK) rfl
      · replace h := iq hc h
        refine a_aload_n C dX6_yearOf_69 0 rfl ?_
        refine a_bipush (v := 30) C dX6_yearOf_70 (by decide) ?_
        obtain ⟨r3, hcr3, h⟩ := bd_some h
        refine a_callVi C dX6_yearOf_72 lv_X6_308 lm_X6_lot ⟨rfl, rfl, by decide, by decide⟩ Kc_49 (m_X6_lot C.2.2.2.2.2.2.1 hcr3) rfl rfl (Nat.le_of_ble_eq_true rfl) ?_
        refine a_istore (lv' := [(6, _), (0, _), (2, _), (3, _), (4, _), (5, _)]) C dX6_yearOf_75 (by decide) rfl ?_
        refine a_aload_n C dX6_yearOf_77 1 rfl ?_
        refine a_aload_n C dX6_yearOf_78 1 rfl ?_
        refine a_geti C dX6_yearOf_79 fl_X6_124 rfl Kc_49 ?_
        obtain ⟨r4, hcr4, h⟩ := bd_some h
        refine a_callVi C dX6_yearOf_82 lv_X6_308 lm_X6_lot ⟨rfl, rfl, by decide, by decide⟩ Kc_49 (m_X6_lot C.2.2.2.2.2.2.1 hcr4) rfl rfl (Nat.le_of_ble_eq_true rfl) ?_
        refine a_istore (lv' := [(7, _), (6, _), (0, _), (2, _), (3, _), (4, _), (5, _)]) C dX6_yearOf_85 (by decide) rfl ?_
        refine a_aload_n C dX6_yearOf_87 2 rfl ?_
        refine a_iload C dX6_yearOf_88 1 rfl ?_
        refine a_iload C dX6_yearOf_90 0 rfl ?_
        refine a_aload_n C dX6_yearOf_92 2 rfl ?_
        refine a_aload_n C dX6_yearOf_93 2 rfl ?_
        refine a_geti C dX6_yearOf_94 fl_X6_116 rfl Kc_49 ?_
        obtain ⟨r5, hcr5, h⟩ := bd_some h
        refine a_callVi C dX6_yearOf_97 lv_X6_308 lm_X6_lot ⟨rfl, rfl, by decide, by decide⟩ Kc_49 (m_X6_lot C.2.2.2.2.2.2.1 hcr5) rfl rfl (Nat.le_of_ble_eq_true rfl) ?_
        obtain ⟨r6, hcr6, h⟩ := bd_some h
        refine a_callVv C dX6_yearOf_100 lv_X6_161 lm_X6_puts ⟨rfl, rfl, by decide, by decide⟩ Kc_49 (m_X6_puts C.2.2.2.2.2.2.1 hcr6) rfl rfl (Nat.le_of_ble_eq_true rfl) ?_
        refine a_iinc (v := 1) (lv' := [(5, _), (7, _), (6, _), (0, _), (2, _), (3, _), (4, _)]) C dX6_yearOf_103 6 rfl (by decide) (by decide) rfl ?_
        refine a_goto (tgt := 49) C dX6_yearOf_106 (by decide) ?_
        replace h := Option.some.inj h
        subst h
        exact a_sub [3, 4, 5, 6, 0] (hK) rfl
abbrev At_X6_yearOf_116 (Y : EY) (X : CX) (x3 : Int32) (x4 : Int32) (s : Int32 × Mem) : Prop := AW Y X 8 116 [(0, .ref (Y.2.2.2.1 49)), (3, .int x3), (4, .int x4), (5, .int s.1)] [] s.2
abbrev Ex_X6_yearOf_116 (Y : EY) (X : CX) (x3 : Int32) (x4 : Int32) (s : Int32 × Mem) : Prop := AW Y X 8 143 [(0, .ref (Y.2.2.2.1 49)), (3, .int x3), (4, .int x4)] [] s.2
noncomputable def f_X6_yearOf_116_116b (x3 : Int32) (x4 : Int32) (x5 : Int32) (M : Mem) : Option ((Int32 × Mem) ⊕ (Int32 × Mem)) :=
  (if (24 : Int32) ≤ x5 then some (.inr (x5, M)) else ck (inb x5 24) (ck (inb x5 24) (some (.inl ((x5 + (1 : Int32)), (upM M 58 (x5).toNatClampNeg (M 70 (x5).toNatClampNeg)))))))
theorem t_X6_yearOf_116_116b {Y : EY} {X : CX} (C : CK Y X cX6_yearOf RX6 8 (some .int) rm_X6_yearOf) {x3 : Int32} {x4 : Int32} {x5 : Int32} {M : Mem}  {res : (Int32 × Mem) ⊕ (Int32 × Mem)} (h : f_X6_yearOf_116_116b x3 x4 x5 M = some res) (hK : KL (At_X6_yearOf_116 Y X x3 x4) (Ex_X6_yearOf_116 Y X x3 x4) res) : AW Y X 8 116 [(0, .ref (Y.2.2.2.1 49)), (3, .int x3), (4, .int x4), (5, .int x5)] [] M := by
  unfold f_X6_yearOf_116_116b at h
  refine a_iload C dX6_yearOf_116 3 rfl ?_
  refine a_bipush (v := 24) C dX6_yearOf_118 (by decide) ?_
  refine a_icmp_ge (tgt := 143) C dX6_yearOf_120 (by decide) (fun hc => ?_) (fun hc => ?_)
  · replace h := ip hc h
    replace h := Option.some.inj h
    subst h
    exact a_sub [0, 1, 2] (hK) rfl
  · replace h := iq hc h
    refine a_aload_n C dX6_yearOf_123 0 rfl ?_
    refine a_getr (k1 := 58) C dX6_yearOf_124 fl_X6_34 rfl Kc_49 rfl ?_
    refine a_iload C dX6_yearOf_127 3 rfl ?_
    refine a_aload_n C dX6_yearOf_129 0 rfl ?_
    refine a_getr (k1 := 70) C dX6_yearOf_130 fl_X6_70 rfl Kc_49 rfl ?_
    refine a_iload C dX6_yearOf_133 3 rfl ?_
    obtain ⟨hb, h⟩ := ck_some h
    refine a_iald C dX6_yearOf_135 Kc_70 rfl hb ?_
    obtain ⟨hb, h⟩ := ck_some h
    refine a_iast C dX6_yearOf_136 Kc_58 rfl hb ?_
    refine a_iinc (v := 1) (lv' := [(5, _), (0, _), (3, _), (4, _)]) C dX6_yearOf_137 3 rfl (by decide) (by decide) rfl ?_
    refine a_goto (tgt := 116) C dX6_yearOf_140 (by decide) ?_
    replace h := Option.some.inj h
    subst h
    exact a_sub [1, 2, 3, 0] (hK) rfl
noncomputable def f_X6_yearOf_109 (x3 : Int32) (x4 : Int32) (M : Mem) : Option (Int32 × Mem) :=
  Option.bind (f_X6_lives M) (fun r9 => Option.bind (loop (fun s10 : Int32 × Mem => f_X6_yearOf_116_116b x3 x4 s10.1 s10.2) ((0 : Int32), r9)) (fun s11 => (if x3 = 0 then Option.bind (f_X6_astrayNow (upM s11.2 49 11 x4)) (fun r13 => Option.bind (f_X6_ones r13) (fun r14 => some (r14, (upM s11.2 49 11 x4)))) else Option.bind (f_X6_becomeMany (upM s11.2 49 11 x4)) (fun r12 => some (r12, (upM s11.2 49 11 x4))))))
theorem t_X6_yearOf_109 {Y : EY} {X : CX} (C : CK Y X cX6_yearOf RX6 8 (some .int) rm_X6_yearOf) {x3 : Int32} {x4 : Int32} {M : Mem}  {res : Int32 × Mem} (h : f_X6_yearOf_109 x3 x4 M = some res) (hK : RK Y X (some (.int res.1)) res.2) : AW Y X 8 109 [(0, .ref (Y.2.2.2.1 49)), (3, .int x3), (4, .int x4)] [] M := by
  unfold f_X6_yearOf_109 at h
  refine a_aload_n C dX6_yearOf_109 0 rfl ?_
  obtain ⟨r9, hcr9, h⟩ := bd_some h
  refine a_callVv C dX6_yearOf_110 lv_X6_213 lm_X6_lives ⟨rfl, rfl, by decide, by decide⟩ Kc_49 (m_X6_lives C.2.2.2.2.2.2.1 hcr9) rfl rfl (Nat.le_of_ble_eq_true rfl) ?_
  refine a_iconst (v := 0) C dX6_yearOf_113 (by decide) ?_
  refine a_istore (lv' := [(5, _), (0, _), (3, _), (4, _)]) C dX6_yearOf_114 (by decide) rfl ?_
  obtain ⟨s11, hl, h⟩ := bd_some h
  have hE : Ex_X6_yearOf_116 Y X x3 x4 s11 := by
    refine a_aload_n C dX6_yearOf_143 0 rfl ?_
    refine a_iload C dX6_yearOf_144 2 rfl ?_
    refine a_put (ty := .int) C dX6_yearOf_146 fl_X6_152 (fp_6_11) rfl Kc_49 rfl rfl ?_
    refine a_iload_n C dX6_yearOf_149 1 rfl ?_
    refine a_if_ne (tgt := 163) C dX6_yearOf_150 (by decide) (fun hc => ?_) (fun hc => ?_)
    · replace h := iq hc h
      refine a_aload_n C dX6_yearOf_163 0 rfl ?_
      obtain ⟨r12, hcr12, h⟩ := bd_some h
      refine a_callVi C dX6_yearOf_164 lv_X6_311 lm_X6_becomeMany ⟨rfl, rfl, by decide, by decide⟩ Kc_49 (m_X6_becomeMany C.2.2.2.2.2.2.1 hcr12) rfl rfl (Nat.le_of_ble_eq_true rfl) ?_
      replace h := Option.some.inj h
      subst h
      exact a_iret C dX6_yearOf_167 hK
    · replace h := ip hc h
      refine a_aload_n C dX6_yearOf_153 0 rfl ?_
      obtain ⟨r13, hcr13, h⟩ := bd_some h
      refine a_callVi C dX6_yearOf_154 lv_X6_228 lm_X6_astrayNow ⟨rfl, rfl, by decide, by decide⟩ Kc_49 (m_X6_astrayNow C.2.2.2.2.2.2.1 hcr13) rfl rfl (Nat.le_of_ble_eq_true rfl) ?_
      obtain ⟨r14, hcr14, h⟩ := bd_some h
      refine a_callSi C dX6_yearOf_157 ls_X6_247 lm_X6_ones ⟨rfl, rfl, by decide, by decide⟩ (m_X6_ones C.2.2.2.2.2.2.1 hcr14) rfl rfl (Nat.le_of_ble_eq_true rfl) ?_
      refine a_goto (tgt := 167) C dX6_yearOf_160 (by decide) ?_
      replace h := Option.some.inj h
      subst h
      exact a_iret C dX6_yearOf_167 hK
  have hA := aw_loop (At_X6_yearOf_116 Y X x3 x4) (Ex_X6_yearOf_116 Y X x3 x4) (fun _ _ hb hk => t_X6_yearOf_116_116b C hb hk) hl hE
  exact a_sub [1, 2, 3, 0] (hA) rfl
noncomputable def f_X6_yearOf (x1 : Int32) (x2 : Int32) (x3 : Int32) (M : Mem) : Option (Int32 × Mem) :=
  Option.bind (loop (fun s1 : Int32 × Mem => f_X6_yearOf_9_9b x1 x2 x3 (M 49 11) s1.1 s1.2) ((0 : Int32), M)) (fun s2 => Option.bind (loop (fun s7 : Int32 × Mem => f_X6_yearOf_49_49b x2 x3 (M 49 11) s7.1 s7.2) ((0 : Int32), (upM (upM s2.2 49 29 x1) 49 11 (0 : Int32)))) (fun s8 => f_X6_yearOf_109 x3 (M 49 11) s8.2))
theorem t_X6_yearOf {Y : EY} {X : CX} (C : CK Y X cX6_yearOf RX6 8 (some .int) rm_X6_yearOf) {x1 : Int32} {x2 : Int32} {x3 : Int32} {M : Mem}  {res : Int32 × Mem} (h : f_X6_yearOf x1 x2 x3 M = some res) (hK : RK Y X (some (.int res.1)) res.2) : AW Y X 8 0 [(0, .ref (Y.2.2.2.1 49)), (1, .int x1), (2, .int x2), (3, .int x3)] [] M := by
  unfold f_X6_yearOf at h
  refine a_aload_n C dX6_yearOf_0 0 rfl ?_
  refine a_geti C dX6_yearOf_1 fl_X6_152 rfl Kc_49 ?_
  refine a_istore (lv' := [(4, _), (0, _), (1, _), (2, _), (3, _)]) C dX6_yearOf_4 (by decide) rfl ?_
  refine a_iconst (v := 0) C dX6_yearOf_6 (by decide) ?_
  refine a_istore (lv' := [(5, _), (4, _), (0, _), (1, _), (2, _), (3, _)]) C dX6_yearOf_7 (by decide) rfl ?_
  obtain ⟨s2, hl, h⟩ := bd_some h
  have hE : Ex_X6_yearOf_9 Y X x1 x2 x3 (M 49 11) s2 := by
    refine a_aload_n C dX6_yearOf_36 0 rfl ?_
    refine a_iload_n C dX6_yearOf_37 1 rfl ?_
    refine a_put (ty := .int) C dX6_yearOf_38 fl_X6_305 (fp_6_29) rfl Kc_49 rfl rfl ?_
    refine a_aload_n C dX6_yearOf_41 0 rfl ?_
    refine a_iconst (v := 0) C dX6_yearOf_42 (by decide) ?_
    refine a_put (ty := .int) C dX6_yearOf_43 fl_X6_152 (fp_6_11) rfl Kc_49 rfl rfl ?_
    refine a_iconst (v := 0) C dX6_yearOf_46 (by decide) ?_
    refine a_istore (lv' := [(5, _), (0, _), (1, _), (2, _), (3, _), (4, _)]) C dX6_yearOf_47 (by decide) rfl ?_
    obtain ⟨s8, hl, h⟩ := bd_some h
    have hE : Ex_X6_yearOf_49 Y X x2 x3 (M 49 11) s8 := by
      exact a_sub [0, 1, 2] (t_X6_yearOf_109 C h hK) rfl
    have hA := aw_loop (At_X6_yearOf_49 Y X x2 x3 (M 49 11)) (Ex_X6_yearOf_49 Y X x2 x3 (M 49 11)) (fun _ _ hb hk => t_X6_yearOf_49_49b C hb hk) hl hE
    exact a_sub [1, 3, 4, 5, 0] (hA) rfl
  have hA := aw_loop (At_X6_yearOf_9 Y X x1 x2 x3 (M 49 11)) (Ex_X6_yearOf_9 Y X x1 x2 x3 (M 49 11)) (fun _ _ hb hk => t_X6_yearOf_9_9b C hb hk) hl hE
  exact a_sub [2, 3, 4, 5, 1, 0] (hA) rfl
theorem m_X6_yearOf {Y : EY} (hY : HY Y) {x1 : Int32} {x2 : Int32} {x3 : Int32} {M : Mem}  {r : Int32 × Mem} (h : f_X6_yearOf x1 x2 x3 M = some r) : MX Y yX6_yearOf cX6_yearOf 8 (some .int) rm_X6_yearOf [.ref (Y.2.2.2.1 49), .int x1, .int x2, .int x3] M (some (.int r.1)) r.2 := MX.of hY (by decide) (Nat.le_of_ble_eq_true rfl) (fun _ hR C => a_sub [0, 1, 2, 3] (t_X6_yearOf C  h hR) rfl)
abbrev rm_X6_year : Room := { frames := 6, cells := 0, slots := 0, locals := 144 }
noncomputable def f_X6_year (x1 : Int32) (x2 : Int32) (x3 : Int32) (M : Mem) : Option (Int32 × Mem) :=
  Option.bind (f_X6_find M) (fun r1 => Option.bind (f_X6_in (x2).toInt64 (0 : Int64) (8 : Int64)) (fun r2 => (if r2 = 0 then some ((-2 : Int32), r1) else Option.bind (f_X6_isTwo x3) (fun r3 => (if r3 = 0 then some ((-2 : Int32), r1) else Option.bind (f_X6_yearOf x1 x2 x3 r1) (fun r4 => some (r4.1, r4.2)))))))
theorem t_X6_year {Y : EY} {X : CX} (C : CK Y X cX6_year RX6 4 (some .int) rm_X6_year) {x1 : Int32} {x2 : Int32} {x3 : Int32} {M : Mem}  {res : Int32 × Mem} (h : f_X6_year x1 x2 x3 M = some res) (hK : RK Y X (some (.int res.1)) res.2) : AW Y X 4 0 [(0, .ref (Y.2.2.2.1 49)), (1, .int x1), (2, .int x2), (3, .int x3)] [] M := by
  unfold f_X6_year at h
  refine a_aload_n C dX6_year_0 0 rfl ?_
  obtain ⟨r1, hcr1, h⟩ := bd_some h
  refine a_callVv C dX6_year_1 lv_X6_216 lm_X6_find ⟨rfl, rfl, by decide, by decide⟩ Kc_49 (m_X6_find C.2.2.2.2.2.2.1 hcr1) rfl rfl (Nat.le_of_ble_eq_true rfl) ?_
  refine a_iload_n C dX6_year_4 2 rfl ?_
  refine a_i2l C dX6_year_5 ?_
  refine a_lconst (v := 0) C dX6_year_6 (by decide) ?_
  refine a_ldc2 C dX6_year_7 co_X6_314 ?_
  obtain ⟨r2, hcr2, h⟩ := bd_some h
  refine a_callSi C dX6_year_10 ls_X6_79 lm_X6_in ⟨rfl, rfl, by decide, by decide⟩ (m_X6_in C.2.2.2.2.2.2.1 hcr2) rfl rfl (Nat.le_of_ble_eq_true rfl) ?_
  refine a_if_eq (tgt := 33) C dX6_year_13 (by decide) (fun hc => ?_) (fun hc => ?_)
  · replace h := ip hc h
    refine a_bipush (v := -2) C dX6_year_33 (by decide) ?_
    replace h := Option.some.inj h
    subst h
    exact a_iret C dX6_year_35 hK
  · replace h := iq hc h
    refine a_iload_n C dX6_year_16 3 rfl ?_
    obtain ⟨r3, hcr3, h⟩ := bd_some h
    refine a_callSi C dX6_year_17 ls_X6_107 lm_X6_isTwo ⟨rfl, rfl, by decide, by decide⟩ (m_X6_isTwo C.2.2.2.2.2.2.1 hcr3) rfl rfl (Nat.le_of_ble_eq_true rfl) ?_
    refine a_if_eq (tgt := 33) C dX6_year_20 (by decide) (fun hc => ?_) (fun hc => ?_)
    · replace h := ip hc h
      refine a_bipush (v := -2) C dX6_year_33 (by decide) ?_
      replace h := Option.some.inj h
      subst h
      exact a_iret C dX6_year_35 hK
    · replace h := iq hc h
      refine a_aload_n C dX6_year_23 0 rfl ?_
      refine a_iload_n C dX6_year_24 1 rfl ?_
      refine a_iload_n C dX6_year_25 2 rfl ?_
      refine a_iload_n C dX6_year_26 3 rfl ?_
      obtain ⟨r4, hcr4, h⟩ := bd_some h
      refine a_callVi C dX6_year_27 lv_X6_316 lm_X6_yearOf ⟨rfl, rfl, by decide, by decide⟩ Kc_49 (m_X6_yearOf C.2.2.2.2.2.2.1 hcr4) rfl rfl (Nat.le_of_ble_eq_true rfl) ?_
      refine a_goto (tgt := 35) C dX6_year_30 (by decide) ?_
      replace h := Option.some.inj h
      subst h
      exact a_iret C dX6_year_35 hK
theorem m_X6_year {Y : EY} (hY : HY Y) {x1 : Int32} {x2 : Int32} {x3 : Int32} {M : Mem}  {r : Int32 × Mem} (h : f_X6_year x1 x2 x3 M = some r) : MX Y yX6_year cX6_year 4 (some .int) rm_X6_year [.ref (Y.2.2.2.1 49), .int x1, .int x2, .int x3] M (some (.int r.1)) r.2 := MX.of hY (by decide) (Nat.le_of_ble_eq_true rfl) (fun _ hR C => a_sub [0, 1, 2, 3] (t_X6_year C  h hR) rfl)
abbrev rm_X6_write : Room := { frames := 6, cells := 0, slots := 0, locals := 137 }
abbrev At_X6_write_52 (Y : EY) (X : CX) (x1 : Int32) (x2 : Int32) (x3 : Int32) (s : Int32 × Mem) : Prop := AW Y X 5 52 [(0, .ref (Y.2.2.2.1 49)), (1, .int x1), (2, .int x2), (3, .int x3), (4, .int s.1)] [] s.2
abbrev Ex_X6_write_52 (Y : EY) (X : CX) (x1 : Int32) (x2 : Int32) (x3 : Int32) (s : Int32 × Mem) : Prop := AW Y X 5 97 [(3, .int x3)] [] s.2
noncomputable def f_X6_write_52_52b (x1 : Int32) (x2 : Int32) (x3 : Int32) (x4 : Int32) (M : Mem) : Option ((Int32 × Mem) ⊕ (Int32 × Mem)) :=
  (if x3 ≤ x4 then some (.inr (x4, M)) else ck (inb x2 4) (ck (inb (((8 : Int32) * x4) + x1) 240) (Option.bind (f_X6_cut (M 50 (x2).toNatClampNeg) (M 65 ((((8 : Int32) * x4) + x1)).toNatClampNeg)) (fun r5 => ck (inb (((60 : Int32) * x2) + x4) 240) (some (.inl ((x4 + (1 : Int32)), (upM M 52 ((((60 : Int32) * x2) + x4)).toNatClampNeg r5))))))))
theorem t_X6_write_52_52b {Y : EY} {X : CX} (C : CK Y X cX6_write RX6 5 (some .int) rm_X6_write) {x1 : Int32} {x2 : Int32} {x3 : Int32} {x4 : Int32} {M : Mem}  {res : (Int32 × Mem) ⊕ (Int32 × Mem)} (h : f_X6_write_52_52b x1 x2 x3 x4 M = some res) (hK : KL (At_X6_write_52 Y X x1 x2 x3) (Ex_X6_write_52 Y X x1 x2 x3) res) : AW Y X 5 52 [(0, .ref (Y.2.2.2.1 49)), (1, .int x1), (2, .int x2), (3, .int x3), (4, .int x4)] [] M := by
  unfold f_X6_write_52_52b at h
  refine a_iload C dX6_write_52 4 rfl ?_
  refine a_iload_n C dX6_write_54 3 rfl ?_
  refine a_icmp_ge (tgt := 97) C dX6_write_55 (by decide) (fun hc => ?_) (fun hc => ?_)
  · replace h := ip hc h
    replace h := Option.some.inj h
    subst h
    exact a_sub [3] (hK) rfl
  · replace h := iq hc h
    refine a_aload_n C dX6_write_58 0 rfl ?_
    refine a_getr (k1 := 52) C dX6_write_59 fl_X6_16 rfl Kc_49 rfl ?_
    refine a_bipush (v := 60) C dX6_write_62 (by decide) ?_
    refine a_iload_n C dX6_write_64 2 rfl ?_
    refine a_imul C dX6_write_65 ?_
    refine a_iload C dX6_write_66 4 rfl ?_
    refine a_iadd C dX6_write_68 ?_
    refine a_aload_n C dX6_write_69 0 rfl ?_
    refine a_getr (k1 := 50) C dX6_write_70 fl_X6_7 rfl Kc_49 rfl ?_
    refine a_iload_n C dX6_write_73 2 rfl ?_
    obtain ⟨hb, h⟩ := ck_some h
    refine a_iald C dX6_write_74 Kc_50 rfl hb ?_
    refine a_aload_n C dX6_write_75 0 rfl ?_
    refine a_getr (k1 := 65) C dX6_write_76 fl_X6_55 rfl Kc_49 rfl ?_
    refine a_bipush (v := 8) C dX6_write_79 (by decide) ?_
    refine a_iload C dX6_write_81 4 rfl ?_
    refine a_imul C dX6_write_83 ?_
    refine a_iload_n C dX6_write_84 1 rfl ?_
    refine a_iadd C dX6_write_85 ?_
    obtain ⟨hb, h⟩ := ck_some h
    refine a_iald C dX6_write_86 Kc_65 rfl hb ?_
    obtain ⟨r5, hcr5, h⟩ := bd_some h
    refine a_callSi C dX6_write_87 ls_X6_102 lm_X6_cut ⟨rfl, rfl, by decide, by decide⟩ (m_X6_cut C.2.2.2.2.2.2.1 hcr5) rfl rfl (Nat.le_of_ble_eq_true rfl) ?_
    obtain ⟨hb, h⟩ := ck_some h
    refine a_iast C dX6_write_90 Kc_52 rfl hb ?_
    refine a_iinc (v := 1) (lv' := [(4, _), (0, _), (1, _), (2, _), (3, _)]) C dX6_write_91 4 rfl (by decide) (by decide) rfl ?_
    refine a_goto (tgt := 52) C dX6_write_94 (by decide) ?_
    replace h := Option.some.inj h
    subst h
    exact a_sub [1, 2, 3, 4, 0] (hK) rfl
noncomputable def f_X6_write (x1 : Int32) (x2 : Int32) (M : Mem) : Option (Int32 × Mem) :=
  Option.bind (f_X6_find M) (fun r1 => Option.bind (f_X6_isPerson x1 r1) (fun r2 => (if r2 = 0 then some ((-2 : Int32), r1) else Option.bind (f_X6_isSheet x2) (fun r3 => (if r3 = 0 then some ((-2 : Int32), r1) else ck (inb x2 4) ((if 0 ≤ (r1 50 (x2).toNatClampNeg) then ck (inb x2 4) (Option.bind (f_X6_lesser (r1 51 (x2).toNatClampNeg) (30 : Int32)) (fun r4 => Option.bind (loop (fun s6 : Int32 × Mem => f_X6_write_52_52b x1 x2 r4 s6.1 s6.2) ((0 : Int32), r1)) (fun s7 => some (r4, s7.2)))) else Option.bind (f_X6_finds (1 : Int32) r1) (fun r8 => some (r8.1, r8.2)))))))))
theorem t_X6_write {Y : EY} {X : CX} (C : CK Y X cX6_write RX6 5 (some .int) rm_X6_write) {x1 : Int32} {x2 : Int32} {M : Mem}  {res : Int32 × Mem} (h : f_X6_write x1 x2 M = some res) (hK : RK Y X (some (.int res.1)) res.2) : AW Y X 5 0 [(0, .ref (Y.2.2.2.1 49)), (1, .int x1), (2, .int x2)] [] M := by
  unfold f_X6_write at h
  refine a_aload_n C dX6_write_0 0 rfl ?_
  obtain ⟨r1, hcr1, h⟩ := bd_some h
  refine a_callVv C dX6_write_1 lv_X6_216 lm_X6_find ⟨rfl, rfl, by decide, by decide⟩ Kc_49 (m_X6_find C.2.2.2.2.2.2.1 hcr1) rfl rfl (Nat.le_of_ble_eq_true rfl) ?_
  refine a_aload_n C dX6_write_4 0 rfl ?_
  refine a_iload_n C dX6_write_5 1 rfl ?_
  obtain ⟨r2, hcr2, h⟩ := bd_some h
  refine a_callVi C dX6_write_6 lv_X6_149 lm_X6_isPerson ⟨rfl, rfl, by decide, by decide⟩ Kc_49 (m_X6_isPerson C.2.2.2.2.2.2.1 hcr2) rfl rfl (Nat.le_of_ble_eq_true rfl) ?_
  refine a_if_eq (tgt := 19) C dX6_write_9 (by decide) (fun hc => ?_) (fun hc => ?_)
  · replace h := ip hc h
    refine a_bipush (v := -2) C dX6_write_19 (by decide) ?_
    replace h := Option.some.inj h
    subst h
    exact a_iret C dX6_write_21 hK
  · replace h := iq hc h
    refine a_iload_n C dX6_write_12 2 rfl ?_
    obtain ⟨r3, hcr3, h⟩ := bd_some h
    refine a_callSi C dX6_write_13 ls_X6_88 lm_X6_isSheet ⟨rfl, rfl, by decide, by decide⟩ (m_X6_isSheet C.2.2.2.2.2.2.1 hcr3) rfl rfl (Nat.le_of_ble_eq_true rfl) ?_
    refine a_if_ne (tgt := 22) C dX6_write_16 (by decide) (fun hc => ?_) (fun hc => ?_)
    · replace h := iq hc h
      refine a_aload_n C dX6_write_22 0 rfl ?_
      refine a_getr (k1 := 50) C dX6_write_23 fl_X6_7 rfl Kc_49 rfl ?_
      refine a_iload_n C dX6_write_26 2 rfl ?_
      obtain ⟨hb, h⟩ := ck_some h
      refine a_iald C dX6_write_27 Kc_50 rfl hb ?_
      refine a_if_ge (tgt := 37) C dX6_write_28 (by decide) (fun hc => ?_) (fun hc => ?_)
      · replace h := ip hc h
        refine a_aload_n C dX6_write_37 0 rfl ?_
        refine a_getr (k1 := 51) C dX6_write_38 fl_X6_13 rfl Kc_49 rfl ?_
        refine a_iload_n C dX6_write_41 2 rfl ?_
        obtain ⟨hb, h⟩ := ck_some h
        refine a_iald C dX6_write_42 Kc_51 rfl hb ?_
        refine a_bipush (v := 30) C dX6_write_43 (by decide) ?_
        obtain ⟨r4, hcr4, h⟩ := bd_some h
        refine a_callSi C dX6_write_45 ls_X6_168 lm_X6_lesser ⟨rfl, rfl, by decide, by decide⟩ (m_X6_lesser C.2.2.2.2.2.2.1 hcr4) rfl rfl (Nat.le_of_ble_eq_true rfl) ?_
        refine a_istore_n (lv' := [(3, _), (0, _), (1, _), (2, _)]) C dX6_write_48 rfl (by decide) rfl ?_
        refine a_iconst (v := 0) C dX6_write_49 (by decide) ?_
        refine a_istore (lv' := [(4, _), (3, _), (0, _), (1, _), (2, _)]) C dX6_write_50 (by decide) rfl ?_
        obtain ⟨s7, hl, h⟩ := bd_some h
        have hE : Ex_X6_write_52 Y X x1 x2 r4 s7 := by
          refine a_iload_n C dX6_write_97 0 rfl ?_
          replace h := Option.some.inj h
          subst h
          exact a_iret C dX6_write_98 hK
        have hA := aw_loop (At_X6_write_52 Y X x1 x2 r4) (Ex_X6_write_52 Y X x1 x2 r4) (fun _ _ hb hk => t_X6_write_52_52b C hb hk) hl hE
        exact a_sub [2, 3, 4, 1, 0] (hA) rfl
      · replace h := iq hc h
        refine a_aload_n C dX6_write_31 0 rfl ?_
        refine a_iconst (v := 1) C dX6_write_32 (by decide) ?_
        obtain ⟨r8, hcr8, h⟩ := bd_some h
        refine a_callVi C dX6_write_33 lv_X6_94 lm_X6_finds ⟨rfl, rfl, by decide, by decide⟩ Kc_49 (m_X6_finds C.2.2.2.2.2.2.1 hcr8) rfl rfl (Nat.le_of_ble_eq_true rfl) ?_
        replace h := Option.some.inj h
        subst h
        exact a_iret C dX6_write_36 hK
    · replace h := ip hc h
      refine a_bipush (v := -2) C dX6_write_19 (by decide) ?_
      replace h := Option.some.inj h
      subst h
      exact a_iret C dX6_write_21 hK
theorem m_X6_write {Y : EY} (hY : HY Y) {x1 : Int32} {x2 : Int32} {M : Mem}  {r : Int32 × Mem} (h : f_X6_write x1 x2 M = some r) : MX Y yX6_write cX6_write 5 (some .int) rm_X6_write [.ref (Y.2.2.2.1 49), .int x1, .int x2] M (some (.int r.1)) r.2 := MX.of hY (by decide) (Nat.le_of_ble_eq_true rfl) (fun _ hR C => a_sub [0, 1, 2] (t_X6_write C  h hR) rfl)
abbrev rm_X6_count : Room := { frames := 6, cells := 0, slots := 0, locals := 137 }
noncomputable def f_X6_count (x1 : Int32) (M : Mem) : Option (Int32 × Mem) :=
  Option.bind (f_X6_find M) (fun r1 => (if x1 = (0 : Int32) then some ((r1 49 7), r1) else if x1 = (1 : Int32) then some ((r1 49 9), r1) else if x1 = (2 : Int32) then ck (inb (x1 - (2 : Int32)) 2) (some ((r1 55 ((x1 - (2 : Int32))).toNatClampNeg), r1)) else if x1 = (3 : Int32) then ck (inb (x1 - (2 : Int32)) 2) (some ((r1 55 ((x1 - (2 : Int32))).toNatClampNeg), r1)) else if x1 = (4 : Int32) then some ((r1 49 11), r1) else if x1 = (5 : Int32) then Option.bind (f_X6_astrayNow r1) (fun r2 => Option.bind (f_X6_ones r2) (fun r3 => some (r3, r1))) else if x1 = (6 : Int32) then Option.bind (f_X6_becomeMany r1) (fun r4 => some (r4, r1)) else if x1 = (7 : Int32) then some ((r1 49 26), r1) else if x1 = (8 : Int32) then some ((r1 49 4), r1) else some ((-2 : Int32), r1)))
theorem t_X6_count {Y : EY} {X : CX} (C : CK Y X cX6_count RX6 2 (some .int) rm_X6_count) {x1 : Int32} {M : Mem}  {res : Int32 × Mem} (h : f_X6_count x1 M = some res) (hK : RK Y X (some (.int res.1)) res.2) : AW Y X 2 0 [(0, .ref (Y.2.2.2.1 49)), (1, .int x1)] [] M := by
  unfold f_X6_count at h
  refine a_aload_n C dX6_count_0 0 rfl ?_
  obtain ⟨r1, hcr1, h⟩ := bd_some h
  refine a_callVv C dX6_count_1 lv_X6_216 lm_X6_find ⟨rfl, rfl, by decide, by decide⟩ Kc_49 (m_X6_find C.2.2.2.2.2.2.1 hcr1) rfl rfl (Nat.le_of_ble_eq_true rfl) ?_
  refine a_iload_n C dX6_count_4 1 rfl ?_
  by_cases e0 : x1 = (0 : Int32)
  · replace h := ip e0 h
    refine a_tabI (off := 51) (tgt := 56) C dX6_count_5 (by rw [e0]; decide) (by rw [e0]; decide) (by rw [e0]; rfl) (by decide) ?_
    refine a_aload_n C dX6_count_56 0 rfl ?_
    refine a_geti C dX6_count_57 fl_X6_116 rfl Kc_49 ?_
    replace h := Option.some.inj h
    subst h
    exact a_iret C dX6_count_60 hK
  replace h := iq e0 h
  by_cases e1 : x1 = (1 : Int32)
  · replace h := ip e1 h
    refine a_tabI (off := 56) (tgt := 61) C dX6_count_5 (by rw [e1]; decide) (by rw [e1]; decide) (by rw [e1]; rfl) (by decide) ?_
    refine a_aload_n C dX6_count_61 0 rfl ?_
    refine a_geti C dX6_count_62 fl_X6_124 rfl Kc_49 ?_
    replace h := Option.some.inj h
    subst h
    exact a_iret C dX6_count_65 hK
  replace h := iq e1 h
  by_cases e2 : x1 = (2 : Int32)
  · replace h := ip e2 h
    refine a_tabI (off := 61) (tgt := 66) C dX6_count_5 (by rw [e2]; decide) (by rw [e2]; decide) (by rw [e2]; rfl) (by decide) ?_
    refine a_aload_n C dX6_count_66 0 rfl ?_
    refine a_getr (k1 := 55) C dX6_count_67 fl_X6_25 rfl Kc_49 rfl ?_
    refine a_iload_n C dX6_count_70 1 rfl ?_
    refine a_iconst (v := 2) C dX6_count_71 (by decide) ?_
    refine a_isub C dX6_count_72 ?_
    obtain ⟨hb, h⟩ := ck_some h
    refine a_iald C dX6_count_73 Kc_55 rfl hb ?_
    replace h := Option.some.inj h
    subst h
    exact a_iret C dX6_count_74 hK
  replace h := iq e2 h
  by_cases e3 : x1 = (3 : Int32)
  · replace h := ip e3 h
    refine a_tabI (off := 61) (tgt := 66) C dX6_count_5 (by rw [e3]; decide) (by rw [e3]; decide) (by rw [e3]; rfl) (by decide) ?_
    refine a_aload_n C dX6_count_66 0 rfl ?_
    refine a_getr (k1 := 55) C dX6_count_67 fl_X6_25 rfl Kc_49 rfl ?_
    refine a_iload_n C dX6_count_70 1 rfl ?_
    refine a_iconst (v := 2) C dX6_count_71 (by decide) ?_
    refine a_isub C dX6_count_72 ?_
    obtain ⟨hb, h⟩ := ck_some h
    refine a_iald C dX6_count_73 Kc_55 rfl hb ?_
    replace h := Option.some.inj h
    subst h
    exact a_iret C dX6_count_74 hK
  replace h := iq e3 h
  by_cases e4 : x1 = (4 : Int32)
  · replace h := ip e4 h
    refine a_tabI (off := 70) (tgt := 75) C dX6_count_5 (by rw [e4]; decide) (by rw [e4]; decide) (by rw [e4]; rfl) (by decide) ?_
    refine a_aload_n C dX6_count_75 0 rfl ?_
    refine a_geti C dX6_count_76 fl_X6_152 rfl Kc_49 ?_
    replace h := Option.some.inj h
    subst h
    exact a_iret C dX6_count_79 hK
  replace h := iq e4 h
  by_cases e5 : x1 = (5 : Int32)
  · replace h := ip e5 h
    refine a_tabI (off := 75) (tgt := 80) C dX6_count_5 (by rw [e5]; decide) (by rw [e5]; decide) (by rw [e5]; rfl) (by decide) ?_
    refine a_aload_n C dX6_count_80 0 rfl ?_
    obtain ⟨r2, hcr2, h⟩ := bd_some h
    refine a_callVi C dX6_count_81 lv_X6_228 lm_X6_astrayNow ⟨rfl, rfl, by decide, by decide⟩ Kc_49 (m_X6_astrayNow C.2.2.2.2.2.2.1 hcr2) rfl rfl (Nat.le_of_ble_eq_true rfl) ?_
    obtain ⟨r3, hcr3, h⟩ := bd_some h
    refine a_callSi C dX6_count_84 ls_X6_247 lm_X6_ones ⟨rfl, rfl, by decide, by decide⟩ (m_X6_ones C.2.2.2.2.2.2.1 hcr3) rfl rfl (Nat.le_of_ble_eq_true rfl) ?_
    replace h := Option.some.inj h
    subst h
    exact a_iret C dX6_count_87 hK
  replace h := iq e5 h
  by_cases e6 : x1 = (6 : Int32)
  · replace h := ip e6 h
    refine a_tabI (off := 83) (tgt := 88) C dX6_count_5 (by rw [e6]; decide) (by rw [e6]; decide) (by rw [e6]; rfl) (by decide) ?_
    refine a_aload_n C dX6_count_88 0 rfl ?_
    obtain ⟨r4, hcr4, h⟩ := bd_some h
    refine a_callVi C dX6_count_89 lv_X6_311 lm_X6_becomeMany ⟨rfl, rfl, by decide, by decide⟩ Kc_49 (m_X6_becomeMany C.2.2.2.2.2.2.1 hcr4) rfl rfl (Nat.le_of_ble_eq_true rfl) ?_
    replace h := Option.some.inj h
    subst h
    exact a_iret C dX6_count_92 hK
  replace h := iq e6 h
  by_cases e7 : x1 = (7 : Int32)
  · replace h := ip e7 h
    refine a_tabI (off := 88) (tgt := 93) C dX6_count_5 (by rw [e7]; decide) (by rw [e7]; decide) (by rw [e7]; rfl) (by decide) ?_
    refine a_aload_n C dX6_count_93 0 rfl ?_
    refine a_geti C dX6_count_94 fl_X6_265 rfl Kc_49 ?_
    replace h := Option.some.inj h
    subst h
    exact a_iret C dX6_count_97 hK
  replace h := iq e7 h
  by_cases e8 : x1 = (8 : Int32)
  · replace h := ip e8 h
    refine a_tabI (off := 93) (tgt := 98) C dX6_count_5 (by rw [e8]; decide) (by rw [e8]; decide) (by rw [e8]; rfl) (by decide) ?_
    refine a_aload_n C dX6_count_98 0 rfl ?_
    refine a_geti C dX6_count_99 fl_X6_83 rfl Kc_49 ?_
    replace h := Option.some.inj h
    subst h
    exact a_iret C dX6_count_102 hK
  replace h := iq e8 h
  refine a_tabO (tgt := 103) C dX6_count_5 (tab_out x1 9 (by decide) (by intro i hi; rcases (show i = 0 ∨ i = 1 ∨ i = 2 ∨ i = 3 ∨ i = 4 ∨ i = 5 ∨ i = 6 ∨ i = 7 ∨ i = 8 by omega) with rfl | rfl | rfl | rfl | rfl | rfl | rfl | rfl | rfl <;> first | exact e0 | exact e1 | exact e2 | exact e3 | exact e4 | exact e5 | exact e6 | exact e7 | exact e8)) (by decide) ?_
  refine a_bipush (v := -2) C dX6_count_103 (by decide) ?_
  replace h := Option.some.inj h
  subst h
  exact a_iret C dX6_count_105 hK
theorem m_X6_count {Y : EY} (hY : HY Y) {x1 : Int32} {M : Mem}  {r : Int32 × Mem} (h : f_X6_count x1 M = some r) : MX Y yX6_count cX6_count 2 (some .int) rm_X6_count [.ref (Y.2.2.2.1 49), .int x1] M (some (.int r.1)) r.2 := MX.of hY (by decide) (Nat.le_of_ble_eq_true rfl) (fun _ hR C => a_sub [0, 1] (t_X6_count C  h hR) rfl)
abbrev rm_X6_tellsDrawer : Room := { frames := 1, cells := 0, slots := 0, locals := 25 }
abbrev At_X6_tellsDrawer_6 (Y : EY) (X : CX) (x3 : Int32) (x4 : Int32) (M : Mem) (s : Int64 × Int32) : Prop := AW Y X 8 6 [(0, .ref (Y.2.2.2.1 49)), (3, .int x3), (4, .int x4), (5, .long s.1), (7, .int s.2)] [] M
abbrev Ex_X6_tellsDrawer_6 (Y : EY) (X : CX) (x3 : Int32) (x4 : Int32) (M : Mem) (s : Int64 × Int32) : Prop := AW Y X 8 38 [(5, .long s.1)] [] M
noncomputable def f_X6_tellsDrawer_6_6b (x3 : Int32) (x4 : Int32) (x5 : Int64) (x7 : Int32) (M : Mem) : Option ((Int64 × Int32) ⊕ (Int64 × Int32)) :=
  (if (6 : Int32) ≤ x7 then some (.inr (x5, x7)) else Option.bind (f_X6_drawerBy x3 x4 x7 M) (fun r1 => some (.inl ((((31 : Int64) * x5) + (r1).toInt64), (x7 + (1 : Int32))))))
theorem t_X6_tellsDrawer_6_6b {Y : EY} {X : CX} (C : CK Y X cX6_tellsDrawer RX6 8 (some .long) rm_X6_tellsDrawer) {x3 : Int32} {x4 : Int32} {x5 : Int64} {x7 : Int32} {M : Mem}  {res : (Int64 × Int32) ⊕ (Int64 × Int32)} (h : f_X6_tellsDrawer_6_6b x3 x4 x5 x7 M = some res) (hK : KL (At_X6_tellsDrawer_6 Y X x3 x4 M) (Ex_X6_tellsDrawer_6 Y X x3 x4 M) res) : AW Y X 8 6 [(0, .ref (Y.2.2.2.1 49)), (3, .int x3), (4, .int x4), (5, .long x5), (7, .int x7)] [] M := by
  unfold f_X6_tellsDrawer_6_6b at h
  refine a_iload C dX6_tellsDrawer_6 4 rfl ?_
  refine a_bipush (v := 6) C dX6_tellsDrawer_8 (by decide) ?_
  refine a_icmp_ge (tgt := 38) C dX6_tellsDrawer_10 (by decide) (fun hc => ?_) (fun hc => ?_)
  · replace h := ip hc h
    replace h := Option.some.inj h
    subst h
    exact a_sub [3] (hK) rfl
  · replace h := iq hc h
    refine a_ldc2 C dX6_tellsDrawer_13 co_X6_319 ?_
    refine a_lload C dX6_tellsDrawer_16 3 rfl ?_
    refine a_lmul C dX6_tellsDrawer_18 ?_
    refine a_aload_n C dX6_tellsDrawer_19 0 rfl ?_
    refine a_iload_n C dX6_tellsDrawer_20 1 rfl ?_
    refine a_iload C dX6_tellsDrawer_21 2 rfl ?_
    refine a_iload C dX6_tellsDrawer_23 4 rfl ?_
    obtain ⟨r1, hcr1, h⟩ := bd_some h
    refine a_callVi C dX6_tellsDrawer_25 lv_X6_222 lm_X6_drawerBy ⟨rfl, rfl, by decide, by decide⟩ Kc_49 (m_X6_drawerBy C.2.2.2.2.2.2.1 hcr1) rfl rfl (Nat.le_of_ble_eq_true rfl) ?_
    refine a_i2l C dX6_tellsDrawer_28 ?_
    refine a_ladd C dX6_tellsDrawer_29 ?_
    refine a_lstore (lv' := [(5, _), (0, _), (3, _), (4, _), (7, _)]) C dX6_tellsDrawer_30 (by decide) rfl ?_
    refine a_iinc (v := 1) (lv' := [(7, _), (5, _), (0, _), (3, _), (4, _)]) C dX6_tellsDrawer_32 4 rfl (by decide) (by decide) rfl ?_
    refine a_goto (tgt := 6) C dX6_tellsDrawer_35 (by decide) ?_
    replace h := Option.some.inj h
    subst h
    exact a_sub [2, 3, 4, 1, 0] (hK) rfl
noncomputable def f_X6_tellsDrawer (x1 : Int64) (x3 : Int32) (x4 : Int32) (M : Mem) : Option (Int64) :=
  Option.bind (loop (fun s2 : Int64 × Int32 => f_X6_tellsDrawer_6_6b x3 x4 s2.1 s2.2 M) (x1, (0 : Int32))) (fun s3 => some s3.1)
theorem t_X6_tellsDrawer {Y : EY} {X : CX} (C : CK Y X cX6_tellsDrawer RX6 8 (some .long) rm_X6_tellsDrawer) {x1 : Int64} {x3 : Int32} {x4 : Int32} {M : Mem}  {res : Int64} (h : f_X6_tellsDrawer x1 x3 x4 M = some res) (hK : RK Y X (some (.long res)) M) : AW Y X 8 0 [(0, .ref (Y.2.2.2.1 49)), (1, .long x1), (3, .int x3), (4, .int x4)] [] M := by
  unfold f_X6_tellsDrawer at h
  refine a_lload_n C dX6_tellsDrawer_0 1 rfl ?_
  refine a_lstore (lv' := [(5, _), (0, _), (1, _), (3, _), (4, _)]) C dX6_tellsDrawer_1 (by decide) rfl ?_
  refine a_iconst (v := 0) C dX6_tellsDrawer_3 (by decide) ?_
  refine a_istore (lv' := [(7, _), (5, _), (0, _), (1, _), (3, _), (4, _)]) C dX6_tellsDrawer_4 (by decide) rfl ?_
  obtain ⟨s3, hl, h⟩ := bd_some h
  have hE : Ex_X6_tellsDrawer_6 Y X x3 x4 M s3 := by
    refine a_lload C dX6_tellsDrawer_38 0 rfl ?_
    replace h := Option.some.inj h
    subst h
    exact a_lret C dX6_tellsDrawer_40 hK
  have hA := aw_loop (At_X6_tellsDrawer_6 Y X x3 x4 M) (Ex_X6_tellsDrawer_6 Y X x3 x4 M) (fun _ _ hb hk => t_X6_tellsDrawer_6_6b C hb hk) hl hE
  exact a_sub [2, 4, 5, 1, 0] (hA) rfl
theorem m_X6_tellsDrawer {Y : EY} (hY : HY Y) {x1 : Int64} {x3 : Int32} {x4 : Int32} {M : Mem}  {r : Int64} (h : f_X6_tellsDrawer x1 x3 x4 M = some r) : MX Y yX6_tellsDrawer cX6_tellsDrawer 8 (some .long) rm_X6_tellsDrawer [.ref (Y.2.2.2.1 49), .long x1, .int x3, .int x4] M (some (.long r)) M := MX.of hY (by decide) (Nat.le_of_ble_eq_true rfl) (fun _ hR C => a_sub [0, 1, 2, 3] (t_X6_tellsDrawer C  h hR) rfl)
abbrev rm_X6_tellsDay : Room := { frames := 1, cells := 0, slots := 0, locals := 23 }
abbrev At_X6_tellsDay_6 (Y : EY) (X : CX) (x3 : Int32) (x4 : Int32) (M : Mem) (s : Int64 × Int32) : Prop := AW Y X 8 6 [(0, .ref (Y.2.2.2.1 49)), (3, .int x3), (4, .int x4), (5, .long s.1), (7, .int s.2)] [] M
abbrev Ex_X6_tellsDay_6 (Y : EY) (X : CX) (x3 : Int32) (x4 : Int32) (M : Mem) (s : Int64 × Int32) : Prop := AW Y X 8 38 [(5, .long s.1)] [] M
noncomputable def f_X6_tellsDay_6_6b (x3 : Int32) (x4 : Int32) (x5 : Int64) (x7 : Int32) (M : Mem) : Option ((Int64 × Int32) ⊕ (Int64 × Int32)) :=
  (if (8 : Int32) ≤ x7 then some (.inr (x5, x7)) else Option.bind (f_X6_atBy x3 x4 x7 M) (fun r1 => some (.inl ((((31 : Int64) * x5) + (r1).toInt64), (x7 + (1 : Int32))))))
theorem t_X6_tellsDay_6_6b {Y : EY} {X : CX} (C : CK Y X cX6_tellsDay RX6 8 (some .long) rm_X6_tellsDay) {x3 : Int32} {x4 : Int32} {x5 : Int64} {x7 : Int32} {M : Mem}  {res : (Int64 × Int32) ⊕ (Int64 × Int32)} (h : f_X6_tellsDay_6_6b x3 x4 x5 x7 M = some res) (hK : KL (At_X6_tellsDay_6 Y X x3 x4 M) (Ex_X6_tellsDay_6 Y X x3 x4 M) res) : AW Y X 8 6 [(0, .ref (Y.2.2.2.1 49)), (3, .int x3), (4, .int x4), (5, .long x5), (7, .int x7)] [] M := by
  unfold f_X6_tellsDay_6_6b at h
  refine a_iload C dX6_tellsDay_6 4 rfl ?_
  refine a_bipush (v := 8) C dX6_tellsDay_8 (by decide) ?_
  refine a_icmp_ge (tgt := 38) C dX6_tellsDay_10 (by decide) (fun hc => ?_) (fun hc => ?_)
  · replace h := ip hc h
    replace h := Option.some.inj h
    subst h
    exact a_sub [3] (hK) rfl
  · replace h := iq hc h
    refine a_ldc2 C dX6_tellsDay_13 co_X6_319 ?_
    refine a_lload C dX6_tellsDay_16 3 rfl ?_
    refine a_lmul C dX6_tellsDay_18 ?_
    refine a_aload_n C dX6_tellsDay_19 0 rfl ?_
    refine a_iload_n C dX6_tellsDay_20 1 rfl ?_
    refine a_iload C dX6_tellsDay_21 2 rfl ?_
    refine a_iload C dX6_tellsDay_23 4 rfl ?_
    obtain ⟨r1, hcr1, h⟩ := bd_some h
    refine a_callVi C dX6_tellsDay_25 lv_X6_219 lm_X6_atBy ⟨rfl, rfl, by decide, by decide⟩ Kc_49 (m_X6_atBy C.2.2.2.2.2.2.1 hcr1) rfl rfl (Nat.le_of_ble_eq_true rfl) ?_
    refine a_i2l C dX6_tellsDay_28 ?_
    refine a_ladd C dX6_tellsDay_29 ?_
    refine a_lstore (lv' := [(5, _), (0, _), (3, _), (4, _), (7, _)]) C dX6_tellsDay_30 (by decide) rfl ?_
    refine a_iinc (v := 1) (lv' := [(7, _), (5, _), (0, _), (3, _), (4, _)]) C dX6_tellsDay_32 4 rfl (by decide) (by decide) rfl ?_
    refine a_goto (tgt := 6) C dX6_tellsDay_35 (by decide) ?_
    replace h := Option.some.inj h
    subst h
    exact a_sub [2, 3, 4, 1, 0] (hK) rfl
noncomputable def f_X6_tellsDay (x1 : Int64) (x3 : Int32) (x4 : Int32) (M : Mem) : Option (Int64) :=
  Option.bind (loop (fun s2 : Int64 × Int32 => f_X6_tellsDay_6_6b x3 x4 s2.1 s2.2 M) (x1, (0 : Int32))) (fun s3 => some s3.1)
theorem t_X6_tellsDay {Y : EY} {X : CX} (C : CK Y X cX6_tellsDay RX6 8 (some .long) rm_X6_tellsDay) {x1 : Int64} {x3 : Int32} {x4 : Int32} {M : Mem}  {res : Int64} (h : f_X6_tellsDay x1 x3 x4 M = some res) (hK : RK Y X (some (.long res)) M) : AW Y X 8 0 [(0, .ref (Y.2.2.2.1 49)), (1, .long x1), (3, .int x3), (4, .int x4)] [] M := by
  unfold f_X6_tellsDay at h
  refine a_lload_n C dX6_tellsDay_0 1 rfl ?_
  refine a_lstore (lv' := [(5, _), (0, _), (1, _), (3, _), (4, _)]) C dX6_tellsDay_1 (by decide) rfl ?_
  refine a_iconst (v := 0) C dX6_tellsDay_3 (by decide) ?_
  refine a_istore (lv' := [(7, _), (5, _), (0, _), (1, _), (3, _), (4, _)]) C dX6_tellsDay_4 (by decide) rfl ?_
  obtain ⟨s3, hl, h⟩ := bd_some h
  have hE : Ex_X6_tellsDay_6 Y X x3 x4 M s3 := by
    refine a_lload C dX6_tellsDay_38 0 rfl ?_
    replace h := Option.some.inj h
    subst h
    exact a_lret C dX6_tellsDay_40 hK
  have hA := aw_loop (At_X6_tellsDay_6 Y X x3 x4 M) (Ex_X6_tellsDay_6 Y X x3 x4 M) (fun _ _ hb hk => t_X6_tellsDay_6_6b C hb hk) hl hE
  exact a_sub [2, 4, 5, 1, 0] (hA) rfl
theorem m_X6_tellsDay {Y : EY} (hY : HY Y) {x1 : Int64} {x3 : Int32} {x4 : Int32} {M : Mem}  {r : Int64} (h : f_X6_tellsDay x1 x3 x4 M = some r) : MX Y yX6_tellsDay cX6_tellsDay 8 (some .long) rm_X6_tellsDay [.ref (Y.2.2.2.1 49), .long x1, .int x3, .int x4] M (some (.long r)) M := MX.of hY (by decide) (Nat.le_of_ble_eq_true rfl) (fun _ hR C => a_sub [0, 1, 2, 3] (t_X6_tellsDay C  h hR) rfl)
abbrev rm_X6_tellsPerson : Room := { frames := 8, cells := 0, slots := 0, locals := 189 }
noncomputable def f_X6_tellsPerson (x1 : Int64) (x3 : Int32) (M : Mem) : Option (Int64 × Mem) :=
  Option.bind (f_X6_lives M) (fun r1 => ck (inb ((2 : Int32) * x3) 16) (ck (inb (((2 : Int32) * x3) + (1 : Int32)) 16) (Option.bind (f_X6_tellsDay (((31 : Int64) * (((31 : Int64) * x1) + ((r1 57 (((2 : Int32) * x3)).toNatClampNeg)).toInt64)) + ((r1 57 ((((2 : Int32) * x3) + (1 : Int32))).toNatClampNeg)).toInt64) (0 : Int32) x3 r1) (fun r2 => Option.bind (f_X6_tellsDay r2 (7 : Int32) x3 r1) (fun r3 => Option.bind (f_X6_tellsDay r3 (15 : Int32) x3 r1) (fun r4 => Option.bind (f_X6_tellsDay r4 (29 : Int32) x3 r1) (fun r5 => ck (inb x3 8) (Option.bind (f_X6_dressOf x3 (1 : Int32) (12 : Int32) (0 : Int32) r1) (fun r6 => Option.bind (f_X6_dressOf x3 (1 : Int32) (12 : Int32) (1 : Int32) r6.2) (fun r7 => Option.bind (f_X6_homeOf x3 r7.2) (fun r8 => Option.bind (f_X6_whoseOf x3 r8.2) (fun r9 => Option.bind (f_X6_sortOf x3 r9.2) (fun r10 => Option.bind (f_X6_askOf x3 r10.2) (fun r11 => Option.bind (f_X6_customOf (5 : Int32) x3 (0 : Int32) r11.2) (fun r12 => Option.bind (f_X6_customOf (5 : Int32) x3 (1 : Int32) r12.2) (fun r13 => some ((((31 : Int64) * (((31 : Int64) * (((31 : Int64) * (((31 : Int64) * (((31 : Int64) * (((31 : Int64) * (((31 : Int64) * (((31 : Int64) * (((31 : Int64) * r5) + ((r1 67 (x3).toNatClampNeg)).toInt64)) + (r6.1).toInt64)) + (r7.1).toInt64)) + (r8.1).toInt64)) + (r9.1).toInt64)) + (r10.1).toInt64)) + (r11.1).toInt64)) + r12.1)) + r13.1), r13.2)))))))))))))))))
theorem t_X6_tellsPerson {Y : EY} {X : CX} (C : CK Y X cX6_tellsPerson RX6 6 (some .long) rm_X6_tellsPerson) {x1 : Int64} {x3 : Int32} {M : Mem}  {res : Int64 × Mem} (h : f_X6_tellsPerson x1 x3 M = some res) (hK : RK Y X (some (.long res.1)) res.2) : AW Y X 6 0 [(0, .ref (Y.2.2.2.1 49)), (1, .long x1), (3, .int x3)] [] M := by
  unfold f_X6_tellsPerson at h
  refine a_aload_n C dX6_tellsPerson_0 0 rfl ?_
  obtain ⟨r1, hcr1, h⟩ := bd_some h
  refine a_callVv C dX6_tellsPerson_1 lv_X6_213 lm_X6_lives ⟨rfl, rfl, by decide, by decide⟩ Kc_49 (m_X6_lives C.2.2.2.2.2.2.1 hcr1) rfl rfl (Nat.le_of_ble_eq_true rfl) ?_
  refine a_ldc2 C dX6_tellsPerson_4 co_X6_319 ?_
  refine a_lload_n C dX6_tellsPerson_7 1 rfl ?_
  refine a_lmul C dX6_tellsPerson_8 ?_
  refine a_aload_n C dX6_tellsPerson_9 0 rfl ?_
  refine a_getr (k1 := 57) C dX6_tellsPerson_10 fl_X6_31 rfl Kc_49 rfl ?_
  refine a_iconst (v := 2) C dX6_tellsPerson_13 (by decide) ?_
  refine a_iload_n C dX6_tellsPerson_14 2 rfl ?_
  refine a_imul C dX6_tellsPerson_15 ?_
  obtain ⟨hb, h⟩ := ck_some h
  refine a_iald C dX6_tellsPerson_16 Kc_57 rfl hb ?_
  refine a_i2l C dX6_tellsPerson_17 ?_
  refine a_ladd C dX6_tellsPerson_18 ?_
  refine a_lstore (lv' := [(4, _), (0, _), (1, _), (3, _)]) C dX6_tellsPerson_19 (by decide) rfl ?_
  refine a_ldc2 C dX6_tellsPerson_21 co_X6_319 ?_
  refine a_lload C dX6_tellsPerson_24 0 rfl ?_
  refine a_lmul C dX6_tellsPerson_26 ?_
  refine a_aload_n C dX6_tellsPerson_27 1 rfl ?_
  refine a_getr (k1 := 57) C dX6_tellsPerson_28 fl_X6_31 rfl Kc_49 rfl ?_
  refine a_iconst (v := 2) C dX6_tellsPerson_31 (by decide) ?_
  refine a_iload_n C dX6_tellsPerson_32 3 rfl ?_
  refine a_imul C dX6_tellsPerson_33 ?_
  refine a_iconst (v := 1) C dX6_tellsPerson_34 (by decide) ?_
  refine a_iadd C dX6_tellsPerson_35 ?_
  obtain ⟨hb, h⟩ := ck_some h
  refine a_iald C dX6_tellsPerson_36 Kc_57 rfl hb ?_
  refine a_i2l C dX6_tellsPerson_37 ?_
  refine a_ladd C dX6_tellsPerson_38 ?_
  refine a_lstore (lv' := [(4, _), (0, _), (1, _), (3, _)]) C dX6_tellsPerson_39 (by decide) rfl ?_
  refine a_aload_n C dX6_tellsPerson_41 1 rfl ?_
  refine a_aload_n C dX6_tellsPerson_42 1 rfl ?_
  refine a_aload_n C dX6_tellsPerson_43 1 rfl ?_
  refine a_aload_n C dX6_tellsPerson_44 1 rfl ?_
  refine a_lload C dX6_tellsPerson_45 0 rfl ?_
  refine a_iconst (v := 0) C dX6_tellsPerson_47 (by decide) ?_
  refine a_iload_n C dX6_tellsPerson_48 3 rfl ?_
  obtain ⟨r2, hcr2, h⟩ := bd_some h
  refine a_callVl C dX6_tellsPerson_49 lv_X6_321 lm_X6_tellsDay ⟨rfl, rfl, by decide, by decide⟩ Kc_49 (m_X6_tellsDay C.2.2.2.2.2.2.1 hcr2) rfl rfl (Nat.le_of_ble_eq_true rfl) ?_
  refine a_bipush (v := 7) C dX6_tellsPerson_52 (by decide) ?_
  refine a_iload_n C dX6_tellsPerson_54 3 rfl ?_
  obtain ⟨r3, hcr3, h⟩ := bd_some h
  refine a_callVl C dX6_tellsPerson_55 lv_X6_321 lm_X6_tellsDay ⟨rfl, rfl, by decide, by decide⟩ Kc_49 (m_X6_tellsDay C.2.2.2.2.2.2.1 hcr3) rfl rfl (Nat.le_of_ble_eq_true rfl) ?_
  refine a_bipush (v := 15) C dX6_tellsPerson_58 (by decide) ?_
  refine a_iload_n C dX6_tellsPerson_60 3 rfl ?_
  obtain ⟨r4, hcr4, h⟩ := bd_some h
  refine a_callVl C dX6_tellsPerson_61 lv_X6_321 lm_X6_tellsDay ⟨rfl, rfl, by decide, by decide⟩ Kc_49 (m_X6_tellsDay C.2.2.2.2.2.2.1 hcr4) rfl rfl (Nat.le_of_ble_eq_true rfl) ?_
  refine a_bipush (v := 29) C dX6_tellsPerson_64 (by decide) ?_
  refine a_iload_n C dX6_tellsPerson_66 3 rfl ?_
  obtain ⟨r5, hcr5, h⟩ := bd_some h
  refine a_callVl C dX6_tellsPerson_67 lv_X6_321 lm_X6_tellsDay ⟨rfl, rfl, by decide, by decide⟩ Kc_49 (m_X6_tellsDay C.2.2.2.2.2.2.1 hcr5) rfl rfl (Nat.le_of_ble_eq_true rfl) ?_
  refine a_lstore (lv' := [(4, _), (0, _), (1, _), (3, _)]) C dX6_tellsPerson_70 (by decide) rfl ?_
  refine a_ldc2 C dX6_tellsPerson_72 co_X6_319 ?_
  refine a_lload C dX6_tellsPerson_75 0 rfl ?_
  refine a_lmul C dX6_tellsPerson_77 ?_
  refine a_aload_n C dX6_tellsPerson_78 1 rfl ?_
  refine a_getr (k1 := 67) C dX6_tellsPerson_79 fl_X6_61 rfl Kc_49 rfl ?_
  refine a_iload_n C dX6_tellsPerson_82 3 rfl ?_
  obtain ⟨hb, h⟩ := ck_some h
  refine a_iald C dX6_tellsPerson_83 Kc_67 rfl hb ?_
  refine a_i2l C dX6_tellsPerson_84 ?_
  refine a_ladd C dX6_tellsPerson_85 ?_
  refine a_lstore (lv' := [(4, _), (0, _), (1, _), (3, _)]) C dX6_tellsPerson_86 (by decide) rfl ?_
  refine a_ldc2 C dX6_tellsPerson_88 co_X6_319 ?_
  refine a_lload C dX6_tellsPerson_91 0 rfl ?_
  refine a_lmul C dX6_tellsPerson_93 ?_
  refine a_aload_n C dX6_tellsPerson_94 1 rfl ?_
  refine a_iload_n C dX6_tellsPerson_95 3 rfl ?_
  refine a_iconst (v := 1) C dX6_tellsPerson_96 (by decide) ?_
  refine a_bipush (v := 12) C dX6_tellsPerson_97 (by decide) ?_
  refine a_iconst (v := 0) C dX6_tellsPerson_99 (by decide) ?_
  obtain ⟨r6, hcr6, h⟩ := bd_some h
  refine a_callVi C dX6_tellsPerson_100 lv_X6_234 lm_X6_dressOf ⟨rfl, rfl, by decide, by decide⟩ Kc_49 (m_X6_dressOf C.2.2.2.2.2.2.1 hcr6) rfl rfl (Nat.le_of_ble_eq_true rfl) ?_
  refine a_i2l C dX6_tellsPerson_103 ?_
  refine a_ladd C dX6_tellsPerson_104 ?_
  refine a_lstore (lv' := [(4, _), (0, _), (1, _), (3, _)]) C dX6_tellsPerson_105 (by decide) rfl ?_
  refine a_ldc2 C dX6_tellsPerson_107 co_X6_319 ?_
  refine a_lload C dX6_tellsPerson_110 0 rfl ?_
  refine a_lmul C dX6_tellsPerson_112 ?_
  refine a_aload_n C dX6_tellsPerson_113 1 rfl ?_
  refine a_iload_n C dX6_tellsPerson_114 3 rfl ?_
  refine a_iconst (v := 1) C dX6_tellsPerson_115 (by decide) ?_
  refine a_bipush (v := 12) C dX6_tellsPerson_116 (by decide) ?_
  refine a_iconst (v := 1) C dX6_tellsPerson_118 (by decide) ?_
  obtain ⟨r7, hcr7, h⟩ := bd_some h
  refine a_callVi C dX6_tellsPerson_119 lv_X6_234 lm_X6_dressOf ⟨rfl, rfl, by decide, by decide⟩ Kc_49 (m_X6_dressOf C.2.2.2.2.2.2.1 hcr7) rfl rfl (Nat.le_of_ble_eq_true rfl) ?_
  refine a_i2l C dX6_tellsPerson_122 ?_
  refine a_ladd C dX6_tellsPerson_123 ?_
  refine a_lstore (lv' := [(4, _), (0, _), (1, _), (3, _)]) C dX6_tellsPerson_124 (by decide) rfl ?_
  refine a_ldc2 C dX6_tellsPerson_126 co_X6_319 ?_
  refine a_lload C dX6_tellsPerson_129 0 rfl ?_
  refine a_lmul C dX6_tellsPerson_131 ?_
  refine a_aload_n C dX6_tellsPerson_132 1 rfl ?_
  refine a_iload_n C dX6_tellsPerson_133 3 rfl ?_
  obtain ⟨r8, hcr8, h⟩ := bd_some h
  refine a_callVi C dX6_tellsPerson_134 lv_X6_238 lm_X6_homeOf ⟨rfl, rfl, by decide, by decide⟩ Kc_49 (m_X6_homeOf C.2.2.2.2.2.2.1 hcr8) rfl rfl (Nat.le_of_ble_eq_true rfl) ?_
  refine a_i2l C dX6_tellsPerson_137 ?_
  refine a_ladd C dX6_tellsPerson_138 ?_
  refine a_lstore (lv' := [(4, _), (0, _), (1, _), (3, _)]) C dX6_tellsPerson_139 (by decide) rfl ?_
  refine a_ldc2 C dX6_tellsPerson_141 co_X6_319 ?_
  refine a_lload C dX6_tellsPerson_144 0 rfl ?_
  refine a_lmul C dX6_tellsPerson_146 ?_
  refine a_aload_n C dX6_tellsPerson_147 1 rfl ?_
  refine a_iload_n C dX6_tellsPerson_148 3 rfl ?_
  obtain ⟨r9, hcr9, h⟩ := bd_some h
  refine a_callVi C dX6_tellsPerson_149 lv_X6_275 lm_X6_whoseOf ⟨rfl, rfl, by decide, by decide⟩ Kc_49 (m_X6_whoseOf C.2.2.2.2.2.2.1 hcr9) rfl rfl (Nat.le_of_ble_eq_true rfl) ?_
  refine a_i2l C dX6_tellsPerson_152 ?_
  refine a_ladd C dX6_tellsPerson_153 ?_
  refine a_lstore (lv' := [(4, _), (0, _), (1, _), (3, _)]) C dX6_tellsPerson_154 (by decide) rfl ?_
  refine a_ldc2 C dX6_tellsPerson_156 co_X6_319 ?_
  refine a_lload C dX6_tellsPerson_159 0 rfl ?_
  refine a_lmul C dX6_tellsPerson_161 ?_
  refine a_aload_n C dX6_tellsPerson_162 1 rfl ?_
  refine a_iload_n C dX6_tellsPerson_163 3 rfl ?_
  obtain ⟨r10, hcr10, h⟩ := bd_some h
  refine a_callVi C dX6_tellsPerson_164 lv_X6_278 lm_X6_sortOf ⟨rfl, rfl, by decide, by decide⟩ Kc_49 (m_X6_sortOf C.2.2.2.2.2.2.1 hcr10) rfl rfl (Nat.le_of_ble_eq_true rfl) ?_
  refine a_i2l C dX6_tellsPerson_167 ?_
  refine a_ladd C dX6_tellsPerson_168 ?_
  refine a_lstore (lv' := [(4, _), (0, _), (1, _), (3, _)]) C dX6_tellsPerson_169 (by decide) rfl ?_
  refine a_ldc2 C dX6_tellsPerson_171 co_X6_319 ?_
  refine a_lload C dX6_tellsPerson_174 0 rfl ?_
  refine a_lmul C dX6_tellsPerson_176 ?_
  refine a_aload_n C dX6_tellsPerson_177 1 rfl ?_
  refine a_iload_n C dX6_tellsPerson_178 3 rfl ?_
  obtain ⟨r11, hcr11, h⟩ := bd_some h
  refine a_callVi C dX6_tellsPerson_179 lv_X6_287 lm_X6_askOf ⟨rfl, rfl, by decide, by decide⟩ Kc_49 (m_X6_askOf C.2.2.2.2.2.2.1 hcr11) rfl rfl (Nat.le_of_ble_eq_true rfl) ?_
  refine a_i2l C dX6_tellsPerson_182 ?_
  refine a_ladd C dX6_tellsPerson_183 ?_
  refine a_lstore (lv' := [(4, _), (0, _), (1, _), (3, _)]) C dX6_tellsPerson_184 (by decide) rfl ?_
  refine a_ldc2 C dX6_tellsPerson_186 co_X6_319 ?_
  refine a_lload C dX6_tellsPerson_189 0 rfl ?_
  refine a_lmul C dX6_tellsPerson_191 ?_
  refine a_aload_n C dX6_tellsPerson_192 1 rfl ?_
  refine a_iconst (v := 5) C dX6_tellsPerson_193 (by decide) ?_
  refine a_iload_n C dX6_tellsPerson_194 3 rfl ?_
  refine a_iconst (v := 0) C dX6_tellsPerson_195 (by decide) ?_
  obtain ⟨r12, hcr12, h⟩ := bd_some h
  refine a_callVl C dX6_tellsPerson_196 lv_X6_296 lm_X6_customOf ⟨rfl, rfl, by decide, by decide⟩ Kc_49 (m_X6_customOf C.2.2.2.2.2.2.1 hcr12) rfl rfl (Nat.le_of_ble_eq_true rfl) ?_
  refine a_ladd C dX6_tellsPerson_199 ?_
  refine a_lstore (lv' := [(4, _), (0, _), (1, _), (3, _)]) C dX6_tellsPerson_200 (by decide) rfl ?_
  refine a_ldc2 C dX6_tellsPerson_202 co_X6_319 ?_
  refine a_lload C dX6_tellsPerson_205 0 rfl ?_
  refine a_lmul C dX6_tellsPerson_207 ?_
  refine a_aload_n C dX6_tellsPerson_208 1 rfl ?_
  refine a_iconst (v := 5) C dX6_tellsPerson_209 (by decide) ?_
  refine a_iload_n C dX6_tellsPerson_210 3 rfl ?_
  refine a_iconst (v := 1) C dX6_tellsPerson_211 (by decide) ?_
  obtain ⟨r13, hcr13, h⟩ := bd_some h
  refine a_callVl C dX6_tellsPerson_212 lv_X6_296 lm_X6_customOf ⟨rfl, rfl, by decide, by decide⟩ Kc_49 (m_X6_customOf C.2.2.2.2.2.2.1 hcr13) rfl rfl (Nat.le_of_ble_eq_true rfl) ?_
  refine a_ladd C dX6_tellsPerson_215 ?_
  replace h := Option.some.inj h
  subst h
  exact a_lret C dX6_tellsPerson_216 hK
theorem m_X6_tellsPerson {Y : EY} (hY : HY Y) {x1 : Int64} {x3 : Int32} {M : Mem}  {r : Int64 × Mem} (h : f_X6_tellsPerson x1 x3 M = some r) : MX Y yX6_tellsPerson cX6_tellsPerson 6 (some .long) rm_X6_tellsPerson [.ref (Y.2.2.2.1 49), .long x1, .int x3] M (some (.long r.1)) r.2 := MX.of hY (by decide) (Nat.le_of_ble_eq_true rfl) (fun _ hR C => a_sub [0, 1, 2] (t_X6_tellsPerson C  h hR) rfl)
abbrev rm_X6_digest : Room := { frames := 9, cells := 0, slots := 0, locals := 214 }
abbrev At_X6_digest_6 (Y : EY) (X : CX)  (s : Int64 × Int32 × Mem) : Prop := AW Y X 5 6 [(0, .ref (Y.2.2.2.1 49)), (1, .long s.1), (3, .int s.2.1)] [] s.2.2
abbrev Ex_X6_digest_6 (Y : EY) (X : CX)  (s : Int64 × Int32 × Mem) : Prop := AW Y X 5 31 [(0, .ref (Y.2.2.2.1 49)), (1, .long s.1)] [] s.2.2
noncomputable def f_X6_digest_6_6b (x1 : Int64) (x3 : Int32) (M : Mem) : Option ((Int64 × Int32 × Mem) ⊕ (Int64 × Int32 × Mem)) :=
  (if (8 : Int32) ≤ x3 then some (.inr (x1, x3, M)) else Option.bind (f_X6_count x3 M) (fun r1 => some (.inl ((((31 : Int64) * x1) + (r1.1).toInt64), (x3 + (1 : Int32)), r1.2))))
theorem t_X6_digest_6_6b {Y : EY} {X : CX} (C : CK Y X cX6_digest RX6 5 (some .long) rm_X6_digest) {x1 : Int64} {x3 : Int32} {M : Mem}  {res : (Int64 × Int32 × Mem) ⊕ (Int64 × Int32 × Mem)} (h : f_X6_digest_6_6b x1 x3 M = some res) (hK : KL (At_X6_digest_6 Y X) (Ex_X6_digest_6 Y X) res) : AW Y X 5 6 [(0, .ref (Y.2.2.2.1 49)), (1, .long x1), (3, .int x3)] [] M := by
  unfold f_X6_digest_6_6b at h
  refine a_iload_n C dX6_digest_6 2 rfl ?_
  refine a_bipush (v := 8) C dX6_digest_7 (by decide) ?_
  refine a_icmp_ge (tgt := 31) C dX6_digest_9 (by decide) (fun hc => ?_) (fun hc => ?_)
  · replace h := ip hc h
    replace h := Option.some.inj h
    subst h
    exact a_sub [0, 1] (hK) rfl
  · replace h := iq hc h
    refine a_ldc2 C dX6_digest_12 co_X6_319 ?_
    refine a_lload_n C dX6_digest_15 1 rfl ?_
    refine a_lmul C dX6_digest_16 ?_
    refine a_aload_n C dX6_digest_17 0 rfl ?_
    refine a_iload_n C dX6_digest_18 2 rfl ?_
    obtain ⟨r1, hcr1, h⟩ := bd_some h
    refine a_callVi C dX6_digest_19 lv_X6_327 lm_X6_count ⟨rfl, rfl, by decide, by decide⟩ Kc_49 (m_X6_count C.2.2.2.2.2.2.1 hcr1) rfl rfl (Nat.le_of_ble_eq_true rfl) ?_
    refine a_i2l C dX6_digest_22 ?_
    refine a_ladd C dX6_digest_23 ?_
    refine a_lstore_n (lv' := [(1, _), (0, _), (3, _)]) C dX6_digest_24 rfl (by decide) rfl ?_
    refine a_iinc (v := 1) (lv' := [(3, _), (1, _), (0, _)]) C dX6_digest_25 2 rfl (by decide) (by decide) rfl ?_
    refine a_goto (tgt := 6) C dX6_digest_28 (by decide) ?_
    replace h := Option.some.inj h
    subst h
    exact a_sub [2, 1, 0] (hK) rfl
abbrev At_X6_digest_63 (Y : EY) (X : CX) (M : Mem) (s : Int64 × Int32) : Prop := AW Y X 5 63 [(0, .ref (Y.2.2.2.1 49)), (1, .long s.1), (3, .int s.2)] [] M
abbrev Ex_X6_digest_63 (Y : EY) (X : CX) (M : Mem) (s : Int64 × Int32) : Prop := AW Y X 5 136 [(0, .ref (Y.2.2.2.1 49)), (1, .long s.1)] [] M
abbrev At_X6_digest_74 (Y : EY) (X : CX) (x3 : Int32) (M : Mem) (s : Int64 × Int32) : Prop := AW Y X 5 74 [(0, .ref (Y.2.2.2.1 49)), (1, .long s.1), (3, .int x3), (4, .int s.2)] [] M
abbrev Ex_X6_digest_74 (Y : EY) (X : CX) (x3 : Int32) (M : Mem) (s : Int64 × Int32) : Prop := AW Y X 5 107 [(0, .ref (Y.2.2.2.1 49)), (1, .long s.1), (3, .int x3)] [] M
noncomputable def f_X6_digest_74_74b (x1 : Int64) (x3 : Int32) (x4 : Int32) (M : Mem) : Option ((Int64 × Int32) ⊕ (Int64 × Int32)) :=
  (if (6 : Int32) ≤ x4 then some (.inr (x1, x4)) else ck (inb (((6 : Int32) * x3) + x4) 48) (some (.inl ((((31 : Int64) * x1) + ((M 56 ((((6 : Int32) * x3) + x4)).toNatClampNeg)).toInt64), (x4 + (1 : Int32))))))
theorem t_X6_digest_74_74b {Y : EY} {X : CX} (C : CK Y X cX6_digest RX6 5 (some .long) rm_X6_digest) {x1 : Int64} {x3 : Int32} {x4 : Int32} {M : Mem}  {res : (Int64 × Int32) ⊕ (Int64 × Int32)} (h : f_X6_digest_74_74b x1 x3 x4 M = some res) (hK : KL (At_X6_digest_74 Y X x3 M) (Ex_X6_digest_74 Y X x3 M) res) : AW Y X 5 74 [(0, .ref (Y.2.2.2.1 49)), (1, .long x1), (3, .int x3), (4, .int x4)] [] M := by
  unfold f_X6_digest_74_74b at h
  refine a_iload C dX6_digest_74 3 rfl ?_
  refine a_bipush (v := 6) C dX6_digest_76 (by decide) ?_
  refine a_icmp_ge (tgt := 107) C dX6_digest_78 (by decide) (fun hc => ?_) (fun hc => ?_)
  · replace h := ip hc h
    replace h := Option.some.inj h
    subst h
    exact a_sub [0, 1, 2] (hK) rfl
  · replace h := iq hc h
    refine a_ldc2 C dX6_digest_81 co_X6_319 ?_
    refine a_lload_n C dX6_digest_84 1 rfl ?_
    refine a_lmul C dX6_digest_85 ?_
    refine a_aload_n C dX6_digest_86 0 rfl ?_
    refine a_getr (k1 := 56) C dX6_digest_87 fl_X6_28 rfl Kc_49 rfl ?_
    refine a_bipush (v := 6) C dX6_digest_90 (by decide) ?_
    refine a_iload_n C dX6_digest_92 2 rfl ?_
    refine a_imul C dX6_digest_93 ?_
    refine a_iload C dX6_digest_94 3 rfl ?_
    refine a_iadd C dX6_digest_96 ?_
    obtain ⟨hb, h⟩ := ck_some h
    refine a_iald C dX6_digest_97 Kc_56 rfl hb ?_
    refine a_i2l C dX6_digest_98 ?_
    refine a_ladd C dX6_digest_99 ?_
    refine a_lstore_n (lv' := [(1, _), (0, _), (3, _), (4, _)]) C dX6_digest_100 rfl (by decide) rfl ?_
    refine a_iinc (v := 1) (lv' := [(4, _), (1, _), (0, _), (3, _)]) C dX6_digest_101 3 rfl (by decide) (by decide) rfl ?_
    refine a_goto (tgt := 74) C dX6_digest_104 (by decide) ?_
    replace h := Option.some.inj h
    subst h
    exact a_sub [2, 1, 3, 0] (hK) rfl
noncomputable def f_X6_digest_63_63b (x1 : Int64) (x3 : Int32) (M : Mem) : Option ((Int64 × Int32) ⊕ (Int64 × Int32)) :=
  (if (M 49 7) ≤ x3 then some (.inr (x1, x3)) else Option.bind (loop (fun s7 : Int64 × Int32 => f_X6_digest_74_74b s7.1 x3 s7.2 M) (x1, (0 : Int32))) (fun s8 => Option.bind (f_X6_tellsDrawer s8.1 (6 : Int32) x3 M) (fun r9 => Option.bind (f_X6_tellsDrawer r9 (20 : Int32) x3 M) (fun r10 => Option.bind (f_X6_tellsDrawer r10 (29 : Int32) x3 M) (fun r11 => some (.inl (r11, (x3 + (1 : Int32)))))))))
theorem t_X6_digest_63_63b {Y : EY} {X : CX} (C : CK Y X cX6_digest RX6 5 (some .long) rm_X6_digest) {x1 : Int64} {x3 : Int32} {M : Mem}  {res : (Int64 × Int32) ⊕ (Int64 × Int32)} (h : f_X6_digest_63_63b x1 x3 M = some res) (hK : KL (At_X6_digest_63 Y X M) (Ex_X6_digest_63 Y X M) res) : AW Y X 5 63 [(0, .ref (Y.2.2.2.1 49)), (1, .long x1), (3, .int x3)] [] M := by
  unfold f_X6_digest_63_63b at h
  refine a_iload_n C dX6_digest_63 2 rfl ?_
  refine a_aload_n C dX6_digest_64 0 rfl ?_
  refine a_geti C dX6_digest_65 fl_X6_116 rfl Kc_49 ?_
  refine a_icmp_ge (tgt := 136) C dX6_digest_68 (by decide) (fun hc => ?_) (fun hc => ?_)
  · replace h := ip hc h
    replace h := Option.some.inj h
    subst h
    exact a_sub [0, 1] (hK) rfl
  · replace h := iq hc h
    refine a_iconst (v := 0) C dX6_digest_71 (by decide) ?_
    refine a_istore (lv' := [(4, _), (0, _), (1, _), (3, _)]) C dX6_digest_72 (by decide) rfl ?_
    obtain ⟨s8, hl, h⟩ := bd_some h
    have hE : Ex_X6_digest_74 Y X x3 M s8 := by
      refine a_aload_n C dX6_digest_107 0 rfl ?_
      refine a_aload_n C dX6_digest_108 0 rfl ?_
      refine a_aload_n C dX6_digest_109 0 rfl ?_
      refine a_lload_n C dX6_digest_110 1 rfl ?_
      refine a_bipush (v := 6) C dX6_digest_111 (by decide) ?_
      refine a_iload_n C dX6_digest_113 2 rfl ?_
      obtain ⟨r9, hcr9, h⟩ := bd_some h
      refine a_callVl C dX6_digest_114 lv_X6_330 lm_X6_tellsDrawer ⟨rfl, rfl, by decide, by decide⟩ Kc_49 (m_X6_tellsDrawer C.2.2.2.2.2.2.1 hcr9) rfl rfl (Nat.le_of_ble_eq_true rfl) ?_
      refine a_bipush (v := 20) C dX6_digest_117 (by decide) ?_
      refine a_iload_n C dX6_digest_119 2 rfl ?_
      obtain ⟨r10, hcr10, h⟩ := bd_some h
      refine a_callVl C dX6_digest_120 lv_X6_330 lm_X6_tellsDrawer ⟨rfl, rfl, by decide, by decide⟩ Kc_49 (m_X6_tellsDrawer C.2.2.2.2.2.2.1 hcr10) rfl rfl (Nat.le_of_ble_eq_true rfl) ?_
      refine a_bipush (v := 29) C dX6_digest_123 (by decide) ?_
      refine a_iload_n C dX6_digest_125 2 rfl ?_
      obtain ⟨r11, hcr11, h⟩ := bd_some h
      refine a_callVl C dX6_digest_126 lv_X6_330 lm_X6_tellsDrawer ⟨rfl, rfl, by decide, by decide⟩ Kc_49 (m_X6_tellsDrawer C.2.2.2.2.2.2.1 hcr11) rfl rfl (Nat.le_of_ble_eq_true rfl) ?_
      refine a_lstore_n (lv' := [(1, _), (0, _), (3, _)]) C dX6_digest_129 rfl (by decide) rfl ?_
      refine a_iinc (v := 1) (lv' := [(3, _), (1, _), (0, _)]) C dX6_digest_130 2 rfl (by decide) (by decide) rfl ?_
      refine a_goto (tgt := 63) C dX6_digest_133 (by decide) ?_
      replace h := Option.some.inj h
      subst h
      exact a_sub [2, 1, 0] (hK) rfl
    have hA := aw_loop (At_X6_digest_74 Y X x3 M) (Ex_X6_digest_74 Y X x3 M) (fun _ _ hb hk => t_X6_digest_74_74b C hb hk) hl hE
    exact a_sub [1, 2, 3, 0] (hA) rfl
abbrev At_X6_digest_138 (Y : EY) (X : CX)  (s : Int64 × Int32 × Mem) : Prop := AW Y X 5 138 [(0, .ref (Y.2.2.2.1 49)), (1, .long s.1), (3, .int s.2.1)] [] s.2.2
abbrev Ex_X6_digest_138 (Y : EY) (X : CX)  (s : Int64 × Int32 × Mem) : Prop := AW Y X 5 159 [(0, .ref (Y.2.2.2.1 49)), (1, .long s.1)] [] s.2.2
noncomputable def f_X6_digest_138_138b (x1 : Int64) (x3 : Int32) (M : Mem) : Option ((Int64 × Int32 × Mem) ⊕ (Int64 × Int32 × Mem)) :=
  (if (M 49 9) ≤ x3 then some (.inr (x1, x3, M)) else Option.bind (f_X6_tellsPerson x1 x3 M) (fun r14 => some (.inl (r14.1, (x3 + (1 : Int32)), r14.2))))
theorem t_X6_digest_138_138b {Y : EY} {X : CX} (C : CK Y X cX6_digest RX6 5 (some .long) rm_X6_digest) {x1 : Int64} {x3 : Int32} {M : Mem}  {res : (Int64 × Int32 × Mem) ⊕ (Int64 × Int32 × Mem)} (h : f_X6_digest_138_138b x1 x3 M = some res) (hK : KL (At_X6_digest_138 Y X) (Ex_X6_digest_138 Y X) res) : AW Y X 5 138 [(0, .ref (Y.2.2.2.1 49)), (1, .long x1), (3, .int x3)] [] M := by
  unfold f_X6_digest_138_138b at h
  refine a_iload_n C dX6_digest_138 2 rfl ?_
  refine a_aload_n C dX6_digest_139 0 rfl ?_
  refine a_geti C dX6_digest_140 fl_X6_124 rfl Kc_49 ?_
  refine a_icmp_ge (tgt := 159) C dX6_digest_143 (by decide) (fun hc => ?_) (fun hc => ?_)
  · replace h := ip hc h
    replace h := Option.some.inj h
    subst h
    exact a_sub [0, 1] (hK) rfl
  · replace h := iq hc h
    refine a_aload_n C dX6_digest_146 0 rfl ?_
    refine a_lload_n C dX6_digest_147 1 rfl ?_
    refine a_iload_n C dX6_digest_148 2 rfl ?_
    obtain ⟨r14, hcr14, h⟩ := bd_some h
    refine a_callVl C dX6_digest_149 lv_X6_333 lm_X6_tellsPerson ⟨rfl, rfl, by decide, by decide⟩ Kc_49 (m_X6_tellsPerson C.2.2.2.2.2.2.1 hcr14) rfl rfl (Nat.le_of_ble_eq_true rfl) ?_
    refine a_lstore_n (lv' := [(1, _), (0, _), (3, _)]) C dX6_digest_152 rfl (by decide) rfl ?_
    refine a_iinc (v := 1) (lv' := [(3, _), (1, _), (0, _)]) C dX6_digest_153 2 rfl (by decide) (by decide) rfl ?_
    refine a_goto (tgt := 138) C dX6_digest_156 (by decide) ?_
    replace h := Option.some.inj h
    subst h
    exact a_sub [2, 1, 0] (hK) rfl
abbrev At_X6_digest_189 (Y : EY) (X : CX)  (s : Int64 × Int32 × Mem) : Prop := AW Y X 5 189 [(0, .ref (Y.2.2.2.1 49)), (1, .long s.1), (3, .int s.2.1)] [] s.2.2
abbrev Ex_X6_digest_189 (Y : EY) (X : CX)  (s : Int64 × Int32 × Mem) : Prop := AW Y X 5 213 [(0, .ref (Y.2.2.2.1 49)), (1, .long s.1)] [] s.2.2
noncomputable def f_X6_digest_189_189b (x1 : Int64) (x3 : Int32) (M : Mem) : Option ((Int64 × Int32 × Mem) ⊕ (Int64 × Int32 × Mem)) :=
  (if (3 : Int32) ≤ x3 then some (.inr (x1, x3, M)) else Option.bind (f_X6_trayBy x3 M) (fun r20 => some (.inl ((((31 : Int64) * x1) + (r20.1).toInt64), (x3 + (1 : Int32)), r20.2))))
theorem t_X6_digest_189_189b {Y : EY} {X : CX} (C : CK Y X cX6_digest RX6 5 (some .long) rm_X6_digest) {x1 : Int64} {x3 : Int32} {M : Mem}  {res : (Int64 × Int32 × Mem) ⊕ (Int64 × Int32 × Mem)} (h : f_X6_digest_189_189b x1 x3 M = some res) (hK : KL (At_X6_digest_189 Y X) (Ex_X6_digest_189 Y X) res) : AW Y X 5 189 [(0, .ref (Y.2.2.2.1 49)), (1, .long x1), (3, .int x3)] [] M := by
  unfold f_X6_digest_189_189b at h
  refine a_iload_n C dX6_digest_189 2 rfl ?_
  refine a_iconst (v := 3) C dX6_digest_190 (by decide) ?_
  refine a_icmp_ge (tgt := 213) C dX6_digest_191 (by decide) (fun hc => ?_) (fun hc => ?_)
  · replace h := ip hc h
    replace h := Option.some.inj h
    subst h
    exact a_sub [0, 1] (hK) rfl
  · replace h := iq hc h
    refine a_ldc2 C dX6_digest_194 co_X6_319 ?_
    refine a_lload_n C dX6_digest_197 1 rfl ?_
    refine a_lmul C dX6_digest_198 ?_
    refine a_aload_n C dX6_digest_199 0 rfl ?_
    refine a_iload_n C dX6_digest_200 2 rfl ?_
    obtain ⟨r20, hcr20, h⟩ := bd_some h
    refine a_callVi C dX6_digest_201 lv_X6_250 lm_X6_trayBy ⟨rfl, rfl, by decide, by decide⟩ Kc_49 (m_X6_trayBy C.2.2.2.2.2.2.1 hcr20) rfl rfl (Nat.le_of_ble_eq_true rfl) ?_
    refine a_i2l C dX6_digest_204 ?_
    refine a_ladd C dX6_digest_205 ?_
    refine a_lstore_n (lv' := [(1, _), (0, _), (3, _)]) C dX6_digest_206 rfl (by decide) rfl ?_
    refine a_iinc (v := 1) (lv' := [(3, _), (1, _), (0, _)]) C dX6_digest_207 2 rfl (by decide) (by decide) rfl ?_
    refine a_goto (tgt := 189) C dX6_digest_210 (by decide) ?_
    replace h := Option.some.inj h
    subst h
    exact a_sub [2, 1, 0] (hK) rfl
noncomputable def f_X6_digest  (M : Mem) : Option (Int64 × Mem) :=
  Option.bind (loop (fun s2 : Int64 × Int32 × Mem => f_X6_digest_6_6b s2.1 s2.2.1 s2.2.2) ((17 : Int64), (0 : Int32), M)) (fun s3 => Option.bind (f_X6_readsText (0 : Int32) s3.2.2) (fun r4 => Option.bind (f_X6_readsText (1 : Int32) r4.2) (fun r5 => Option.bind (f_X6_lives r5.2) (fun r6 => Option.bind (loop (fun s12 : Int64 × Int32 => f_X6_digest_63_63b s12.1 s12.2 r6) ((((31 : Int64) * (((31 : Int64) * s3.1) + (r4.1).toInt64)) + (r5.1).toInt64), (0 : Int32))) (fun s13 => Option.bind (loop (fun s15 : Int64 × Int32 × Mem => f_X6_digest_138_138b s15.1 s15.2.1 s15.2.2) (s13.1, (0 : Int32), r6)) (fun s16 => Option.bind (f_X6_lives s16.2.2) (fun r17 => Option.bind (f_X6_astrayNow r17) (fun r18 => Option.bind (f_X6_crowdNow r17) (fun r19 => Option.bind (loop (fun s21 : Int64 × Int32 × Mem => f_X6_digest_189_189b s21.1 s21.2.1 s21.2.2) ((((31 : Int64) * (((31 : Int64) * s16.1) + (r18).toInt64)) + (r19).toInt64), (0 : Int32), r17)) (fun s22 => Option.bind (f_X6_refuseOf (-1 : Int32) s22.2.2) (fun r23 => Option.bind (f_X6_refuseOf (0 : Int32) r23.2) (fun r24 => Option.bind (f_X6_neverNow r24.2) (fun r25 => Option.bind (f_X6_yearOf (7 : Int32) (6 : Int32) (0 : Int32) r25.2) (fun r26 => Option.bind (f_X6_yearOf (7 : Int32) (6 : Int32) (1 : Int32) r26.2) (fun r27 => some ((((31 : Int64) * (((31 : Int64) * (((31 : Int64) * (((31 : Int64) * (((31 : Int64) * s22.1) + (r23.1).toInt64)) + (r24.1).toInt64)) + (r25.1).toInt64)) + (r26.1).toInt64)) + (r27.1).toInt64), r27.2))))))))))))))))
theorem t_X6_digest {Y : EY} {X : CX} (C : CK Y X cX6_digest RX6 5 (some .long) rm_X6_digest)  {M : Mem}  {res : Int64 × Mem} (h : f_X6_digest M = some res) (hK : RK Y X (some (.long res.1)) res.2) : AW Y X 5 0 [(0, .ref (Y.2.2.2.1 49))] [] M := by
  unfold f_X6_digest at h
  refine a_ldc2 C dX6_digest_0 co_X6_325 ?_
  refine a_lstore_n (lv' := [(1, _), (0, _)]) C dX6_digest_3 rfl (by decide) rfl ?_
  refine a_iconst (v := 0) C dX6_digest_4 (by decide) ?_
  refine a_istore_n (lv' := [(3, _), (1, _), (0, _)]) C dX6_digest_5 rfl (by decide) rfl ?_
  obtain ⟨s3, hl, h⟩ := bd_some h
  have hE : Ex_X6_digest_6 Y X s3 := by
    refine a_ldc2 C dX6_digest_31 co_X6_319 ?_
    refine a_lload_n C dX6_digest_34 1 rfl ?_
    refine a_lmul C dX6_digest_35 ?_
    refine a_aload_n C dX6_digest_36 0 rfl ?_
    refine a_iconst (v := 0) C dX6_digest_37 (by decide) ?_
    obtain ⟨r4, hcr4, h⟩ := bd_some h
    refine a_callVi C dX6_digest_38 lv_X6_137 lm_X6_readsText ⟨rfl, rfl, by decide, by decide⟩ Kc_49 (m_X6_readsText C.2.2.2.2.2.2.1 hcr4) rfl rfl (Nat.le_of_ble_eq_true rfl) ?_
    refine a_i2l C dX6_digest_41 ?_
    refine a_ladd C dX6_digest_42 ?_
    refine a_lstore_n (lv' := [(1, _), (0, _)]) C dX6_digest_43 rfl (by decide) rfl ?_
    refine a_ldc2 C dX6_digest_44 co_X6_319 ?_
    refine a_lload_n C dX6_digest_47 0 rfl ?_
    refine a_lmul C dX6_digest_48 ?_
    refine a_aload_n C dX6_digest_49 1 rfl ?_
    refine a_iconst (v := 1) C dX6_digest_50 (by decide) ?_
    obtain ⟨r5, hcr5, h⟩ := bd_some h
    refine a_callVi C dX6_digest_51 lv_X6_137 lm_X6_readsText ⟨rfl, rfl, by decide, by decide⟩ Kc_49 (m_X6_readsText C.2.2.2.2.2.2.1 hcr5) rfl rfl (Nat.le_of_ble_eq_true rfl) ?_
    refine a_i2l C dX6_digest_54 ?_
    refine a_ladd C dX6_digest_55 ?_
    refine a_lstore_n (lv' := [(1, _), (0, _)]) C dX6_digest_56 rfl (by decide) rfl ?_
    refine a_aload_n C dX6_digest_57 1 rfl ?_
    obtain ⟨r6, hcr6, h⟩ := bd_some h
    refine a_callVv C dX6_digest_58 lv_X6_213 lm_X6_lives ⟨rfl, rfl, by decide, by decide⟩ Kc_49 (m_X6_lives C.2.2.2.2.2.2.1 hcr6) rfl rfl (Nat.le_of_ble_eq_true rfl) ?_
    refine a_iconst (v := 0) C dX6_digest_61 (by decide) ?_
    refine a_istore_n (lv' := [(3, _), (1, _), (0, _)]) C dX6_digest_62 rfl (by decide) rfl ?_
    obtain ⟨s13, hl, h⟩ := bd_some h
    have hE : Ex_X6_digest_63 Y X r6 s13 := by
      refine a_iconst (v := 0) C dX6_digest_136 (by decide) ?_
      refine a_istore_n (lv' := [(3, _), (0, _), (1, _)]) C dX6_digest_137 rfl (by decide) rfl ?_
      obtain ⟨s16, hl, h⟩ := bd_some h
      have hE : Ex_X6_digest_138 Y X s16 := by
        refine a_aload_n C dX6_digest_159 0 rfl ?_
        obtain ⟨r17, hcr17, h⟩ := bd_some h
        refine a_callVv C dX6_digest_160 lv_X6_213 lm_X6_lives ⟨rfl, rfl, by decide, by decide⟩ Kc_49 (m_X6_lives C.2.2.2.2.2.2.1 hcr17) rfl rfl (Nat.le_of_ble_eq_true rfl) ?_
        refine a_ldc2 C dX6_digest_163 co_X6_319 ?_
        refine a_lload_n C dX6_digest_166 1 rfl ?_
        refine a_lmul C dX6_digest_167 ?_
        refine a_aload_n C dX6_digest_168 0 rfl ?_
        obtain ⟨r18, hcr18, h⟩ := bd_some h
        refine a_callVi C dX6_digest_169 lv_X6_228 lm_X6_astrayNow ⟨rfl, rfl, by decide, by decide⟩ Kc_49 (m_X6_astrayNow C.2.2.2.2.2.2.1 hcr18) rfl rfl (Nat.le_of_ble_eq_true rfl) ?_
        refine a_i2l C dX6_digest_172 ?_
        refine a_ladd C dX6_digest_173 ?_
        refine a_lstore_n (lv' := [(1, _), (0, _)]) C dX6_digest_174 rfl (by decide) rfl ?_
        refine a_ldc2 C dX6_digest_175 co_X6_319 ?_
        refine a_lload_n C dX6_digest_178 0 rfl ?_
        refine a_lmul C dX6_digest_179 ?_
        refine a_aload_n C dX6_digest_180 1 rfl ?_
        obtain ⟨r19, hcr19, h⟩ := bd_some h
        refine a_callVi C dX6_digest_181 lv_X6_231 lm_X6_crowdNow ⟨rfl, rfl, by decide, by decide⟩ Kc_49 (m_X6_crowdNow C.2.2.2.2.2.2.1 hcr19) rfl rfl (Nat.le_of_ble_eq_true rfl) ?_
        refine a_i2l C dX6_digest_184 ?_
        refine a_ladd C dX6_digest_185 ?_
        refine a_lstore_n (lv' := [(1, _), (0, _)]) C dX6_digest_186 rfl (by decide) rfl ?_
        refine a_iconst (v := 0) C dX6_digest_187 (by decide) ?_
        refine a_istore_n (lv' := [(3, _), (1, _), (0, _)]) C dX6_digest_188 rfl (by decide) rfl ?_
        obtain ⟨s22, hl, h⟩ := bd_some h
        have hE : Ex_X6_digest_189 Y X s22 := by
          refine a_ldc2 C dX6_digest_213 co_X6_319 ?_
          refine a_lload_n C dX6_digest_216 1 rfl ?_
          refine a_lmul C dX6_digest_217 ?_
          refine a_aload_n C dX6_digest_218 0 rfl ?_
          refine a_iconst (v := -1) C dX6_digest_219 (by decide) ?_
          obtain ⟨r23, hcr23, h⟩ := bd_some h
          refine a_callVi C dX6_digest_220 lv_X6_258 lm_X6_refuseOf ⟨rfl, rfl, by decide, by decide⟩ Kc_49 (m_X6_refuseOf C.2.2.2.2.2.2.1 hcr23) rfl rfl (Nat.le_of_ble_eq_true rfl) ?_
          refine a_i2l C dX6_digest_223 ?_
          refine a_ladd C dX6_digest_224 ?_
          refine a_lstore_n (lv' := [(1, _), (0, _)]) C dX6_digest_225 rfl (by decide) rfl ?_
          refine a_ldc2 C dX6_digest_226 co_X6_319 ?_
          refine a_lload_n C dX6_digest_229 0 rfl ?_
          refine a_lmul C dX6_digest_230 ?_
          refine a_aload_n C dX6_digest_231 1 rfl ?_
          refine a_iconst (v := 0) C dX6_digest_232 (by decide) ?_
          obtain ⟨r24, hcr24, h⟩ := bd_some h
          refine a_callVi C dX6_digest_233 lv_X6_258 lm_X6_refuseOf ⟨rfl, rfl, by decide, by decide⟩ Kc_49 (m_X6_refuseOf C.2.2.2.2.2.2.1 hcr24) rfl rfl (Nat.le_of_ble_eq_true rfl) ?_
          refine a_i2l C dX6_digest_236 ?_
          refine a_ladd C dX6_digest_237 ?_
          refine a_lstore_n (lv' := [(1, _), (0, _)]) C dX6_digest_238 rfl (by decide) rfl ?_
          refine a_ldc2 C dX6_digest_239 co_X6_319 ?_
          refine a_lload_n C dX6_digest_242 0 rfl ?_
          refine a_lmul C dX6_digest_243 ?_
          refine a_aload_n C dX6_digest_244 1 rfl ?_
          obtain ⟨r25, hcr25, h⟩ := bd_some h
          refine a_callVi C dX6_digest_245 lv_X6_272 lm_X6_neverNow ⟨rfl, rfl, by decide, by decide⟩ Kc_49 (m_X6_neverNow C.2.2.2.2.2.2.1 hcr25) rfl rfl (Nat.le_of_ble_eq_true rfl) ?_
          refine a_i2l C dX6_digest_248 ?_
          refine a_ladd C dX6_digest_249 ?_
          refine a_lstore_n (lv' := [(1, _), (0, _)]) C dX6_digest_250 rfl (by decide) rfl ?_
          refine a_ldc2 C dX6_digest_251 co_X6_319 ?_
          refine a_lload_n C dX6_digest_254 0 rfl ?_
          refine a_lmul C dX6_digest_255 ?_
          refine a_aload_n C dX6_digest_256 1 rfl ?_
          refine a_bipush (v := 7) C dX6_digest_257 (by decide) ?_
          refine a_bipush (v := 6) C dX6_digest_259 (by decide) ?_
          refine a_iconst (v := 0) C dX6_digest_261 (by decide) ?_
          obtain ⟨r26, hcr26, h⟩ := bd_some h
          refine a_callVi C dX6_digest_262 lv_X6_316 lm_X6_yearOf ⟨rfl, rfl, by decide, by decide⟩ Kc_49 (m_X6_yearOf C.2.2.2.2.2.2.1 hcr26) rfl rfl (Nat.le_of_ble_eq_true rfl) ?_
          refine a_i2l C dX6_digest_265 ?_
          refine a_ladd C dX6_digest_266 ?_
          refine a_lstore_n (lv' := [(1, _), (0, _)]) C dX6_digest_267 rfl (by decide) rfl ?_
          refine a_ldc2 C dX6_digest_268 co_X6_319 ?_
          refine a_lload_n C dX6_digest_271 0 rfl ?_
          refine a_lmul C dX6_digest_272 ?_
          refine a_aload_n C dX6_digest_273 1 rfl ?_
          refine a_bipush (v := 7) C dX6_digest_274 (by decide) ?_
          refine a_bipush (v := 6) C dX6_digest_276 (by decide) ?_
          refine a_iconst (v := 1) C dX6_digest_278 (by decide) ?_
          obtain ⟨r27, hcr27, h⟩ := bd_some h
          refine a_callVi C dX6_digest_279 lv_X6_316 lm_X6_yearOf ⟨rfl, rfl, by decide, by decide⟩ Kc_49 (m_X6_yearOf C.2.2.2.2.2.2.1 hcr27) rfl rfl (Nat.le_of_ble_eq_true rfl) ?_
          refine a_i2l C dX6_digest_282 ?_
          refine a_ladd C dX6_digest_283 ?_
          replace h := Option.some.inj h
          subst h
          exact a_lret C dX6_digest_284 hK
        have hA := aw_loop (At_X6_digest_189 Y X) (Ex_X6_digest_189 Y X) (fun _ _ hb hk => t_X6_digest_189_189b C hb hk) hl hE
        exact a_sub [2, 1, 0] (hA) rfl
      have hA := aw_loop (At_X6_digest_138 Y X) (Ex_X6_digest_138 Y X) (fun _ _ hb hk => t_X6_digest_138_138b C hb hk) hl hE
      exact a_sub [1, 2, 0] (hA) rfl
    have hA := aw_loop (At_X6_digest_63 Y X r6) (Ex_X6_digest_63 Y X r6) (fun _ _ hb hk => t_X6_digest_63_63b C hb hk) hl hE
    exact a_sub [2, 1, 0] (hA) rfl
  have hA := aw_loop (At_X6_digest_6 Y X) (Ex_X6_digest_6 Y X) (fun _ _ hb hk => t_X6_digest_6_6b C hb hk) hl hE
  exact a_sub [2, 1, 0] (hA) rfl
theorem m_X6_digest {Y : EY} (hY : HY Y)  {M : Mem}  {r : Int64 × Mem} (h : f_X6_digest M = some r) : MX Y yX6_digest cX6_digest 5 (some .long) rm_X6_digest [.ref (Y.2.2.2.1 49)] M (some (.long r.1)) r.2 := MX.of hY (by decide) (Nat.le_of_ble_eq_true rfl) (fun _ hR C => a_sub [0] (t_X6_digest C  h hR) rfl)
