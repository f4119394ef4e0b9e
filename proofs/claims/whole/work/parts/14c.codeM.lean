abbrev rm_X6_astray : Room := { frames := 6, cells := 0, slots := 0, locals := 137 }
noncomputable def f_X6_astray  (M : Mem) : Option (Int32 × Mem) :=
  Option.bind (f_X6_find M) (fun r1 => Option.bind (f_X6_astrayNow r1) (fun r2 => some (r2, r1)))
theorem t_X6_astray {Y : EY} {X : CX} (C : CK Y X cX6_astray RX6 1 (some .int) rm_X6_astray)  {M : Mem}  {res : Int32 × Mem} (h : f_X6_astray M = some res) (hK : RK Y X (some (.int res.1)) res.2) : AW Y X 1 0 [(0, .ref (Y.2.2.2.1 49))] [] M := by
  unfold f_X6_astray at h
  refine a_aload_n C dX6_astray_0 0 rfl ?_
  obtain ⟨r1, hcr1, h⟩ := bd_some h
  refine a_callVv C dX6_astray_1 lv_X6_216 lm_X6_find ⟨rfl, rfl, by decide, by decide⟩ Kc_49 (m_X6_find C.2.2.2.2.2.2.1 hcr1) rfl rfl (Nat.le_of_ble_eq_true rfl) ?_
  refine a_aload_n C dX6_astray_4 0 rfl ?_
  obtain ⟨r2, hcr2, h⟩ := bd_some h
  refine a_callVi C dX6_astray_5 lv_X6_228 lm_X6_astrayNow ⟨rfl, rfl, by decide, by decide⟩ Kc_49 (m_X6_astrayNow C.2.2.2.2.2.2.1 hcr2) rfl rfl (Nat.le_of_ble_eq_true rfl) ?_
  replace h := Option.some.inj h
  subst h
  exact a_iret C dX6_astray_8 hK
theorem m_X6_astray {Y : EY} (hY : HY Y)  {M : Mem}  {r : Int32 × Mem} (h : f_X6_astray M = some r) : MX Y yX6_astray cX6_astray 1 (some .int) rm_X6_astray [.ref (Y.2.2.2.1 49)] M (some (.int r.1)) r.2 := MX.of hY (by decide) (Nat.le_of_ble_eq_true rfl) (fun _ hR C => a_sub [0] (t_X6_astray C  h hR) rfl)
abbrev rm_X6_crowdNow : Room := { frames := 1, cells := 0, slots := 0, locals := 21 }
abbrev At_X6_crowdNow_6 (Y : EY) (X : CX) (M : Mem) (s : Int32 × Int32 × Int32) : Prop := AW Y X 6 6 [(0, .ref (Y.2.2.2.1 49)), (1, .int s.1), (2, .int s.2.1), (3, .int s.2.2)] [] M
abbrev Ex_X6_crowdNow_6 (Y : EY) (X : CX) (M : Mem) (s : Int32 × Int32 × Int32) : Prop := AW Y X 6 85 [(1, .int s.1)] [] M
abbrev At_X6_crowdNow_20 (Y : EY) (X : CX) (x1 : Int32) (x2 : Int32) (x3 : Int32) (M : Mem) (s : Int32 × Int32) : Prop := AW Y X 6 20 [(0, .ref (Y.2.2.2.1 49)), (1, .int x1), (2, .int x2), (3, .int x3), (4, .int s.1), (5, .int s.2)] [] M
abbrev Ex_X6_crowdNow_20 (Y : EY) (X : CX) (x1 : Int32) (x2 : Int32) (x3 : Int32) (M : Mem) (s : Int32 × Int32) : Prop := AW Y X 6 60 [(0, .ref (Y.2.2.2.1 49)), (1, .int x1), (2, .int x2), (3, .int x3), (4, .int s.1)] [] M
noncomputable def f_X6_crowdNow_51_20 (x1 : Int32) (x2 : Int32) (x3 : Int32) (x5 : Int32) (t0 : Int32) (t1 : Int32) (M : Mem) : Option ((Int32 × Int32) ⊕ (Int32 × Int32)) :=
  some (.inl ((t0 + t1), (x5 + (1 : Int32))))
theorem t_X6_crowdNow_51_20 {Y : EY} {X : CX} (C : CK Y X cX6_crowdNow RX6 6 (some .int) rm_X6_crowdNow) {x1 : Int32} {x2 : Int32} {x3 : Int32} {x5 : Int32} {t0 : Int32} {t1 : Int32} {M : Mem}  {res : (Int32 × Int32) ⊕ (Int32 × Int32)} (h : f_X6_crowdNow_51_20 x1 x2 x3 x5 t0 t1 M = some res) (hK : KL (At_X6_crowdNow_20 Y X x1 x2 x3 M) (Ex_X6_crowdNow_20 Y X x1 x2 x3 M) res) : AW Y X 6 51 [(0, .ref (Y.2.2.2.1 49)), (1, .int x1), (2, .int x2), (3, .int x3), (5, .int x5)] [.int t1, .int t0] M := by
  unfold f_X6_crowdNow_51_20 at h
  refine a_iadd C dX6_crowdNow_51 ?_
  refine a_istore (lv' := [(4, _), (0, _), (1, _), (2, _), (3, _), (5, _)]) C dX6_crowdNow_52 (by decide) rfl ?_
  refine a_iinc (v := 1) (lv' := [(5, _), (4, _), (0, _), (1, _), (2, _), (3, _)]) C dX6_crowdNow_54 5 rfl (by decide) (by decide) rfl ?_
  refine a_goto (tgt := 20) C dX6_crowdNow_57 (by decide) ?_
  replace h := Option.some.inj h
  subst h
  exact a_sub [2, 3, 4, 5, 1, 0] (hK) rfl
noncomputable def f_X6_crowdNow_20_20b (x1 : Int32) (x2 : Int32) (x3 : Int32) (x4 : Int32) (x5 : Int32) (M : Mem) : Option ((Int32 × Int32) ⊕ (Int32 × Int32)) :=
  (if (M 49 9) ≤ x5 then some (.inr (x4, x5)) else ck (inb ((232 : Int32) + x5) 240) ((if (M 65 (((232 : Int32) + x5)).toNatClampNeg) = x3 then f_X6_crowdNow_51_20 x1 x2 x3 x5 x4 (1 : Int32) M else f_X6_crowdNow_51_20 x1 x2 x3 x5 x4 (0 : Int32) M)))
theorem t_X6_crowdNow_20_20b {Y : EY} {X : CX} (C : CK Y X cX6_crowdNow RX6 6 (some .int) rm_X6_crowdNow) {x1 : Int32} {x2 : Int32} {x3 : Int32} {x4 : Int32} {x5 : Int32} {M : Mem}  {res : (Int32 × Int32) ⊕ (Int32 × Int32)} (h : f_X6_crowdNow_20_20b x1 x2 x3 x4 x5 M = some res) (hK : KL (At_X6_crowdNow_20 Y X x1 x2 x3 M) (Ex_X6_crowdNow_20 Y X x1 x2 x3 M) res) : AW Y X 6 20 [(0, .ref (Y.2.2.2.1 49)), (1, .int x1), (2, .int x2), (3, .int x3), (4, .int x4), (5, .int x5)] [] M := by
  unfold f_X6_crowdNow_20_20b at h
  refine a_iload C dX6_crowdNow_20 5 rfl ?_
  refine a_aload_n C dX6_crowdNow_22 0 rfl ?_
  refine a_geti C dX6_crowdNow_23 fl_X6_124 rfl Kc_49 ?_
  refine a_icmp_ge (tgt := 60) C dX6_crowdNow_26 (by decide) (fun hc => ?_) (fun hc => ?_)
  · replace h := ip hc h
    replace h := Option.some.inj h
    subst h
    exact a_sub [0, 1, 2, 3, 4] (hK) rfl
  · replace h := iq hc h
    refine a_iload C dX6_crowdNow_29 4 rfl ?_
    refine a_aload_n C dX6_crowdNow_31 0 rfl ?_
    refine a_getr (k1 := 65) C dX6_crowdNow_32 fl_X6_55 rfl Kc_49 rfl ?_
    refine a_sipush (v := 232) C dX6_crowdNow_35 (by decide) ?_
    refine a_iload C dX6_crowdNow_38 5 rfl ?_
    refine a_iadd C dX6_crowdNow_40 ?_
    obtain ⟨hb, h⟩ := ck_some h
    refine a_iald C dX6_crowdNow_41 Kc_65 rfl hb ?_
    refine a_iload_n C dX6_crowdNow_42 3 rfl ?_
    refine a_icmp_ne (tgt := 50) C dX6_crowdNow_43 (by decide) (fun hc => ?_) (fun hc => ?_)
    · replace h := iq hc h
      refine a_iconst (v := 0) C dX6_crowdNow_50 (by decide) ?_
      exact a_sub [0, 1, 2, 3, 5] (t_X6_crowdNow_51_20 C h hK) rfl
    · replace h := ip hc h
      refine a_iconst (v := 1) C dX6_crowdNow_46 (by decide) ?_
      refine a_goto (tgt := 51) C dX6_crowdNow_47 (by decide) ?_
      exact a_sub [0, 1, 2, 3, 5] (t_X6_crowdNow_51_20 C h hK) rfl
noncomputable def f_X6_crowdNow_71_6 (x2 : Int32) (x3 : Int32) (x4 : Int32) (t0 : Int32) (M : Mem) : Option ((Int32 × Int32 × Int32) ⊕ (Int32 × Int32 × Int32)) :=
  Option.bind (f_X6_greater x4 x2) (fun r3 => some (.inl (t0, r3, (x3 + (1 : Int32)))))
theorem t_X6_crowdNow_71_6 {Y : EY} {X : CX} (C : CK Y X cX6_crowdNow RX6 6 (some .int) rm_X6_crowdNow) {x2 : Int32} {x3 : Int32} {x4 : Int32} {t0 : Int32} {M : Mem}  {res : (Int32 × Int32 × Int32) ⊕ (Int32 × Int32 × Int32)} (h : f_X6_crowdNow_71_6 x2 x3 x4 t0 M = some res) (hK : KL (At_X6_crowdNow_6 Y X M) (Ex_X6_crowdNow_6 Y X M) res) : AW Y X 6 71 [(0, .ref (Y.2.2.2.1 49)), (2, .int x2), (3, .int x3), (4, .int x4)] [.int t0] M := by
  unfold f_X6_crowdNow_71_6 at h
  refine a_istore_n (lv' := [(1, _), (0, _), (2, _), (3, _), (4, _)]) C dX6_crowdNow_71 rfl (by decide) rfl ?_
  refine a_iload C dX6_crowdNow_72 4 rfl ?_
  refine a_iload_n C dX6_crowdNow_74 2 rfl ?_
  obtain ⟨r3, hcr3, h⟩ := bd_some h
  refine a_callSi C dX6_crowdNow_75 ls_X6_171 lm_X6_greater ⟨rfl, rfl, by decide, by decide⟩ (m_X6_greater C.2.2.2.2.2.2.1 hcr3) rfl rfl (Nat.le_of_ble_eq_true rfl) ?_
  refine a_istore_n (lv' := [(2, _), (1, _), (0, _), (3, _), (4, _)]) C dX6_crowdNow_78 rfl (by decide) rfl ?_
  refine a_iinc (v := 1) (lv' := [(3, _), (2, _), (1, _), (0, _), (4, _)]) C dX6_crowdNow_79 3 rfl (by decide) (by decide) rfl ?_
  refine a_goto (tgt := 6) C dX6_crowdNow_82 (by decide) ?_
  replace h := Option.some.inj h
  subst h
  exact a_sub [3, 2, 1, 0] (hK) rfl
noncomputable def f_X6_crowdNow_6_6b (x1 : Int32) (x2 : Int32) (x3 : Int32) (M : Mem) : Option ((Int32 × Int32 × Int32) ⊕ (Int32 × Int32 × Int32)) :=
  (if (M 49 7) ≤ x3 then some (.inr (x1, x2, x3)) else Option.bind (loop (fun s1 : Int32 × Int32 => f_X6_crowdNow_20_20b x1 x2 x3 s1.1 s1.2 M) ((0 : Int32), (0 : Int32))) (fun s2 => (if s2.1 ≤ x2 then f_X6_crowdNow_71_6 x2 x3 s2.1 x1 M else f_X6_crowdNow_71_6 x2 x3 s2.1 x3 M)))
theorem t_X6_crowdNow_6_6b {Y : EY} {X : CX} (C : CK Y X cX6_crowdNow RX6 6 (some .int) rm_X6_crowdNow) {x1 : Int32} {x2 : Int32} {x3 : Int32} {M : Mem}  {res : (Int32 × Int32 × Int32) ⊕ (Int32 × Int32 × Int32)} (h : f_X6_crowdNow_6_6b x1 x2 x3 M = some res) (hK : KL (At_X6_crowdNow_6 Y X M) (Ex_X6_crowdNow_6 Y X M) res) : AW Y X 6 6 [(0, .ref (Y.2.2.2.1 49)), (1, .int x1), (2, .int x2), (3, .int x3)] [] M := by
  unfold f_X6_crowdNow_6_6b at h
  refine a_iload_n C dX6_crowdNow_6 3 rfl ?_
  refine a_aload_n C dX6_crowdNow_7 0 rfl ?_
  refine a_geti C dX6_crowdNow_8 fl_X6_116 rfl Kc_49 ?_
  refine a_icmp_ge (tgt := 85) C dX6_crowdNow_11 (by decide) (fun hc => ?_) (fun hc => ?_)
  · replace h := ip hc h
    replace h := Option.some.inj h
    subst h
    exact a_sub [1] (hK) rfl
  · replace h := iq hc h
    refine a_iconst (v := 0) C dX6_crowdNow_14 (by decide) ?_
    refine a_istore (lv' := [(4, _), (0, _), (1, _), (2, _), (3, _)]) C dX6_crowdNow_15 (by decide) rfl ?_
    refine a_iconst (v := 0) C dX6_crowdNow_17 (by decide) ?_
    refine a_istore (lv' := [(5, _), (4, _), (0, _), (1, _), (2, _), (3, _)]) C dX6_crowdNow_18 (by decide) rfl ?_
    obtain ⟨s2, hl, h⟩ := bd_some h
    have hE : Ex_X6_crowdNow_20 Y X x1 x2 x3 M s2 := by
      refine a_iload C dX6_crowdNow_60 4 rfl ?_
      refine a_iload_n C dX6_crowdNow_62 2 rfl ?_
      refine a_icmp_le (tgt := 70) C dX6_crowdNow_63 (by decide) (fun hc => ?_) (fun hc => ?_)
      · replace h := ip hc h
        refine a_iload_n C dX6_crowdNow_70 1 rfl ?_
        exact a_sub [0, 2, 3, 4] (t_X6_crowdNow_71_6 C h hK) rfl
      · replace h := iq hc h
        refine a_iload_n C dX6_crowdNow_66 3 rfl ?_
        refine a_goto (tgt := 71) C dX6_crowdNow_67 (by decide) ?_
        exact a_sub [0, 2, 3, 4] (t_X6_crowdNow_71_6 C h hK) rfl
    have hA := aw_loop (At_X6_crowdNow_20 Y X x1 x2 x3 M) (Ex_X6_crowdNow_20 Y X x1 x2 x3 M) (fun _ _ hb hk => t_X6_crowdNow_20_20b C hb hk) hl hE
    exact a_sub [2, 3, 4, 5, 1, 0] (hA) rfl
noncomputable def f_X6_crowdNow  (M : Mem) : Option (Int32) :=
  Option.bind (loop (fun s4 : Int32 × Int32 × Int32 => f_X6_crowdNow_6_6b s4.1 s4.2.1 s4.2.2 M) ((-1 : Int32), (0 : Int32), (0 : Int32))) (fun s5 => some s5.1)
theorem t_X6_crowdNow {Y : EY} {X : CX} (C : CK Y X cX6_crowdNow RX6 6 (some .int) rm_X6_crowdNow)  {M : Mem}  {res : Int32} (h : f_X6_crowdNow M = some res) (hK : RK Y X (some (.int res)) M) : AW Y X 6 0 [(0, .ref (Y.2.2.2.1 49))] [] M := by
  unfold f_X6_crowdNow at h
  refine a_iconst (v := -1) C dX6_crowdNow_0 (by decide) ?_
  refine a_istore_n (lv' := [(1, _), (0, _)]) C dX6_crowdNow_1 rfl (by decide) rfl ?_
  refine a_iconst (v := 0) C dX6_crowdNow_2 (by decide) ?_
  refine a_istore_n (lv' := [(2, _), (1, _), (0, _)]) C dX6_crowdNow_3 rfl (by decide) rfl ?_
  refine a_iconst (v := 0) C dX6_crowdNow_4 (by decide) ?_
  refine a_istore_n (lv' := [(3, _), (2, _), (1, _), (0, _)]) C dX6_crowdNow_5 rfl (by decide) rfl ?_
  obtain ⟨s5, hl, h⟩ := bd_some h
  have hE : Ex_X6_crowdNow_6 Y X M s5 := by
    refine a_iload_n C dX6_crowdNow_85 0 rfl ?_
    replace h := Option.some.inj h
    subst h
    exact a_iret C dX6_crowdNow_86 hK
  have hA := aw_loop (At_X6_crowdNow_6 Y X M) (Ex_X6_crowdNow_6 Y X M) (fun _ _ hb hk => t_X6_crowdNow_6_6b C hb hk) hl hE
  exact a_sub [3, 2, 1, 0] (hA) rfl
theorem m_X6_crowdNow {Y : EY} (hY : HY Y)  {M : Mem}  {r : Int32} (h : f_X6_crowdNow M = some r) : MX Y yX6_crowdNow cX6_crowdNow 6 (some .int) rm_X6_crowdNow [.ref (Y.2.2.2.1 49)] M (some (.int r)) M := MX.of hY (by decide) (Nat.le_of_ble_eq_true rfl) (fun _ hR C => a_sub [0] (t_X6_crowdNow C  h hR) rfl)
abbrev rm_X6_crowd : Room := { frames := 6, cells := 0, slots := 0, locals := 137 }
noncomputable def f_X6_crowd  (M : Mem) : Option (Int32 × Mem) :=
  Option.bind (f_X6_find M) (fun r1 => Option.bind (f_X6_crowdNow r1) (fun r2 => some (r2, r1)))
theorem t_X6_crowd {Y : EY} {X : CX} (C : CK Y X cX6_crowd RX6 1 (some .int) rm_X6_crowd)  {M : Mem}  {res : Int32 × Mem} (h : f_X6_crowd M = some res) (hK : RK Y X (some (.int res.1)) res.2) : AW Y X 1 0 [(0, .ref (Y.2.2.2.1 49))] [] M := by
  unfold f_X6_crowd at h
  refine a_aload_n C dX6_crowd_0 0 rfl ?_
  obtain ⟨r1, hcr1, h⟩ := bd_some h
  refine a_callVv C dX6_crowd_1 lv_X6_216 lm_X6_find ⟨rfl, rfl, by decide, by decide⟩ Kc_49 (m_X6_find C.2.2.2.2.2.2.1 hcr1) rfl rfl (Nat.le_of_ble_eq_true rfl) ?_
  refine a_aload_n C dX6_crowd_4 0 rfl ?_
  obtain ⟨r2, hcr2, h⟩ := bd_some h
  refine a_callVi C dX6_crowd_5 lv_X6_231 lm_X6_crowdNow ⟨rfl, rfl, by decide, by decide⟩ Kc_49 (m_X6_crowdNow C.2.2.2.2.2.2.1 hcr2) rfl rfl (Nat.le_of_ble_eq_true rfl) ?_
  replace h := Option.some.inj h
  subst h
  exact a_iret C dX6_crowd_8 hK
theorem m_X6_crowd {Y : EY} (hY : HY Y)  {M : Mem}  {r : Int32 × Mem} (h : f_X6_crowd M = some r) : MX Y yX6_crowd cX6_crowd 1 (some .int) rm_X6_crowd [.ref (Y.2.2.2.1 49)] M (some (.int r.1)) r.2 := MX.of hY (by decide) (Nat.le_of_ble_eq_true rfl) (fun _ hR C => a_sub [0] (t_X6_crowd C  h hR) rfl)
abbrev rm_X6_becomeMany : Room := { frames := 0, cells := 0, slots := 0, locals := 0 }
abbrev At_X6_becomeMany_4 (Y : EY) (X : CX) (M : Mem) (s : Int32 × Int32) : Prop := AW Y X 3 4 [(0, .ref (Y.2.2.2.1 49)), (1, .int s.1), (2, .int s.2)] [] M
abbrev Ex_X6_becomeMany_4 (Y : EY) (X : CX) (M : Mem) (s : Int32 × Int32) : Prop := AW Y X 3 36 [(1, .int s.1)] [] M
noncomputable def f_X6_becomeMany_28_4 (x2 : Int32) (t0 : Int32) (t1 : Int32) (M : Mem) : Option ((Int32 × Int32) ⊕ (Int32 × Int32)) :=
  some (.inl ((t0 + t1), (x2 + (1 : Int32))))
theorem t_X6_becomeMany_28_4 {Y : EY} {X : CX} (C : CK Y X cX6_becomeMany RX6 3 (some .int) rm_X6_becomeMany) {x2 : Int32} {t0 : Int32} {t1 : Int32} {M : Mem}  {res : (Int32 × Int32) ⊕ (Int32 × Int32)} (h : f_X6_becomeMany_28_4 x2 t0 t1 M = some res) (hK : KL (At_X6_becomeMany_4 Y X M) (Ex_X6_becomeMany_4 Y X M) res) : AW Y X 3 28 [(0, .ref (Y.2.2.2.1 49)), (2, .int x2)] [.int t1, .int t0] M := by
  unfold f_X6_becomeMany_28_4 at h
  refine a_iadd C dX6_becomeMany_28 ?_
  refine a_istore_n (lv' := [(1, _), (0, _), (2, _)]) C dX6_becomeMany_29 rfl (by decide) rfl ?_
  refine a_iinc (v := 1) (lv' := [(2, _), (1, _), (0, _)]) C dX6_becomeMany_30 2 rfl (by decide) (by decide) rfl ?_
  refine a_goto (tgt := 4) C dX6_becomeMany_33 (by decide) ?_
  replace h := Option.some.inj h
  subst h
  exact a_sub [2, 1, 0] (hK) rfl
noncomputable def f_X6_becomeMany_4_4b (x1 : Int32) (x2 : Int32) (M : Mem) : Option ((Int32 × Int32) ⊕ (Int32 × Int32)) :=
  (if (M 49 9) ≤ x2 then some (.inr (x1, x2)) else ck (inb x2 8) ((if (M 67 (x2).toNatClampNeg) = (-1 : Int32) then f_X6_becomeMany_28_4 x2 x1 (0 : Int32) M else f_X6_becomeMany_28_4 x2 x1 (1 : Int32) M)))
theorem t_X6_becomeMany_4_4b {Y : EY} {X : CX} (C : CK Y X cX6_becomeMany RX6 3 (some .int) rm_X6_becomeMany) {x1 : Int32} {x2 : Int32} {M : Mem}  {res : (Int32 × Int32) ⊕ (Int32 × Int32)} (h : f_X6_becomeMany_4_4b x1 x2 M = some res) (hK : KL (At_X6_becomeMany_4 Y X M) (Ex_X6_becomeMany_4 Y X M) res) : AW Y X 3 4 [(0, .ref (Y.2.2.2.1 49)), (1, .int x1), (2, .int x2)] [] M := by
  unfold f_X6_becomeMany_4_4b at h
  refine a_iload_n C dX6_becomeMany_4 2 rfl ?_
  refine a_aload_n C dX6_becomeMany_5 0 rfl ?_
  refine a_geti C dX6_becomeMany_6 fl_X6_124 rfl Kc_49 ?_
  refine a_icmp_ge (tgt := 36) C dX6_becomeMany_9 (by decide) (fun hc => ?_) (fun hc => ?_)
  · replace h := ip hc h
    replace h := Option.some.inj h
    subst h
    exact a_sub [1] (hK) rfl
  · replace h := iq hc h
    refine a_iload_n C dX6_becomeMany_12 1 rfl ?_
    refine a_aload_n C dX6_becomeMany_13 0 rfl ?_
    refine a_getr (k1 := 67) C dX6_becomeMany_14 fl_X6_61 rfl Kc_49 rfl ?_
    refine a_iload_n C dX6_becomeMany_17 2 rfl ?_
    obtain ⟨hb, h⟩ := ck_some h
    refine a_iald C dX6_becomeMany_18 Kc_67 rfl hb ?_
    refine a_iconst (v := -1) C dX6_becomeMany_19 (by decide) ?_
    refine a_icmp_ne (tgt := 27) C dX6_becomeMany_20 (by decide) (fun hc => ?_) (fun hc => ?_)
    · replace h := iq hc h
      refine a_iconst (v := 1) C dX6_becomeMany_27 (by decide) ?_
      exact a_sub [0, 2] (t_X6_becomeMany_28_4 C h hK) rfl
    · replace h := ip hc h
      refine a_iconst (v := 0) C dX6_becomeMany_23 (by decide) ?_
      refine a_goto (tgt := 28) C dX6_becomeMany_24 (by decide) ?_
      exact a_sub [0, 2] (t_X6_becomeMany_28_4 C h hK) rfl
noncomputable def f_X6_becomeMany  (M : Mem) : Option (Int32) :=
  Option.bind (loop (fun s1 : Int32 × Int32 => f_X6_becomeMany_4_4b s1.1 s1.2 M) ((0 : Int32), (0 : Int32))) (fun s2 => some s2.1)
theorem t_X6_becomeMany {Y : EY} {X : CX} (C : CK Y X cX6_becomeMany RX6 3 (some .int) rm_X6_becomeMany)  {M : Mem}  {res : Int32} (h : f_X6_becomeMany M = some res) (hK : RK Y X (some (.int res)) M) : AW Y X 3 0 [(0, .ref (Y.2.2.2.1 49))] [] M := by
  unfold f_X6_becomeMany at h
  refine a_iconst (v := 0) C dX6_becomeMany_0 (by decide) ?_
  refine a_istore_n (lv' := [(1, _), (0, _)]) C dX6_becomeMany_1 rfl (by decide) rfl ?_
  refine a_iconst (v := 0) C dX6_becomeMany_2 (by decide) ?_
  refine a_istore_n (lv' := [(2, _), (1, _), (0, _)]) C dX6_becomeMany_3 rfl (by decide) rfl ?_
  obtain ⟨s2, hl, h⟩ := bd_some h
  have hE : Ex_X6_becomeMany_4 Y X M s2 := by
    refine a_iload_n C dX6_becomeMany_36 0 rfl ?_
    replace h := Option.some.inj h
    subst h
    exact a_iret C dX6_becomeMany_37 hK
  have hA := aw_loop (At_X6_becomeMany_4 Y X M) (Ex_X6_becomeMany_4 Y X M) (fun _ _ hb hk => t_X6_becomeMany_4_4b C hb hk) hl hE
  exact a_sub [2, 1, 0] (hA) rfl
theorem m_X6_becomeMany {Y : EY} (hY : HY Y)  {M : Mem}  {r : Int32} (h : f_X6_becomeMany M = some r) : MX Y yX6_becomeMany cX6_becomeMany 3 (some .int) rm_X6_becomeMany [.ref (Y.2.2.2.1 49)] M (some (.int r)) M := MX.of hY (by decide) (Nat.le_of_ble_eq_true rfl) (fun _ hR C => a_sub [0] (t_X6_becomeMany C  h hR) rfl)
abbrev rm_X6_dressOf : Room := { frames := 5, cells := 0, slots := 0, locals := 117 }
abbrev At_X6_dressOf_30 (Y : EY) (X : CX) (x1 : Int32) (x2 : Int32) (x4 : Int32) (s : Int32 × Int32 × Int32 × Mem) : Prop := AW Y X 9 30 [(0, .ref (Y.2.2.2.1 49)), (1, .int x1), (2, .int x2), (4, .int x4), (5, .int s.1), (6, .int s.2.1), (7, .int s.2.2.1)] [] s.2.2.2
abbrev Ex_X6_dressOf_30 (Y : EY) (X : CX) (x1 : Int32) (x2 : Int32) (x4 : Int32) (s : Int32 × Int32 × Int32 × Mem) : Prop := AW Y X 9 88 [(0, .ref (Y.2.2.2.1 49)), (4, .int x4), (5, .int s.1), (6, .int s.2.1)] [] s.2.2.2
noncomputable def f_X6_dressOf_71_30 (x1 : Int32) (x2 : Int32) (x4 : Int32) (x6 : Int32) (x7 : Int32) (x8 : Int32) (t0 : Int32) (M : Mem) : Option ((Int32 × Int32 × Int32 × Mem) ⊕ (Int32 × Int32 × Int32 × Mem)) :=
  Option.bind (f_X6_lesser x8 x6) (fun r4 => some (.inl (t0, r4, (x7 + (1 : Int32)), M)))
theorem t_X6_dressOf_71_30 {Y : EY} {X : CX} (C : CK Y X cX6_dressOf RX6 9 (some .int) rm_X6_dressOf) {x1 : Int32} {x2 : Int32} {x4 : Int32} {x6 : Int32} {x7 : Int32} {x8 : Int32} {t0 : Int32} {M : Mem}  {res : (Int32 × Int32 × Int32 × Mem) ⊕ (Int32 × Int32 × Int32 × Mem)} (h : f_X6_dressOf_71_30 x1 x2 x4 x6 x7 x8 t0 M = some res) (hK : KL (At_X6_dressOf_30 Y X x1 x2 x4) (Ex_X6_dressOf_30 Y X x1 x2 x4) res) : AW Y X 9 71 [(0, .ref (Y.2.2.2.1 49)), (1, .int x1), (2, .int x2), (4, .int x4), (6, .int x6), (7, .int x7), (8, .int x8)] [.int t0] M := by
  unfold f_X6_dressOf_71_30 at h
  refine a_istore (lv' := [(5, _), (0, _), (1, _), (2, _), (4, _), (6, _), (7, _), (8, _)]) C dX6_dressOf_71 (by decide) rfl ?_
  refine a_iload C dX6_dressOf_73 7 rfl ?_
  refine a_iload C dX6_dressOf_75 5 rfl ?_
  obtain ⟨r4, hcr4, h⟩ := bd_some h
  refine a_callSi C dX6_dressOf_77 ls_X6_168 lm_X6_lesser ⟨rfl, rfl, by decide, by decide⟩ (m_X6_lesser C.2.2.2.2.2.2.1 hcr4) rfl rfl (Nat.le_of_ble_eq_true rfl) ?_
  refine a_istore (lv' := [(6, _), (5, _), (0, _), (1, _), (2, _), (4, _), (7, _), (8, _)]) C dX6_dressOf_80 (by decide) rfl ?_
  refine a_iinc (v := 1) (lv' := [(7, _), (6, _), (5, _), (0, _), (1, _), (2, _), (4, _), (8, _)]) C dX6_dressOf_82 6 rfl (by decide) (by decide) rfl ?_
  refine a_goto (tgt := 30) C dX6_dressOf_85 (by decide) ?_
  replace h := Option.some.inj h
  subst h
  exact a_sub [3, 4, 5, 6, 2, 1, 0] (hK) rfl
noncomputable def f_X6_dressOf_30_30b (x1 : Int32) (x2 : Int32) (x4 : Int32) (x5 : Int32) (x6 : Int32) (x7 : Int32) (M : Mem) : Option ((Int32 × Int32 × Int32 × Mem) ⊕ (Int32 × Int32 × Int32 × Mem)) :=
  (if (M 49 7) ≤ x7 then some (.inr (x5, x6, x7, M)) else Option.bind (f_X6_lives (upM M 49 16 x7)) (fun r2 => Option.bind (f_X6_farOf x1 x2 r2) (fun r3 => (if x6 ≤ r3 then f_X6_dressOf_71_30 x1 x2 x4 x6 x7 r3 x5 r2 else f_X6_dressOf_71_30 x1 x2 x4 x6 x7 r3 x7 r2))))
theorem t_X6_dressOf_30_30b {Y : EY} {X : CX} (C : CK Y X cX6_dressOf RX6 9 (some .int) rm_X6_dressOf) {x1 : Int32} {x2 : Int32} {x4 : Int32} {x5 : Int32} {x6 : Int32} {x7 : Int32} {M : Mem}  {res : (Int32 × Int32 × Int32 × Mem) ⊕ (Int32 × Int32 × Int32 × Mem)} (h : f_X6_dressOf_30_30b x1 x2 x4 x5 x6 x7 M = some res) (hK : KL (At_X6_dressOf_30 Y X x1 x2 x4) (Ex_X6_dressOf_30 Y X x1 x2 x4) res) : AW Y X 9 30 [(0, .ref (Y.2.2.2.1 49)), (1, .int x1), (2, .int x2), (4, .int x4), (5, .int x5), (6, .int x6), (7, .int x7)] [] M := by
  unfold f_X6_dressOf_30_30b at h
  refine a_iload C dX6_dressOf_30 6 rfl ?_
  refine a_aload_n C dX6_dressOf_32 0 rfl ?_
  refine a_geti C dX6_dressOf_33 fl_X6_116 rfl Kc_49 ?_
  refine a_icmp_ge (tgt := 88) C dX6_dressOf_36 (by decide) (fun hc => ?_) (fun hc => ?_)
  · replace h := ip hc h
    replace h := Option.some.inj h
    subst h
    exact a_sub [0, 3, 4, 5] (hK) rfl
  · replace h := iq hc h
    refine a_aload_n C dX6_dressOf_39 0 rfl ?_
    refine a_iload C dX6_dressOf_40 6 rfl ?_
    refine a_put (ty := .int) C dX6_dressOf_42 fl_X6_196 (fp_6_16) rfl Kc_49 rfl rfl ?_
    refine a_aload_n C dX6_dressOf_45 0 rfl ?_
    obtain ⟨r2, hcr2, h⟩ := bd_some h
    refine a_callVv C dX6_dressOf_46 lv_X6_213 lm_X6_lives ⟨rfl, rfl, by decide, by decide⟩ Kc_49 (m_X6_lives C.2.2.2.2.2.2.1 hcr2) rfl rfl (Nat.le_of_ble_eq_true rfl) ?_
    refine a_aload_n C dX6_dressOf_49 0 rfl ?_
    refine a_iload_n C dX6_dressOf_50 1 rfl ?_
    refine a_iload_n C dX6_dressOf_51 2 rfl ?_
    obtain ⟨r3, hcr3, h⟩ := bd_some h
    refine a_callVi C dX6_dressOf_52 lv_X6_183 lm_X6_farOf ⟨rfl, rfl, by decide, by decide⟩ Kc_49 (m_X6_farOf C.2.2.2.2.2.2.1 hcr3) rfl rfl (Nat.le_of_ble_eq_true rfl) ?_
    refine a_istore (lv' := [(8, _), (0, _), (1, _), (2, _), (4, _), (5, _), (6, _), (7, _)]) C dX6_dressOf_55 (by decide) rfl ?_
    refine a_iload C dX6_dressOf_57 0 rfl ?_
    refine a_iload C dX6_dressOf_59 6 rfl ?_
    refine a_icmp_ge (tgt := 69) C dX6_dressOf_61 (by decide) (fun hc => ?_) (fun hc => ?_)
    · replace h := ip hc h
      refine a_iload C dX6_dressOf_69 5 rfl ?_
      exact a_sub [1, 2, 3, 4, 6, 7, 0] (t_X6_dressOf_71_30 C h hK) rfl
    · replace h := iq hc h
      refine a_iload C dX6_dressOf_64 7 rfl ?_
      refine a_goto (tgt := 71) C dX6_dressOf_66 (by decide) ?_
      exact a_sub [1, 2, 3, 4, 6, 7, 0] (t_X6_dressOf_71_30 C h hK) rfl
noncomputable def f_X6_dressOf (x1 : Int32) (x2 : Int32) (x3 : Int32) (x4 : Int32) (M : Mem) : Option (Int32 × Mem) :=
  Option.bind (f_X6_isAccent x2 M) (fun r1 => (if r1 = 0 then some ((-1 : Int32), M) else Option.bind (loop (fun s5 : Int32 × Int32 × Int32 × Mem => f_X6_dressOf_30_30b x1 x2 x4 s5.1 s5.2.1 s5.2.2.1 s5.2.2.2) ((-1 : Int32), (99 : Int32), (0 : Int32), (upM (upM M 49 14 x3) 49 15 x1))) (fun s6 => (if x4 = 0 then some (s6.1, (upM s6.2.2.2 49 14 (-1 : Int32))) else some (s6.2.1, (upM s6.2.2.2 49 14 (-1 : Int32)))))))
theorem t_X6_dressOf {Y : EY} {X : CX} (C : CK Y X cX6_dressOf RX6 9 (some .int) rm_X6_dressOf) {x1 : Int32} {x2 : Int32} {x3 : Int32} {x4 : Int32} {M : Mem}  {res : Int32 × Mem} (h : f_X6_dressOf x1 x2 x3 x4 M = some res) (hK : RK Y X (some (.int res.1)) res.2) : AW Y X 9 0 [(0, .ref (Y.2.2.2.1 49)), (1, .int x1), (2, .int x2), (3, .int x3), (4, .int x4)] [] M := by
  unfold f_X6_dressOf at h
  refine a_aload_n C dX6_dressOf_0 0 rfl ?_
  refine a_iload_n C dX6_dressOf_1 2 rfl ?_
  obtain ⟨r1, hcr1, h⟩ := bd_some h
  refine a_callVi C dX6_dressOf_2 lv_X6_144 lm_X6_isAccent ⟨rfl, rfl, by decide, by decide⟩ Kc_49 (m_X6_isAccent C.2.2.2.2.2.2.1 hcr1) rfl rfl (Nat.le_of_ble_eq_true rfl) ?_
  refine a_if_ne (tgt := 10) C dX6_dressOf_5 (by decide) (fun hc => ?_) (fun hc => ?_)
  · replace h := iq hc h
    refine a_iconst (v := -1) C dX6_dressOf_10 (by decide) ?_
    refine a_istore (lv' := [(5, _), (0, _), (1, _), (2, _), (3, _), (4, _)]) C dX6_dressOf_11 (by decide) rfl ?_
    refine a_bipush (v := 99) C dX6_dressOf_13 (by decide) ?_
    refine a_istore (lv' := [(6, _), (5, _), (0, _), (1, _), (2, _), (3, _), (4, _)]) C dX6_dressOf_15 (by decide) rfl ?_
    refine a_aload_n C dX6_dressOf_17 2 rfl ?_
    refine a_iload_n C dX6_dressOf_18 5 rfl ?_
    refine a_put (ty := .int) C dX6_dressOf_19 fl_X6_73 (fp_6_14) rfl Kc_49 rfl rfl ?_
    refine a_aload_n C dX6_dressOf_22 2 rfl ?_
    refine a_iload_n C dX6_dressOf_23 3 rfl ?_
    refine a_put (ty := .int) C dX6_dressOf_24 fl_X6_193 (fp_6_15) rfl Kc_49 rfl rfl ?_
    refine a_iconst (v := 0) C dX6_dressOf_27 (by decide) ?_
    refine a_istore (lv' := [(7, _), (6, _), (5, _), (0, _), (1, _), (2, _), (3, _), (4, _)]) C dX6_dressOf_28 (by decide) rfl ?_
    obtain ⟨s6, hl, h⟩ := bd_some h
    have hE : Ex_X6_dressOf_30 Y X x1 x2 x4 s6 := by
      refine a_aload_n C dX6_dressOf_88 0 rfl ?_
      refine a_iconst (v := -1) C dX6_dressOf_89 (by decide) ?_
      refine a_put (ty := .int) C dX6_dressOf_90 fl_X6_73 (fp_6_14) rfl Kc_49 rfl rfl ?_
      refine a_iload C dX6_dressOf_93 1 rfl ?_
      refine a_if_ne (tgt := 103) C dX6_dressOf_95 (by decide) (fun hc => ?_) (fun hc => ?_)
      · replace h := iq hc h
        refine a_iload C dX6_dressOf_103 3 rfl ?_
        replace h := Option.some.inj h
        subst h
        exact a_iret C dX6_dressOf_105 hK
      · replace h := ip hc h
        refine a_iload C dX6_dressOf_98 2 rfl ?_
        refine a_goto (tgt := 105) C dX6_dressOf_100 (by decide) ?_
        replace h := Option.some.inj h
        subst h
        exact a_iret C dX6_dressOf_105 hK
    have hA := aw_loop (At_X6_dressOf_30 Y X x1 x2 x4) (Ex_X6_dressOf_30 Y X x1 x2 x4) (fun _ _ hb hk => t_X6_dressOf_30_30b C hb hk) hl hE
    exact a_sub [3, 4, 5, 7, 2, 1, 0] (hA) rfl
  · replace h := ip hc h
    refine a_iconst (v := -1) C dX6_dressOf_8 (by decide) ?_
    replace h := Option.some.inj h
    subst h
    exact a_iret C dX6_dressOf_9 hK
theorem m_X6_dressOf {Y : EY} (hY : HY Y) {x1 : Int32} {x2 : Int32} {x3 : Int32} {x4 : Int32} {M : Mem}  {r : Int32 × Mem} (h : f_X6_dressOf x1 x2 x3 x4 M = some r) : MX Y yX6_dressOf cX6_dressOf 9 (some .int) rm_X6_dressOf [.ref (Y.2.2.2.1 49), .int x1, .int x2, .int x3, .int x4] M (some (.int r.1)) r.2 := MX.of hY (by decide) (Nat.le_of_ble_eq_true rfl) (fun _ hR C => a_sub [0, 1, 2, 3, 4] (t_X6_dressOf C  h hR) rfl)
abbrev rm_X6_dress : Room := { frames := 6, cells := 0, slots := 0, locals := 145 }
noncomputable def f_X6_dress (x1 : Int32) (x2 : Int32) (x3 : Int32) (x4 : Int32) (M : Mem) : Option (Int32 × Mem) :=
  Option.bind (f_X6_find M) (fun r1 => Option.bind (f_X6_isPerson x1 r1) (fun r2 => (if r2 = 0 then some ((-2 : Int32), r1) else Option.bind (f_X6_isEight x2) (fun r3 => (if r3 = 0 then some ((-2 : Int32), r1) else Option.bind (f_X6_isDay x3) (fun r4 => (if r4 = 0 then some ((-2 : Int32), r1) else Option.bind (f_X6_isTwo x4) (fun r5 => (if r5 = 0 then some ((-2 : Int32), r1) else Option.bind (f_X6_dressOf x1 x2 x3 x4 r1) (fun r6 => some (r6.1, r6.2)))))))))))
theorem t_X6_dress {Y : EY} {X : CX} (C : CK Y X cX6_dress RX6 5 (some .int) rm_X6_dress) {x1 : Int32} {x2 : Int32} {x3 : Int32} {x4 : Int32} {M : Mem}  {res : Int32 × Mem} (h : f_X6_dress x1 x2 x3 x4 M = some res) (hK : RK Y X (some (.int res.1)) res.2) : AW Y X 5 0 [(0, .ref (Y.2.2.2.1 49)), (1, .int x1), (2, .int x2), (3, .int x3), (4, .int x4)] [] M := by
  unfold f_X6_dress at h
  refine a_aload_n C dX6_dress_0 0 rfl ?_
  obtain ⟨r1, hcr1, h⟩ := bd_some h
  refine a_callVv C dX6_dress_1 lv_X6_216 lm_X6_find ⟨rfl, rfl, by decide, by decide⟩ Kc_49 (m_X6_find C.2.2.2.2.2.2.1 hcr1) rfl rfl (Nat.le_of_ble_eq_true rfl) ?_
  refine a_aload_n C dX6_dress_4 0 rfl ?_
  refine a_iload_n C dX6_dress_5 1 rfl ?_
  obtain ⟨r2, hcr2, h⟩ := bd_some h
  refine a_callVi C dX6_dress_6 lv_X6_149 lm_X6_isPerson ⟨rfl, rfl, by decide, by decide⟩ Kc_49 (m_X6_isPerson C.2.2.2.2.2.2.1 hcr2) rfl rfl (Nat.le_of_ble_eq_true rfl) ?_
  refine a_if_eq (tgt := 46) C dX6_dress_9 (by decide) (fun hc => ?_) (fun hc => ?_)
  · replace h := ip hc h
    refine a_bipush (v := -2) C dX6_dress_46 (by decide) ?_
    replace h := Option.some.inj h
    subst h
    exact a_iret C dX6_dress_48 hK
  · replace h := iq hc h
    refine a_iload_n C dX6_dress_12 2 rfl ?_
    obtain ⟨r3, hcr3, h⟩ := bd_some h
    refine a_callSi C dX6_dress_13 ls_X6_158 lm_X6_isEight ⟨rfl, rfl, by decide, by decide⟩ (m_X6_isEight C.2.2.2.2.2.2.1 hcr3) rfl rfl (Nat.le_of_ble_eq_true rfl) ?_
    refine a_if_eq (tgt := 46) C dX6_dress_16 (by decide) (fun hc => ?_) (fun hc => ?_)
    · replace h := ip hc h
      refine a_bipush (v := -2) C dX6_dress_46 (by decide) ?_
      replace h := Option.some.inj h
      subst h
      exact a_iret C dX6_dress_48 hK
    · replace h := iq hc h
      refine a_iload_n C dX6_dress_19 3 rfl ?_
      obtain ⟨r4, hcr4, h⟩ := bd_some h
      refine a_callSi C dX6_dress_20 ls_X6_155 lm_X6_isDay ⟨rfl, rfl, by decide, by decide⟩ (m_X6_isDay C.2.2.2.2.2.2.1 hcr4) rfl rfl (Nat.le_of_ble_eq_true rfl) ?_
      refine a_if_eq (tgt := 46) C dX6_dress_23 (by decide) (fun hc => ?_) (fun hc => ?_)
      · replace h := ip hc h
        refine a_bipush (v := -2) C dX6_dress_46 (by decide) ?_
        replace h := Option.some.inj h
        subst h
        exact a_iret C dX6_dress_48 hK
      · replace h := iq hc h
        refine a_iload C dX6_dress_26 4 rfl ?_
        obtain ⟨r5, hcr5, h⟩ := bd_some h
        refine a_callSi C dX6_dress_28 ls_X6_107 lm_X6_isTwo ⟨rfl, rfl, by decide, by decide⟩ (m_X6_isTwo C.2.2.2.2.2.2.1 hcr5) rfl rfl (Nat.le_of_ble_eq_true rfl) ?_
        refine a_if_eq (tgt := 46) C dX6_dress_31 (by decide) (fun hc => ?_) (fun hc => ?_)
        · replace h := ip hc h
          refine a_bipush (v := -2) C dX6_dress_46 (by decide) ?_
          replace h := Option.some.inj h
          subst h
          exact a_iret C dX6_dress_48 hK
        · replace h := iq hc h
          refine a_aload_n C dX6_dress_34 0 rfl ?_
          refine a_iload_n C dX6_dress_35 1 rfl ?_
          refine a_iload_n C dX6_dress_36 2 rfl ?_
          refine a_iload_n C dX6_dress_37 3 rfl ?_
          refine a_iload C dX6_dress_38 4 rfl ?_
          obtain ⟨r6, hcr6, h⟩ := bd_some h
          refine a_callVi C dX6_dress_40 lv_X6_234 lm_X6_dressOf ⟨rfl, rfl, by decide, by decide⟩ Kc_49 (m_X6_dressOf C.2.2.2.2.2.2.1 hcr6) rfl rfl (Nat.le_of_ble_eq_true rfl) ?_
          refine a_goto (tgt := 48) C dX6_dress_43 (by decide) ?_
          replace h := Option.some.inj h
          subst h
          exact a_iret C dX6_dress_48 hK
theorem m_X6_dress {Y : EY} (hY : HY Y) {x1 : Int32} {x2 : Int32} {x3 : Int32} {x4 : Int32} {M : Mem}  {r : Int32 × Mem} (h : f_X6_dress x1 x2 x3 x4 M = some r) : MX Y yX6_dress cX6_dress 5 (some .int) rm_X6_dress [.ref (Y.2.2.2.1 49), .int x1, .int x2, .int x3, .int x4] M (some (.int r.1)) r.2 := MX.of hY (by decide) (Nat.le_of_ble_eq_true rfl) (fun _ hR C => a_sub [0, 1, 2, 3, 4] (t_X6_dress C  h hR) rfl)
abbrev rm_X6_homeOf : Room := { frames := 5, cells := 0, slots := 0, locals := 117 }
abbrev At_X6_homeOf_26 (Y : EY) (X : CX) (x1 : Int32) (x2 : Int32) (s : Int32 × Int32 × Mem) : Prop := AW Y X 5 26 [(0, .ref (Y.2.2.2.1 49)), (1, .int x1), (2, .int x2), (3, .int s.1), (4, .int s.2.1)] [] s.2.2
abbrev Ex_X6_homeOf_26 (Y : EY) (X : CX) (x1 : Int32) (x2 : Int32) (s : Int32 × Int32 × Mem) : Prop := AW Y X 5 70 [(0, .ref (Y.2.2.2.1 49)), (3, .int s.1)] [] s.2.2
noncomputable def f_X6_homeOf_63_26 (x1 : Int32) (x2 : Int32) (x4 : Int32) (t0 : Int32) (M : Mem) : Option ((Int32 × Int32 × Mem) ⊕ (Int32 × Int32 × Mem)) :=
  some (.inl (t0, (x4 + (1 : Int32)), M))
theorem t_X6_homeOf_63_26 {Y : EY} {X : CX} (C : CK Y X cX6_homeOf RX6 5 (some .int) rm_X6_homeOf) {x1 : Int32} {x2 : Int32} {x4 : Int32} {t0 : Int32} {M : Mem}  {res : (Int32 × Int32 × Mem) ⊕ (Int32 × Int32 × Mem)} (h : f_X6_homeOf_63_26 x1 x2 x4 t0 M = some res) (hK : KL (At_X6_homeOf_26 Y X x1 x2) (Ex_X6_homeOf_26 Y X x1 x2) res) : AW Y X 5 63 [(0, .ref (Y.2.2.2.1 49)), (1, .int x1), (2, .int x2), (4, .int x4)] [.int t0] M := by
  unfold f_X6_homeOf_63_26 at h
  refine a_istore_n (lv' := [(3, _), (0, _), (1, _), (2, _), (4, _)]) C dX6_homeOf_63 rfl (by decide) rfl ?_
  refine a_iinc (v := 1) (lv' := [(4, _), (3, _), (0, _), (1, _), (2, _)]) C dX6_homeOf_64 4 rfl (by decide) (by decide) rfl ?_
  refine a_goto (tgt := 26) C dX6_homeOf_67 (by decide) ?_
  replace h := Option.some.inj h
  subst h
  exact a_sub [2, 3, 4, 1, 0] (hK) rfl
noncomputable def f_X6_homeOf_26_26b (x1 : Int32) (x2 : Int32) (x3 : Int32) (x4 : Int32) (M : Mem) : Option ((Int32 × Int32 × Mem) ⊕ (Int32 × Int32 × Mem)) :=
  (if (30 : Int32) ≤ x4 then some (.inr (x3, x4, M)) else Option.bind (f_X6_lives (upM M 49 14 x4)) (fun r1 => ck (inb ((232 : Int32) + x1) 240) ((if (r1 65 (((232 : Int32) + x1)).toNatClampNeg) = x2 then f_X6_homeOf_63_26 x1 x2 x4 x4 r1 else f_X6_homeOf_63_26 x1 x2 x4 x3 r1))))
theorem t_X6_homeOf_26_26b {Y : EY} {X : CX} (C : CK Y X cX6_homeOf RX6 5 (some .int) rm_X6_homeOf) {x1 : Int32} {x2 : Int32} {x3 : Int32} {x4 : Int32} {M : Mem}  {res : (Int32 × Int32 × Mem) ⊕ (Int32 × Int32 × Mem)} (h : f_X6_homeOf_26_26b x1 x2 x3 x4 M = some res) (hK : KL (At_X6_homeOf_26 Y X x1 x2) (Ex_X6_homeOf_26 Y X x1 x2) res) : AW Y X 5 26 [(0, .ref (Y.2.2.2.1 49)), (1, .int x1), (2, .int x2), (3, .int x3), (4, .int x4)] [] M := by
  unfold f_X6_homeOf_26_26b at h
  refine a_iload C dX6_homeOf_26 4 rfl ?_
  refine a_bipush (v := 30) C dX6_homeOf_28 (by decide) ?_
  refine a_icmp_ge (tgt := 70) C dX6_homeOf_30 (by decide) (fun hc => ?_) (fun hc => ?_)
  · replace h := ip hc h
    replace h := Option.some.inj h
    subst h
    exact a_sub [0, 3] (hK) rfl
  · replace h := iq hc h
    refine a_aload_n C dX6_homeOf_33 0 rfl ?_
    refine a_iload C dX6_homeOf_34 4 rfl ?_
    refine a_put (ty := .int) C dX6_homeOf_36 fl_X6_73 (fp_6_14) rfl Kc_49 rfl rfl ?_
    refine a_aload_n C dX6_homeOf_39 0 rfl ?_
    obtain ⟨r1, hcr1, h⟩ := bd_some h
    refine a_callVv C dX6_homeOf_40 lv_X6_213 lm_X6_lives ⟨rfl, rfl, by decide, by decide⟩ Kc_49 (m_X6_lives C.2.2.2.2.2.2.1 hcr1) rfl rfl (Nat.le_of_ble_eq_true rfl) ?_
    refine a_aload_n C dX6_homeOf_43 0 rfl ?_
    refine a_getr (k1 := 65) C dX6_homeOf_44 fl_X6_55 rfl Kc_49 rfl ?_
    refine a_sipush (v := 232) C dX6_homeOf_47 (by decide) ?_
    refine a_iload_n C dX6_homeOf_50 1 rfl ?_
    refine a_iadd C dX6_homeOf_51 ?_
    obtain ⟨hb, h⟩ := ck_some h
    refine a_iald C dX6_homeOf_52 Kc_65 rfl hb ?_
    refine a_iload_n C dX6_homeOf_53 2 rfl ?_
    refine a_icmp_ne (tgt := 62) C dX6_homeOf_54 (by decide) (fun hc => ?_) (fun hc => ?_)
    · replace h := iq hc h
      refine a_iload_n C dX6_homeOf_62 3 rfl ?_
      exact a_sub [0, 1, 2, 4] (t_X6_homeOf_63_26 C h hK) rfl
    · replace h := ip hc h
      refine a_iload C dX6_homeOf_57 4 rfl ?_
      refine a_goto (tgt := 63) C dX6_homeOf_59 (by decide) ?_
      exact a_sub [0, 1, 2, 4] (t_X6_homeOf_63_26 C h hK) rfl
noncomputable def f_X6_homeOf (x1 : Int32) (M : Mem) : Option (Int32 × Mem) :=
  ck (inb (((2 : Int32) * x1) + (1 : Int32)) 16) (Option.bind (loop (fun s2 : Int32 × Int32 × Mem => f_X6_homeOf_26_26b x1 (M 57 ((((2 : Int32) * x1) + (1 : Int32))).toNatClampNeg) s2.1 s2.2.1 s2.2.2) ((-1 : Int32), (0 : Int32), (upM (upM M 49 15 x1) 49 16 (M 57 ((((2 : Int32) * x1) + (1 : Int32))).toNatClampNeg)))) (fun s3 => some (s3.1, (upM s3.2.2 49 14 (-1 : Int32)))))
theorem t_X6_homeOf {Y : EY} {X : CX} (C : CK Y X cX6_homeOf RX6 5 (some .int) rm_X6_homeOf) {x1 : Int32} {M : Mem}  {res : Int32 × Mem} (h : f_X6_homeOf x1 M = some res) (hK : RK Y X (some (.int res.1)) res.2) : AW Y X 5 0 [(0, .ref (Y.2.2.2.1 49)), (1, .int x1)] [] M := by
  unfold f_X6_homeOf at h
  refine a_aload_n C dX6_homeOf_0 0 rfl ?_
  refine a_getr (k1 := 57) C dX6_homeOf_1 fl_X6_31 rfl Kc_49 rfl ?_
  refine a_iconst (v := 2) C dX6_homeOf_4 (by decide) ?_
  refine a_iload_n C dX6_homeOf_5 1 rfl ?_
  refine a_imul C dX6_homeOf_6 ?_
  refine a_iconst (v := 1) C dX6_homeOf_7 (by decide) ?_
  refine a_iadd C dX6_homeOf_8 ?_
  obtain ⟨hb, h⟩ := ck_some h
  refine a_iald C dX6_homeOf_9 Kc_57 rfl hb ?_
  refine a_istore_n (lv' := [(2, _), (0, _), (1, _)]) C dX6_homeOf_10 rfl (by decide) rfl ?_
  refine a_iconst (v := -1) C dX6_homeOf_11 (by decide) ?_
  refine a_istore_n (lv' := [(3, _), (2, _), (0, _), (1, _)]) C dX6_homeOf_12 rfl (by decide) rfl ?_
  refine a_aload_n C dX6_homeOf_13 2 rfl ?_
  refine a_iload_n C dX6_homeOf_14 3 rfl ?_
  refine a_put (ty := .int) C dX6_homeOf_15 fl_X6_193 (fp_6_15) rfl Kc_49 rfl rfl ?_
  refine a_aload_n C dX6_homeOf_18 2 rfl ?_
  refine a_iload_n C dX6_homeOf_19 1 rfl ?_
  refine a_put (ty := .int) C dX6_homeOf_20 fl_X6_196 (fp_6_16) rfl Kc_49 rfl rfl ?_
  refine a_iconst (v := 0) C dX6_homeOf_23 (by decide) ?_
  refine a_istore (lv' := [(4, _), (3, _), (2, _), (0, _), (1, _)]) C dX6_homeOf_24 (by decide) rfl ?_
  obtain ⟨s3, hl, h⟩ := bd_some h
  have hE : Ex_X6_homeOf_26 Y X x1 (M 57 ((((2 : Int32) * x1) + (1 : Int32))).toNatClampNeg) s3 := by
    refine a_aload_n C dX6_homeOf_70 0 rfl ?_
    refine a_iconst (v := -1) C dX6_homeOf_71 (by decide) ?_
    refine a_put (ty := .int) C dX6_homeOf_72 fl_X6_73 (fp_6_14) rfl Kc_49 rfl rfl ?_
    refine a_iload_n C dX6_homeOf_75 1 rfl ?_
    replace h := Option.some.inj h
    subst h
    exact a_iret C dX6_homeOf_76 hK
  have hA := aw_loop (At_X6_homeOf_26 Y X x1 (M 57 ((((2 : Int32) * x1) + (1 : Int32))).toNatClampNeg)) (Ex_X6_homeOf_26 Y X x1 (M 57 ((((2 : Int32) * x1) + (1 : Int32))).toNatClampNeg)) (fun _ _ hb hk => t_X6_homeOf_26_26b C hb hk) hl hE
  exact a_sub [3, 4, 2, 1, 0] (hA) rfl
theorem m_X6_homeOf {Y : EY} (hY : HY Y) {x1 : Int32} {M : Mem}  {r : Int32 × Mem} (h : f_X6_homeOf x1 M = some r) : MX Y yX6_homeOf cX6_homeOf 5 (some .int) rm_X6_homeOf [.ref (Y.2.2.2.1 49), .int x1] M (some (.int r.1)) r.2 := MX.of hY (by decide) (Nat.le_of_ble_eq_true rfl) (fun _ hR C => a_sub [0, 1] (t_X6_homeOf C  h hR) rfl)
abbrev rm_X6_home : Room := { frames := 6, cells := 0, slots := 0, locals := 141 }
noncomputable def f_X6_home (x1 : Int32) (M : Mem) : Option (Int32 × Mem) :=
  Option.bind (f_X6_find M) (fun r1 => Option.bind (f_X6_isPerson x1 r1) (fun r2 => (if r2 = 0 then some ((-2 : Int32), r1) else Option.bind (f_X6_homeOf x1 r1) (fun r3 => some (r3.1, r3.2)))))
theorem t_X6_home {Y : EY} {X : CX} (C : CK Y X cX6_home RX6 2 (some .int) rm_X6_home) {x1 : Int32} {M : Mem}  {res : Int32 × Mem} (h : f_X6_home x1 M = some res) (hK : RK Y X (some (.int res.1)) res.2) : AW Y X 2 0 [(0, .ref (Y.2.2.2.1 49)), (1, .int x1)] [] M := by
  unfold f_X6_home at h
  refine a_aload_n C dX6_home_0 0 rfl ?_
  obtain ⟨r1, hcr1, h⟩ := bd_some h
  refine a_callVv C dX6_home_1 lv_X6_216 lm_X6_find ⟨rfl, rfl, by decide, by decide⟩ Kc_49 (m_X6_find C.2.2.2.2.2.2.1 hcr1) rfl rfl (Nat.le_of_ble_eq_true rfl) ?_
  refine a_aload_n C dX6_home_4 0 rfl ?_
  refine a_iload_n C dX6_home_5 1 rfl ?_
  obtain ⟨r2, hcr2, h⟩ := bd_some h
  refine a_callVi C dX6_home_6 lv_X6_149 lm_X6_isPerson ⟨rfl, rfl, by decide, by decide⟩ Kc_49 (m_X6_isPerson C.2.2.2.2.2.2.1 hcr2) rfl rfl (Nat.le_of_ble_eq_true rfl) ?_
  refine a_if_eq (tgt := 20) C dX6_home_9 (by decide) (fun hc => ?_) (fun hc => ?_)
  · replace h := ip hc h
    refine a_bipush (v := -2) C dX6_home_20 (by decide) ?_
    replace h := Option.some.inj h
    subst h
    exact a_iret C dX6_home_22 hK
  · replace h := iq hc h
    refine a_aload_n C dX6_home_12 0 rfl ?_
    refine a_iload_n C dX6_home_13 1 rfl ?_
    obtain ⟨r3, hcr3, h⟩ := bd_some h
    refine a_callVi C dX6_home_14 lv_X6_238 lm_X6_homeOf ⟨rfl, rfl, by decide, by decide⟩ Kc_49 (m_X6_homeOf C.2.2.2.2.2.2.1 hcr3) rfl rfl (Nat.le_of_ble_eq_true rfl) ?_
    refine a_goto (tgt := 22) C dX6_home_17 (by decide) ?_
    replace h := Option.some.inj h
    subst h
    exact a_iret C dX6_home_22 hK
theorem m_X6_home {Y : EY} (hY : HY Y) {x1 : Int32} {M : Mem}  {r : Int32 × Mem} (h : f_X6_home x1 M = some r) : MX Y yX6_home cX6_home 2 (some .int) rm_X6_home [.ref (Y.2.2.2.1 49), .int x1] M (some (.int r.1)) r.2 := MX.of hY (by decide) (Nat.le_of_ble_eq_true rfl) (fun _ hR C => a_sub [0, 1] (t_X6_home C  h hR) rfl)
abbrev rm_X6_other : Room := { frames := 0, cells := 0, slots := 0, locals := 0 }
noncomputable def f_X6_other (x0 : Int32) (x1 : Int32) (x2 : Int32) : Option (Int32) :=
  (if x0 = x1 then some x2 else (if x0 = x2 then some x1 else some x0))
theorem t_X6_other {Y : EY} {X : CX} (C : CK Y X cX6_other RX6 3 (some .int) rm_X6_other) {x0 : Int32} {x1 : Int32} {x2 : Int32} {M : Mem}  {res : Int32} (h : f_X6_other x0 x1 x2 = some res) (hK : RK Y X (some (.int res)) M) : AW Y X 3 0 [(0, .int x0), (1, .int x1), (2, .int x2)] [] M := by
  unfold f_X6_other at h
  refine a_iload_n C dX6_other_0 0 rfl ?_
  refine a_iload_n C dX6_other_1 1 rfl ?_
  refine a_icmp_ne (tgt := 9) C dX6_other_2 (by decide) (fun hc => ?_) (fun hc => ?_)
  · replace h := iq hc h
    refine a_iload_n C dX6_other_9 0 rfl ?_
    refine a_iload_n C dX6_other_10 2 rfl ?_
    refine a_icmp_ne (tgt := 18) C dX6_other_11 (by decide) (fun hc => ?_) (fun hc => ?_)
    · replace h := iq hc h
      refine a_iload_n C dX6_other_18 0 rfl ?_
      replace h := Option.some.inj h
      subst h
      exact a_iret C dX6_other_19 hK
    · replace h := ip hc h
      refine a_iload_n C dX6_other_14 1 rfl ?_
      refine a_goto (tgt := 19) C dX6_other_15 (by decide) ?_
      replace h := Option.some.inj h
      subst h
      exact a_iret C dX6_other_19 hK
  · replace h := ip hc h
    refine a_iload_n C dX6_other_5 2 rfl ?_
    refine a_goto (tgt := 19) C dX6_other_6 (by decide) ?_
    replace h := Option.some.inj h
    subst h
    exact a_iret C dX6_other_19 hK
theorem m_X6_other {Y : EY} (hY : HY Y) {x0 : Int32} {x1 : Int32} {x2 : Int32} {M : Mem}  {r : Int32} (h : f_X6_other x0 x1 x2 = some r) : MX Y yX6_other cX6_other 3 (some .int) rm_X6_other [.int x0, .int x1, .int x2] M (some (.int r)) M := MX.of hY (by decide) (Nat.le_of_ble_eq_true rfl) (fun _ hR C => a_sub [0, 1, 2] (t_X6_other C  h hR) rfl)
abbrev rm_X6_changes : Room := { frames := 1, cells := 0, slots := 0, locals := 22 }
abbrev At_X6_changes_2 (Y : EY) (X : CX) (x1 : Int32) (x2 : Int32) (s : Int32 × Mem) : Prop := AW Y X 5 2 [(0, .ref (Y.2.2.2.1 49)), (1, .int x1), (2, .int x2), (3, .int s.1)] [] s.2
abbrev Ex_X6_changes_2 (Y : EY) (X : CX) (x1 : Int32) (x2 : Int32) (s : Int32 × Mem) : Prop := AW Y X 5 62 [(0, .ref (Y.2.2.2.1 49)), (1, .int x1), (2, .int x2)] [] s.2
noncomputable def f_X6_changes_2_2b (x1 : Int32) (x2 : Int32) (x3 : Int32) (M : Mem) : Option ((Int32 × Mem) ⊕ (Int32 × Mem)) :=
  (if (6 : Int32) ≤ x3 then some (.inr (x3, M)) else ck (inb (((6 : Int32) * x1) + x3) 48) (ck (inb (((6 : Int32) * x2) + x3) 48) (ck (inb (((6 : Int32) * x1) + x3) 48) (ck (inb (((6 : Int32) * x2) + x3) 48) (some (.inl ((x3 + (1 : Int32)), (upM (upM M 56 ((((6 : Int32) * x1) + x3)).toNatClampNeg (M 56 ((((6 : Int32) * x2) + x3)).toNatClampNeg)) 56 ((((6 : Int32) * x2) + x3)).toNatClampNeg (M 56 ((((6 : Int32) * x1) + x3)).toNatClampNeg)))))))))
theorem t_X6_changes_2_2b {Y : EY} {X : CX} (C : CK Y X cX6_changes RX6 5 none rm_X6_changes) {x1 : Int32} {x2 : Int32} {x3 : Int32} {M : Mem}  {res : (Int32 × Mem) ⊕ (Int32 × Mem)} (h : f_X6_changes_2_2b x1 x2 x3 M = some res) (hK : KL (At_X6_changes_2 Y X x1 x2) (Ex_X6_changes_2 Y X x1 x2) res) : AW Y X 5 2 [(0, .ref (Y.2.2.2.1 49)), (1, .int x1), (2, .int x2), (3, .int x3)] [] M := by
  unfold f_X6_changes_2_2b at h
  refine a_iload_n C dX6_changes_2 3 rfl ?_
  refine a_bipush (v := 6) C dX6_changes_3 (by decide) ?_
  refine a_icmp_ge (tgt := 62) C dX6_changes_5 (by decide) (fun hc => ?_) (fun hc => ?_)
  · replace h := ip hc h
    replace h := Option.some.inj h
    subst h
    exact a_sub [0, 1, 2] (hK) rfl
  · replace h := iq hc h
    refine a_aload_n C dX6_changes_8 0 rfl ?_
    refine a_getr (k1 := 56) C dX6_changes_9 fl_X6_28 rfl Kc_49 rfl ?_
    refine a_bipush (v := 6) C dX6_changes_12 (by decide) ?_
    refine a_iload_n C dX6_changes_14 1 rfl ?_
    refine a_imul C dX6_changes_15 ?_
    refine a_iload_n C dX6_changes_16 3 rfl ?_
    refine a_iadd C dX6_changes_17 ?_
    obtain ⟨hb, h⟩ := ck_some h
    refine a_iald C dX6_changes_18 Kc_56 rfl hb ?_
    refine a_istore (lv' := [(4, _), (0, _), (1, _), (2, _), (3, _)]) C dX6_changes_19 (by decide) rfl ?_
    refine a_aload_n C dX6_changes_21 1 rfl ?_
    refine a_getr (k1 := 56) C dX6_changes_22 fl_X6_28 rfl Kc_49 rfl ?_
    refine a_bipush (v := 6) C dX6_changes_25 (by decide) ?_
    refine a_iload_n C dX6_changes_27 2 rfl ?_
    refine a_imul C dX6_changes_28 ?_
    refine a_iload_n C dX6_changes_29 4 rfl ?_
    refine a_iadd C dX6_changes_30 ?_
    refine a_aload_n C dX6_changes_31 1 rfl ?_
    refine a_getr (k1 := 56) C dX6_changes_32 fl_X6_28 rfl Kc_49 rfl ?_
    refine a_bipush (v := 6) C dX6_changes_35 (by decide) ?_
    refine a_iload_n C dX6_changes_37 3 rfl ?_
    refine a_imul C dX6_changes_38 ?_
    refine a_iload_n C dX6_changes_39 4 rfl ?_
    refine a_iadd C dX6_changes_40 ?_
    obtain ⟨hb, h⟩ := ck_some h
    refine a_iald C dX6_changes_41 Kc_56 rfl hb ?_
    obtain ⟨hb, h⟩ := ck_some h
    refine a_iast C dX6_changes_42 Kc_56 rfl hb ?_
    refine a_aload_n C dX6_changes_43 1 rfl ?_
    refine a_getr (k1 := 56) C dX6_changes_44 fl_X6_28 rfl Kc_49 rfl ?_
    refine a_bipush (v := 6) C dX6_changes_47 (by decide) ?_
    refine a_iload_n C dX6_changes_49 3 rfl ?_
    refine a_imul C dX6_changes_50 ?_
    refine a_iload_n C dX6_changes_51 4 rfl ?_
    refine a_iadd C dX6_changes_52 ?_
    refine a_iload C dX6_changes_53 0 rfl ?_
    obtain ⟨hb, h⟩ := ck_some h
    refine a_iast C dX6_changes_55 Kc_56 rfl hb ?_
    refine a_iinc (v := 1) (lv' := [(3, _), (4, _), (0, _), (1, _), (2, _)]) C dX6_changes_56 4 rfl (by decide) (by decide) rfl ?_
    refine a_goto (tgt := 2) C dX6_changes_59 (by decide) ?_
    replace h := Option.some.inj h
    subst h
    exact a_sub [2, 3, 4, 0] (hK) rfl
abbrev At_X6_changes_64 (Y : EY) (X : CX) (x1 : Int32) (x2 : Int32) (s : Int32 × Mem) : Prop := AW Y X 5 64 [(0, .ref (Y.2.2.2.1 49)), (1, .int x1), (2, .int x2), (3, .int s.1)] [] s.2
abbrev Ex_X6_changes_64 (Y : EY) (X : CX) (x1 : Int32) (x2 : Int32) (s : Int32 × Mem) : Prop := AW Y X 5 103 [(0, .ref (Y.2.2.2.1 49)), (1, .int x1), (2, .int x2)] [] s.2
noncomputable def f_X6_changes_64_64b (x1 : Int32) (x2 : Int32) (x3 : Int32) (M : Mem) : Option ((Int32 × Mem) ⊕ (Int32 × Mem)) :=
  (if (M 49 9) ≤ x3 then some (.inr (x3, M)) else ck (inb (((2 : Int32) * x3) + (1 : Int32)) 16) (Option.bind (f_X6_other (M 57 ((((2 : Int32) * x3) + (1 : Int32))).toNatClampNeg) x1 x2) (fun r3 => ck (inb (((2 : Int32) * x3) + (1 : Int32)) 16) (some (.inl ((x3 + (1 : Int32)), (upM M 57 ((((2 : Int32) * x3) + (1 : Int32))).toNatClampNeg r3)))))))
theorem t_X6_changes_64_64b {Y : EY} {X : CX} (C : CK Y X cX6_changes RX6 5 none rm_X6_changes) {x1 : Int32} {x2 : Int32} {x3 : Int32} {M : Mem}  {res : (Int32 × Mem) ⊕ (Int32 × Mem)} (h : f_X6_changes_64_64b x1 x2 x3 M = some res) (hK : KL (At_X6_changes_64 Y X x1 x2) (Ex_X6_changes_64 Y X x1 x2) res) : AW Y X 5 64 [(0, .ref (Y.2.2.2.1 49)), (1, .int x1), (2, .int x2), (3, .int x3)] [] M := by
  unfold f_X6_changes_64_64b at h
  refine a_iload_n C dX6_changes_64 3 rfl ?_
  refine a_aload_n C dX6_changes_65 0 rfl ?_
  refine a_geti C dX6_changes_66 fl_X6_124 rfl Kc_49 ?_
  refine a_icmp_ge (tgt := 103) C dX6_changes_69 (by decide) (fun hc => ?_) (fun hc => ?_)
  · replace h := ip hc h
    replace h := Option.some.inj h
    subst h
    exact a_sub [0, 1, 2] (hK) rfl
  · replace h := iq hc h
    refine a_aload_n C dX6_changes_72 0 rfl ?_
    refine a_getr (k1 := 57) C dX6_changes_73 fl_X6_31 rfl Kc_49 rfl ?_
    refine a_iconst (v := 2) C dX6_changes_76 (by decide) ?_
    refine a_iload_n C dX6_changes_77 3 rfl ?_
    refine a_imul C dX6_changes_78 ?_
    refine a_iconst (v := 1) C dX6_changes_79 (by decide) ?_
    refine a_iadd C dX6_changes_80 ?_
    refine a_aload_n C dX6_changes_81 0 rfl ?_
    refine a_getr (k1 := 57) C dX6_changes_82 fl_X6_31 rfl Kc_49 rfl ?_
    refine a_iconst (v := 2) C dX6_changes_85 (by decide) ?_
    refine a_iload_n C dX6_changes_86 3 rfl ?_
    refine a_imul C dX6_changes_87 ?_
    refine a_iconst (v := 1) C dX6_changes_88 (by decide) ?_
    refine a_iadd C dX6_changes_89 ?_
    obtain ⟨hb, h⟩ := ck_some h
    refine a_iald C dX6_changes_90 Kc_57 rfl hb ?_
    refine a_iload_n C dX6_changes_91 1 rfl ?_
    refine a_iload_n C dX6_changes_92 2 rfl ?_
    obtain ⟨r3, hcr3, h⟩ := bd_some h
    refine a_callSi C dX6_changes_93 ls_X6_241 lm_X6_other ⟨rfl, rfl, by decide, by decide⟩ (m_X6_other C.2.2.2.2.2.2.1 hcr3) rfl rfl (Nat.le_of_ble_eq_true rfl) ?_
    obtain ⟨hb, h⟩ := ck_some h
    refine a_iast C dX6_changes_96 Kc_57 rfl hb ?_
    refine a_iinc (v := 1) (lv' := [(3, _), (0, _), (1, _), (2, _)]) C dX6_changes_97 3 rfl (by decide) (by decide) rfl ?_
    refine a_goto (tgt := 64) C dX6_changes_100 (by decide) ?_
    replace h := Option.some.inj h
    subst h
    exact a_sub [1, 2, 3, 0] (hK) rfl
abbrev At_X6_changes_105 (Y : EY) (X : CX) (x1 : Int32) (x2 : Int32) (s : Int32 × Mem) : Prop := AW Y X 5 105 [(0, .ref (Y.2.2.2.1 49)), (1, .int x1), (2, .int x2), (3, .int s.1)] [] s.2
abbrev Ex_X6_changes_105 (Y : EY) (X : CX) (x1 : Int32) (x2 : Int32) (s : Int32 × Mem) : Prop := AW Y X 5 144 [] [] s.2
noncomputable def f_X6_changes_105_105b (x1 : Int32) (x2 : Int32) (x3 : Int32) (M : Mem) : Option ((Int32 × Mem) ⊕ (Int32 × Mem)) :=
  (if (M 49 11) ≤ x3 then some (.inr (x3, M)) else ck (inb (((3 : Int32) * x3) + (2 : Int32)) 24) (Option.bind (f_X6_other (M 58 ((((3 : Int32) * x3) + (2 : Int32))).toNatClampNeg) x1 x2) (fun r6 => ck (inb (((3 : Int32) * x3) + (2 : Int32)) 24) (some (.inl ((x3 + (1 : Int32)), (upM M 58 ((((3 : Int32) * x3) + (2 : Int32))).toNatClampNeg r6)))))))
theorem t_X6_changes_105_105b {Y : EY} {X : CX} (C : CK Y X cX6_changes RX6 5 none rm_X6_changes) {x1 : Int32} {x2 : Int32} {x3 : Int32} {M : Mem}  {res : (Int32 × Mem) ⊕ (Int32 × Mem)} (h : f_X6_changes_105_105b x1 x2 x3 M = some res) (hK : KL (At_X6_changes_105 Y X x1 x2) (Ex_X6_changes_105 Y X x1 x2) res) : AW Y X 5 105 [(0, .ref (Y.2.2.2.1 49)), (1, .int x1), (2, .int x2), (3, .int x3)] [] M := by
  unfold f_X6_changes_105_105b at h
  refine a_iload_n C dX6_changes_105 3 rfl ?_
  refine a_aload_n C dX6_changes_106 0 rfl ?_
  refine a_geti C dX6_changes_107 fl_X6_152 rfl Kc_49 ?_
  refine a_icmp_ge (tgt := 144) C dX6_changes_110 (by decide) (fun hc => ?_) (fun hc => ?_)
  · replace h := ip hc h
    replace h := Option.some.inj h
    subst h
    exact a_sub [] (hK) rfl
  · replace h := iq hc h
    refine a_aload_n C dX6_changes_113 0 rfl ?_
    refine a_getr (k1 := 58) C dX6_changes_114 fl_X6_34 rfl Kc_49 rfl ?_
    refine a_iconst (v := 3) C dX6_changes_117 (by decide) ?_
    refine a_iload_n C dX6_changes_118 3 rfl ?_
    refine a_imul C dX6_changes_119 ?_
    refine a_iconst (v := 2) C dX6_changes_120 (by decide) ?_
    refine a_iadd C dX6_changes_121 ?_
    refine a_aload_n C dX6_changes_122 0 rfl ?_
    refine a_getr (k1 := 58) C dX6_changes_123 fl_X6_34 rfl Kc_49 rfl ?_
    refine a_iconst (v := 3) C dX6_changes_126 (by decide) ?_
    refine a_iload_n C dX6_changes_127 3 rfl ?_
    refine a_imul C dX6_changes_128 ?_
    refine a_iconst (v := 2) C dX6_changes_129 (by decide) ?_
    refine a_iadd C dX6_changes_130 ?_
    obtain ⟨hb, h⟩ := ck_some h
    refine a_iald C dX6_changes_131 Kc_58 rfl hb ?_
    refine a_iload_n C dX6_changes_132 1 rfl ?_
    refine a_iload_n C dX6_changes_133 2 rfl ?_
    obtain ⟨r6, hcr6, h⟩ := bd_some h
    refine a_callSi C dX6_changes_134 ls_X6_241 lm_X6_other ⟨rfl, rfl, by decide, by decide⟩ (m_X6_other C.2.2.2.2.2.2.1 hcr6) rfl rfl (Nat.le_of_ble_eq_true rfl) ?_
    obtain ⟨hb, h⟩ := ck_some h
    refine a_iast C dX6_changes_137 Kc_58 rfl hb ?_
    refine a_iinc (v := 1) (lv' := [(3, _), (0, _), (1, _), (2, _)]) C dX6_changes_138 3 rfl (by decide) (by decide) rfl ?_
    refine a_goto (tgt := 105) C dX6_changes_141 (by decide) ?_
    replace h := Option.some.inj h
    subst h
    exact a_sub [1, 2, 3, 0] (hK) rfl
noncomputable def f_X6_changes (x1 : Int32) (x2 : Int32) (M : Mem) : Option (Mem) :=
  Option.bind (loop (fun s1 : Int32 × Mem => f_X6_changes_2_2b x1 x2 s1.1 s1.2) ((0 : Int32), M)) (fun s2 => Option.bind (loop (fun s4 : Int32 × Mem => f_X6_changes_64_64b x1 x2 s4.1 s4.2) ((0 : Int32), s2.2)) (fun s5 => Option.bind (loop (fun s7 : Int32 × Mem => f_X6_changes_105_105b x1 x2 s7.1 s7.2) ((0 : Int32), s5.2)) (fun s8 => some s8.2)))
theorem t_X6_changes {Y : EY} {X : CX} (C : CK Y X cX6_changes RX6 5 none rm_X6_changes) {x1 : Int32} {x2 : Int32} {M : Mem}  {res : Mem} (h : f_X6_changes x1 x2 M = some res) (hK : RK Y X none res) : AW Y X 5 0 [(0, .ref (Y.2.2.2.1 49)), (1, .int x1), (2, .int x2)] [] M := by
  unfold f_X6_changes at h
  refine a_iconst (v := 0) C dX6_changes_0 (by decide) ?_
  refine a_istore_n (lv' := [(3, _), (0, _), (1, _), (2, _)]) C dX6_changes_1 rfl (by decide) rfl ?_
  obtain ⟨s2, hl, h⟩ := bd_some h
  have hE : Ex_X6_changes_2 Y X x1 x2 s2 := by
    refine a_iconst (v := 0) C dX6_changes_62 (by decide) ?_
    refine a_istore_n (lv' := [(3, _), (0, _), (1, _), (2, _)]) C dX6_changes_63 rfl (by decide) rfl ?_
    obtain ⟨s5, hl, h⟩ := bd_some h
    have hE : Ex_X6_changes_64 Y X x1 x2 s5 := by
      refine a_iconst (v := 0) C dX6_changes_103 (by decide) ?_
      refine a_istore_n (lv' := [(3, _), (0, _), (1, _), (2, _)]) C dX6_changes_104 rfl (by decide) rfl ?_
      obtain ⟨s8, hl, h⟩ := bd_some h
      have hE : Ex_X6_changes_105 Y X x1 x2 s8 := by
        replace h := Option.some.inj h
        subst h
        exact a_vret C dX6_changes_144 hK
      have hA := aw_loop (At_X6_changes_105 Y X x1 x2) (Ex_X6_changes_105 Y X x1 x2) (fun _ _ hb hk => t_X6_changes_105_105b C hb hk) hl hE
      exact a_sub [1, 2, 3, 0] (hA) rfl
    have hA := aw_loop (At_X6_changes_64 Y X x1 x2) (Ex_X6_changes_64 Y X x1 x2) (fun _ _ hb hk => t_X6_changes_64_64b C hb hk) hl hE
    exact a_sub [1, 2, 3, 0] (hA) rfl
  have hA := aw_loop (At_X6_changes_2 Y X x1 x2) (Ex_X6_changes_2 Y X x1 x2) (fun _ _ hb hk => t_X6_changes_2_2b C hb hk) hl hE
  exact a_sub [1, 2, 3, 0] (hA) rfl
theorem m_X6_changes {Y : EY} (hY : HY Y) {x1 : Int32} {x2 : Int32} {M : Mem}  {r : Mem} (h : f_X6_changes x1 x2 M = some r) : MX Y yX6_changes cX6_changes 5 none rm_X6_changes [.ref (Y.2.2.2.1 49), .int x1, .int x2] M (none) r := MX.of hY (by decide) (Nat.le_of_ble_eq_true rfl) (fun _ hR C => a_sub [0, 1, 2] (t_X6_changes C  h hR) rfl)
abbrev rm_X6_trayBy : Room := { frames := 5, cells := 0, slots := 0, locals := 117 }
abbrev At_X6_trayBy_8 (Y : EY) (X : CX) (x1 : Int32) (s : Int32 × Int32 × Int32 × Mem) : Prop := AW Y X 8 8 [(0, .ref (Y.2.2.2.1 49)), (1, .int x1), (2, .int s.1), (3, .int s.2.1), (4, .int s.2.2.1)] [] s.2.2.2
abbrev Ex_X6_trayBy_8 (Y : EY) (X : CX) (x1 : Int32) (s : Int32 × Int32 × Int32 × Mem) : Prop := AW Y X 8 100 [(1, .int x1), (2, .int s.1), (3, .int s.2.1)] [] s.2.2.2
noncomputable def f_X6_trayBy_94_8 (x1 : Int32) (x2 : Int32) (x3 : Int32) (x4 : Int32) (M : Mem) : Option ((Int32 × Int32 × Int32 × Mem) ⊕ (Int32 × Int32 × Int32 × Mem)) :=
  some (.inl (x2, x3, (x4 + (1 : Int32)), M))
theorem t_X6_trayBy_94_8 {Y : EY} {X : CX} (C : CK Y X cX6_trayBy RX6 8 (some .int) rm_X6_trayBy) {x1 : Int32} {x2 : Int32} {x3 : Int32} {x4 : Int32} {M : Mem}  {res : (Int32 × Int32 × Int32 × Mem) ⊕ (Int32 × Int32 × Int32 × Mem)} (h : f_X6_trayBy_94_8 x1 x2 x3 x4 M = some res) (hK : KL (At_X6_trayBy_8 Y X x1) (Ex_X6_trayBy_8 Y X x1) res) : AW Y X 8 94 [(0, .ref (Y.2.2.2.1 49)), (1, .int x1), (2, .int x2), (3, .int x3), (4, .int x4)] [] M := by
  unfold f_X6_trayBy_94_8 at h
  refine a_iinc (v := 1) (lv' := [(4, _), (0, _), (1, _), (2, _), (3, _)]) C dX6_trayBy_94 4 rfl (by decide) (by decide) rfl ?_
  refine a_goto (tgt := 8) C dX6_trayBy_97 (by decide) ?_
  replace h := Option.some.inj h
  subst h
  exact a_sub [1, 2, 3, 4, 0] (hK) rfl
noncomputable def f_X6_trayBy_78_8 (x1 : Int32) (x3 : Int32) (x4 : Int32) (x5 : Int32) (x6 : Int32) (x7 : Int32) (t0 : Int32) (M : Mem) : Option ((Int32 × Int32 × Int32 × Mem) ⊕ (Int32 × Int32 × Int32 × Mem)) :=
  Option.bind (f_X6_lesser x7 x3) (fun r5 => Option.bind (f_X6_changes x5 x6 M) (fun r6 => f_X6_trayBy_94_8 x1 t0 r5 x4 r6))
theorem t_X6_trayBy_78_8 {Y : EY} {X : CX} (C : CK Y X cX6_trayBy RX6 8 (some .int) rm_X6_trayBy) {x1 : Int32} {x3 : Int32} {x4 : Int32} {x5 : Int32} {x6 : Int32} {x7 : Int32} {t0 : Int32} {M : Mem}  {res : (Int32 × Int32 × Int32 × Mem) ⊕ (Int32 × Int32 × Int32 × Mem)} (h : f_X6_trayBy_78_8 x1 x3 x4 x5 x6 x7 t0 M = some res) (hK : KL (At_X6_trayBy_8 Y X x1) (Ex_X6_trayBy_8 Y X x1) res) : AW Y X 8 78 [(0, .ref (Y.2.2.2.1 49)), (1, .int x1), (3, .int x3), (4, .int x4), (5, .int x5), (6, .int x6), (7, .int x7)] [.int t0] M := by
  unfold f_X6_trayBy_78_8 at h
  refine a_istore_n (lv' := [(2, _), (0, _), (1, _), (3, _), (4, _), (5, _), (6, _), (7, _)]) C dX6_trayBy_78 rfl (by decide) rfl ?_
  refine a_iload C dX6_trayBy_79 7 rfl ?_
  refine a_iload_n C dX6_trayBy_81 3 rfl ?_
  obtain ⟨r5, hcr5, h⟩ := bd_some h
  refine a_callSi C dX6_trayBy_82 ls_X6_168 lm_X6_lesser ⟨rfl, rfl, by decide, by decide⟩ (m_X6_lesser C.2.2.2.2.2.2.1 hcr5) rfl rfl (Nat.le_of_ble_eq_true rfl) ?_
  refine a_istore_n (lv' := [(3, _), (2, _), (0, _), (1, _), (4, _), (5, _), (6, _), (7, _)]) C dX6_trayBy_85 rfl (by decide) rfl ?_
  refine a_aload_n C dX6_trayBy_86 2 rfl ?_
  refine a_iload C dX6_trayBy_87 5 rfl ?_
  refine a_iload C dX6_trayBy_89 6 rfl ?_
  obtain ⟨r6, hcr6, h⟩ := bd_some h
  refine a_callVv C dX6_trayBy_91 lv_X6_244 lm_X6_changes ⟨rfl, rfl, by decide, by decide⟩ Kc_49 (m_X6_changes C.2.2.2.2.2.2.1 hcr6) rfl rfl (Nat.le_of_ble_eq_true rfl) ?_
  exact a_sub [2, 3, 1, 0, 4] (t_X6_trayBy_94_8 C h hK) rfl
noncomputable def f_X6_trayBy_8_8b (x1 : Int32) (x2 : Int32) (x3 : Int32) (x4 : Int32) (M : Mem) : Option ((Int32 × Int32 × Int32 × Mem) ⊕ (Int32 × Int32 × Int32 × Mem)) :=
  (if (64 : Int32) ≤ x4 then some (.inr (x2, x3, x4, M)) else (if (remI x4 (8 : Int32)) ≤ (x4 / (8 : Int32)) then f_X6_trayBy_94_8 x1 x2 x3 x4 M else (if (M 49 7) ≤ (remI x4 (8 : Int32)) then f_X6_trayBy_94_8 x1 x2 x3 x4 M else Option.bind (f_X6_changes (x4 / (8 : Int32)) (remI x4 (8 : Int32)) M) (fun r1 => Option.bind (f_X6_lives r1) (fun r2 => Option.bind (f_X6_astrayNow r2) (fun r3 => Option.bind (f_X6_ones r3) (fun r4 => (if x3 ≤ r4 then f_X6_trayBy_78_8 x1 x3 x4 (x4 / (8 : Int32)) (remI x4 (8 : Int32)) r4 x2 r2 else f_X6_trayBy_78_8 x1 x3 x4 (x4 / (8 : Int32)) (remI x4 (8 : Int32)) r4 x4 r2))))))))
theorem t_X6_trayBy_8_8b {Y : EY} {X : CX} (C : CK Y X cX6_trayBy RX6 8 (some .int) rm_X6_trayBy) {x1 : Int32} {x2 : Int32} {x3 : Int32} {x4 : Int32} {M : Mem}  {res : (Int32 × Int32 × Int32 × Mem) ⊕ (Int32 × Int32 × Int32 × Mem)} (h : f_X6_trayBy_8_8b x1 x2 x3 x4 M = some res) (hK : KL (At_X6_trayBy_8 Y X x1) (Ex_X6_trayBy_8 Y X x1) res) : AW Y X 8 8 [(0, .ref (Y.2.2.2.1 49)), (1, .int x1), (2, .int x2), (3, .int x3), (4, .int x4)] [] M := by
  unfold f_X6_trayBy_8_8b at h
  refine a_iload C dX6_trayBy_8 4 rfl ?_
  refine a_bipush (v := 64) C dX6_trayBy_10 (by decide) ?_
  refine a_icmp_ge (tgt := 100) C dX6_trayBy_12 (by decide) (fun hc => ?_) (fun hc => ?_)
  · replace h := ip hc h
    replace h := Option.some.inj h
    subst h
    exact a_sub [1, 2, 3] (hK) rfl
  · replace h := iq hc h
    refine a_iload C dX6_trayBy_15 4 rfl ?_
    refine a_bipush (v := 8) C dX6_trayBy_17 (by decide) ?_
    refine a_idiv C dX6_trayBy_19 (by decide) ?_
    refine a_istore (lv' := [(5, _), (0, _), (1, _), (2, _), (3, _), (4, _)]) C dX6_trayBy_20 (by decide) rfl ?_
    refine a_iload C dX6_trayBy_22 5 rfl ?_
    refine a_bipush (v := 8) C dX6_trayBy_24 (by decide) ?_
    refine a_irem C dX6_trayBy_26 (by decide) ?_
    refine a_istore (lv' := [(6, _), (5, _), (0, _), (1, _), (2, _), (3, _), (4, _)]) C dX6_trayBy_27 (by decide) rfl ?_
    refine a_iload C dX6_trayBy_29 1 rfl ?_
    refine a_iload C dX6_trayBy_31 0 rfl ?_
    refine a_icmp_ge (tgt := 94) C dX6_trayBy_33 (by decide) (fun hc => ?_) (fun hc => ?_)
    · replace h := ip hc h
      exact a_sub [2, 3, 4, 5, 6] (t_X6_trayBy_94_8 C h hK) rfl
    · replace h := iq hc h
      refine a_iload C dX6_trayBy_36 0 rfl ?_
      refine a_aload_n C dX6_trayBy_38 2 rfl ?_
      refine a_geti C dX6_trayBy_39 fl_X6_116 rfl Kc_49 ?_
      refine a_icmp_ge (tgt := 94) C dX6_trayBy_42 (by decide) (fun hc => ?_) (fun hc => ?_)
      · replace h := ip hc h
        exact a_sub [2, 3, 4, 5, 6] (t_X6_trayBy_94_8 C h hK) rfl
      · replace h := iq hc h
        refine a_aload_n C dX6_trayBy_45 2 rfl ?_
        refine a_iload C dX6_trayBy_46 1 rfl ?_
        refine a_iload C dX6_trayBy_48 0 rfl ?_
        obtain ⟨r1, hcr1, h⟩ := bd_some h
        refine a_callVv C dX6_trayBy_50 lv_X6_244 lm_X6_changes ⟨rfl, rfl, by decide, by decide⟩ Kc_49 (m_X6_changes C.2.2.2.2.2.2.1 hcr1) rfl rfl (Nat.le_of_ble_eq_true rfl) ?_
        refine a_aload_n C dX6_trayBy_53 2 rfl ?_
        obtain ⟨r2, hcr2, h⟩ := bd_some h
        refine a_callVv C dX6_trayBy_54 lv_X6_213 lm_X6_lives ⟨rfl, rfl, by decide, by decide⟩ Kc_49 (m_X6_lives C.2.2.2.2.2.2.1 hcr2) rfl rfl (Nat.le_of_ble_eq_true rfl) ?_
        refine a_aload_n C dX6_trayBy_57 2 rfl ?_
        obtain ⟨r3, hcr3, h⟩ := bd_some h
        refine a_callVi C dX6_trayBy_58 lv_X6_228 lm_X6_astrayNow ⟨rfl, rfl, by decide, by decide⟩ Kc_49 (m_X6_astrayNow C.2.2.2.2.2.2.1 hcr3) rfl rfl (Nat.le_of_ble_eq_true rfl) ?_
        obtain ⟨r4, hcr4, h⟩ := bd_some h
        refine a_callSi C dX6_trayBy_61 ls_X6_247 lm_X6_ones ⟨rfl, rfl, by decide, by decide⟩ (m_X6_ones C.2.2.2.2.2.2.1 hcr4) rfl rfl (Nat.le_of_ble_eq_true rfl) ?_
        refine a_istore (lv' := [(7, _), (6, _), (5, _), (0, _), (1, _), (2, _), (3, _), (4, _)]) C dX6_trayBy_64 (by decide) rfl ?_
        refine a_iload C dX6_trayBy_66 0 rfl ?_
        refine a_iload_n C dX6_trayBy_68 6 rfl ?_
        refine a_icmp_ge (tgt := 77) C dX6_trayBy_69 (by decide) (fun hc => ?_) (fun hc => ?_)
        · replace h := ip hc h
          refine a_iload_n C dX6_trayBy_77 5 rfl ?_
          exact a_sub [3, 4, 6, 7, 2, 1, 0] (t_X6_trayBy_78_8 C h hK) rfl
        · replace h := iq hc h
          refine a_iload C dX6_trayBy_72 7 rfl ?_
          refine a_goto (tgt := 78) C dX6_trayBy_74 (by decide) ?_
          exact a_sub [3, 4, 6, 7, 2, 1, 0] (t_X6_trayBy_78_8 C h hK) rfl
noncomputable def f_X6_trayBy (x1 : Int32) (M : Mem) : Option (Int32 × Mem) :=
  Option.bind (loop (fun s7 : Int32 × Int32 × Int32 × Mem => f_X6_trayBy_8_8b x1 s7.1 s7.2.1 s7.2.2.1 s7.2.2.2) ((-1 : Int32), (99 : Int32), (0 : Int32), M)) (fun s8 => (if s8.1 = (-1 : Int32) then some ((-1 : Int32), s8.2.2.2) else (if x1 = 0 then some ((s8.1 / (8 : Int32)), s8.2.2.2) else (if x1 = (1 : Int32) then some ((remI s8.1 (8 : Int32)), s8.2.2.2) else some (s8.2.1, s8.2.2.2)))))
theorem t_X6_trayBy {Y : EY} {X : CX} (C : CK Y X cX6_trayBy RX6 8 (some .int) rm_X6_trayBy) {x1 : Int32} {M : Mem}  {res : Int32 × Mem} (h : f_X6_trayBy x1 M = some res) (hK : RK Y X (some (.int res.1)) res.2) : AW Y X 8 0 [(0, .ref (Y.2.2.2.1 49)), (1, .int x1)] [] M := by
  unfold f_X6_trayBy at h
  refine a_iconst (v := -1) C dX6_trayBy_0 (by decide) ?_
  refine a_istore_n (lv' := [(2, _), (0, _), (1, _)]) C dX6_trayBy_1 rfl (by decide) rfl ?_
  refine a_bipush (v := 99) C dX6_trayBy_2 (by decide) ?_
  refine a_istore_n (lv' := [(3, _), (2, _), (0, _), (1, _)]) C dX6_trayBy_4 rfl (by decide) rfl ?_
  refine a_iconst (v := 0) C dX6_trayBy_5 (by decide) ?_
  refine a_istore (lv' := [(4, _), (3, _), (2, _), (0, _), (1, _)]) C dX6_trayBy_6 (by decide) rfl ?_
  obtain ⟨s8, hl, h⟩ := bd_some h
  have hE : Ex_X6_trayBy_8 Y X x1 s8 := by
    refine a_iload_n C dX6_trayBy_100 1 rfl ?_
    refine a_iconst (v := -1) C dX6_trayBy_101 (by decide) ?_
    refine a_icmp_ne (tgt := 109) C dX6_trayBy_102 (by decide) (fun hc => ?_) (fun hc => ?_)
    · replace h := iq hc h
      refine a_iload_n C dX6_trayBy_109 0 rfl ?_
      refine a_if_ne (tgt := 120) C dX6_trayBy_110 (by decide) (fun hc => ?_) (fun hc => ?_)
      · replace h := iq hc h
        refine a_iload_n C dX6_trayBy_120 0 rfl ?_
        refine a_iconst (v := 1) C dX6_trayBy_121 (by decide) ?_
        refine a_icmp_ne (tgt := 132) C dX6_trayBy_122 (by decide) (fun hc => ?_) (fun hc => ?_)
        · replace h := iq hc h
          refine a_iload_n C dX6_trayBy_132 2 rfl ?_
          replace h := Option.some.inj h
          subst h
          exact a_iret C dX6_trayBy_133 hK
        · replace h := ip hc h
          refine a_iload_n C dX6_trayBy_125 1 rfl ?_
          refine a_bipush (v := 8) C dX6_trayBy_126 (by decide) ?_
          refine a_irem C dX6_trayBy_128 (by decide) ?_
          refine a_goto (tgt := 133) C dX6_trayBy_129 (by decide) ?_
          replace h := Option.some.inj h
          subst h
          exact a_iret C dX6_trayBy_133 hK
      · replace h := ip hc h
        refine a_iload_n C dX6_trayBy_113 1 rfl ?_
        refine a_bipush (v := 8) C dX6_trayBy_114 (by decide) ?_
        refine a_idiv C dX6_trayBy_116 (by decide) ?_
        refine a_goto (tgt := 133) C dX6_trayBy_117 (by decide) ?_
        replace h := Option.some.inj h
        subst h
        exact a_iret C dX6_trayBy_133 hK
    · replace h := ip hc h
      refine a_iconst (v := -1) C dX6_trayBy_105 (by decide) ?_
      refine a_goto (tgt := 133) C dX6_trayBy_106 (by decide) ?_
      replace h := Option.some.inj h
      subst h
      exact a_iret C dX6_trayBy_133 hK
  have hA := aw_loop (At_X6_trayBy_8 Y X x1) (Ex_X6_trayBy_8 Y X x1) (fun _ _ hb hk => t_X6_trayBy_8_8b C hb hk) hl hE
  exact a_sub [3, 4, 2, 1, 0] (hA) rfl
theorem m_X6_trayBy {Y : EY} (hY : HY Y) {x1 : Int32} {M : Mem}  {r : Int32 × Mem} (h : f_X6_trayBy x1 M = some r) : MX Y yX6_trayBy cX6_trayBy 8 (some .int) rm_X6_trayBy [.ref (Y.2.2.2.1 49), .int x1] M (some (.int r.1)) r.2 := MX.of hY (by decide) (Nat.le_of_ble_eq_true rfl) (fun _ hR C => a_sub [0, 1] (t_X6_trayBy C  h hR) rfl)
abbrev rm_X6_tray : Room := { frames := 6, cells := 0, slots := 0, locals := 144 }
noncomputable def f_X6_tray (x1 : Int32) (M : Mem) : Option (Int32 × Mem) :=
  Option.bind (f_X6_find M) (fun r1 => Option.bind (f_X6_in (x1).toInt64 (0 : Int64) (2 : Int64)) (fun r2 => (if r2 = 0 then some ((-2 : Int32), r1) else Option.bind (f_X6_trayBy x1 r1) (fun r3 => some (r3.1, r3.2)))))
theorem t_X6_tray {Y : EY} {X : CX} (C : CK Y X cX6_tray RX6 2 (some .int) rm_X6_tray) {x1 : Int32} {M : Mem}  {res : Int32 × Mem} (h : f_X6_tray x1 M = some res) (hK : RK Y X (some (.int res.1)) res.2) : AW Y X 2 0 [(0, .ref (Y.2.2.2.1 49)), (1, .int x1)] [] M := by
  unfold f_X6_tray at h
  refine a_aload_n C dX6_tray_0 0 rfl ?_
  obtain ⟨r1, hcr1, h⟩ := bd_some h
  refine a_callVv C dX6_tray_1 lv_X6_216 lm_X6_find ⟨rfl, rfl, by decide, by decide⟩ Kc_49 (m_X6_find C.2.2.2.2.2.2.1 hcr1) rfl rfl (Nat.le_of_ble_eq_true rfl) ?_
  refine a_iload_n C dX6_tray_4 1 rfl ?_
  refine a_i2l C dX6_tray_5 ?_
  refine a_lconst (v := 0) C dX6_tray_6 (by decide) ?_
  refine a_ldc2 C dX6_tray_7 co_X6_92 ?_
  obtain ⟨r2, hcr2, h⟩ := bd_some h
  refine a_callSi C dX6_tray_10 ls_X6_79 lm_X6_in ⟨rfl, rfl, by decide, by decide⟩ (m_X6_in C.2.2.2.2.2.2.1 hcr2) rfl rfl (Nat.le_of_ble_eq_true rfl) ?_
  refine a_if_eq (tgt := 24) C dX6_tray_13 (by decide) (fun hc => ?_) (fun hc => ?_)
  · replace h := ip hc h
    refine a_bipush (v := -2) C dX6_tray_24 (by decide) ?_
    replace h := Option.some.inj h
    subst h
    exact a_iret C dX6_tray_26 hK
  · replace h := iq hc h
    refine a_aload_n C dX6_tray_16 0 rfl ?_
    refine a_iload_n C dX6_tray_17 1 rfl ?_
    obtain ⟨r3, hcr3, h⟩ := bd_some h
    refine a_callVi C dX6_tray_18 lv_X6_250 lm_X6_trayBy ⟨rfl, rfl, by decide, by decide⟩ Kc_49 (m_X6_trayBy C.2.2.2.2.2.2.1 hcr3) rfl rfl (Nat.le_of_ble_eq_true rfl) ?_
    refine a_goto (tgt := 26) C dX6_tray_21 (by decide) ?_
    replace h := Option.some.inj h
    subst h
    exact a_iret C dX6_tray_26 hK
theorem m_X6_tray {Y : EY} (hY : HY Y) {x1 : Int32} {M : Mem}  {r : Int32 × Mem} (h : f_X6_tray x1 M = some r) : MX Y yX6_tray cX6_tray 2 (some .int) rm_X6_tray [.ref (Y.2.2.2.1 49), .int x1] M (some (.int r.1)) r.2 := MX.of hY (by decide) (Nat.le_of_ble_eq_true rfl) (fun _ hR C => a_sub [0, 1] (t_X6_tray C  h hR) rfl)
abbrev rm_X6_isRight : Room := { frames := 5, cells := 0, slots := 0, locals := 117 }
noncomputable def f_X6_isRight (x1 : Int32) (M : Mem) : Option (Int32 × Mem) :=
  Option.bind (f_X6_lives (upM M 49 13 x1)) (fun r1 => Option.bind (f_X6_astrayNow (upM r1 49 13 (0 : Int32))) (fun r2 => (if r2 = 0 then some ((1 : Int32), (upM r1 49 13 (0 : Int32))) else some ((0 : Int32), (upM r1 49 13 (0 : Int32))))))
theorem t_X6_isRight {Y : EY} {X : CX} (C : CK Y X cX6_isRight RX6 2 (some .boolean) rm_X6_isRight) {x1 : Int32} {M : Mem}  {res : Int32 × Mem} (h : f_X6_isRight x1 M = some res) (hK : RK Y X (some (.int res.1)) res.2) : AW Y X 2 0 [(0, .ref (Y.2.2.2.1 49)), (1, .int x1)] [] M := by
  unfold f_X6_isRight at h
  refine a_aload_n C dX6_isRight_0 0 rfl ?_
  refine a_iload_n C dX6_isRight_1 1 rfl ?_
  refine a_put (ty := .int) C dX6_isRight_2 fl_X6_186 (fp_6_13) rfl Kc_49 rfl rfl ?_
  refine a_aload_n C dX6_isRight_5 0 rfl ?_
  obtain ⟨r1, hcr1, h⟩ := bd_some h
  refine a_callVv C dX6_isRight_6 lv_X6_213 lm_X6_lives ⟨rfl, rfl, by decide, by decide⟩ Kc_49 (m_X6_lives C.2.2.2.2.2.2.1 hcr1) rfl rfl (Nat.le_of_ble_eq_true rfl) ?_
  refine a_aload_n C dX6_isRight_9 0 rfl ?_
  refine a_iconst (v := 0) C dX6_isRight_10 (by decide) ?_
  refine a_put (ty := .int) C dX6_isRight_11 fl_X6_186 (fp_6_13) rfl Kc_49 rfl rfl ?_
  refine a_aload_n C dX6_isRight_14 0 rfl ?_
  obtain ⟨r2, hcr2, h⟩ := bd_some h
  refine a_callVi C dX6_isRight_15 lv_X6_228 lm_X6_astrayNow ⟨rfl, rfl, by decide, by decide⟩ Kc_49 (m_X6_astrayNow C.2.2.2.2.2.2.1 hcr2) rfl rfl (Nat.le_of_ble_eq_true rfl) ?_
  refine a_if_ne (tgt := 25) C dX6_isRight_18 (by decide) (fun hc => ?_) (fun hc => ?_)
  · replace h := iq hc h
    refine a_iconst (v := 0) C dX6_isRight_25 (by decide) ?_
    replace h := Option.some.inj h
    subst h
    exact a_zret C dX6_isRight_26 rfl hK
  · replace h := ip hc h
    refine a_iconst (v := 1) C dX6_isRight_21 (by decide) ?_
    refine a_goto (tgt := 26) C dX6_isRight_22 (by decide) ?_
    replace h := Option.some.inj h
    subst h
    exact a_zret C dX6_isRight_26 rfl hK
theorem m_X6_isRight {Y : EY} (hY : HY Y) {x1 : Int32} {M : Mem}  {r : Int32 × Mem} (h : f_X6_isRight x1 M = some r) : MX Y yX6_isRight cX6_isRight 2 (some .boolean) rm_X6_isRight [.ref (Y.2.2.2.1 49), .int x1] M (some (.int r.1)) r.2 := MX.of hY (by decide) (Nat.le_of_ble_eq_true rfl) (fun _ hR C => a_sub [0, 1] (t_X6_isRight C  h hR) rfl)
abbrev rm_X6_refuseOf : Room := { frames := 6, cells := 0, slots := 0, locals := 138 }
abbrev At_X6_refuseOf_21 (Y : EY) (X : CX) (x1 : Int32) (s : Int32 × Mem) : Prop := AW Y X 4 21 [(0, .ref (Y.2.2.2.1 49)), (1, .int x1), (2, .int s.1)] [] s.2
abbrev Ex_X6_refuseOf_21 (Y : EY) (X : CX) (x1 : Int32) : ((Int32 × Mem) ⊕ (Int32 × Mem)) → Prop := KL (fun s : Int32 × Mem => AW Y X 4 64 [(0, .ref (Y.2.2.2.1 49)), (1, .int x1)] [] s.2) (fun res : Int32 × Mem => RK Y X (some (.int res.1)) res.2)
noncomputable def f_X6_refuseOf_21_21b (x1 : Int32) (x2 : Int32) (M : Mem) : Option ((Int32 × Mem) ⊕ ((Int32 × Mem) ⊕ (Int32 × Mem))) :=
  (if (M 49 11) ≤ x2 then some (.inr (.inl (x2, M))) else Option.bind (f_X6_isRight (shlI (1 : Int32) x2) M) (fun r2 => (if r2.1 = 0 then some (.inl ((x2 + (1 : Int32)), r2.2)) else (if x1 = (-1 : Int32) then some (.inr (.inr ((1 : Int32), r2.2))) else (if x1 = 0 then some (.inr (.inr (x2, r2.2))) else some (.inr (.inr ((-1 : Int32), r2.2))))))))
theorem t_X6_refuseOf_21_21b {Y : EY} {X : CX} (C : CK Y X cX6_refuseOf RX6 4 (some .int) rm_X6_refuseOf) {x1 : Int32} {x2 : Int32} {M : Mem}  {res : (Int32 × Mem) ⊕ ((Int32 × Mem) ⊕ (Int32 × Mem))} (h : f_X6_refuseOf_21_21b x1 x2 M = some res) (hK : KL (At_X6_refuseOf_21 Y X x1) (Ex_X6_refuseOf_21 Y X x1) res) : AW Y X 4 21 [(0, .ref (Y.2.2.2.1 49)), (1, .int x1), (2, .int x2)] [] M := by
  unfold f_X6_refuseOf_21_21b at h
  refine a_iload_n C dX6_refuseOf_21 2 rfl ?_
  refine a_aload_n C dX6_refuseOf_22 0 rfl ?_
  refine a_geti C dX6_refuseOf_23 fl_X6_152 rfl Kc_49 ?_
  refine a_icmp_ge (tgt := 64) C dX6_refuseOf_26 (by decide) (fun hc => ?_) (fun hc => ?_)
  · replace h := ip hc h
    replace h := Option.some.inj h
    subst h
    exact a_sub [0, 1] (hK) rfl
  · replace h := iq hc h
    refine a_aload_n C dX6_refuseOf_29 0 rfl ?_
    refine a_iconst (v := 1) C dX6_refuseOf_30 (by decide) ?_
    refine a_iload_n C dX6_refuseOf_31 2 rfl ?_
    refine a_ishl C dX6_refuseOf_32 ?_
    obtain ⟨r2, hcr2, h⟩ := bd_some h
    refine a_callVi C dX6_refuseOf_33 lv_X6_253 lm_X6_isRight ⟨rfl, rfl, by decide, by decide⟩ Kc_49 (m_X6_isRight C.2.2.2.2.2.2.1 hcr2) rfl rfl (Nat.le_of_ble_eq_true rfl) ?_
    refine a_if_eq (tgt := 58) C dX6_refuseOf_36 (by decide) (fun hc => ?_) (fun hc => ?_)
    · replace h := ip hc h
      refine a_iinc (v := 1) (lv' := [(2, _), (0, _), (1, _)]) C dX6_refuseOf_58 2 rfl (by decide) (by decide) rfl ?_
      refine a_goto (tgt := 21) C dX6_refuseOf_61 (by decide) ?_
      replace h := Option.some.inj h
      subst h
      exact a_sub [1, 2, 0] (hK) rfl
    · replace h := iq hc h
      refine a_iload_n C dX6_refuseOf_39 1 rfl ?_
      refine a_iconst (v := -1) C dX6_refuseOf_40 (by decide) ?_
      refine a_icmp_ne (tgt := 48) C dX6_refuseOf_41 (by decide) (fun hc => ?_) (fun hc => ?_)
      · replace h := iq hc h
        refine a_iload_n C dX6_refuseOf_48 1 rfl ?_
        refine a_if_ne (tgt := 56) C dX6_refuseOf_49 (by decide) (fun hc => ?_) (fun hc => ?_)
        · replace h := iq hc h
          refine a_iconst (v := -1) C dX6_refuseOf_56 (by decide) ?_
          replace h := Option.some.inj h
          subst h
          exact a_iret C dX6_refuseOf_57 hK
        · replace h := ip hc h
          refine a_iload_n C dX6_refuseOf_52 2 rfl ?_
          refine a_goto (tgt := 57) C dX6_refuseOf_53 (by decide) ?_
          replace h := Option.some.inj h
          subst h
          exact a_iret C dX6_refuseOf_57 hK
      · replace h := ip hc h
        refine a_iconst (v := 1) C dX6_refuseOf_44 (by decide) ?_
        refine a_goto (tgt := 57) C dX6_refuseOf_45 (by decide) ?_
        replace h := Option.some.inj h
        subst h
        exact a_iret C dX6_refuseOf_57 hK
abbrev At_X6_refuseOf_66 (Y : EY) (X : CX) (x1 : Int32) (s : Int32 × Mem) : Prop := AW Y X 4 66 [(0, .ref (Y.2.2.2.1 49)), (1, .int x1), (2, .int s.1)] [] s.2
abbrev Ex_X6_refuseOf_66 (Y : EY) (X : CX) (x1 : Int32) : ((Int32 × Mem) ⊕ (Int32 × Mem)) → Prop := KL (fun s : Int32 × Mem => AW Y X 4 131 [] [] s.2) (fun res : Int32 × Mem => RK Y X (some (.int res.1)) res.2)
abbrev At_X6_refuseOf_78 (Y : EY) (X : CX) (x1 : Int32) (x2 : Int32) (s : Int32 × Mem) : Prop := AW Y X 4 78 [(0, .ref (Y.2.2.2.1 49)), (1, .int x1), (2, .int x2), (3, .int s.1)] [] s.2
abbrev Ex_X6_refuseOf_78 (Y : EY) (X : CX) (x1 : Int32) (x2 : Int32) : ((Int32 × Mem) ⊕ (Int32 × Mem)) → Prop := KL (fun s : Int32 × Mem => AW Y X 4 125 [(0, .ref (Y.2.2.2.1 49)), (1, .int x1), (2, .int x2)] [] s.2) (fun res : Int32 × Mem => RK Y X (some (.int res.1)) res.2)
noncomputable def f_X6_refuseOf_78_78b (x1 : Int32) (x2 : Int32) (x3 : Int32) (M : Mem) : Option ((Int32 × Mem) ⊕ ((Int32 × Mem) ⊕ (Int32 × Mem))) :=
  (if (M 49 11) ≤ x3 then some (.inr (.inl (x3, M))) else Option.bind (f_X6_isRight ((shlI (1 : Int32) x2) ||| (shlI (1 : Int32) x3)) M) (fun r5 => (if r5.1 = 0 then some (.inl ((x3 + (1 : Int32)), r5.2)) else (if x1 = (-1 : Int32) then some (.inr (.inr ((2 : Int32), r5.2))) else (if x1 = 0 then some (.inr (.inr (x2, r5.2))) else some (.inr (.inr (x3, r5.2))))))))
theorem t_X6_refuseOf_78_78b {Y : EY} {X : CX} (C : CK Y X cX6_refuseOf RX6 4 (some .int) rm_X6_refuseOf) {x1 : Int32} {x2 : Int32} {x3 : Int32} {M : Mem}  {res : (Int32 × Mem) ⊕ ((Int32 × Mem) ⊕ (Int32 × Mem))} (h : f_X6_refuseOf_78_78b x1 x2 x3 M = some res) (hK : KL (At_X6_refuseOf_78 Y X x1 x2) (Ex_X6_refuseOf_78 Y X x1 x2) res) : AW Y X 4 78 [(0, .ref (Y.2.2.2.1 49)), (1, .int x1), (2, .int x2), (3, .int x3)] [] M := by
  unfold f_X6_refuseOf_78_78b at h
  refine a_iload_n C dX6_refuseOf_78 3 rfl ?_
  refine a_aload_n C dX6_refuseOf_79 0 rfl ?_
  refine a_geti C dX6_refuseOf_80 fl_X6_152 rfl Kc_49 ?_
  refine a_icmp_ge (tgt := 125) C dX6_refuseOf_83 (by decide) (fun hc => ?_) (fun hc => ?_)
  · replace h := ip hc h
    replace h := Option.some.inj h
    subst h
    exact a_sub [0, 1, 2] (hK) rfl
  · replace h := iq hc h
    refine a_aload_n C dX6_refuseOf_86 0 rfl ?_
    refine a_iconst (v := 1) C dX6_refuseOf_87 (by decide) ?_
    refine a_iload_n C dX6_refuseOf_88 2 rfl ?_
    refine a_ishl C dX6_refuseOf_89 ?_
    refine a_iconst (v := 1) C dX6_refuseOf_90 (by decide) ?_
    refine a_iload_n C dX6_refuseOf_91 3 rfl ?_
    refine a_ishl C dX6_refuseOf_92 ?_
    refine a_ior C dX6_refuseOf_93 ?_
    obtain ⟨r5, hcr5, h⟩ := bd_some h
    refine a_callVi C dX6_refuseOf_94 lv_X6_253 lm_X6_isRight ⟨rfl, rfl, by decide, by decide⟩ Kc_49 (m_X6_isRight C.2.2.2.2.2.2.1 hcr5) rfl rfl (Nat.le_of_ble_eq_true rfl) ?_
    refine a_if_eq (tgt := 119) C dX6_refuseOf_97 (by decide) (fun hc => ?_) (fun hc => ?_)
    · replace h := ip hc h
      refine a_iinc (v := 1) (lv' := [(3, _), (0, _), (1, _), (2, _)]) C dX6_refuseOf_119 3 rfl (by decide) (by decide) rfl ?_
      refine a_goto (tgt := 78) C dX6_refuseOf_122 (by decide) ?_
      replace h := Option.some.inj h
      subst h
      exact a_sub [1, 2, 3, 0] (hK) rfl
    · replace h := iq hc h
      refine a_iload_n C dX6_refuseOf_100 1 rfl ?_
      refine a_iconst (v := -1) C dX6_refuseOf_101 (by decide) ?_
      refine a_icmp_ne (tgt := 109) C dX6_refuseOf_102 (by decide) (fun hc => ?_) (fun hc => ?_)
      · replace h := iq hc h
        refine a_iload_n C dX6_refuseOf_109 1 rfl ?_
        refine a_if_ne (tgt := 117) C dX6_refuseOf_110 (by decide) (fun hc => ?_) (fun hc => ?_)
        · replace h := iq hc h
          refine a_iload_n C dX6_refuseOf_117 3 rfl ?_
          replace h := Option.some.inj h
          subst h
          exact a_iret C dX6_refuseOf_118 hK
        · replace h := ip hc h
          refine a_iload_n C dX6_refuseOf_113 2 rfl ?_
          refine a_goto (tgt := 118) C dX6_refuseOf_114 (by decide) ?_
          replace h := Option.some.inj h
          subst h
          exact a_iret C dX6_refuseOf_118 hK
      · replace h := ip hc h
        refine a_iconst (v := 2) C dX6_refuseOf_105 (by decide) ?_
        refine a_goto (tgt := 118) C dX6_refuseOf_106 (by decide) ?_
        replace h := Option.some.inj h
        subst h
        exact a_iret C dX6_refuseOf_118 hK
noncomputable def f_X6_refuseOf_66_66b (x1 : Int32) (x2 : Int32) (M : Mem) : Option ((Int32 × Mem) ⊕ ((Int32 × Mem) ⊕ (Int32 × Mem))) :=
  (if (M 49 11) ≤ x2 then some (.inr (.inl (x2, M))) else Option.bind (loop (fun s6 : Int32 × Mem => f_X6_refuseOf_78_78b x1 x2 s6.1 s6.2) ((x2 + (1 : Int32)), M)) (eo (fun s7 => some (.inl ((x2 + (1 : Int32)), s7.2))) (fun r8 => some (.inr (.inr r8)))))
theorem t_X6_refuseOf_66_66b {Y : EY} {X : CX} (C : CK Y X cX6_refuseOf RX6 4 (some .int) rm_X6_refuseOf) {x1 : Int32} {x2 : Int32} {M : Mem}  {res : (Int32 × Mem) ⊕ ((Int32 × Mem) ⊕ (Int32 × Mem))} (h : f_X6_refuseOf_66_66b x1 x2 M = some res) (hK : KL (At_X6_refuseOf_66 Y X x1) (Ex_X6_refuseOf_66 Y X x1) res) : AW Y X 4 66 [(0, .ref (Y.2.2.2.1 49)), (1, .int x1), (2, .int x2)] [] M := by
  unfold f_X6_refuseOf_66_66b at h
  refine a_iload_n C dX6_refuseOf_66 2 rfl ?_
  refine a_aload_n C dX6_refuseOf_67 0 rfl ?_
  refine a_geti C dX6_refuseOf_68 fl_X6_152 rfl Kc_49 ?_
  refine a_icmp_ge (tgt := 131) C dX6_refuseOf_71 (by decide) (fun hc => ?_) (fun hc => ?_)
  · replace h := ip hc h
    replace h := Option.some.inj h
    subst h
    exact a_sub [] (hK) rfl
  · replace h := iq hc h
    refine a_iload_n C dX6_refuseOf_74 2 rfl ?_
    refine a_iconst (v := 1) C dX6_refuseOf_75 (by decide) ?_
    refine a_iadd C dX6_refuseOf_76 ?_
    refine a_istore_n (lv' := [(3, _), (0, _), (1, _), (2, _)]) C dX6_refuseOf_77 rfl (by decide) rfl ?_
    obtain ⟨ee, hl, h⟩ := bd_some h
    have hE : Ex_X6_refuseOf_78 Y X x1 x2 ee := by
      cases ee with
      | inl s7 =>
        refine a_iinc (v := 1) (lv' := [(2, _), (0, _), (1, _)]) C dX6_refuseOf_125 2 rfl (by decide) (by decide) rfl ?_
        refine a_goto (tgt := 66) C dX6_refuseOf_128 (by decide) ?_
        replace h := Option.some.inj h
        subst h
        exact a_sub [1, 2, 0] (hK) rfl
      | inr r8 =>
        replace h := Option.some.inj h
        subst h
        exact hK
    have hA := aw_loop (At_X6_refuseOf_78 Y X x1 x2) (Ex_X6_refuseOf_78 Y X x1 x2) (fun _ _ hb hk => t_X6_refuseOf_78_78b C hb hk) hl hE
    exact a_sub [1, 2, 3, 0] (hA) rfl
noncomputable def f_X6_refuseOf (x1 : Int32) (M : Mem) : Option (Int32 × Mem) :=
  Option.bind (f_X6_isRight (0 : Int32) M) (fun r1 => (if r1.1 = 0 then Option.bind (loop (fun s3 : Int32 × Mem => f_X6_refuseOf_21_21b x1 s3.1 s3.2) ((0 : Int32), r1.2)) (eo (fun s4 => Option.bind (loop (fun s9 : Int32 × Mem => f_X6_refuseOf_66_66b x1 s9.1 s9.2) ((0 : Int32), s4.2)) (eo (fun s10 => some ((-1 : Int32), s10.2)) (fun r11 => some r11))) (fun r12 => some r12)) else (if x1 = (-1 : Int32) then some ((0 : Int32), r1.2) else some ((-1 : Int32), r1.2))))
theorem t_X6_refuseOf {Y : EY} {X : CX} (C : CK Y X cX6_refuseOf RX6 4 (some .int) rm_X6_refuseOf) {x1 : Int32} {M : Mem}  {res : Int32 × Mem} (h : f_X6_refuseOf x1 M = some res) (hK : RK Y X (some (.int res.1)) res.2) : AW Y X 4 0 [(0, .ref (Y.2.2.2.1 49)), (1, .int x1)] [] M := by
  unfold f_X6_refuseOf at h
  refine a_aload_n C dX6_refuseOf_0 0 rfl ?_
  refine a_iconst (v := 0) C dX6_refuseOf_1 (by decide) ?_
  obtain ⟨r1, hcr1, h⟩ := bd_some h
  refine a_callVi C dX6_refuseOf_2 lv_X6_253 lm_X6_isRight ⟨rfl, rfl, by decide, by decide⟩ Kc_49 (m_X6_isRight C.2.2.2.2.2.2.1 hcr1) rfl rfl (Nat.le_of_ble_eq_true rfl) ?_
  refine a_if_eq (tgt := 19) C dX6_refuseOf_5 (by decide) (fun hc => ?_) (fun hc => ?_)
  · replace h := ip hc h
    refine a_iconst (v := 0) C dX6_refuseOf_19 (by decide) ?_
    refine a_istore_n (lv' := [(2, _), (0, _), (1, _)]) C dX6_refuseOf_20 rfl (by decide) rfl ?_
    obtain ⟨ee, hl, h⟩ := bd_some h
    have hE : Ex_X6_refuseOf_21 Y X x1 ee := by
      cases ee with
      | inl s4 =>
        refine a_iconst (v := 0) C dX6_refuseOf_64 (by decide) ?_
        refine a_istore_n (lv' := [(2, _), (0, _), (1, _)]) C dX6_refuseOf_65 rfl (by decide) rfl ?_
        obtain ⟨ee, hl, h⟩ := bd_some h
        have hE : Ex_X6_refuseOf_66 Y X x1 ee := by
          cases ee with
          | inl s10 =>
            refine a_iconst (v := -1) C dX6_refuseOf_131 (by decide) ?_
            replace h := Option.some.inj h
            subst h
            exact a_iret C dX6_refuseOf_132 hK
          | inr r11 =>
            replace h := Option.some.inj h
            subst h
            exact hK
        have hA := aw_loop (At_X6_refuseOf_66 Y X x1) (Ex_X6_refuseOf_66 Y X x1) (fun _ _ hb hk => t_X6_refuseOf_66_66b C hb hk) hl hE
        exact a_sub [1, 2, 0] (hA) rfl
      | inr r12 =>
        replace h := Option.some.inj h
        subst h
        exact hK
    have hA := aw_loop (At_X6_refuseOf_21 Y X x1) (Ex_X6_refuseOf_21 Y X x1) (fun _ _ hb hk => t_X6_refuseOf_21_21b C hb hk) hl hE
    exact a_sub [1, 2, 0] (hA) rfl
  · replace h := iq hc h
    refine a_iload_n C dX6_refuseOf_8 1 rfl ?_
    refine a_iconst (v := -1) C dX6_refuseOf_9 (by decide) ?_
    refine a_icmp_ne (tgt := 17) C dX6_refuseOf_10 (by decide) (fun hc => ?_) (fun hc => ?_)
    · replace h := iq hc h
      refine a_iconst (v := -1) C dX6_refuseOf_17 (by decide) ?_
      replace h := Option.some.inj h
      subst h
      exact a_iret C dX6_refuseOf_18 hK
    · replace h := ip hc h
      refine a_iconst (v := 0) C dX6_refuseOf_13 (by decide) ?_
      refine a_goto (tgt := 18) C dX6_refuseOf_14 (by decide) ?_
      replace h := Option.some.inj h
      subst h
      exact a_iret C dX6_refuseOf_18 hK
theorem m_X6_refuseOf {Y : EY} (hY : HY Y) {x1 : Int32} {M : Mem}  {r : Int32 × Mem} (h : f_X6_refuseOf x1 M = some r) : MX Y yX6_refuseOf cX6_refuseOf 4 (some .int) rm_X6_refuseOf [.ref (Y.2.2.2.1 49), .int x1] M (some (.int r.1)) r.2 := MX.of hY (by decide) (Nat.le_of_ble_eq_true rfl) (fun _ hR C => a_sub [0, 1] (t_X6_refuseOf C  h hR) rfl)
abbrev rm_X6_refuse : Room := { frames := 7, cells := 0, slots := 0, locals := 161 }
noncomputable def f_X6_refuse (x1 : Int32) (M : Mem) : Option (Int32 × Mem) :=
  Option.bind (f_X6_find M) (fun r1 => Option.bind (f_X6_in (x1).toInt64 (-1 : Int64) (1 : Int64)) (fun r2 => (if r2 = 0 then some ((-2 : Int32), r1) else Option.bind (f_X6_refuseOf x1 r1) (fun r3 => some (r3.1, r3.2)))))
theorem t_X6_refuse {Y : EY} {X : CX} (C : CK Y X cX6_refuse RX6 2 (some .int) rm_X6_refuse) {x1 : Int32} {M : Mem}  {res : Int32 × Mem} (h : f_X6_refuse x1 M = some res) (hK : RK Y X (some (.int res.1)) res.2) : AW Y X 2 0 [(0, .ref (Y.2.2.2.1 49)), (1, .int x1)] [] M := by
  unfold f_X6_refuse at h
  refine a_aload_n C dX6_refuse_0 0 rfl ?_
  obtain ⟨r1, hcr1, h⟩ := bd_some h
  refine a_callVv C dX6_refuse_1 lv_X6_216 lm_X6_find ⟨rfl, rfl, by decide, by decide⟩ Kc_49 (m_X6_find C.2.2.2.2.2.2.1 hcr1) rfl rfl (Nat.le_of_ble_eq_true rfl) ?_
  refine a_iload_n C dX6_refuse_4 1 rfl ?_
  refine a_i2l C dX6_refuse_5 ?_
  refine a_ldc2 C dX6_refuse_6 co_X6_256 ?_
  refine a_lconst (v := 1) C dX6_refuse_9 (by decide) ?_
  obtain ⟨r2, hcr2, h⟩ := bd_some h
  refine a_callSi C dX6_refuse_10 ls_X6_79 lm_X6_in ⟨rfl, rfl, by decide, by decide⟩ (m_X6_in C.2.2.2.2.2.2.1 hcr2) rfl rfl (Nat.le_of_ble_eq_true rfl) ?_
  refine a_if_eq (tgt := 24) C dX6_refuse_13 (by decide) (fun hc => ?_) (fun hc => ?_)
  · replace h := ip hc h
    refine a_bipush (v := -2) C dX6_refuse_24 (by decide) ?_
    replace h := Option.some.inj h
    subst h
    exact a_iret C dX6_refuse_26 hK
  · replace h := iq hc h
    refine a_aload_n C dX6_refuse_16 0 rfl ?_
    refine a_iload_n C dX6_refuse_17 1 rfl ?_
    obtain ⟨r3, hcr3, h⟩ := bd_some h
    refine a_callVi C dX6_refuse_18 lv_X6_258 lm_X6_refuseOf ⟨rfl, rfl, by decide, by decide⟩ Kc_49 (m_X6_refuseOf C.2.2.2.2.2.2.1 hcr3) rfl rfl (Nat.le_of_ble_eq_true rfl) ?_
    refine a_goto (tgt := 26) C dX6_refuse_21 (by decide) ?_
    replace h := Option.some.inj h
    subst h
    exact a_iret C dX6_refuse_26 hK
theorem m_X6_refuse {Y : EY} (hY : HY Y) {x1 : Int32} {M : Mem}  {r : Int32 × Mem} (h : f_X6_refuse x1 M = some r) : MX Y yX6_refuse cX6_refuse 2 (some .int) rm_X6_refuse [.ref (Y.2.2.2.1 49), .int x1] M (some (.int r.1)) r.2 := MX.of hY (by decide) (Nat.le_of_ble_eq_true rfl) (fun _ hR C => a_sub [0, 1] (t_X6_refuse C  h hR) rfl)
abbrev rm_X6_hear : Room := { frames := 2, cells := 0, slots := 0, locals := 45 }
noncomputable def f_X6_hear (x1 : Int32) (x2 : Int32) (x3 : Int32) (x4 : Int32) (M : Mem) : Option (Int32 × Mem) :=
  Option.bind (f_X6_isDay x1) (fun r1 => (if r1 = 0 then some ((-2 : Int32), M) else Option.bind (f_X6_isEight x2) (fun r2 => (if r2 = 0 then some ((-2 : Int32), M) else Option.bind (f_X6_in (x3).toInt64 (0 : Int64) (4 : Int64)) (fun r3 => (if r3 = 0 then some ((-2 : Int32), M) else Option.bind (f_X6_in (x4).toInt64 (0 : Int64) (9 : Int64)) (fun r4 => (if r4 = 0 then some ((-2 : Int32), M) else (if (M 49 26) = (8 : Int32) then some ((-4 : Int32), M) else ck (inb ((4 : Int32) * (M 49 26)) 32) (ck (inb (((4 : Int32) * ((upM M 68 (((4 : Int32) * (M 49 26))).toNatClampNeg x1) 49 26)) + (1 : Int32)) 32) (ck (inb (((4 : Int32) * ((upM (upM M 68 (((4 : Int32) * (M 49 26))).toNatClampNeg x1) 68 ((((4 : Int32) * ((upM M 68 (((4 : Int32) * (M 49 26))).toNatClampNeg x1) 49 26)) + (1 : Int32))).toNatClampNeg x2) 49 26)) + (2 : Int32)) 32) (ck (inb (((4 : Int32) * ((upM (upM (upM M 68 (((4 : Int32) * (M 49 26))).toNatClampNeg x1) 68 ((((4 : Int32) * ((upM M 68 (((4 : Int32) * (M 49 26))).toNatClampNeg x1) 49 26)) + (1 : Int32))).toNatClampNeg x2) 68 ((((4 : Int32) * ((upM (upM M 68 (((4 : Int32) * (M 49 26))).toNatClampNeg x1) 68 ((((4 : Int32) * ((upM M 68 (((4 : Int32) * (M 49 26))).toNatClampNeg x1) 49 26)) + (1 : Int32))).toNatClampNeg x2) 49 26)) + (2 : Int32))).toNatClampNeg x3) 49 26)) + (3 : Int32)) 32) (some (((upM (upM (upM (upM (upM M 68 (((4 : Int32) * (M 49 26))).toNatClampNeg x1) 68 ((((4 : Int32) * ((upM M 68 (((4 : Int32) * (M 49 26))).toNatClampNeg x1) 49 26)) + (1 : Int32))).toNatClampNeg x2) 68 ((((4 : Int32) * ((upM (upM M 68 (((4 : Int32) * (M 49 26))).toNatClampNeg x1) 68 ((((4 : Int32) * ((upM M 68 (((4 : Int32) * (M 49 26))).toNatClampNeg x1) 49 26)) + (1 : Int32))).toNatClampNeg x2) 49 26)) + (2 : Int32))).toNatClampNeg x3) 68 ((((4 : Int32) * ((upM (upM (upM M 68 (((4 : Int32) * (M 49 26))).toNatClampNeg x1) 68 ((((4 : Int32) * ((upM M 68 (((4 : Int32) * (M 49 26))).toNatClampNeg x1) 49 26)) + (1 : Int32))).toNatClampNeg x2) 68 ((((4 : Int32) * ((upM (upM M 68 (((4 : Int32) * (M 49 26))).toNatClampNeg x1) 68 ((((4 : Int32) * ((upM M 68 (((4 : Int32) * (M 49 26))).toNatClampNeg x1) 49 26)) + (1 : Int32))).toNatClampNeg x2) 49 26)) + (2 : Int32))).toNatClampNeg x3) 49 26)) + (3 : Int32))).toNatClampNeg x4) 49 26 (((upM (upM (upM (upM M 68 (((4 : Int32) * (M 49 26))).toNatClampNeg x1) 68 ((((4 : Int32) * ((upM M 68 (((4 : Int32) * (M 49 26))).toNatClampNeg x1) 49 26)) + (1 : Int32))).toNatClampNeg x2) 68 ((((4 : Int32) * ((upM (upM M 68 (((4 : Int32) * (M 49 26))).toNatClampNeg x1) 68 ((((4 : Int32) * ((upM M 68 (((4 : Int32) * (M 49 26))).toNatClampNeg x1) 49 26)) + (1 : Int32))).toNatClampNeg x2) 49 26)) + (2 : Int32))).toNatClampNeg x3) 68 ((((4 : Int32) * ((upM (upM (upM M 68 (((4 : Int32) * (M 49 26))).toNatClampNeg x1) 68 ((((4 : Int32) * ((upM M 68 (((4 : Int32) * (M 49 26))).toNatClampNeg x1) 49 26)) + (1 : Int32))).toNatClampNeg x2) 68 ((((4 : Int32) * ((upM (upM M 68 (((4 : Int32) * (M 49 26))).toNatClampNeg x1) 68 ((((4 : Int32) * ((upM M 68 (((4 : Int32) * (M 49 26))).toNatClampNeg x1) 49 26)) + (1 : Int32))).toNatClampNeg x2) 49 26)) + (2 : Int32))).toNatClampNeg x3) 49 26)) + (3 : Int32))).toNatClampNeg x4) 49 26) + (1 : Int32))) 49 26), (upM (upM (upM (upM (upM M 68 (((4 : Int32) * (M 49 26))).toNatClampNeg x1) 68 ((((4 : Int32) * ((upM M 68 (((4 : Int32) * (M 49 26))).toNatClampNeg x1) 49 26)) + (1 : Int32))).toNatClampNeg x2) 68 ((((4 : Int32) * ((upM (upM M 68 (((4 : Int32) * (M 49 26))).toNatClampNeg x1) 68 ((((4 : Int32) * ((upM M 68 (((4 : Int32) * (M 49 26))).toNatClampNeg x1) 49 26)) + (1 : Int32))).toNatClampNeg x2) 49 26)) + (2 : Int32))).toNatClampNeg x3) 68 ((((4 : Int32) * ((upM (upM (upM M 68 (((4 : Int32) * (M 49 26))).toNatClampNeg x1) 68 ((((4 : Int32) * ((upM M 68 (((4 : Int32) * (M 49 26))).toNatClampNeg x1) 49 26)) + (1 : Int32))).toNatClampNeg x2) 68 ((((4 : Int32) * ((upM (upM M 68 (((4 : Int32) * (M 49 26))).toNatClampNeg x1) 68 ((((4 : Int32) * ((upM M 68 (((4 : Int32) * (M 49 26))).toNatClampNeg x1) 49 26)) + (1 : Int32))).toNatClampNeg x2) 49 26)) + (2 : Int32))).toNatClampNeg x3) 49 26)) + (3 : Int32))).toNatClampNeg x4) 49 26 (((upM (upM (upM (upM M 68 (((4 : Int32) * (M 49 26))).toNatClampNeg x1) 68 ((((4 : Int32) * ((upM M 68 (((4 : Int32) * (M 49 26))).toNatClampNeg x1) 49 26)) + (1 : Int32))).toNatClampNeg x2) 68 ((((4 : Int32) * ((upM (upM M 68 (((4 : Int32) * (M 49 26))).toNatClampNeg x1) 68 ((((4 : Int32) * ((upM M 68 (((4 : Int32) * (M 49 26))).toNatClampNeg x1) 49 26)) + (1 : Int32))).toNatClampNeg x2) 49 26)) + (2 : Int32))).toNatClampNeg x3) 68 ((((4 : Int32) * ((upM (upM (upM M 68 (((4 : Int32) * (M 49 26))).toNatClampNeg x1) 68 ((((4 : Int32) * ((upM M 68 (((4 : Int32) * (M 49 26))).toNatClampNeg x1) 49 26)) + (1 : Int32))).toNatClampNeg x2) 68 ((((4 : Int32) * ((upM (upM M 68 (((4 : Int32) * (M 49 26))).toNatClampNeg x1) 68 ((((4 : Int32) * ((upM M 68 (((4 : Int32) * (M 49 26))).toNatClampNeg x1) 49 26)) + (1 : Int32))).toNatClampNeg x2) 49 26)) + (2 : Int32))).toNatClampNeg x3) 49 26)) + (3 : Int32))).toNatClampNeg x4) 49 26) + (1 : Int32)))))))))))))))))
theorem t_X6_hear {Y : EY} {X : CX} (C : CK Y X cX6_hear RX6 5 (some .int) rm_X6_hear) {x1 : Int32} {x2 : Int32} {x3 : Int32} {x4 : Int32} {M : Mem}  {res : Int32 × Mem} (h : f_X6_hear x1 x2 x3 x4 M = some res) (hK : RK Y X (some (.int res.1)) res.2) : AW Y X 5 0 [(0, .ref (Y.2.2.2.1 49)), (1, .int x1), (2, .int x2), (3, .int x3), (4, .int x4)] [] M := by
  unfold f_X6_hear at h
  refine a_iload_n C dX6_hear_0 1 rfl ?_
  obtain ⟨r1, hcr1, h⟩ := bd_some h
  refine a_callSi C dX6_hear_1 ls_X6_155 lm_X6_isDay ⟨rfl, rfl, by decide, by decide⟩ (m_X6_isDay C.2.2.2.2.2.2.1 hcr1) rfl rfl (Nat.le_of_ble_eq_true rfl) ?_
  refine a_if_eq (tgt := 39) C dX6_hear_4 (by decide) (fun hc => ?_) (fun hc => ?_)
  · replace h := ip hc h
    refine a_bipush (v := -2) C dX6_hear_39 (by decide) ?_
    replace h := Option.some.inj h
    subst h
    exact a_iret C dX6_hear_41 hK
  · replace h := iq hc h
    refine a_iload_n C dX6_hear_7 2 rfl ?_
    obtain ⟨r2, hcr2, h⟩ := bd_some h
    refine a_callSi C dX6_hear_8 ls_X6_158 lm_X6_isEight ⟨rfl, rfl, by decide, by decide⟩ (m_X6_isEight C.2.2.2.2.2.2.1 hcr2) rfl rfl (Nat.le_of_ble_eq_true rfl) ?_
    refine a_if_eq (tgt := 39) C dX6_hear_11 (by decide) (fun hc => ?_) (fun hc => ?_)
    · replace h := ip hc h
      refine a_bipush (v := -2) C dX6_hear_39 (by decide) ?_
      replace h := Option.some.inj h
      subst h
      exact a_iret C dX6_hear_41 hK
    · replace h := iq hc h
      refine a_iload_n C dX6_hear_14 3 rfl ?_
      refine a_i2l C dX6_hear_15 ?_
      refine a_lconst (v := 0) C dX6_hear_16 (by decide) ?_
      refine a_ldc2 C dX6_hear_17 co_X6_261 ?_
      obtain ⟨r3, hcr3, h⟩ := bd_some h
      refine a_callSi C dX6_hear_20 ls_X6_79 lm_X6_in ⟨rfl, rfl, by decide, by decide⟩ (m_X6_in C.2.2.2.2.2.2.1 hcr3) rfl rfl (Nat.le_of_ble_eq_true rfl) ?_
      refine a_if_eq (tgt := 39) C dX6_hear_23 (by decide) (fun hc => ?_) (fun hc => ?_)
      · replace h := ip hc h
        refine a_bipush (v := -2) C dX6_hear_39 (by decide) ?_
        replace h := Option.some.inj h
        subst h
        exact a_iret C dX6_hear_41 hK
      · replace h := iq hc h
        refine a_iload C dX6_hear_26 4 rfl ?_
        refine a_i2l C dX6_hear_28 ?_
        refine a_lconst (v := 0) C dX6_hear_29 (by decide) ?_
        refine a_ldc2 C dX6_hear_30 co_X6_263 ?_
        obtain ⟨r4, hcr4, h⟩ := bd_some h
        refine a_callSi C dX6_hear_33 ls_X6_79 lm_X6_in ⟨rfl, rfl, by decide, by decide⟩ (m_X6_in C.2.2.2.2.2.2.1 hcr4) rfl rfl (Nat.le_of_ble_eq_true rfl) ?_
        refine a_if_ne (tgt := 42) C dX6_hear_36 (by decide) (fun hc => ?_) (fun hc => ?_)
        · replace h := iq hc h
          refine a_aload_n C dX6_hear_42 0 rfl ?_
          refine a_geti C dX6_hear_43 fl_X6_265 rfl Kc_49 ?_
          refine a_bipush (v := 8) C dX6_hear_46 (by decide) ?_
          refine a_icmp_ne (tgt := 54) C dX6_hear_48 (by decide) (fun hc => ?_) (fun hc => ?_)
          · replace h := iq hc h
            refine a_aload_n C dX6_hear_54 0 rfl ?_
            refine a_getr (k1 := 68) C dX6_hear_55 fl_X6_64 rfl Kc_49 rfl ?_
            refine a_iconst (v := 4) C dX6_hear_58 (by decide) ?_
            refine a_aload_n C dX6_hear_59 0 rfl ?_
            refine a_geti C dX6_hear_60 fl_X6_265 rfl Kc_49 ?_
            refine a_imul C dX6_hear_63 ?_
            refine a_iload_n C dX6_hear_64 1 rfl ?_
            obtain ⟨hb, h⟩ := ck_some h
            refine a_iast C dX6_hear_65 Kc_68 rfl hb ?_
            refine a_aload_n C dX6_hear_66 0 rfl ?_
            refine a_getr (k1 := 68) C dX6_hear_67 fl_X6_64 rfl Kc_49 rfl ?_
            refine a_iconst (v := 4) C dX6_hear_70 (by decide) ?_
            refine a_aload_n C dX6_hear_71 0 rfl ?_
            refine a_geti C dX6_hear_72 fl_X6_265 rfl Kc_49 ?_
            refine a_imul C dX6_hear_75 ?_
            refine a_iconst (v := 1) C dX6_hear_76 (by decide) ?_
            refine a_iadd C dX6_hear_77 ?_
            refine a_iload_n C dX6_hear_78 2 rfl ?_
            obtain ⟨hb, h⟩ := ck_some h
            refine a_iast C dX6_hear_79 Kc_68 rfl hb ?_
            refine a_aload_n C dX6_hear_80 0 rfl ?_
            refine a_getr (k1 := 68) C dX6_hear_81 fl_X6_64 rfl Kc_49 rfl ?_
            refine a_iconst (v := 4) C dX6_hear_84 (by decide) ?_
            refine a_aload_n C dX6_hear_85 0 rfl ?_
            refine a_geti C dX6_hear_86 fl_X6_265 rfl Kc_49 ?_
            refine a_imul C dX6_hear_89 ?_
            refine a_iconst (v := 2) C dX6_hear_90 (by decide) ?_
            refine a_iadd C dX6_hear_91 ?_
            refine a_iload_n C dX6_hear_92 3 rfl ?_
            obtain ⟨hb, h⟩ := ck_some h
            refine a_iast C dX6_hear_93 Kc_68 rfl hb ?_
            refine a_aload_n C dX6_hear_94 0 rfl ?_
            refine a_getr (k1 := 68) C dX6_hear_95 fl_X6_64 rfl Kc_49 rfl ?_
            refine a_iconst (v := 4) C dX6_hear_98 (by decide) ?_
            refine a_aload_n C dX6_hear_99 0 rfl ?_
            refine a_geti C dX6_hear_100 fl_X6_265 rfl Kc_49 ?_
            refine a_imul C dX6_hear_103 ?_
            refine a_iconst (v := 3) C dX6_hear_104 (by decide) ?_
            refine a_iadd C dX6_hear_105 ?_
            refine a_iload C dX6_hear_106 4 rfl ?_
            obtain ⟨hb, h⟩ := ck_some h
            refine a_iast C dX6_hear_108 Kc_68 rfl hb ?_
            refine a_aload_n C dX6_hear_109 0 rfl ?_
            refine a_dup C dX6_hear_110 rfl ?_
            refine a_geti C dX6_hear_111 fl_X6_265 rfl Kc_49 ?_
            refine a_iconst (v := 1) C dX6_hear_114 (by decide) ?_
            refine a_iadd C dX6_hear_115 ?_
            refine a_put (ty := .int) C dX6_hear_116 fl_X6_265 (fp_6_26) rfl Kc_49 rfl rfl ?_
            refine a_aload_n C dX6_hear_119 0 rfl ?_
            refine a_geti C dX6_hear_120 fl_X6_265 rfl Kc_49 ?_
            replace h := Option.some.inj h
            subst h
            exact a_iret C dX6_hear_123 hK
          · replace h := ip hc h
            refine a_bipush (v := -4) C dX6_hear_51 (by decide) ?_
            replace h := Option.some.inj h
            subst h
            exact a_iret C dX6_hear_53 hK
        · replace h := ip hc h
          refine a_bipush (v := -2) C dX6_hear_39 (by decide) ?_
          replace h := Option.some.inj h
          subst h
          exact a_iret C dX6_hear_41 hK
theorem m_X6_hear {Y : EY} (hY : HY Y) {x1 : Int32} {x2 : Int32} {x3 : Int32} {x4 : Int32} {M : Mem}  {r : Int32 × Mem} (h : f_X6_hear x1 x2 x3 x4 M = some r) : MX Y yX6_hear cX6_hear 5 (some .int) rm_X6_hear [.ref (Y.2.2.2.1 49), .int x1, .int x2, .int x3, .int x4] M (some (.int r.1)) r.2 := MX.of hY (by decide) (Nat.le_of_ble_eq_true rfl) (fun _ hR C => a_sub [0, 1, 2, 3, 4] (t_X6_hear C  h hR) rfl)
abbrev rm_X6_forget : Room := { frames := 0, cells := 0, slots := 0, locals := 0 }
noncomputable def f_X6_forget  (M : Mem) : Option (Int32 × Mem) :=
  some ((M 49 26), (upM M 49 26 (0 : Int32)))
theorem t_X6_forget {Y : EY} {X : CX} (C : CK Y X cX6_forget RX6 2 (some .int) rm_X6_forget)  {M : Mem}  {res : Int32 × Mem} (h : f_X6_forget M = some res) (hK : RK Y X (some (.int res.1)) res.2) : AW Y X 2 0 [(0, .ref (Y.2.2.2.1 49))] [] M := by
  unfold f_X6_forget at h
  refine a_aload_n C dX6_forget_0 0 rfl ?_
  refine a_geti C dX6_forget_1 fl_X6_265 rfl Kc_49 ?_
  refine a_istore_n (lv' := [(1, _), (0, _)]) C dX6_forget_4 rfl (by decide) rfl ?_
  refine a_aload_n C dX6_forget_5 1 rfl ?_
  refine a_iconst (v := 0) C dX6_forget_6 (by decide) ?_
  refine a_put (ty := .int) C dX6_forget_7 fl_X6_265 (fp_6_26) rfl Kc_49 rfl rfl ?_
  refine a_iload_n C dX6_forget_10 0 rfl ?_
  replace h := Option.some.inj h
  subst h
  exact a_iret C dX6_forget_11 hK
theorem m_X6_forget {Y : EY} (hY : HY Y)  {M : Mem}  {r : Int32 × Mem} (h : f_X6_forget M = some r) : MX Y yX6_forget cX6_forget 2 (some .int) rm_X6_forget [.ref (Y.2.2.2.1 49)] M (some (.int r.1)) r.2 := MX.of hY (by decide) (Nat.le_of_ble_eq_true rfl) (fun _ hR C => a_sub [0] (t_X6_forget C  h hR) rfl)
abbrev rm_X6_isHeard : Room := { frames := 5, cells := 0, slots := 0, locals := 117 }
abbrev At_X6_isHeard_8 (Y : EY) (X : CX) (M : Mem) (s : Int32 × Int32) : Prop := AW Y X 4 8 [(0, .ref (Y.2.2.2.1 49)), (1, .int s.1), (2, .int s.2)] [] M
abbrev Ex_X6_isHeard_8 (Y : EY) (X : CX) (M : Mem) (s : Int32 × Int32) : Prop := AW Y X 4 95 [(1, .int s.1)] [] M
noncomputable def f_X6_isHeard_88_8 (x2 : Int32) (t0 : Int32) (M : Mem) : Option ((Int32 × Int32) ⊕ (Int32 × Int32)) :=
  some (.inl (t0, (x2 + (1 : Int32))))
theorem t_X6_isHeard_88_8 {Y : EY} {X : CX} (C : CK Y X cX6_isHeard RX6 4 (some .boolean) rm_X6_isHeard) {x2 : Int32} {t0 : Int32} {M : Mem}  {res : (Int32 × Int32) ⊕ (Int32 × Int32)} (h : f_X6_isHeard_88_8 x2 t0 M = some res) (hK : KL (At_X6_isHeard_8 Y X M) (Ex_X6_isHeard_8 Y X M) res) : AW Y X 4 88 [(0, .ref (Y.2.2.2.1 49)), (2, .int x2)] [.int t0] M := by
  unfold f_X6_isHeard_88_8 at h
  refine a_istore_n (lv' := [(1, _), (0, _), (2, _)]) C dX6_isHeard_88 rfl (by decide) rfl ?_
  refine a_iinc (v := 1) (lv' := [(2, _), (1, _), (0, _)]) C dX6_isHeard_89 2 rfl (by decide) (by decide) rfl ?_
  refine a_goto (tgt := 8) C dX6_isHeard_92 (by decide) ?_
  replace h := Option.some.inj h
  subst h
  exact a_sub [2, 1, 0] (hK) rfl
noncomputable def f_X6_isHeard_87_8 (x2 : Int32) (M : Mem) : Option ((Int32 × Int32) ⊕ (Int32 × Int32)) :=
  f_X6_isHeard_88_8 x2 (0 : Int32) M
theorem t_X6_isHeard_87_8 {Y : EY} {X : CX} (C : CK Y X cX6_isHeard RX6 4 (some .boolean) rm_X6_isHeard) {x2 : Int32} {M : Mem}  {res : (Int32 × Int32) ⊕ (Int32 × Int32)} (h : f_X6_isHeard_87_8 x2 M = some res) (hK : KL (At_X6_isHeard_8 Y X M) (Ex_X6_isHeard_8 Y X M) res) : AW Y X 4 87 [(0, .ref (Y.2.2.2.1 49)), (2, .int x2)] [] M := by
  unfold f_X6_isHeard_87_8 at h
  refine a_iconst (v := 0) C dX6_isHeard_87 (by decide) ?_
  exact a_sub [0, 1] (t_X6_isHeard_88_8 C h hK) rfl
noncomputable def f_X6_isHeard_8_8b (x1 : Int32) (x2 : Int32) (M : Mem) : Option ((Int32 × Int32) ⊕ (Int32 × Int32)) :=
  (if (M 49 26) ≤ x2 then some (.inr (x1, x2)) else ck (inb (((4 : Int32) * x2) + (1 : Int32)) 32) ((if x1 = 0 then f_X6_isHeard_87_8 x2 M else Option.bind (f_X6_isPerson (M 68 ((((4 : Int32) * x2) + (1 : Int32))).toNatClampNeg) M) (fun r2 => (if r2 = 0 then f_X6_isHeard_87_8 x2 M else ck (inb ((4 : Int32) * x2) 32) (ck (inb (((4 : Int32) * x2) + (2 : Int32)) 32) (ck (inb ((((40 : Int32) * (M 68 (((4 : Int32) * x2)).toNatClampNeg)) + ((5 : Int32) * (M 68 ((((4 : Int32) * x2) + (1 : Int32))).toNatClampNeg))) + (M 68 ((((4 : Int32) * x2) + (2 : Int32))).toNatClampNeg)) 1200) (ck (inb (((4 : Int32) * x2) + (3 : Int32)) 32) ((if (M 63 (((((40 : Int32) * (M 68 (((4 : Int32) * x2)).toNatClampNeg)) + ((5 : Int32) * (M 68 ((((4 : Int32) * x2) + (1 : Int32))).toNatClampNeg))) + (M 68 ((((4 : Int32) * x2) + (2 : Int32))).toNatClampNeg))).toNatClampNeg) = (M 68 ((((4 : Int32) * x2) + (3 : Int32))).toNatClampNeg) then f_X6_isHeard_88_8 x2 (1 : Int32) M else f_X6_isHeard_87_8 x2 M))))))))))
theorem t_X6_isHeard_8_8b {Y : EY} {X : CX} (C : CK Y X cX6_isHeard RX6 4 (some .boolean) rm_X6_isHeard) {x1 : Int32} {x2 : Int32} {M : Mem}  {res : (Int32 × Int32) ⊕ (Int32 × Int32)} (h : f_X6_isHeard_8_8b x1 x2 M = some res) (hK : KL (At_X6_isHeard_8 Y X M) (Ex_X6_isHeard_8 Y X M) res) : AW Y X 4 8 [(0, .ref (Y.2.2.2.1 49)), (1, .int x1), (2, .int x2)] [] M := by
  unfold f_X6_isHeard_8_8b at h
  refine a_iload_n C dX6_isHeard_8 2 rfl ?_
  refine a_aload_n C dX6_isHeard_9 0 rfl ?_
  refine a_geti C dX6_isHeard_10 fl_X6_265 rfl Kc_49 ?_
  refine a_icmp_ge (tgt := 95) C dX6_isHeard_13 (by decide) (fun hc => ?_) (fun hc => ?_)
  · replace h := ip hc h
    replace h := Option.some.inj h
    subst h
    exact a_sub [1] (hK) rfl
  · replace h := iq hc h
    refine a_aload_n C dX6_isHeard_16 0 rfl ?_
    refine a_getr (k1 := 68) C dX6_isHeard_17 fl_X6_64 rfl Kc_49 rfl ?_
    refine a_iconst (v := 4) C dX6_isHeard_20 (by decide) ?_
    refine a_iload_n C dX6_isHeard_21 2 rfl ?_
    refine a_imul C dX6_isHeard_22 ?_
    refine a_iconst (v := 1) C dX6_isHeard_23 (by decide) ?_
    refine a_iadd C dX6_isHeard_24 ?_
    obtain ⟨hb, h⟩ := ck_some h
    refine a_iald C dX6_isHeard_25 Kc_68 rfl hb ?_
    refine a_istore_n (lv' := [(3, _), (0, _), (1, _), (2, _)]) C dX6_isHeard_26 rfl (by decide) rfl ?_
    refine a_iload_n C dX6_isHeard_27 2 rfl ?_
    refine a_if_eq (tgt := 87) C dX6_isHeard_28 (by decide) (fun hc => ?_) (fun hc => ?_)
    · replace h := ip hc h
      exact a_sub [1, 3] (t_X6_isHeard_87_8 C h hK) rfl
    · replace h := iq hc h
      refine a_aload_n C dX6_isHeard_31 1 rfl ?_
      refine a_iload_n C dX6_isHeard_32 0 rfl ?_
      obtain ⟨r2, hcr2, h⟩ := bd_some h
      refine a_callVi C dX6_isHeard_33 lv_X6_149 lm_X6_isPerson ⟨rfl, rfl, by decide, by decide⟩ Kc_49 (m_X6_isPerson C.2.2.2.2.2.2.1 hcr2) rfl rfl (Nat.le_of_ble_eq_true rfl) ?_
      refine a_if_eq (tgt := 87) C dX6_isHeard_36 (by decide) (fun hc => ?_) (fun hc => ?_)
      · replace h := ip hc h
        exact a_sub [1, 3] (t_X6_isHeard_87_8 C h hK) rfl
      · replace h := iq hc h
        refine a_aload_n C dX6_isHeard_39 1 rfl ?_
        refine a_getr (k1 := 63) C dX6_isHeard_40 fl_X6_49 rfl Kc_49 rfl ?_
        refine a_bipush (v := 40) C dX6_isHeard_43 (by decide) ?_
        refine a_aload_n C dX6_isHeard_45 1 rfl ?_
        refine a_getr (k1 := 68) C dX6_isHeard_46 fl_X6_64 rfl Kc_49 rfl ?_
        refine a_iconst (v := 4) C dX6_isHeard_49 (by decide) ?_
        refine a_iload_n C dX6_isHeard_50 3 rfl ?_
        refine a_imul C dX6_isHeard_51 ?_
        obtain ⟨hb, h⟩ := ck_some h
        refine a_iald C dX6_isHeard_52 Kc_68 rfl hb ?_
        refine a_imul C dX6_isHeard_53 ?_
        refine a_iconst (v := 5) C dX6_isHeard_54 (by decide) ?_
        refine a_iload_n C dX6_isHeard_55 0 rfl ?_
        refine a_imul C dX6_isHeard_56 ?_
        refine a_iadd C dX6_isHeard_57 ?_
        refine a_aload_n C dX6_isHeard_58 1 rfl ?_
        refine a_getr (k1 := 68) C dX6_isHeard_59 fl_X6_64 rfl Kc_49 rfl ?_
        refine a_iconst (v := 4) C dX6_isHeard_62 (by decide) ?_
        refine a_iload_n C dX6_isHeard_63 3 rfl ?_
        refine a_imul C dX6_isHeard_64 ?_
        refine a_iconst (v := 2) C dX6_isHeard_65 (by decide) ?_
        refine a_iadd C dX6_isHeard_66 ?_
        obtain ⟨hb, h⟩ := ck_some h
        refine a_iald C dX6_isHeard_67 Kc_68 rfl hb ?_
        refine a_iadd C dX6_isHeard_68 ?_
        obtain ⟨hb, h⟩ := ck_some h
        refine a_iald C dX6_isHeard_69 Kc_63 rfl hb ?_
        refine a_aload_n C dX6_isHeard_70 1 rfl ?_
        refine a_getr (k1 := 68) C dX6_isHeard_71 fl_X6_64 rfl Kc_49 rfl ?_
        refine a_iconst (v := 4) C dX6_isHeard_74 (by decide) ?_
        refine a_iload_n C dX6_isHeard_75 3 rfl ?_
        refine a_imul C dX6_isHeard_76 ?_
        refine a_iconst (v := 3) C dX6_isHeard_77 (by decide) ?_
        refine a_iadd C dX6_isHeard_78 ?_
        obtain ⟨hb, h⟩ := ck_some h
        refine a_iald C dX6_isHeard_79 Kc_68 rfl hb ?_
        refine a_icmp_ne (tgt := 87) C dX6_isHeard_80 (by decide) (fun hc => ?_) (fun hc => ?_)
        · replace h := iq hc h
          exact a_sub [1, 3] (t_X6_isHeard_87_8 C h hK) rfl
        · replace h := ip hc h
          refine a_iconst (v := 1) C dX6_isHeard_83 (by decide) ?_
          refine a_goto (tgt := 88) C dX6_isHeard_84 (by decide) ?_
          exact a_sub [1, 3] (t_X6_isHeard_88_8 C h hK) rfl
noncomputable def f_X6_isHeard  (M : Mem) : Option (Int32 × Mem) :=
  Option.bind (f_X6_lives M) (fun r1 => Option.bind (loop (fun s3 : Int32 × Int32 => f_X6_isHeard_8_8b s3.1 s3.2 r1) ((1 : Int32), (0 : Int32))) (fun s4 => ck (isB s4.1) (some (s4.1, r1))))
theorem t_X6_isHeard {Y : EY} {X : CX} (C : CK Y X cX6_isHeard RX6 4 (some .boolean) rm_X6_isHeard)  {M : Mem}  {res : Int32 × Mem} (h : f_X6_isHeard M = some res) (hK : RK Y X (some (.int res.1)) res.2) : AW Y X 4 0 [(0, .ref (Y.2.2.2.1 49))] [] M := by
  unfold f_X6_isHeard at h
  refine a_aload_n C dX6_isHeard_0 0 rfl ?_
  obtain ⟨r1, hcr1, h⟩ := bd_some h
  refine a_callVv C dX6_isHeard_1 lv_X6_213 lm_X6_lives ⟨rfl, rfl, by decide, by decide⟩ Kc_49 (m_X6_lives C.2.2.2.2.2.2.1 hcr1) rfl rfl (Nat.le_of_ble_eq_true rfl) ?_
  refine a_iconst (v := 1) C dX6_isHeard_4 (by decide) ?_
  refine a_istore_n (lv' := [(1, _), (0, _)]) C dX6_isHeard_5 rfl (by decide) rfl ?_
  refine a_iconst (v := 0) C dX6_isHeard_6 (by decide) ?_
  refine a_istore_n (lv' := [(2, _), (1, _), (0, _)]) C dX6_isHeard_7 rfl (by decide) rfl ?_
  obtain ⟨s4, hl, h⟩ := bd_some h
  have hE : Ex_X6_isHeard_8 Y X r1 s4 := by
    refine a_iload_n C dX6_isHeard_95 0 rfl ?_
    obtain ⟨hb, h⟩ := ck_some h
    replace h := Option.some.inj h
    subst h
    exact a_zret C dX6_isHeard_96 hb hK
  have hA := aw_loop (At_X6_isHeard_8 Y X r1) (Ex_X6_isHeard_8 Y X r1) (fun _ _ hb hk => t_X6_isHeard_8_8b C hb hk) hl hE
  exact a_sub [2, 1, 0] (hA) rfl
theorem m_X6_isHeard {Y : EY} (hY : HY Y)  {M : Mem}  {r : Int32 × Mem} (h : f_X6_isHeard M = some r) : MX Y yX6_isHeard cX6_isHeard 4 (some .boolean) rm_X6_isHeard [.ref (Y.2.2.2.1 49)] M (some (.int r.1)) r.2 := MX.of hY (by decide) (Nat.le_of_ble_eq_true rfl) (fun _ hR C => a_sub [0] (t_X6_isHeard C  h hR) rfl)
abbrev rm_X6_neverNow : Room := { frames := 6, cells := 0, slots := 0, locals := 140 }
abbrev At_X6_neverNow_4 (Y : EY) (X : CX)  (s : Int32 × Int32 × Mem) : Prop := AW Y X 3 4 [(0, .ref (Y.2.2.2.1 49)), (1, .int s.1), (2, .int s.2.1)] [] s.2.2
abbrev Ex_X6_neverNow_4 (Y : EY) (X : CX)  (s : Int32 × Int32 × Mem) : Prop := AW Y X 3 42 [(0, .ref (Y.2.2.2.1 49)), (1, .int s.1)] [] s.2.2
noncomputable def f_X6_neverNow_34_4 (x2 : Int32) (t0 : Int32) (t1 : Int32) (M : Mem) : Option ((Int32 × Int32 × Mem) ⊕ (Int32 × Int32 × Mem)) :=
  some (.inl ((t0 ||| t1), (x2 + (1 : Int32)), M))
theorem t_X6_neverNow_34_4 {Y : EY} {X : CX} (C : CK Y X cX6_neverNow RX6 3 (some .int) rm_X6_neverNow) {x2 : Int32} {t0 : Int32} {t1 : Int32} {M : Mem}  {res : (Int32 × Int32 × Mem) ⊕ (Int32 × Int32 × Mem)} (h : f_X6_neverNow_34_4 x2 t0 t1 M = some res) (hK : KL (At_X6_neverNow_4 Y X) (Ex_X6_neverNow_4 Y X) res) : AW Y X 3 34 [(0, .ref (Y.2.2.2.1 49)), (2, .int x2)] [.int t1, .int t0] M := by
  unfold f_X6_neverNow_34_4 at h
  refine a_ior C dX6_neverNow_34 ?_
  refine a_istore_n (lv' := [(1, _), (0, _), (2, _)]) C dX6_neverNow_35 rfl (by decide) rfl ?_
  refine a_iinc (v := 1) (lv' := [(2, _), (1, _), (0, _)]) C dX6_neverNow_36 2 rfl (by decide) (by decide) rfl ?_
  refine a_goto (tgt := 4) C dX6_neverNow_39 (by decide) ?_
  replace h := Option.some.inj h
  subst h
  exact a_sub [2, 1, 0] (hK) rfl
noncomputable def f_X6_neverNow_4_4b (x1 : Int32) (x2 : Int32) (M : Mem) : Option ((Int32 × Int32 × Mem) ⊕ (Int32 × Int32 × Mem)) :=
  (if (M 49 11) ≤ x2 then some (.inr (x1, x2, M)) else Option.bind (f_X6_isHeard (upM M 49 13 (shlI (1 : Int32) x2))) (fun r1 => (if r1.1 = 0 then f_X6_neverNow_34_4 x2 x1 (0 : Int32) r1.2 else f_X6_neverNow_34_4 x2 x1 (shlI (1 : Int32) x2) r1.2)))
theorem t_X6_neverNow_4_4b {Y : EY} {X : CX} (C : CK Y X cX6_neverNow RX6 3 (some .int) rm_X6_neverNow) {x1 : Int32} {x2 : Int32} {M : Mem}  {res : (Int32 × Int32 × Mem) ⊕ (Int32 × Int32 × Mem)} (h : f_X6_neverNow_4_4b x1 x2 M = some res) (hK : KL (At_X6_neverNow_4 Y X) (Ex_X6_neverNow_4 Y X) res) : AW Y X 3 4 [(0, .ref (Y.2.2.2.1 49)), (1, .int x1), (2, .int x2)] [] M := by
  unfold f_X6_neverNow_4_4b at h
  refine a_iload_n C dX6_neverNow_4 2 rfl ?_
  refine a_aload_n C dX6_neverNow_5 0 rfl ?_
  refine a_geti C dX6_neverNow_6 fl_X6_152 rfl Kc_49 ?_
  refine a_icmp_ge (tgt := 42) C dX6_neverNow_9 (by decide) (fun hc => ?_) (fun hc => ?_)
  · replace h := ip hc h
    replace h := Option.some.inj h
    subst h
    exact a_sub [0, 1] (hK) rfl
  · replace h := iq hc h
    refine a_aload_n C dX6_neverNow_12 0 rfl ?_
    refine a_iconst (v := 1) C dX6_neverNow_13 (by decide) ?_
    refine a_iload_n C dX6_neverNow_14 2 rfl ?_
    refine a_ishl C dX6_neverNow_15 ?_
    refine a_put (ty := .int) C dX6_neverNow_16 fl_X6_186 (fp_6_13) rfl Kc_49 rfl rfl ?_
    refine a_iload_n C dX6_neverNow_19 1 rfl ?_
    refine a_aload_n C dX6_neverNow_20 0 rfl ?_
    obtain ⟨r1, hcr1, h⟩ := bd_some h
    refine a_callVi C dX6_neverNow_21 lv_X6_268 lm_X6_isHeard ⟨rfl, rfl, by decide, by decide⟩ Kc_49 (m_X6_isHeard C.2.2.2.2.2.2.1 hcr1) rfl rfl (Nat.le_of_ble_eq_true rfl) ?_
    refine a_if_eq (tgt := 33) C dX6_neverNow_24 (by decide) (fun hc => ?_) (fun hc => ?_)
    · replace h := ip hc h
      refine a_iconst (v := 0) C dX6_neverNow_33 (by decide) ?_
      exact a_sub [0, 2] (t_X6_neverNow_34_4 C h hK) rfl
    · replace h := iq hc h
      refine a_iconst (v := 1) C dX6_neverNow_27 (by decide) ?_
      refine a_iload_n C dX6_neverNow_28 2 rfl ?_
      refine a_ishl C dX6_neverNow_29 ?_
      refine a_goto (tgt := 34) C dX6_neverNow_30 (by decide) ?_
      exact a_sub [0, 2] (t_X6_neverNow_34_4 C h hK) rfl
noncomputable def f_X6_neverNow  (M : Mem) : Option (Int32 × Mem) :=
  Option.bind (loop (fun s2 : Int32 × Int32 × Mem => f_X6_neverNow_4_4b s2.1 s2.2.1 s2.2.2) ((0 : Int32), (0 : Int32), M)) (fun s3 => some (s3.1, (upM s3.2.2 49 13 (0 : Int32))))
theorem t_X6_neverNow {Y : EY} {X : CX} (C : CK Y X cX6_neverNow RX6 3 (some .int) rm_X6_neverNow)  {M : Mem}  {res : Int32 × Mem} (h : f_X6_neverNow M = some res) (hK : RK Y X (some (.int res.1)) res.2) : AW Y X 3 0 [(0, .ref (Y.2.2.2.1 49))] [] M := by
  unfold f_X6_neverNow at h
  refine a_iconst (v := 0) C dX6_neverNow_0 (by decide) ?_
  refine a_istore_n (lv' := [(1, _), (0, _)]) C dX6_neverNow_1 rfl (by decide) rfl ?_
  refine a_iconst (v := 0) C dX6_neverNow_2 (by decide) ?_
  refine a_istore_n (lv' := [(2, _), (1, _), (0, _)]) C dX6_neverNow_3 rfl (by decide) rfl ?_
  obtain ⟨s3, hl, h⟩ := bd_some h
  have hE : Ex_X6_neverNow_4 Y X s3 := by
    refine a_aload_n C dX6_neverNow_42 0 rfl ?_
    refine a_iconst (v := 0) C dX6_neverNow_43 (by decide) ?_
    refine a_put (ty := .int) C dX6_neverNow_44 fl_X6_186 (fp_6_13) rfl Kc_49 rfl rfl ?_
    refine a_iload_n C dX6_neverNow_47 1 rfl ?_
    replace h := Option.some.inj h
    subst h
    exact a_iret C dX6_neverNow_48 hK
  have hA := aw_loop (At_X6_neverNow_4 Y X) (Ex_X6_neverNow_4 Y X) (fun _ _ hb hk => t_X6_neverNow_4_4b C hb hk) hl hE
  exact a_sub [2, 1, 0] (hA) rfl
theorem m_X6_neverNow {Y : EY} (hY : HY Y)  {M : Mem}  {r : Int32 × Mem} (h : f_X6_neverNow M = some r) : MX Y yX6_neverNow cX6_neverNow 3 (some .int) rm_X6_neverNow [.ref (Y.2.2.2.1 49)] M (some (.int r.1)) r.2 := MX.of hY (by decide) (Nat.le_of_ble_eq_true rfl) (fun _ hR C => a_sub [0] (t_X6_neverNow C  h hR) rfl)
abbrev rm_X6_never : Room := { frames := 7, cells := 0, slots := 0, locals := 162 }
noncomputable def f_X6_never  (M : Mem) : Option (Int32 × Mem) :=
  Option.bind (f_X6_find M) (fun r1 => Option.bind (f_X6_neverNow r1) (fun r2 => some (r2.1, r2.2)))
theorem t_X6_never {Y : EY} {X : CX} (C : CK Y X cX6_never RX6 1 (some .int) rm_X6_never)  {M : Mem}  {res : Int32 × Mem} (h : f_X6_never M = some res) (hK : RK Y X (some (.int res.1)) res.2) : AW Y X 1 0 [(0, .ref (Y.2.2.2.1 49))] [] M := by
  unfold f_X6_never at h
  refine a_aload_n C dX6_never_0 0 rfl ?_
  obtain ⟨r1, hcr1, h⟩ := bd_some h
  refine a_callVv C dX6_never_1 lv_X6_216 lm_X6_find ⟨rfl, rfl, by decide, by decide⟩ Kc_49 (m_X6_find C.2.2.2.2.2.2.1 hcr1) rfl rfl (Nat.le_of_ble_eq_true rfl) ?_
  refine a_aload_n C dX6_never_4 0 rfl ?_
  obtain ⟨r2, hcr2, h⟩ := bd_some h
  refine a_callVi C dX6_never_5 lv_X6_272 lm_X6_neverNow ⟨rfl, rfl, by decide, by decide⟩ Kc_49 (m_X6_neverNow C.2.2.2.2.2.2.1 hcr2) rfl rfl (Nat.le_of_ble_eq_true rfl) ?_
  replace h := Option.some.inj h
  subst h
  exact a_iret C dX6_never_8 hK
theorem m_X6_never {Y : EY} (hY : HY Y)  {M : Mem}  {r : Int32 × Mem} (h : f_X6_never M = some r) : MX Y yX6_never cX6_never 1 (some .int) rm_X6_never [.ref (Y.2.2.2.1 49)] M (some (.int r.1)) r.2 := MX.of hY (by decide) (Nat.le_of_ble_eq_true rfl) (fun _ hR C => a_sub [0] (t_X6_never C  h hR) rfl)
abbrev rm_X6_whoseOf : Room := { frames := 6, cells := 0, slots := 0, locals := 140 }
abbrev At_X6_whoseOf_16 (Y : EY) (X : CX) (x1 : Int32) (x2 : Int32) (s : Int32 × Int32 × Mem) : Prop := AW Y X 6 16 [(0, .ref (Y.2.2.2.1 49)), (1, .int x1), (2, .int x2), (3, .int s.1), (4, .int s.2.1)] [] s.2.2
abbrev Ex_X6_whoseOf_16 (Y : EY) (X : CX) (x1 : Int32) (x2 : Int32) (s : Int32 × Int32 × Mem) : Prop := AW Y X 6 100 [(0, .ref (Y.2.2.2.1 49)), (1, .int x1), (2, .int x2), (3, .int s.1)] [] s.2.2
abbrev At_X6_whoseOf_56 (Y : EY) (X : CX) (x1 : Int32) (x2 : Int32) (x3 : Int32) (x4 : Int32) (s : Int32 × Mem) : Prop := AW Y X 6 56 [(0, .ref (Y.2.2.2.1 49)), (1, .int x1), (2, .int x2), (3, .int x3), (4, .int x4), (5, .int s.1)] [] s.2
abbrev Ex_X6_whoseOf_56 (Y : EY) (X : CX) (x1 : Int32) (x2 : Int32) (x3 : Int32) (x4 : Int32) (s : Int32 × Mem) : Prop := AW Y X 6 94 [(0, .ref (Y.2.2.2.1 49)), (1, .int x1), (2, .int x2), (3, .int x3), (4, .int x4)] [] s.2
noncomputable def f_X6_whoseOf_56_56b (x1 : Int32) (x2 : Int32) (x3 : Int32) (x4 : Int32) (x5 : Int32) (M : Mem) : Option ((Int32 × Mem) ⊕ (Int32 × Mem)) :=
  (if (30 : Int32) ≤ x5 then some (.inr (x5, M)) else ck (inb (((8 : Int32) * x5) + x1) 240) (ck (inb (((30 : Int32) * x4) + x5) 240) (some (.inl ((x5 + (1 : Int32)), (upM M 69 ((((30 : Int32) * x4) + x5)).toNatClampNeg (M 65 ((((8 : Int32) * x5) + x1)).toNatClampNeg)))))))
theorem t_X6_whoseOf_56_56b {Y : EY} {X : CX} (C : CK Y X cX6_whoseOf RX6 6 (some .int) rm_X6_whoseOf) {x1 : Int32} {x2 : Int32} {x3 : Int32} {x4 : Int32} {x5 : Int32} {M : Mem}  {res : (Int32 × Mem) ⊕ (Int32 × Mem)} (h : f_X6_whoseOf_56_56b x1 x2 x3 x4 x5 M = some res) (hK : KL (At_X6_whoseOf_56 Y X x1 x2 x3 x4) (Ex_X6_whoseOf_56 Y X x1 x2 x3 x4) res) : AW Y X 6 56 [(0, .ref (Y.2.2.2.1 49)), (1, .int x1), (2, .int x2), (3, .int x3), (4, .int x4), (5, .int x5)] [] M := by
  unfold f_X6_whoseOf_56_56b at h
  refine a_iload C dX6_whoseOf_56 5 rfl ?_
  refine a_bipush (v := 30) C dX6_whoseOf_58 (by decide) ?_
  refine a_icmp_ge (tgt := 94) C dX6_whoseOf_60 (by decide) (fun hc => ?_) (fun hc => ?_)
  · replace h := ip hc h
    replace h := Option.some.inj h
    subst h
    exact a_sub [0, 1, 2, 3, 4] (hK) rfl
  · replace h := iq hc h
    refine a_aload_n C dX6_whoseOf_63 0 rfl ?_
    refine a_getr (k1 := 69) C dX6_whoseOf_64 fl_X6_67 rfl Kc_49 rfl ?_
    refine a_bipush (v := 30) C dX6_whoseOf_67 (by decide) ?_
    refine a_iload C dX6_whoseOf_69 4 rfl ?_
    refine a_imul C dX6_whoseOf_71 ?_
    refine a_iload C dX6_whoseOf_72 5 rfl ?_
    refine a_iadd C dX6_whoseOf_74 ?_
    refine a_aload_n C dX6_whoseOf_75 0 rfl ?_
    refine a_getr (k1 := 65) C dX6_whoseOf_76 fl_X6_55 rfl Kc_49 rfl ?_
    refine a_bipush (v := 8) C dX6_whoseOf_79 (by decide) ?_
    refine a_iload C dX6_whoseOf_81 5 rfl ?_
    refine a_imul C dX6_whoseOf_83 ?_
    refine a_iload_n C dX6_whoseOf_84 1 rfl ?_
    refine a_iadd C dX6_whoseOf_85 ?_
    obtain ⟨hb, h⟩ := ck_some h
    refine a_iald C dX6_whoseOf_86 Kc_65 rfl hb ?_
    obtain ⟨hb, h⟩ := ck_some h
    refine a_iast C dX6_whoseOf_87 Kc_69 rfl hb ?_
    refine a_iinc (v := 1) (lv' := [(5, _), (0, _), (1, _), (2, _), (3, _), (4, _)]) C dX6_whoseOf_88 5 rfl (by decide) (by decide) rfl ?_
    refine a_goto (tgt := 56) C dX6_whoseOf_91 (by decide) ?_
    replace h := Option.some.inj h
    subst h
    exact a_sub [1, 2, 3, 4, 5, 0] (hK) rfl
noncomputable def f_X6_whoseOf_51_16 (x1 : Int32) (x2 : Int32) (x4 : Int32) (t0 : Int32) (t1 : Int32) (M : Mem) : Option ((Int32 × Int32 × Mem) ⊕ (Int32 × Int32 × Mem)) :=
  Option.bind (loop (fun s2 : Int32 × Mem => f_X6_whoseOf_56_56b x1 x2 (t0 ||| t1) x4 s2.1 s2.2) ((0 : Int32), M)) (fun s3 => some (.inl ((t0 ||| t1), (x4 + (1 : Int32)), s3.2)))
theorem t_X6_whoseOf_51_16 {Y : EY} {X : CX} (C : CK Y X cX6_whoseOf RX6 6 (some .int) rm_X6_whoseOf) {x1 : Int32} {x2 : Int32} {x4 : Int32} {t0 : Int32} {t1 : Int32} {M : Mem}  {res : (Int32 × Int32 × Mem) ⊕ (Int32 × Int32 × Mem)} (h : f_X6_whoseOf_51_16 x1 x2 x4 t0 t1 M = some res) (hK : KL (At_X6_whoseOf_16 Y X x1 x2) (Ex_X6_whoseOf_16 Y X x1 x2) res) : AW Y X 6 51 [(0, .ref (Y.2.2.2.1 49)), (1, .int x1), (2, .int x2), (4, .int x4)] [.int t1, .int t0] M := by
  unfold f_X6_whoseOf_51_16 at h
  refine a_ior C dX6_whoseOf_51 ?_
  refine a_istore_n (lv' := [(3, _), (0, _), (1, _), (2, _), (4, _)]) C dX6_whoseOf_52 rfl (by decide) rfl ?_
  refine a_iconst (v := 0) C dX6_whoseOf_53 (by decide) ?_
  refine a_istore (lv' := [(5, _), (3, _), (0, _), (1, _), (2, _), (4, _)]) C dX6_whoseOf_54 (by decide) rfl ?_
  obtain ⟨s3, hl, h⟩ := bd_some h
  have hE : Ex_X6_whoseOf_56 Y X x1 x2 (t0 ||| t1) x4 s3 := by
    refine a_iinc (v := 1) (lv' := [(4, _), (0, _), (1, _), (2, _), (3, _)]) C dX6_whoseOf_94 4 rfl (by decide) (by decide) rfl ?_
    refine a_goto (tgt := 16) C dX6_whoseOf_97 (by decide) ?_
    replace h := Option.some.inj h
    subst h
    exact a_sub [1, 2, 3, 4, 0] (hK) rfl
  have hA := aw_loop (At_X6_whoseOf_56 Y X x1 x2 (t0 ||| t1) x4) (Ex_X6_whoseOf_56 Y X x1 x2 (t0 ||| t1) x4) (fun _ _ hb hk => t_X6_whoseOf_56_56b C hb hk) hl hE
  exact a_sub [2, 3, 4, 1, 5, 0] (hA) rfl
noncomputable def f_X6_whoseOf_16_16b (x1 : Int32) (x2 : Int32) (x3 : Int32) (x4 : Int32) (M : Mem) : Option ((Int32 × Int32 × Mem) ⊕ (Int32 × Int32 × Mem)) :=
  (if (8 : Int32) ≤ x4 then some (.inr (x3, x4, M)) else ck (inb (((2 : Int32) * x1) + (1 : Int32)) 16) (Option.bind (f_X6_isHeard (upM M 57 ((((2 : Int32) * x1) + (1 : Int32))).toNatClampNeg x4)) (fun r1 => (if r1.1 = 0 then f_X6_whoseOf_51_16 x1 x2 x4 x3 (0 : Int32) r1.2 else f_X6_whoseOf_51_16 x1 x2 x4 x3 (shlI (1 : Int32) x4) r1.2))))
theorem t_X6_whoseOf_16_16b {Y : EY} {X : CX} (C : CK Y X cX6_whoseOf RX6 6 (some .int) rm_X6_whoseOf) {x1 : Int32} {x2 : Int32} {x3 : Int32} {x4 : Int32} {M : Mem}  {res : (Int32 × Int32 × Mem) ⊕ (Int32 × Int32 × Mem)} (h : f_X6_whoseOf_16_16b x1 x2 x3 x4 M = some res) (hK : KL (At_X6_whoseOf_16 Y X x1 x2) (Ex_X6_whoseOf_16 Y X x1 x2) res) : AW Y X 6 16 [(0, .ref (Y.2.2.2.1 49)), (1, .int x1), (2, .int x2), (3, .int x3), (4, .int x4)] [] M := by
  unfold f_X6_whoseOf_16_16b at h
  refine a_iload C dX6_whoseOf_16 4 rfl ?_
  refine a_bipush (v := 8) C dX6_whoseOf_18 (by decide) ?_
  refine a_icmp_ge (tgt := 100) C dX6_whoseOf_20 (by decide) (fun hc => ?_) (fun hc => ?_)
  · replace h := ip hc h
    replace h := Option.some.inj h
    subst h
    exact a_sub [0, 1, 2, 3] (hK) rfl
  · replace h := iq hc h
    refine a_aload_n C dX6_whoseOf_23 0 rfl ?_
    refine a_getr (k1 := 57) C dX6_whoseOf_24 fl_X6_31 rfl Kc_49 rfl ?_
    refine a_iconst (v := 2) C dX6_whoseOf_27 (by decide) ?_
    refine a_iload_n C dX6_whoseOf_28 1 rfl ?_
    refine a_imul C dX6_whoseOf_29 ?_
    refine a_iconst (v := 1) C dX6_whoseOf_30 (by decide) ?_
    refine a_iadd C dX6_whoseOf_31 ?_
    refine a_iload C dX6_whoseOf_32 4 rfl ?_
    obtain ⟨hb, h⟩ := ck_some h
    refine a_iast C dX6_whoseOf_34 Kc_57 rfl hb ?_
    refine a_iload_n C dX6_whoseOf_35 3 rfl ?_
    refine a_aload_n C dX6_whoseOf_36 0 rfl ?_
    obtain ⟨r1, hcr1, h⟩ := bd_some h
    refine a_callVi C dX6_whoseOf_37 lv_X6_268 lm_X6_isHeard ⟨rfl, rfl, by decide, by decide⟩ Kc_49 (m_X6_isHeard C.2.2.2.2.2.2.1 hcr1) rfl rfl (Nat.le_of_ble_eq_true rfl) ?_
    refine a_if_eq (tgt := 50) C dX6_whoseOf_40 (by decide) (fun hc => ?_) (fun hc => ?_)
    · replace h := ip hc h
      refine a_iconst (v := 0) C dX6_whoseOf_50 (by decide) ?_
      exact a_sub [0, 1, 2, 4] (t_X6_whoseOf_51_16 C h hK) rfl
    · replace h := iq hc h
      refine a_iconst (v := 1) C dX6_whoseOf_43 (by decide) ?_
      refine a_iload C dX6_whoseOf_44 4 rfl ?_
      refine a_ishl C dX6_whoseOf_46 ?_
      refine a_goto (tgt := 51) C dX6_whoseOf_47 (by decide) ?_
      exact a_sub [0, 1, 2, 4] (t_X6_whoseOf_51_16 C h hK) rfl
noncomputable def f_X6_whoseOf (x1 : Int32) (M : Mem) : Option (Int32 × Mem) :=
  ck (inb (((2 : Int32) * x1) + (1 : Int32)) 16) (Option.bind (loop (fun s4 : Int32 × Int32 × Mem => f_X6_whoseOf_16_16b x1 (M 57 ((((2 : Int32) * x1) + (1 : Int32))).toNatClampNeg) s4.1 s4.2.1 s4.2.2) ((0 : Int32), (0 : Int32), M)) (fun s5 => ck (inb (((2 : Int32) * x1) + (1 : Int32)) 16) (some (s5.1, (upM s5.2.2 57 ((((2 : Int32) * x1) + (1 : Int32))).toNatClampNeg (M 57 ((((2 : Int32) * x1) + (1 : Int32))).toNatClampNeg))))))
theorem t_X6_whoseOf {Y : EY} {X : CX} (C : CK Y X cX6_whoseOf RX6 6 (some .int) rm_X6_whoseOf) {x1 : Int32} {M : Mem}  {res : Int32 × Mem} (h : f_X6_whoseOf x1 M = some res) (hK : RK Y X (some (.int res.1)) res.2) : AW Y X 6 0 [(0, .ref (Y.2.2.2.1 49)), (1, .int x1)] [] M := by
  unfold f_X6_whoseOf at h
  refine a_aload_n C dX6_whoseOf_0 0 rfl ?_
  refine a_getr (k1 := 57) C dX6_whoseOf_1 fl_X6_31 rfl Kc_49 rfl ?_
  refine a_iconst (v := 2) C dX6_whoseOf_4 (by decide) ?_
  refine a_iload_n C dX6_whoseOf_5 1 rfl ?_
  refine a_imul C dX6_whoseOf_6 ?_
  refine a_iconst (v := 1) C dX6_whoseOf_7 (by decide) ?_
  refine a_iadd C dX6_whoseOf_8 ?_
  obtain ⟨hb, h⟩ := ck_some h
  refine a_iald C dX6_whoseOf_9 Kc_57 rfl hb ?_
  refine a_istore_n (lv' := [(2, _), (0, _), (1, _)]) C dX6_whoseOf_10 rfl (by decide) rfl ?_
  refine a_iconst (v := 0) C dX6_whoseOf_11 (by decide) ?_
  refine a_istore_n (lv' := [(3, _), (2, _), (0, _), (1, _)]) C dX6_whoseOf_12 rfl (by decide) rfl ?_
  refine a_iconst (v := 0) C dX6_whoseOf_13 (by decide) ?_
  refine a_istore (lv' := [(4, _), (3, _), (2, _), (0, _), (1, _)]) C dX6_whoseOf_14 (by decide) rfl ?_
  obtain ⟨s5, hl, h⟩ := bd_some h
  have hE : Ex_X6_whoseOf_16 Y X x1 (M 57 ((((2 : Int32) * x1) + (1 : Int32))).toNatClampNeg) s5 := by
    refine a_aload_n C dX6_whoseOf_100 0 rfl ?_
    refine a_getr (k1 := 57) C dX6_whoseOf_101 fl_X6_31 rfl Kc_49 rfl ?_
    refine a_iconst (v := 2) C dX6_whoseOf_104 (by decide) ?_
    refine a_iload_n C dX6_whoseOf_105 1 rfl ?_
    refine a_imul C dX6_whoseOf_106 ?_
    refine a_iconst (v := 1) C dX6_whoseOf_107 (by decide) ?_
    refine a_iadd C dX6_whoseOf_108 ?_
    refine a_iload_n C dX6_whoseOf_109 2 rfl ?_
    obtain ⟨hb, h⟩ := ck_some h
    refine a_iast C dX6_whoseOf_110 Kc_57 rfl hb ?_
    refine a_iload_n C dX6_whoseOf_111 3 rfl ?_
    replace h := Option.some.inj h
    subst h
    exact a_iret C dX6_whoseOf_112 hK
  have hA := aw_loop (At_X6_whoseOf_16 Y X x1 (M 57 ((((2 : Int32) * x1) + (1 : Int32))).toNatClampNeg)) (Ex_X6_whoseOf_16 Y X x1 (M 57 ((((2 : Int32) * x1) + (1 : Int32))).toNatClampNeg)) (fun _ _ hb hk => t_X6_whoseOf_16_16b C hb hk) hl hE
  exact a_sub [3, 4, 2, 1, 0] (hA) rfl
theorem m_X6_whoseOf {Y : EY} (hY : HY Y) {x1 : Int32} {M : Mem}  {r : Int32 × Mem} (h : f_X6_whoseOf x1 M = some r) : MX Y yX6_whoseOf cX6_whoseOf 6 (some .int) rm_X6_whoseOf [.ref (Y.2.2.2.1 49), .int x1] M (some (.int r.1)) r.2 := MX.of hY (by decide) (Nat.le_of_ble_eq_true rfl) (fun _ hR C => a_sub [0, 1] (t_X6_whoseOf C  h hR) rfl)
abbrev rm_X6_sortOf : Room := { frames := 6, cells := 0, slots := 0, locals := 140 }
abbrev At_X6_sortOf_14 (Y : EY) (X : CX) (x1 : Int32) (x2 : Int32) (s : Int32 × Int32 × Mem) : Prop := AW Y X 5 14 [(0, .ref (Y.2.2.2.1 49)), (1, .int x1), (2, .int x2), (3, .int s.1), (4, .int s.2.1)] [] s.2.2
abbrev Ex_X6_sortOf_14 (Y : EY) (X : CX) (x1 : Int32) (x2 : Int32) (s : Int32 × Int32 × Mem) : Prop := AW Y X 5 54 [(0, .ref (Y.2.2.2.1 49)), (1, .int x1), (2, .int x2), (3, .int s.1)] [] s.2.2
noncomputable def f_X6_sortOf_46_14 (x1 : Int32) (x2 : Int32) (x4 : Int32) (t0 : Int32) (t1 : Int32) (M : Mem) : Option ((Int32 × Int32 × Mem) ⊕ (Int32 × Int32 × Mem)) :=
  some (.inl ((t0 ||| t1), (x4 + (1 : Int32)), M))
theorem t_X6_sortOf_46_14 {Y : EY} {X : CX} (C : CK Y X cX6_sortOf RX6 5 (some .int) rm_X6_sortOf) {x1 : Int32} {x2 : Int32} {x4 : Int32} {t0 : Int32} {t1 : Int32} {M : Mem}  {res : (Int32 × Int32 × Mem) ⊕ (Int32 × Int32 × Mem)} (h : f_X6_sortOf_46_14 x1 x2 x4 t0 t1 M = some res) (hK : KL (At_X6_sortOf_14 Y X x1 x2) (Ex_X6_sortOf_14 Y X x1 x2) res) : AW Y X 5 46 [(0, .ref (Y.2.2.2.1 49)), (1, .int x1), (2, .int x2), (4, .int x4)] [.int t1, .int t0] M := by
  unfold f_X6_sortOf_46_14 at h
  refine a_ior C dX6_sortOf_46 ?_
  refine a_istore_n (lv' := [(3, _), (0, _), (1, _), (2, _), (4, _)]) C dX6_sortOf_47 rfl (by decide) rfl ?_
  refine a_iinc (v := 1) (lv' := [(4, _), (3, _), (0, _), (1, _), (2, _)]) C dX6_sortOf_48 4 rfl (by decide) (by decide) rfl ?_
  refine a_goto (tgt := 14) C dX6_sortOf_51 (by decide) ?_
  replace h := Option.some.inj h
  subst h
  exact a_sub [2, 3, 4, 1, 0] (hK) rfl
noncomputable def f_X6_sortOf_14_14b (x1 : Int32) (x2 : Int32) (x3 : Int32) (x4 : Int32) (M : Mem) : Option ((Int32 × Int32 × Mem) ⊕ (Int32 × Int32 × Mem)) :=
  (if (3 : Int32) ≤ x4 then some (.inr (x3, x4, M)) else ck (inb ((2 : Int32) * x1) 16) (Option.bind (f_X6_isHeard (upM M 57 (((2 : Int32) * x1)).toNatClampNeg x4)) (fun r1 => (if r1.1 = 0 then f_X6_sortOf_46_14 x1 x2 x4 x3 (0 : Int32) r1.2 else f_X6_sortOf_46_14 x1 x2 x4 x3 (shlI (1 : Int32) x4) r1.2))))
theorem t_X6_sortOf_14_14b {Y : EY} {X : CX} (C : CK Y X cX6_sortOf RX6 5 (some .int) rm_X6_sortOf) {x1 : Int32} {x2 : Int32} {x3 : Int32} {x4 : Int32} {M : Mem}  {res : (Int32 × Int32 × Mem) ⊕ (Int32 × Int32 × Mem)} (h : f_X6_sortOf_14_14b x1 x2 x3 x4 M = some res) (hK : KL (At_X6_sortOf_14 Y X x1 x2) (Ex_X6_sortOf_14 Y X x1 x2) res) : AW Y X 5 14 [(0, .ref (Y.2.2.2.1 49)), (1, .int x1), (2, .int x2), (3, .int x3), (4, .int x4)] [] M := by
  unfold f_X6_sortOf_14_14b at h
  refine a_iload C dX6_sortOf_14 4 rfl ?_
  refine a_iconst (v := 3) C dX6_sortOf_16 (by decide) ?_
  refine a_icmp_ge (tgt := 54) C dX6_sortOf_17 (by decide) (fun hc => ?_) (fun hc => ?_)
  · replace h := ip hc h
    replace h := Option.some.inj h
    subst h
    exact a_sub [0, 1, 2, 3] (hK) rfl
  · replace h := iq hc h
    refine a_aload_n C dX6_sortOf_20 0 rfl ?_
    refine a_getr (k1 := 57) C dX6_sortOf_21 fl_X6_31 rfl Kc_49 rfl ?_
    refine a_iconst (v := 2) C dX6_sortOf_24 (by decide) ?_
    refine a_iload_n C dX6_sortOf_25 1 rfl ?_
    refine a_imul C dX6_sortOf_26 ?_
    refine a_iload C dX6_sortOf_27 4 rfl ?_
    obtain ⟨hb, h⟩ := ck_some h
    refine a_iast C dX6_sortOf_29 Kc_57 rfl hb ?_
    refine a_iload_n C dX6_sortOf_30 3 rfl ?_
    refine a_aload_n C dX6_sortOf_31 0 rfl ?_
    obtain ⟨r1, hcr1, h⟩ := bd_some h
    refine a_callVi C dX6_sortOf_32 lv_X6_268 lm_X6_isHeard ⟨rfl, rfl, by decide, by decide⟩ Kc_49 (m_X6_isHeard C.2.2.2.2.2.2.1 hcr1) rfl rfl (Nat.le_of_ble_eq_true rfl) ?_
    refine a_if_eq (tgt := 45) C dX6_sortOf_35 (by decide) (fun hc => ?_) (fun hc => ?_)
    · replace h := ip hc h
      refine a_iconst (v := 0) C dX6_sortOf_45 (by decide) ?_
      exact a_sub [0, 1, 2, 4] (t_X6_sortOf_46_14 C h hK) rfl
    · replace h := iq hc h
      refine a_iconst (v := 1) C dX6_sortOf_38 (by decide) ?_
      refine a_iload C dX6_sortOf_39 4 rfl ?_
      refine a_ishl C dX6_sortOf_41 ?_
      refine a_goto (tgt := 46) C dX6_sortOf_42 (by decide) ?_
      exact a_sub [0, 1, 2, 4] (t_X6_sortOf_46_14 C h hK) rfl
noncomputable def f_X6_sortOf (x1 : Int32) (M : Mem) : Option (Int32 × Mem) :=
  ck (inb ((2 : Int32) * x1) 16) (Option.bind (loop (fun s2 : Int32 × Int32 × Mem => f_X6_sortOf_14_14b x1 (M 57 (((2 : Int32) * x1)).toNatClampNeg) s2.1 s2.2.1 s2.2.2) ((0 : Int32), (0 : Int32), M)) (fun s3 => ck (inb ((2 : Int32) * x1) 16) (some (s3.1, (upM s3.2.2 57 (((2 : Int32) * x1)).toNatClampNeg (M 57 (((2 : Int32) * x1)).toNatClampNeg))))))
theorem t_X6_sortOf {Y : EY} {X : CX} (C : CK Y X cX6_sortOf RX6 5 (some .int) rm_X6_sortOf) {x1 : Int32} {M : Mem}  {res : Int32 × Mem} (h : f_X6_sortOf x1 M = some res) (hK : RK Y X (some (.int res.1)) res.2) : AW Y X 5 0 [(0, .ref (Y.2.2.2.1 49)), (1, .int x1)] [] M := by
  unfold f_X6_sortOf at h
  refine a_aload_n C dX6_sortOf_0 0 rfl ?_
  refine a_getr (k1 := 57) C dX6_sortOf_1 fl_X6_31 rfl Kc_49 rfl ?_
  refine a_iconst (v := 2) C dX6_sortOf_4 (by decide) ?_
  refine a_iload_n C dX6_sortOf_5 1 rfl ?_
  refine a_imul C dX6_sortOf_6 ?_
  obtain ⟨hb, h⟩ := ck_some h
  refine a_iald C dX6_sortOf_7 Kc_57 rfl hb ?_
  refine a_istore_n (lv' := [(2, _), (0, _), (1, _)]) C dX6_sortOf_8 rfl (by decide) rfl ?_
  refine a_iconst (v := 0) C dX6_sortOf_9 (by decide) ?_
  refine a_istore_n (lv' := [(3, _), (2, _), (0, _), (1, _)]) C dX6_sortOf_10 rfl (by decide) rfl ?_
  refine a_iconst (v := 0) C dX6_sortOf_11 (by decide) ?_
  refine a_istore (lv' := [(4, _), (3, _), (2, _), (0, _), (1, _)]) C dX6_sortOf_12 (by decide) rfl ?_
  obtain ⟨s3, hl, h⟩ := bd_some h
  have hE : Ex_X6_sortOf_14 Y X x1 (M 57 (((2 : Int32) * x1)).toNatClampNeg) s3 := by
    refine a_aload_n C dX6_sortOf_54 0 rfl ?_
    refine a_getr (k1 := 57) C dX6_sortOf_55 fl_X6_31 rfl Kc_49 rfl ?_
    refine a_iconst (v := 2) C dX6_sortOf_58 (by decide) ?_
    refine a_iload_n C dX6_sortOf_59 1 rfl ?_
    refine a_imul C dX6_sortOf_60 ?_
    refine a_iload_n C dX6_sortOf_61 2 rfl ?_
    obtain ⟨hb, h⟩ := ck_some h
    refine a_iast C dX6_sortOf_62 Kc_57 rfl hb ?_
    refine a_iload_n C dX6_sortOf_63 3 rfl ?_
    replace h := Option.some.inj h
    subst h
    exact a_iret C dX6_sortOf_64 hK
  have hA := aw_loop (At_X6_sortOf_14 Y X x1 (M 57 (((2 : Int32) * x1)).toNatClampNeg)) (Ex_X6_sortOf_14 Y X x1 (M 57 (((2 : Int32) * x1)).toNatClampNeg)) (fun _ _ hb hk => t_X6_sortOf_14_14b C hb hk) hl hE
  exact a_sub [3, 4, 2, 1, 0] (hA) rfl
theorem m_X6_sortOf {Y : EY} (hY : HY Y) {x1 : Int32} {M : Mem}  {r : Int32 × Mem} (h : f_X6_sortOf x1 M = some r) : MX Y yX6_sortOf cX6_sortOf 5 (some .int) rm_X6_sortOf [.ref (Y.2.2.2.1 49), .int x1] M (some (.int r.1)) r.2 := MX.of hY (by decide) (Nat.le_of_ble_eq_true rfl) (fun _ hR C => a_sub [0, 1] (t_X6_sortOf C  h hR) rfl)
