abbrev rm_X5_crowd : Room := { frames := 4, cells := 0, slots := 0, locals := 94 }
abbrev At_X5_crowd_12 (Y : EY) (X : CX)  (s : Int32 × Mem) : Prop := AW Y X 5 12 [(0, .ref (Y.2.2.2.1 0)), (1, .int s.1)] [] s.2
abbrev Ex_X5_crowd_12 (Y : EY) (X : CX)  (s : Int32 × Mem) : Prop := AW Y X 5 38 [(0, .ref (Y.2.2.2.1 0))] [] s.2
noncomputable def f_X5_crowd_12_12b (x1 : Int32) (M : Mem) : Option ((Int32 × Mem) ⊕ (Int32 × Mem)) :=
  (if (M 5 3) ≤ x1 then some (.inr (x1, M)) else Option.bind (f_X5_tallyTaken 21 x1 M) (fun r3 => some (.inl ((x1 + (1 : Int32)), r3))))
theorem t_X5_crowd_12_12b {Y : EY} {X : CX} (C : CK Y X cX5_crowd RX5 5 (some .int) rm_X5_crowd) {x1 : Int32} {M : Mem}  {res : (Int32 × Mem) ⊕ (Int32 × Mem)} (h : f_X5_crowd_12_12b x1 M = some res) (hK : KL (At_X5_crowd_12 Y X) (Ex_X5_crowd_12 Y X) res) : AW Y X 5 12 [(0, .ref (Y.2.2.2.1 0)), (1, .int x1)] [] M := by
  unfold f_X5_crowd_12_12b at h
  refine a_iload_n C dX5_crowd_12 1 rfl ?_
  refine a_aload_n C dX5_crowd_13 0 rfl ?_
  refine a_getr (k1 := 5) C dX5_crowd_14 fl_X5_28 rfl Kc_0 rfl ?_
  refine a_geti C dX5_crowd_17 fl_X5_183 rfl Kc_5 ?_
  refine a_icmp_ge (tgt := 38) C dX5_crowd_20 (by decide) (fun hc => ?_) (fun hc => ?_)
  · replace h := ip hc h
    replace h := Option.some.inj h
    subst h
    exact a_sub [0] (hK) rfl
  · replace h := iq hc h
    refine a_aload_n C dX5_crowd_23 0 rfl ?_
    refine a_aload_n C dX5_crowd_24 0 rfl ?_
    refine a_getr (k1 := 21) C dX5_crowd_25 fl_X5_40 rfl Kc_0 rfl ?_
    refine a_iload_n C dX5_crowd_28 1 rfl ?_
    obtain ⟨r3, hcr3, h⟩ := bd_some h
    refine a_callVv C dX5_crowd_29 lv_X5_186 lm_X5_tallyTaken ⟨rfl, rfl, by decide, by decide⟩ Kc_0 (m_X5_tallyTaken C.2.2.2.2.2.2.1 Kc_21 hcr3) rfl rfl (Nat.le_of_ble_eq_true rfl) ?_
    refine a_iinc (v := 1) (lv' := [(1, _), (0, _)]) C dX5_crowd_32 1 rfl (by decide) (by decide) rfl ?_
    refine a_goto (tgt := 12) C dX5_crowd_35 (by decide) ?_
    replace h := Option.some.inj h
    subst h
    exact a_sub [1, 0] (hK) rfl
abbrev At_X5_crowd_44 (Y : EY) (X : CX) (M : Mem) (s : Int32 × Int32 × Int32) : Prop := AW Y X 5 44 [(0, .ref (Y.2.2.2.1 0)), (1, .int s.1), (2, .int s.2.1), (3, .int s.2.2)] [] M
abbrev Ex_X5_crowd_44 (Y : EY) (X : CX) (M : Mem) (s : Int32 × Int32 × Int32) : Prop := AW Y X 5 86 [(1, .int s.1)] [] M
noncomputable def f_X5_crowd_80_44 (x1 : Int32) (x2 : Int32) (x3 : Int32) (M : Mem) : Option ((Int32 × Int32 × Int32) ⊕ (Int32 × Int32 × Int32)) :=
  some (.inl (x1, x2, (x3 + (1 : Int32))))
theorem t_X5_crowd_80_44 {Y : EY} {X : CX} (C : CK Y X cX5_crowd RX5 5 (some .int) rm_X5_crowd) {x1 : Int32} {x2 : Int32} {x3 : Int32} {M : Mem}  {res : (Int32 × Int32 × Int32) ⊕ (Int32 × Int32 × Int32)} (h : f_X5_crowd_80_44 x1 x2 x3 M = some res) (hK : KL (At_X5_crowd_44 Y X M) (Ex_X5_crowd_44 Y X M) res) : AW Y X 5 80 [(0, .ref (Y.2.2.2.1 0)), (1, .int x1), (2, .int x2), (3, .int x3)] [] M := by
  unfold f_X5_crowd_80_44 at h
  refine a_iinc (v := 1) (lv' := [(3, _), (0, _), (1, _), (2, _)]) C dX5_crowd_80 3 rfl (by decide) (by decide) rfl ?_
  refine a_goto (tgt := 44) C dX5_crowd_83 (by decide) ?_
  replace h := Option.some.inj h
  subst h
  exact a_sub [1, 2, 3, 0] (hK) rfl
noncomputable def f_X5_crowd_44_44b (x1 : Int32) (x2 : Int32) (x3 : Int32) (M : Mem) : Option ((Int32 × Int32 × Int32) ⊕ (Int32 × Int32 × Int32)) :=
  (if (M 5 0) ≤ x3 then some (.inr (x1, x2, x3)) else ck (inb (((261 : Int32) + x3) + (1 : Int32)) 270) ((if (M 47 ((((261 : Int32) + x3) + (1 : Int32))).toNatClampNeg) ≤ x2 then f_X5_crowd_80_44 x1 x2 x3 M else f_X5_crowd_80_44 x3 (M 47 ((((261 : Int32) + x3) + (1 : Int32))).toNatClampNeg) x3 M)))
theorem t_X5_crowd_44_44b {Y : EY} {X : CX} (C : CK Y X cX5_crowd RX5 5 (some .int) rm_X5_crowd) {x1 : Int32} {x2 : Int32} {x3 : Int32} {M : Mem}  {res : (Int32 × Int32 × Int32) ⊕ (Int32 × Int32 × Int32)} (h : f_X5_crowd_44_44b x1 x2 x3 M = some res) (hK : KL (At_X5_crowd_44 Y X M) (Ex_X5_crowd_44 Y X M) res) : AW Y X 5 44 [(0, .ref (Y.2.2.2.1 0)), (1, .int x1), (2, .int x2), (3, .int x3)] [] M := by
  unfold f_X5_crowd_44_44b at h
  refine a_iload_n C dX5_crowd_44 3 rfl ?_
  refine a_aload_n C dX5_crowd_45 0 rfl ?_
  refine a_getr (k1 := 5) C dX5_crowd_46 fl_X5_28 rfl Kc_0 rfl ?_
  refine a_geti C dX5_crowd_49 fl_X5_190 rfl Kc_5 ?_
  refine a_icmp_ge (tgt := 86) C dX5_crowd_52 (by decide) (fun hc => ?_) (fun hc => ?_)
  · replace h := ip hc h
    replace h := Option.some.inj h
    subst h
    exact a_sub [1] (hK) rfl
  · replace h := iq hc h
    refine a_aload_n C dX5_crowd_55 0 rfl ?_
    refine a_getr (k1 := 47) C dX5_crowd_56 fl_X5_72 rfl Kc_0 rfl ?_
    refine a_sipush (v := 261) C dX5_crowd_59 (by decide) ?_
    refine a_iload_n C dX5_crowd_62 3 rfl ?_
    refine a_iadd C dX5_crowd_63 ?_
    refine a_iconst (v := 1) C dX5_crowd_64 (by decide) ?_
    refine a_iadd C dX5_crowd_65 ?_
    obtain ⟨hb, h⟩ := ck_some h
    refine a_iald C dX5_crowd_66 Kc_47 rfl hb ?_
    refine a_istore (lv' := [(4, _), (0, _), (1, _), (2, _), (3, _)]) C dX5_crowd_67 (by decide) rfl ?_
    refine a_iload C dX5_crowd_69 0 rfl ?_
    refine a_iload_n C dX5_crowd_71 3 rfl ?_
    refine a_icmp_le (tgt := 80) C dX5_crowd_72 (by decide) (fun hc => ?_) (fun hc => ?_)
    · replace h := ip hc h
      exact a_sub [1, 2, 3, 4] (t_X5_crowd_80_44 C h hK) rfl
    · replace h := iq hc h
      refine a_iload C dX5_crowd_75 0 rfl ?_
      refine a_istore_n (lv' := [(2, _), (4, _), (0, _), (1, _), (3, _)]) C dX5_crowd_77 rfl (by decide) rfl ?_
      refine a_iload_n C dX5_crowd_78 4 rfl ?_
      refine a_istore_n (lv' := [(1, _), (2, _), (4, _), (0, _), (3, _)]) C dX5_crowd_79 rfl (by decide) rfl ?_
      exact a_sub [3, 0, 1, 4] (t_X5_crowd_80_44 C h hK) rfl
noncomputable def f_X5_crowd  (M : Mem) : Option (Int32 × Mem) :=
  Option.bind (f_X5_standBehind (29 : Int32) M) (fun r1 => Option.bind (f_X5_clearTally r1) (fun r2 => Option.bind (loop (fun s4 : Int32 × Mem => f_X5_crowd_12_12b s4.1 s4.2) ((0 : Int32), r2)) (fun s5 => Option.bind (loop (fun s6 : Int32 × Int32 × Int32 => f_X5_crowd_44_44b s6.1 s6.2.1 s6.2.2 s5.2) ((-1 : Int32), (0 : Int32), (0 : Int32))) (fun s7 => some (s7.1, s5.2)))))
theorem t_X5_crowd {Y : EY} {X : CX} (C : CK Y X cX5_crowd RX5 5 (some .int) rm_X5_crowd)  {M : Mem}  {res : Int32 × Mem} (h : f_X5_crowd M = some res) (hK : RK Y X (some (.int res.1)) res.2) : AW Y X 5 0 [(0, .ref (Y.2.2.2.1 0))] [] M := by
  unfold f_X5_crowd at h
  refine a_aload_n C dX5_crowd_0 0 rfl ?_
  refine a_bipush (v := 29) C dX5_crowd_1 (by decide) ?_
  obtain ⟨r1, hcr1, h⟩ := bd_some h
  refine a_callVv C dX5_crowd_3 lv_X5_153 lm_X5_standBehind ⟨rfl, rfl, by decide, by decide⟩ Kc_0 (m_X5_standBehind C.2.2.2.2.2.2.1 hcr1) rfl rfl (Nat.le_of_ble_eq_true rfl) ?_
  refine a_aload_n C dX5_crowd_6 0 rfl ?_
  obtain ⟨r2, hcr2, h⟩ := bd_some h
  refine a_callVv C dX5_crowd_7 lv_X5_180 lm_X5_clearTally ⟨rfl, rfl, by decide, by decide⟩ Kc_0 (m_X5_clearTally C.2.2.2.2.2.2.1 hcr2) rfl rfl (Nat.le_of_ble_eq_true rfl) ?_
  refine a_iconst (v := 0) C dX5_crowd_10 (by decide) ?_
  refine a_istore_n (lv' := [(1, _), (0, _)]) C dX5_crowd_11 rfl (by decide) rfl ?_
  obtain ⟨s5, hl, h⟩ := bd_some h
  have hE : Ex_X5_crowd_12 Y X s5 := by
    refine a_iconst (v := -1) C dX5_crowd_38 (by decide) ?_
    refine a_istore_n (lv' := [(1, _), (0, _)]) C dX5_crowd_39 rfl (by decide) rfl ?_
    refine a_iconst (v := 0) C dX5_crowd_40 (by decide) ?_
    refine a_istore_n (lv' := [(2, _), (1, _), (0, _)]) C dX5_crowd_41 rfl (by decide) rfl ?_
    refine a_iconst (v := 0) C dX5_crowd_42 (by decide) ?_
    refine a_istore_n (lv' := [(3, _), (2, _), (1, _), (0, _)]) C dX5_crowd_43 rfl (by decide) rfl ?_
    obtain ⟨s7, hl, h⟩ := bd_some h
    have hE : Ex_X5_crowd_44 Y X s5.2 s7 := by
      refine a_iload_n C dX5_crowd_86 0 rfl ?_
      replace h := Option.some.inj h
      subst h
      exact a_iret C dX5_crowd_87 hK
    have hA := aw_loop (At_X5_crowd_44 Y X s5.2) (Ex_X5_crowd_44 Y X s5.2) (fun _ _ hb hk => t_X5_crowd_44_44b C hb hk) hl hE
    exact a_sub [3, 2, 1, 0] (hA) rfl
  have hA := aw_loop (At_X5_crowd_12 Y X) (Ex_X5_crowd_12 Y X) (fun _ _ hb hk => t_X5_crowd_12_12b C hb hk) hl hE
  exact a_sub [1, 0] (hA) rfl
theorem m_X5_crowd {Y : EY} (hY : HY Y)  {M : Mem}  {r : Int32 × Mem} (h : f_X5_crowd M = some r) : MX Y yX5_crowd cX5_crowd 5 (some .int) rm_X5_crowd [.ref (Y.2.2.2.1 0)] M (some (.int r.1)) r.2 := MX.of hY (by decide) (Nat.le_of_ble_eq_true rfl) (fun _ hR C => a_sub [0] (t_X5_crowd C  h hR) rfl)
abbrev rm_X5_tryHiringMore : Room := { frames := 3, cells := 0, slots := 0, locals := 73 }
noncomputable def f_X5_tryHiringMore (x1 : Int32) (x2 : Int32) (x3 : Int32) (M : Mem) : Option (Mem) :=
  Option.bind (f_X1_become 13 5 M) (fun r1 => Option.bind (f_X1_addHiring 13 x1 x2 x3 r1) (fun r2 => Option.bind (f_X4_begin 26 r2) (fun r3 => Option.bind (f_X4_go 26 (29 : Int32) r3) (fun r4 => some r4))))
theorem t_X5_tryHiringMore {Y : EY} {X : CX} (C : CK Y X cX5_tryHiringMore RX5 4 none rm_X5_tryHiringMore) {x1 : Int32} {x2 : Int32} {x3 : Int32} {M : Mem}  {res : Mem} (h : f_X5_tryHiringMore x1 x2 x3 M = some res) (hK : RK Y X none res) : AW Y X 4 0 [(0, .ref (Y.2.2.2.1 0)), (1, .int x1), (2, .int x2), (3, .int x3)] [] M := by
  unfold f_X5_tryHiringMore at h
  refine a_aload_n C dX5_tryHiringMore_0 0 rfl ?_
  refine a_getr (k1 := 13) C dX5_tryHiringMore_1 fl_X5_32 rfl Kc_0 rfl ?_
  refine a_aload_n C dX5_tryHiringMore_4 0 rfl ?_
  refine a_getr (k1 := 5) C dX5_tryHiringMore_5 fl_X5_28 rfl Kc_0 rfl ?_
  obtain ⟨r1, hcr1, h⟩ := bd_some h
  refine a_callVv C dX5_tryHiringMore_8 lv_X5_196 lm_X1_become ⟨rfl, rfl, by decide, by decide⟩ Kc_13 (m_X1_become C.2.2.2.2.2.2.1 Kc_13 Kc_5 hcr1) rfl rfl (Nat.le_of_ble_eq_true rfl) ?_
  refine a_aload_n C dX5_tryHiringMore_11 0 rfl ?_
  refine a_getr (k1 := 13) C dX5_tryHiringMore_12 fl_X5_32 rfl Kc_0 rfl ?_
  refine a_iload_n C dX5_tryHiringMore_15 1 rfl ?_
  refine a_iload_n C dX5_tryHiringMore_16 2 rfl ?_
  refine a_iload_n C dX5_tryHiringMore_17 3 rfl ?_
  obtain ⟨r2, hcr2, h⟩ := bd_some h
  refine a_callVv C dX5_tryHiringMore_18 lv_X5_129 lm_X1_addHiring ⟨rfl, rfl, by decide, by decide⟩ Kc_13 (m_X1_addHiring C.2.2.2.2.2.2.1 Kc_13 hcr2) rfl rfl (Nat.le_of_ble_eq_true rfl) ?_
  refine a_aload_n C dX5_tryHiringMore_21 0 rfl ?_
  refine a_getr (k1 := 26) C dX5_tryHiringMore_22 fl_X5_44 rfl Kc_0 rfl ?_
  obtain ⟨r3, hcr3, h⟩ := bd_some h
  refine a_callVv C dX5_tryHiringMore_25 lv_X5_203 lm_X4_begin ⟨rfl, rfl, by decide, by decide⟩ Kc_26 (m_X4_begin C.2.2.2.2.2.2.1 Kc_26 hcr3) rfl rfl (Nat.le_of_ble_eq_true rfl) ?_
  refine a_aload_n C dX5_tryHiringMore_28 0 rfl ?_
  refine a_getr (k1 := 26) C dX5_tryHiringMore_29 fl_X5_44 rfl Kc_0 rfl ?_
  refine a_bipush (v := 29) C dX5_tryHiringMore_32 (by decide) ?_
  obtain ⟨r4, hcr4, h⟩ := bd_some h
  refine a_callVv C dX5_tryHiringMore_34 lv_X5_206 lm_X4_go ⟨rfl, rfl, by decide, by decide⟩ Kc_26 (m_X4_go C.2.2.2.2.2.2.1 Kc_26 hcr4) rfl rfl (Nat.le_of_ble_eq_true rfl) ?_
  replace h := Option.some.inj h
  subst h
  exact a_vret C dX5_tryHiringMore_37 hK
theorem m_X5_tryHiringMore {Y : EY} (hY : HY Y) {x1 : Int32} {x2 : Int32} {x3 : Int32} {M : Mem}  {r : Mem} (h : f_X5_tryHiringMore x1 x2 x3 M = some r) : MX Y yX5_tryHiringMore cX5_tryHiringMore 4 none rm_X5_tryHiringMore [.ref (Y.2.2.2.1 0), .int x1, .int x2, .int x3] M (none) r := MX.of hY (by decide) (Nat.le_of_ble_eq_true rfl) (fun _ hR C => a_sub [0, 1, 2, 3] (t_X5_tryHiringMore C  h hR) rfl)
abbrev rm_X5_dress : Room := { frames := 4, cells := 0, slots := 0, locals := 96 }
abbrev At_X5_dress_63 (Y : EY) (X : CX) (x1 : Int32) (x2 : Int32) (x3 : Int32) (x4 : Int32) (s : Int32 × Int32 × Int32 × Mem) : Prop := AW Y X 9 63 [(0, .ref (Y.2.2.2.1 0)), (1, .int x1), (2, .int x2), (3, .int x3), (4, .int x4), (5, .int s.1), (6, .int s.2.1), (7, .int s.2.2.1)] [] s.2.2.2
abbrev Ex_X5_dress_63 (Y : EY) (X : CX) (x1 : Int32) (x2 : Int32) (x3 : Int32) (x4 : Int32) (s : Int32 × Int32 × Int32 × Mem) : Prop := AW Y X 9 121 [(4, .int x4), (5, .int s.1), (6, .int s.2.1)] [] s.2.2.2
noncomputable def f_X5_dress_115_63 (x1 : Int32) (x2 : Int32) (x3 : Int32) (x4 : Int32) (x5 : Int32) (x6 : Int32) (x7 : Int32) (M : Mem) : Option ((Int32 × Int32 × Int32 × Mem) ⊕ (Int32 × Int32 × Int32 × Mem)) :=
  some (.inl (x5, x6, (x7 + (1 : Int32)), M))
theorem t_X5_dress_115_63 {Y : EY} {X : CX} (C : CK Y X cX5_dress RX5 9 (some .int) rm_X5_dress) {x1 : Int32} {x2 : Int32} {x3 : Int32} {x4 : Int32} {x5 : Int32} {x6 : Int32} {x7 : Int32} {M : Mem}  {res : (Int32 × Int32 × Int32 × Mem) ⊕ (Int32 × Int32 × Int32 × Mem)} (h : f_X5_dress_115_63 x1 x2 x3 x4 x5 x6 x7 M = some res) (hK : KL (At_X5_dress_63 Y X x1 x2 x3 x4) (Ex_X5_dress_63 Y X x1 x2 x3 x4) res) : AW Y X 9 115 [(0, .ref (Y.2.2.2.1 0)), (1, .int x1), (2, .int x2), (3, .int x3), (4, .int x4), (5, .int x5), (6, .int x6), (7, .int x7)] [] M := by
  unfold f_X5_dress_115_63 at h
  refine a_iinc (v := 1) (lv' := [(7, _), (0, _), (1, _), (2, _), (3, _), (4, _), (5, _), (6, _)]) C dX5_dress_115 7 rfl (by decide) (by decide) rfl ?_
  refine a_goto (tgt := 63) C dX5_dress_118 (by decide) ?_
  replace h := Option.some.inj h
  subst h
  exact a_sub [1, 2, 3, 4, 5, 6, 7, 0] (hK) rfl
noncomputable def f_X5_dress_107_63 (x1 : Int32) (x2 : Int32) (x3 : Int32) (x4 : Int32) (x7 : Int32) (x8 : Int32) (M : Mem) : Option ((Int32 × Int32 × Int32 × Mem) ⊕ (Int32 × Int32 × Int32 × Mem)) :=
  f_X5_dress_115_63 x1 x2 x3 x4 x7 x8 x7 M
theorem t_X5_dress_107_63 {Y : EY} {X : CX} (C : CK Y X cX5_dress RX5 9 (some .int) rm_X5_dress) {x1 : Int32} {x2 : Int32} {x3 : Int32} {x4 : Int32} {x7 : Int32} {x8 : Int32} {M : Mem}  {res : (Int32 × Int32 × Int32 × Mem) ⊕ (Int32 × Int32 × Int32 × Mem)} (h : f_X5_dress_107_63 x1 x2 x3 x4 x7 x8 M = some res) (hK : KL (At_X5_dress_63 Y X x1 x2 x3 x4) (Ex_X5_dress_63 Y X x1 x2 x3 x4) res) : AW Y X 9 107 [(0, .ref (Y.2.2.2.1 0)), (1, .int x1), (2, .int x2), (3, .int x3), (4, .int x4), (7, .int x7), (8, .int x8)] [] M := by
  unfold f_X5_dress_107_63 at h
  refine a_iload C dX5_dress_107 5 rfl ?_
  refine a_istore (lv' := [(5, _), (0, _), (1, _), (2, _), (3, _), (4, _), (7, _), (8, _)]) C dX5_dress_109 (by decide) rfl ?_
  refine a_iload C dX5_dress_111 7 rfl ?_
  refine a_istore (lv' := [(6, _), (5, _), (0, _), (1, _), (2, _), (3, _), (4, _), (7, _), (8, _)]) C dX5_dress_113 (by decide) rfl ?_
  exact a_sub [2, 3, 4, 5, 6, 1, 0, 7] (t_X5_dress_115_63 C h hK) rfl
noncomputable def f_X5_dress_63_63b (x1 : Int32) (x2 : Int32) (x3 : Int32) (x4 : Int32) (x5 : Int32) (x6 : Int32) (x7 : Int32) (M : Mem) : Option ((Int32 × Int32 × Int32 × Mem) ⊕ (Int32 × Int32 × Int32 × Mem)) :=
  (if (M 5 0) ≤ x7 then some (.inr (x5, x6, x7, M)) else Option.bind (f_X5_tryHiringMore x3 x1 x7 M) (fun r6 => Option.bind (f_X4_far 26 x1 x2 r6) (fun r7 => (if x5 = (-1 : Int32) then f_X5_dress_107_63 x1 x2 x3 x4 x7 r7 r6 else (if x6 ≤ r7 then f_X5_dress_115_63 x1 x2 x3 x4 x5 x6 x7 r6 else f_X5_dress_107_63 x1 x2 x3 x4 x7 r7 r6)))))
theorem t_X5_dress_63_63b {Y : EY} {X : CX} (C : CK Y X cX5_dress RX5 9 (some .int) rm_X5_dress) {x1 : Int32} {x2 : Int32} {x3 : Int32} {x4 : Int32} {x5 : Int32} {x6 : Int32} {x7 : Int32} {M : Mem}  {res : (Int32 × Int32 × Int32 × Mem) ⊕ (Int32 × Int32 × Int32 × Mem)} (h : f_X5_dress_63_63b x1 x2 x3 x4 x5 x6 x7 M = some res) (hK : KL (At_X5_dress_63 Y X x1 x2 x3 x4) (Ex_X5_dress_63 Y X x1 x2 x3 x4) res) : AW Y X 9 63 [(0, .ref (Y.2.2.2.1 0)), (1, .int x1), (2, .int x2), (3, .int x3), (4, .int x4), (5, .int x5), (6, .int x6), (7, .int x7)] [] M := by
  unfold f_X5_dress_63_63b at h
  refine a_iload C dX5_dress_63 7 rfl ?_
  refine a_aload_n C dX5_dress_65 0 rfl ?_
  refine a_getr (k1 := 5) C dX5_dress_66 fl_X5_28 rfl Kc_0 rfl ?_
  refine a_geti C dX5_dress_69 fl_X5_190 rfl Kc_5 ?_
  refine a_icmp_ge (tgt := 121) C dX5_dress_72 (by decide) (fun hc => ?_) (fun hc => ?_)
  · replace h := ip hc h
    replace h := Option.some.inj h
    subst h
    exact a_sub [4, 5, 6] (hK) rfl
  · replace h := iq hc h
    refine a_aload_n C dX5_dress_75 0 rfl ?_
    refine a_iload_n C dX5_dress_76 3 rfl ?_
    refine a_iload_n C dX5_dress_77 1 rfl ?_
    refine a_iload C dX5_dress_78 7 rfl ?_
    obtain ⟨r6, hcr6, h⟩ := bd_some h
    refine a_callVv C dX5_dress_80 lv_X5_193 lm_X5_tryHiringMore ⟨rfl, rfl, by decide, by decide⟩ Kc_0 (m_X5_tryHiringMore C.2.2.2.2.2.2.1 hcr6) rfl rfl (Nat.le_of_ble_eq_true rfl) ?_
    refine a_aload_n C dX5_dress_83 0 rfl ?_
    refine a_getr (k1 := 26) C dX5_dress_84 fl_X5_44 rfl Kc_0 rfl ?_
    refine a_iload_n C dX5_dress_87 1 rfl ?_
    refine a_iload_n C dX5_dress_88 2 rfl ?_
    obtain ⟨r7, hcr7, h⟩ := bd_some h
    refine a_callVi C dX5_dress_89 lv_X5_165 lm_X4_far ⟨rfl, rfl, by decide, by decide⟩ Kc_26 (m_X4_far C.2.2.2.2.2.2.1 Kc_26 hcr7) rfl rfl (Nat.le_of_ble_eq_true rfl) ?_
    refine a_istore (lv' := [(8, _), (0, _), (1, _), (2, _), (3, _), (4, _), (5, _), (6, _), (7, _)]) C dX5_dress_92 (by decide) rfl ?_
    refine a_iload C dX5_dress_94 6 rfl ?_
    refine a_iconst (v := -1) C dX5_dress_96 (by decide) ?_
    refine a_icmp_eq (tgt := 107) C dX5_dress_97 (by decide) (fun hc => ?_) (fun hc => ?_)
    · replace h := ip hc h
      exact a_sub [1, 2, 3, 4, 5, 8, 0] (t_X5_dress_107_63 C h hK) rfl
    · replace h := iq hc h
      refine a_iload C dX5_dress_100 0 rfl ?_
      refine a_iload C dX5_dress_102 7 rfl ?_
      refine a_icmp_ge (tgt := 115) C dX5_dress_104 (by decide) (fun hc => ?_) (fun hc => ?_)
      · replace h := ip hc h
        exact a_sub [1, 2, 3, 4, 5, 6, 7, 8] (t_X5_dress_115_63 C h hK) rfl
      · replace h := iq hc h
        exact a_sub [1, 2, 3, 4, 5, 8, 0] (t_X5_dress_107_63 C h hK) rfl
noncomputable def f_X5_dress (x1 : Int32) (x2 : Int32) (x3 : Int32) (x4 : Int32) (M : Mem) : Option (Int32 × Mem) :=
  Option.bind (f_X1_hasPerson 5 x1 M) (fun r1 => (if r1 = 0 then some ((-2 : Int32), M) else Option.bind (f_X5_isBelow x2 (8 : Int32)) (fun r2 => (if r2 = 0 then some ((-2 : Int32), M) else Option.bind (f_X5_isBelow x3 (30 : Int32)) (fun r3 => (if r3 = 0 then some ((-2 : Int32), M) else Option.bind (f_X5_isBelow x4 (2 : Int32)) (fun r4 => (if r4 = 0 then some ((-2 : Int32), M) else Option.bind (f_X1_hasAccent 5 x2 M) (fun r5 => (if r5 = 0 then some ((-1 : Int32), M) else Option.bind (loop (fun s8 : Int32 × Int32 × Int32 × Mem => f_X5_dress_63_63b x1 x2 x3 x4 s8.1 s8.2.1 s8.2.2.1 s8.2.2.2) ((-1 : Int32), (-1 : Int32), (0 : Int32), M)) (fun s9 => (if x4 = 0 then some (s9.1, s9.2.2.2) else some (s9.2.1, s9.2.2.2)))))))))))))
theorem t_X5_dress {Y : EY} {X : CX} (C : CK Y X cX5_dress RX5 9 (some .int) rm_X5_dress) {x1 : Int32} {x2 : Int32} {x3 : Int32} {x4 : Int32} {M : Mem}  {res : Int32 × Mem} (h : f_X5_dress x1 x2 x3 x4 M = some res) (hK : RK Y X (some (.int res.1)) res.2) : AW Y X 9 0 [(0, .ref (Y.2.2.2.1 0)), (1, .int x1), (2, .int x2), (3, .int x3), (4, .int x4)] [] M := by
  unfold f_X5_dress at h
  refine a_aload_n C dX5_dress_0 0 rfl ?_
  refine a_getr (k1 := 5) C dX5_dress_1 fl_X5_28 rfl Kc_0 rfl ?_
  refine a_iload_n C dX5_dress_4 1 rfl ?_
  obtain ⟨r1, hcr1, h⟩ := bd_some h
  refine a_callVi C dX5_dress_5 lv_X5_113 lm_X1_hasPerson ⟨rfl, rfl, by decide, by decide⟩ Kc_5 (m_X1_hasPerson C.2.2.2.2.2.2.1 Kc_5 hcr1) rfl rfl (Nat.le_of_ble_eq_true rfl) ?_
  refine a_if_eq (tgt := 38) C dX5_dress_8 (by decide) (fun hc => ?_) (fun hc => ?_)
  · replace h := ip hc h
    refine a_bipush (v := -2) C dX5_dress_38 (by decide) ?_
    replace h := Option.some.inj h
    subst h
    exact a_iret C dX5_dress_40 hK
  · replace h := iq hc h
    refine a_iload_n C dX5_dress_11 2 rfl ?_
    refine a_bipush (v := 8) C dX5_dress_12 (by decide) ?_
    obtain ⟨r2, hcr2, h⟩ := bd_some h
    refine a_callSi C dX5_dress_14 ls_X5_82 lm_X5_isBelow ⟨rfl, rfl, by decide, by decide⟩ (m_X5_isBelow C.2.2.2.2.2.2.1 hcr2) rfl rfl (Nat.le_of_ble_eq_true rfl) ?_
    refine a_if_eq (tgt := 38) C dX5_dress_17 (by decide) (fun hc => ?_) (fun hc => ?_)
    · replace h := ip hc h
      refine a_bipush (v := -2) C dX5_dress_38 (by decide) ?_
      replace h := Option.some.inj h
      subst h
      exact a_iret C dX5_dress_40 hK
    · replace h := iq hc h
      refine a_iload_n C dX5_dress_20 3 rfl ?_
      refine a_bipush (v := 30) C dX5_dress_21 (by decide) ?_
      obtain ⟨r3, hcr3, h⟩ := bd_some h
      refine a_callSi C dX5_dress_23 ls_X5_82 lm_X5_isBelow ⟨rfl, rfl, by decide, by decide⟩ (m_X5_isBelow C.2.2.2.2.2.2.1 hcr3) rfl rfl (Nat.le_of_ble_eq_true rfl) ?_
      refine a_if_eq (tgt := 38) C dX5_dress_26 (by decide) (fun hc => ?_) (fun hc => ?_)
      · replace h := ip hc h
        refine a_bipush (v := -2) C dX5_dress_38 (by decide) ?_
        replace h := Option.some.inj h
        subst h
        exact a_iret C dX5_dress_40 hK
      · replace h := iq hc h
        refine a_iload C dX5_dress_29 4 rfl ?_
        refine a_iconst (v := 2) C dX5_dress_31 (by decide) ?_
        obtain ⟨r4, hcr4, h⟩ := bd_some h
        refine a_callSi C dX5_dress_32 ls_X5_82 lm_X5_isBelow ⟨rfl, rfl, by decide, by decide⟩ (m_X5_isBelow C.2.2.2.2.2.2.1 hcr4) rfl rfl (Nat.le_of_ble_eq_true rfl) ?_
        refine a_if_ne (tgt := 41) C dX5_dress_35 (by decide) (fun hc => ?_) (fun hc => ?_)
        · replace h := iq hc h
          refine a_aload_n C dX5_dress_41 0 rfl ?_
          refine a_getr (k1 := 5) C dX5_dress_42 fl_X5_28 rfl Kc_0 rfl ?_
          refine a_iload_n C dX5_dress_45 2 rfl ?_
          obtain ⟨r5, hcr5, h⟩ := bd_some h
          refine a_callVi C dX5_dress_46 lv_X5_104 lm_X1_hasAccent ⟨rfl, rfl, by decide, by decide⟩ Kc_5 (m_X1_hasAccent C.2.2.2.2.2.2.1 Kc_5 hcr5) rfl rfl (Nat.le_of_ble_eq_true rfl) ?_
          refine a_if_ne (tgt := 54) C dX5_dress_49 (by decide) (fun hc => ?_) (fun hc => ?_)
          · replace h := iq hc h
            refine a_iconst (v := -1) C dX5_dress_54 (by decide) ?_
            refine a_istore (lv' := [(5, _), (0, _), (1, _), (2, _), (3, _), (4, _)]) C dX5_dress_55 (by decide) rfl ?_
            refine a_iconst (v := -1) C dX5_dress_57 (by decide) ?_
            refine a_istore (lv' := [(6, _), (5, _), (0, _), (1, _), (2, _), (3, _), (4, _)]) C dX5_dress_58 (by decide) rfl ?_
            refine a_iconst (v := 0) C dX5_dress_60 (by decide) ?_
            refine a_istore (lv' := [(7, _), (6, _), (5, _), (0, _), (1, _), (2, _), (3, _), (4, _)]) C dX5_dress_61 (by decide) rfl ?_
            obtain ⟨s9, hl, h⟩ := bd_some h
            have hE : Ex_X5_dress_63 Y X x1 x2 x3 x4 s9 := by
              refine a_iload C dX5_dress_121 0 rfl ?_
              refine a_if_ne (tgt := 131) C dX5_dress_123 (by decide) (fun hc => ?_) (fun hc => ?_)
              · replace h := iq hc h
                refine a_iload C dX5_dress_131 2 rfl ?_
                replace h := Option.some.inj h
                subst h
                exact a_iret C dX5_dress_133 hK
              · replace h := ip hc h
                refine a_iload C dX5_dress_126 1 rfl ?_
                refine a_goto (tgt := 133) C dX5_dress_128 (by decide) ?_
                replace h := Option.some.inj h
                subst h
                exact a_iret C dX5_dress_133 hK
            have hA := aw_loop (At_X5_dress_63 Y X x1 x2 x3 x4) (Ex_X5_dress_63 Y X x1 x2 x3 x4) (fun _ _ hb hk => t_X5_dress_63_63b C hb hk) hl hE
            exact a_sub [3, 4, 5, 6, 7, 2, 1, 0] (hA) rfl
          · replace h := ip hc h
            refine a_iconst (v := -1) C dX5_dress_52 (by decide) ?_
            replace h := Option.some.inj h
            subst h
            exact a_iret C dX5_dress_53 hK
        · replace h := ip hc h
          refine a_bipush (v := -2) C dX5_dress_38 (by decide) ?_
          replace h := Option.some.inj h
          subst h
          exact a_iret C dX5_dress_40 hK
theorem m_X5_dress {Y : EY} (hY : HY Y) {x1 : Int32} {x2 : Int32} {x3 : Int32} {x4 : Int32} {M : Mem}  {r : Int32 × Mem} (h : f_X5_dress x1 x2 x3 x4 M = some r) : MX Y yX5_dress cX5_dress 9 (some .int) rm_X5_dress [.ref (Y.2.2.2.1 0), .int x1, .int x2, .int x3, .int x4] M (some (.int r.1)) r.2 := MX.of hY (by decide) (Nat.le_of_ble_eq_true rfl) (fun _ hR C => a_sub [0, 1, 2, 3, 4] (t_X5_dress C  h hR) rfl)
abbrev rm_X5_home : Room := { frames := 4, cells := 0, slots := 0, locals := 96 }
abbrev At_X5_home_40 (Y : EY) (X : CX) (x1 : Int32) (x2 : Int32) (s : Int32 × Mem) : Prop := AW Y X 4 40 [(0, .ref (Y.2.2.2.1 0)), (1, .int x1), (2, .int x2), (3, .int s.1)] [] s.2
abbrev Ex_X5_home_40 (Y : EY) (X : CX) (x1 : Int32) (x2 : Int32) : ((Int32 × Mem) ⊕ (Int32 × Mem)) → Prop := KL (fun s : Int32 × Mem => AW Y X 4 71 [] [] s.2) (fun res : Int32 × Mem => RK Y X (some (.int res.1)) res.2)
noncomputable def f_X5_home_40_40b (x1 : Int32) (x2 : Int32) (x3 : Int32) (M : Mem) : Option ((Int32 × Mem) ⊕ ((Int32 × Mem) ⊕ (Int32 × Mem))) :=
  (if x3 < 0 then some (.inr (.inl (x3, M))) else Option.bind (f_X5_tryHiringMore x3 x1 x2 M) (fun r3 => Option.bind (f_X4_takenFor 26 x1 r3) (fun r4 => (if r4 = x2 then some (.inr (.inr (x3, r3))) else some (.inl ((x3 + (-1 : Int32)), r3))))))
theorem t_X5_home_40_40b {Y : EY} {X : CX} (C : CK Y X cX5_home RX5 4 (some .int) rm_X5_home) {x1 : Int32} {x2 : Int32} {x3 : Int32} {M : Mem}  {res : (Int32 × Mem) ⊕ ((Int32 × Mem) ⊕ (Int32 × Mem))} (h : f_X5_home_40_40b x1 x2 x3 M = some res) (hK : KL (At_X5_home_40 Y X x1 x2) (Ex_X5_home_40 Y X x1 x2) res) : AW Y X 4 40 [(0, .ref (Y.2.2.2.1 0)), (1, .int x1), (2, .int x2), (3, .int x3)] [] M := by
  unfold f_X5_home_40_40b at h
  refine a_iload_n C dX5_home_40 3 rfl ?_
  refine a_if_lt (tgt := 71) C dX5_home_41 (by decide) (fun hc => ?_) (fun hc => ?_)
  · replace h := ip hc h
    replace h := Option.some.inj h
    subst h
    exact a_sub [] (hK) rfl
  · replace h := iq hc h
    refine a_aload_n C dX5_home_44 0 rfl ?_
    refine a_iload_n C dX5_home_45 3 rfl ?_
    refine a_iload_n C dX5_home_46 1 rfl ?_
    refine a_iload_n C dX5_home_47 2 rfl ?_
    obtain ⟨r3, hcr3, h⟩ := bd_some h
    refine a_callVv C dX5_home_48 lv_X5_193 lm_X5_tryHiringMore ⟨rfl, rfl, by decide, by decide⟩ Kc_0 (m_X5_tryHiringMore C.2.2.2.2.2.2.1 hcr3) rfl rfl (Nat.le_of_ble_eq_true rfl) ?_
    refine a_aload_n C dX5_home_51 0 rfl ?_
    refine a_getr (k1 := 26) C dX5_home_52 fl_X5_44 rfl Kc_0 rfl ?_
    refine a_iload_n C dX5_home_55 1 rfl ?_
    obtain ⟨r4, hcr4, h⟩ := bd_some h
    refine a_callVi C dX5_home_56 lv_X5_162 lm_X4_takenFor ⟨rfl, rfl, by decide, by decide⟩ Kc_26 (m_X4_takenFor C.2.2.2.2.2.2.1 Kc_26 hcr4) rfl rfl (Nat.le_of_ble_eq_true rfl) ?_
    refine a_iload_n C dX5_home_59 2 rfl ?_
    refine a_icmp_ne (tgt := 65) C dX5_home_60 (by decide) (fun hc => ?_) (fun hc => ?_)
    · replace h := iq hc h
      refine a_iinc (v := -1) (lv' := [(3, _), (0, _), (1, _), (2, _)]) C dX5_home_65 3 rfl (by decide) (by decide) rfl ?_
      refine a_goto (tgt := 40) C dX5_home_68 (by decide) ?_
      replace h := Option.some.inj h
      subst h
      exact a_sub [1, 2, 3, 0] (hK) rfl
    · replace h := ip hc h
      refine a_iload_n C dX5_home_63 3 rfl ?_
      replace h := Option.some.inj h
      subst h
      exact a_iret C dX5_home_64 hK
noncomputable def f_X5_home (x1 : Int32) (M : Mem) : Option (Int32 × Mem) :=
  Option.bind (f_X1_hasPerson 5 x1 M) (fun r1 => (if r1 = 0 then some ((-2 : Int32), M) else ck (inb x1 8) (Option.bind (f_X1_hasAccent 5 (M 9 (x1).toNatClampNeg) M) (fun r2 => (if r2 = 0 then some ((-1 : Int32), M) else Option.bind (loop (fun s5 : Int32 × Mem => f_X5_home_40_40b x1 (M 9 (x1).toNatClampNeg) s5.1 s5.2) ((29 : Int32), M)) (eo (fun s6 => some ((-1 : Int32), s6.2)) (fun r7 => some r7)))))))
theorem t_X5_home {Y : EY} {X : CX} (C : CK Y X cX5_home RX5 4 (some .int) rm_X5_home) {x1 : Int32} {M : Mem}  {res : Int32 × Mem} (h : f_X5_home x1 M = some res) (hK : RK Y X (some (.int res.1)) res.2) : AW Y X 4 0 [(0, .ref (Y.2.2.2.1 0)), (1, .int x1)] [] M := by
  unfold f_X5_home at h
  refine a_aload_n C dX5_home_0 0 rfl ?_
  refine a_getr (k1 := 5) C dX5_home_1 fl_X5_28 rfl Kc_0 rfl ?_
  refine a_iload_n C dX5_home_4 1 rfl ?_
  obtain ⟨r1, hcr1, h⟩ := bd_some h
  refine a_callVi C dX5_home_5 lv_X5_113 lm_X1_hasPerson ⟨rfl, rfl, by decide, by decide⟩ Kc_5 (m_X1_hasPerson C.2.2.2.2.2.2.1 Kc_5 hcr1) rfl rfl (Nat.le_of_ble_eq_true rfl) ?_
  refine a_if_ne (tgt := 14) C dX5_home_8 (by decide) (fun hc => ?_) (fun hc => ?_)
  · replace h := iq hc h
    refine a_aload_n C dX5_home_14 0 rfl ?_
    refine a_getr (k1 := 5) C dX5_home_15 fl_X5_28 rfl Kc_0 rfl ?_
    refine a_getr (k1 := 9) C dX5_home_18 fl_X5_119 rfl Kc_5 rfl ?_
    refine a_iload_n C dX5_home_21 1 rfl ?_
    obtain ⟨hb, h⟩ := ck_some h
    refine a_iald C dX5_home_22 Kc_9 rfl hb ?_
    refine a_istore_n (lv' := [(2, _), (0, _), (1, _)]) C dX5_home_23 rfl (by decide) rfl ?_
    refine a_aload_n C dX5_home_24 1 rfl ?_
    refine a_getr (k1 := 5) C dX5_home_25 fl_X5_28 rfl Kc_0 rfl ?_
    refine a_iload_n C dX5_home_28 0 rfl ?_
    obtain ⟨r2, hcr2, h⟩ := bd_some h
    refine a_callVi C dX5_home_29 lv_X5_104 lm_X1_hasAccent ⟨rfl, rfl, by decide, by decide⟩ Kc_5 (m_X1_hasAccent C.2.2.2.2.2.2.1 Kc_5 hcr2) rfl rfl (Nat.le_of_ble_eq_true rfl) ?_
    refine a_if_ne (tgt := 37) C dX5_home_32 (by decide) (fun hc => ?_) (fun hc => ?_)
    · replace h := iq hc h
      refine a_bipush (v := 29) C dX5_home_37 (by decide) ?_
      refine a_istore_n (lv' := [(3, _), (2, _), (0, _), (1, _)]) C dX5_home_39 rfl (by decide) rfl ?_
      obtain ⟨ee, hl, h⟩ := bd_some h
      have hE : Ex_X5_home_40 Y X x1 (M 9 (x1).toNatClampNeg) ee := by
        cases ee with
        | inl s6 =>
          refine a_iconst (v := -1) C dX5_home_71 (by decide) ?_
          replace h := Option.some.inj h
          subst h
          exact a_iret C dX5_home_72 hK
        | inr r7 =>
          replace h := Option.some.inj h
          subst h
          exact hK
      have hA := aw_loop (At_X5_home_40 Y X x1 (M 9 (x1).toNatClampNeg)) (Ex_X5_home_40 Y X x1 (M 9 (x1).toNatClampNeg)) (fun _ _ hb hk => t_X5_home_40_40b C hb hk) hl hE
      exact a_sub [2, 3, 1, 0] (hA) rfl
    · replace h := ip hc h
      refine a_iconst (v := -1) C dX5_home_35 (by decide) ?_
      replace h := Option.some.inj h
      subst h
      exact a_iret C dX5_home_36 hK
  · replace h := ip hc h
    refine a_bipush (v := -2) C dX5_home_11 (by decide) ?_
    replace h := Option.some.inj h
    subst h
    exact a_iret C dX5_home_13 hK
theorem m_X5_home {Y : EY} (hY : HY Y) {x1 : Int32} {M : Mem}  {r : Int32 × Mem} (h : f_X5_home x1 M = some r) : MX Y yX5_home cX5_home 4 (some .int) rm_X5_home [.ref (Y.2.2.2.1 0), .int x1] M (some (.int r.1)) r.2 := MX.of hY (by decide) (Nat.le_of_ble_eq_true rfl) (fun _ hR C => a_sub [0, 1] (t_X5_home C  h hR) rfl)
abbrev rm_X5_tray : Room := { frames := 4, cells := 0, slots := 0, locals := 93 }
abbrev At_X5_tray_21 (Y : EY) (X : CX) (x1 : Int32) (s : Int32 × Int32 × Int32 × Int32 × Mem) : Prop := AW Y X 8 21 [(0, .ref (Y.2.2.2.1 0)), (1, .int x1), (2, .int s.1), (3, .int s.2.1), (4, .int s.2.2.1), (5, .int s.2.2.2.1)] [] s.2.2.2.2
abbrev Ex_X5_tray_21 (Y : EY) (X : CX) (x1 : Int32) (s : Int32 × Int32 × Int32 × Int32 × Mem) : Prop := AW Y X 8 135 [(1, .int x1), (2, .int s.1), (3, .int s.2.1), (4, .int s.2.2.1)] [] s.2.2.2.2
abbrev At_X5_tray_39 (Y : EY) (X : CX) (x1 : Int32) (x5 : Int32) (s : Int32 × Int32 × Int32 × Int32 × Mem) : Prop := AW Y X 8 39 [(0, .ref (Y.2.2.2.1 0)), (1, .int x1), (2, .int s.1), (3, .int s.2.1), (4, .int s.2.2.1), (5, .int x5), (6, .int s.2.2.2.1)] [] s.2.2.2.2
abbrev Ex_X5_tray_39 (Y : EY) (X : CX) (x1 : Int32) (x5 : Int32) (s : Int32 × Int32 × Int32 × Int32 × Mem) : Prop := AW Y X 8 129 [(0, .ref (Y.2.2.2.1 0)), (1, .int x1), (2, .int s.1), (3, .int s.2.1), (4, .int s.2.2.1), (5, .int x5)] [] s.2.2.2.2
noncomputable def f_X5_tray_123_39 (x1 : Int32) (x2 : Int32) (x3 : Int32) (x4 : Int32) (x5 : Int32) (x6 : Int32) (M : Mem) : Option ((Int32 × Int32 × Int32 × Int32 × Mem) ⊕ (Int32 × Int32 × Int32 × Int32 × Mem)) :=
  some (.inl (x2, x3, x4, (x6 + (1 : Int32)), M))
theorem t_X5_tray_123_39 {Y : EY} {X : CX} (C : CK Y X cX5_tray RX5 8 (some .int) rm_X5_tray) {x1 : Int32} {x2 : Int32} {x3 : Int32} {x4 : Int32} {x5 : Int32} {x6 : Int32} {M : Mem}  {res : (Int32 × Int32 × Int32 × Int32 × Mem) ⊕ (Int32 × Int32 × Int32 × Int32 × Mem)} (h : f_X5_tray_123_39 x1 x2 x3 x4 x5 x6 M = some res) (hK : KL (At_X5_tray_39 Y X x1 x5) (Ex_X5_tray_39 Y X x1 x5) res) : AW Y X 8 123 [(0, .ref (Y.2.2.2.1 0)), (1, .int x1), (2, .int x2), (3, .int x3), (4, .int x4), (5, .int x5), (6, .int x6)] [] M := by
  unfold f_X5_tray_123_39 at h
  refine a_iinc (v := 1) (lv' := [(6, _), (0, _), (1, _), (2, _), (3, _), (4, _), (5, _)]) C dX5_tray_123 6 rfl (by decide) (by decide) rfl ?_
  refine a_goto (tgt := 39) C dX5_tray_126 (by decide) ?_
  replace h := Option.some.inj h
  subst h
  exact a_sub [1, 2, 3, 4, 5, 6, 0] (hK) rfl
noncomputable def f_X5_tray_113_39 (x1 : Int32) (x5 : Int32) (x6 : Int32) (x7 : Int32) (M : Mem) : Option ((Int32 × Int32 × Int32 × Int32 × Mem) ⊕ (Int32 × Int32 × Int32 × Int32 × Mem)) :=
  f_X5_tray_123_39 x1 x5 x6 x7 x5 x6 M
theorem t_X5_tray_113_39 {Y : EY} {X : CX} (C : CK Y X cX5_tray RX5 8 (some .int) rm_X5_tray) {x1 : Int32} {x5 : Int32} {x6 : Int32} {x7 : Int32} {M : Mem}  {res : (Int32 × Int32 × Int32 × Int32 × Mem) ⊕ (Int32 × Int32 × Int32 × Int32 × Mem)} (h : f_X5_tray_113_39 x1 x5 x6 x7 M = some res) (hK : KL (At_X5_tray_39 Y X x1 x5) (Ex_X5_tray_39 Y X x1 x5) res) : AW Y X 8 113 [(0, .ref (Y.2.2.2.1 0)), (1, .int x1), (5, .int x5), (6, .int x6), (7, .int x7)] [] M := by
  unfold f_X5_tray_113_39 at h
  refine a_iload C dX5_tray_113 2 rfl ?_
  refine a_istore_n (lv' := [(2, _), (0, _), (1, _), (5, _), (6, _), (7, _)]) C dX5_tray_115 rfl (by decide) rfl ?_
  refine a_iload C dX5_tray_116 4 rfl ?_
  refine a_istore_n (lv' := [(3, _), (2, _), (0, _), (1, _), (5, _), (6, _), (7, _)]) C dX5_tray_118 rfl (by decide) rfl ?_
  refine a_iload C dX5_tray_119 6 rfl ?_
  refine a_istore (lv' := [(4, _), (3, _), (2, _), (0, _), (1, _), (5, _), (6, _), (7, _)]) C dX5_tray_121 (by decide) rfl ?_
  exact a_sub [3, 4, 2, 1, 0, 5, 6] (t_X5_tray_123_39 C h hK) rfl
noncomputable def f_X5_tray_39_39b (x1 : Int32) (x2 : Int32) (x3 : Int32) (x4 : Int32) (x5 : Int32) (x6 : Int32) (M : Mem) : Option ((Int32 × Int32 × Int32 × Int32 × Mem) ⊕ (Int32 × Int32 × Int32 × Int32 × Mem)) :=
  (if (M 5 0) ≤ x6 then some (.inr (x2, x3, x4, x6, M)) else Option.bind (f_X1_become 13 5 M) (fun r2 => Option.bind (f_X1_changeDrawers 13 x5 x6 r2) (fun r3 => Option.bind (f_X4_begin 26 r3) (fun r4 => Option.bind (f_X4_go 26 (29 : Int32) r4) (fun r5 => Option.bind (f_X4_astrayBits 26 r5) (fun r6 => Option.bind (f_J6_bitCount_0f7a4 r6) (fun r7 => (if x2 = (-1 : Int32) then f_X5_tray_113_39 x1 x5 x6 r7 r5 else (if x4 ≤ r7 then f_X5_tray_123_39 x1 x2 x3 x4 x5 x6 r5 else f_X5_tray_113_39 x1 x5 x6 r7 r5)))))))))
theorem t_X5_tray_39_39b {Y : EY} {X : CX} (C : CK Y X cX5_tray RX5 8 (some .int) rm_X5_tray) {x1 : Int32} {x2 : Int32} {x3 : Int32} {x4 : Int32} {x5 : Int32} {x6 : Int32} {M : Mem}  {res : (Int32 × Int32 × Int32 × Int32 × Mem) ⊕ (Int32 × Int32 × Int32 × Int32 × Mem)} (h : f_X5_tray_39_39b x1 x2 x3 x4 x5 x6 M = some res) (hK : KL (At_X5_tray_39 Y X x1 x5) (Ex_X5_tray_39 Y X x1 x5) res) : AW Y X 8 39 [(0, .ref (Y.2.2.2.1 0)), (1, .int x1), (2, .int x2), (3, .int x3), (4, .int x4), (5, .int x5), (6, .int x6)] [] M := by
  unfold f_X5_tray_39_39b at h
  refine a_iload C dX5_tray_39 6 rfl ?_
  refine a_aload_n C dX5_tray_41 0 rfl ?_
  refine a_getr (k1 := 5) C dX5_tray_42 fl_X5_28 rfl Kc_0 rfl ?_
  refine a_geti C dX5_tray_45 fl_X5_190 rfl Kc_5 ?_
  refine a_icmp_ge (tgt := 129) C dX5_tray_48 (by decide) (fun hc => ?_) (fun hc => ?_)
  · replace h := ip hc h
    replace h := Option.some.inj h
    subst h
    exact a_sub [0, 1, 2, 3, 4, 5] (hK) rfl
  · replace h := iq hc h
    refine a_aload_n C dX5_tray_51 0 rfl ?_
    refine a_getr (k1 := 13) C dX5_tray_52 fl_X5_32 rfl Kc_0 rfl ?_
    refine a_aload_n C dX5_tray_55 0 rfl ?_
    refine a_getr (k1 := 5) C dX5_tray_56 fl_X5_28 rfl Kc_0 rfl ?_
    obtain ⟨r2, hcr2, h⟩ := bd_some h
    refine a_callVv C dX5_tray_59 lv_X5_196 lm_X1_become ⟨rfl, rfl, by decide, by decide⟩ Kc_13 (m_X1_become C.2.2.2.2.2.2.1 Kc_13 Kc_5 hcr2) rfl rfl (Nat.le_of_ble_eq_true rfl) ?_
    refine a_aload_n C dX5_tray_62 0 rfl ?_
    refine a_getr (k1 := 13) C dX5_tray_63 fl_X5_32 rfl Kc_0 rfl ?_
    refine a_iload C dX5_tray_66 5 rfl ?_
    refine a_iload C dX5_tray_68 6 rfl ?_
    obtain ⟨r3, hcr3, h⟩ := bd_some h
    refine a_callVv C dX5_tray_70 lv_X5_199 lm_X1_changeDrawers ⟨rfl, rfl, by decide, by decide⟩ Kc_13 (m_X1_changeDrawers C.2.2.2.2.2.2.1 Kc_13 hcr3) rfl rfl (Nat.le_of_ble_eq_true rfl) ?_
    refine a_aload_n C dX5_tray_73 0 rfl ?_
    refine a_getr (k1 := 26) C dX5_tray_74 fl_X5_44 rfl Kc_0 rfl ?_
    obtain ⟨r4, hcr4, h⟩ := bd_some h
    refine a_callVv C dX5_tray_77 lv_X5_203 lm_X4_begin ⟨rfl, rfl, by decide, by decide⟩ Kc_26 (m_X4_begin C.2.2.2.2.2.2.1 Kc_26 hcr4) rfl rfl (Nat.le_of_ble_eq_true rfl) ?_
    refine a_aload_n C dX5_tray_80 0 rfl ?_
    refine a_getr (k1 := 26) C dX5_tray_81 fl_X5_44 rfl Kc_0 rfl ?_
    refine a_bipush (v := 29) C dX5_tray_84 (by decide) ?_
    obtain ⟨r5, hcr5, h⟩ := bd_some h
    refine a_callVv C dX5_tray_86 lv_X5_206 lm_X4_go ⟨rfl, rfl, by decide, by decide⟩ Kc_26 (m_X4_go C.2.2.2.2.2.2.1 Kc_26 hcr5) rfl rfl (Nat.le_of_ble_eq_true rfl) ?_
    refine a_aload_n C dX5_tray_89 0 rfl ?_
    refine a_getr (k1 := 26) C dX5_tray_90 fl_X5_44 rfl Kc_0 rfl ?_
    obtain ⟨r6, hcr6, h⟩ := bd_some h
    refine a_callVi C dX5_tray_93 lv_X5_177 lm_X4_astrayBits ⟨rfl, rfl, by decide, by decide⟩ Kc_26 (m_X4_astrayBits C.2.2.2.2.2.2.1 Kc_26 hcr6) rfl rfl (Nat.le_of_ble_eq_true rfl) ?_
    obtain ⟨r7, hcr7, h⟩ := bd_some h
    refine a_callSi C dX5_tray_96 ls_X5_209 lm_J6_bitCount_0f7a4 ⟨rfl, rfl, by decide, by decide⟩ (m_J6_bitCount_0f7a4 C.2.2.2.2.2.2.1 hcr7) rfl rfl (Nat.le_of_ble_eq_true rfl) ?_
    refine a_istore (lv' := [(7, _), (0, _), (1, _), (2, _), (3, _), (4, _), (5, _), (6, _)]) C dX5_tray_99 (by decide) rfl ?_
    refine a_iload_n C dX5_tray_101 3 rfl ?_
    refine a_iconst (v := -1) C dX5_tray_102 (by decide) ?_
    refine a_icmp_eq (tgt := 113) C dX5_tray_103 (by decide) (fun hc => ?_) (fun hc => ?_)
    · replace h := ip hc h
      exact a_sub [1, 2, 6, 7, 0] (t_X5_tray_113_39 C h hK) rfl
    · replace h := iq hc h
      refine a_iload C dX5_tray_106 0 rfl ?_
      refine a_iload C dX5_tray_108 5 rfl ?_
      refine a_icmp_ge (tgt := 123) C dX5_tray_110 (by decide) (fun hc => ?_) (fun hc => ?_)
      · replace h := ip hc h
        exact a_sub [1, 2, 3, 4, 5, 6, 7] (t_X5_tray_123_39 C h hK) rfl
      · replace h := iq hc h
        exact a_sub [1, 2, 6, 7, 0] (t_X5_tray_113_39 C h hK) rfl
noncomputable def f_X5_tray_21_21b (x1 : Int32) (x2 : Int32) (x3 : Int32) (x4 : Int32) (x5 : Int32) (M : Mem) : Option ((Int32 × Int32 × Int32 × Int32 × Mem) ⊕ (Int32 × Int32 × Int32 × Int32 × Mem)) :=
  (if (M 5 0) ≤ x5 then some (.inr (x2, x3, x4, x5, M)) else Option.bind (loop (fun s8 : Int32 × Int32 × Int32 × Int32 × Mem => f_X5_tray_39_39b x1 s8.1 s8.2.1 s8.2.2.1 x5 s8.2.2.2.1 s8.2.2.2.2) (x2, x3, x4, (x5 + (1 : Int32)), M)) (fun s9 => some (.inl (s9.1, s9.2.1, s9.2.2.1, (x5 + (1 : Int32)), s9.2.2.2.2))))
theorem t_X5_tray_21_21b {Y : EY} {X : CX} (C : CK Y X cX5_tray RX5 8 (some .int) rm_X5_tray) {x1 : Int32} {x2 : Int32} {x3 : Int32} {x4 : Int32} {x5 : Int32} {M : Mem}  {res : (Int32 × Int32 × Int32 × Int32 × Mem) ⊕ (Int32 × Int32 × Int32 × Int32 × Mem)} (h : f_X5_tray_21_21b x1 x2 x3 x4 x5 M = some res) (hK : KL (At_X5_tray_21 Y X x1) (Ex_X5_tray_21 Y X x1) res) : AW Y X 8 21 [(0, .ref (Y.2.2.2.1 0)), (1, .int x1), (2, .int x2), (3, .int x3), (4, .int x4), (5, .int x5)] [] M := by
  unfold f_X5_tray_21_21b at h
  refine a_iload C dX5_tray_21 5 rfl ?_
  refine a_aload_n C dX5_tray_23 0 rfl ?_
  refine a_getr (k1 := 5) C dX5_tray_24 fl_X5_28 rfl Kc_0 rfl ?_
  refine a_geti C dX5_tray_27 fl_X5_190 rfl Kc_5 ?_
  refine a_icmp_ge (tgt := 135) C dX5_tray_30 (by decide) (fun hc => ?_) (fun hc => ?_)
  · replace h := ip hc h
    replace h := Option.some.inj h
    subst h
    exact a_sub [1, 2, 3, 4] (hK) rfl
  · replace h := iq hc h
    refine a_iload C dX5_tray_33 5 rfl ?_
    refine a_iconst (v := 1) C dX5_tray_35 (by decide) ?_
    refine a_iadd C dX5_tray_36 ?_
    refine a_istore (lv' := [(6, _), (0, _), (1, _), (2, _), (3, _), (4, _), (5, _)]) C dX5_tray_37 (by decide) rfl ?_
    obtain ⟨s9, hl, h⟩ := bd_some h
    have hE : Ex_X5_tray_39 Y X x1 x5 s9 := by
      refine a_iinc (v := 1) (lv' := [(5, _), (0, _), (1, _), (2, _), (3, _), (4, _)]) C dX5_tray_129 5 rfl (by decide) (by decide) rfl ?_
      refine a_goto (tgt := 21) C dX5_tray_132 (by decide) ?_
      replace h := Option.some.inj h
      subst h
      exact a_sub [1, 2, 3, 4, 5, 0] (hK) rfl
    have hA := aw_loop (At_X5_tray_39 Y X x1 x5) (Ex_X5_tray_39 Y X x1 x5) (fun _ _ hb hk => t_X5_tray_39_39b C hb hk) hl hE
    exact a_sub [1, 2, 3, 4, 5, 6, 0] (hA) rfl
noncomputable def f_X5_tray (x1 : Int32) (M : Mem) : Option (Int32 × Mem) :=
  Option.bind (f_X5_isBelow x1 (3 : Int32)) (fun r1 => (if r1 = 0 then some ((-2 : Int32), M) else Option.bind (loop (fun s10 : Int32 × Int32 × Int32 × Int32 × Mem => f_X5_tray_21_21b x1 s10.1 s10.2.1 s10.2.2.1 s10.2.2.2.1 s10.2.2.2.2) ((-1 : Int32), (-1 : Int32), (-1 : Int32), (0 : Int32), M)) (fun s11 => (if x1 = 0 then some (s11.1, s11.2.2.2.2) else (if x1 = (1 : Int32) then some (s11.2.1, s11.2.2.2.2) else some (s11.2.2.1, s11.2.2.2.2))))))
theorem t_X5_tray {Y : EY} {X : CX} (C : CK Y X cX5_tray RX5 8 (some .int) rm_X5_tray) {x1 : Int32} {M : Mem}  {res : Int32 × Mem} (h : f_X5_tray x1 M = some res) (hK : RK Y X (some (.int res.1)) res.2) : AW Y X 8 0 [(0, .ref (Y.2.2.2.1 0)), (1, .int x1)] [] M := by
  unfold f_X5_tray at h
  refine a_iload_n C dX5_tray_0 1 rfl ?_
  refine a_iconst (v := 3) C dX5_tray_1 (by decide) ?_
  obtain ⟨r1, hcr1, h⟩ := bd_some h
  refine a_callSi C dX5_tray_2 ls_X5_82 lm_X5_isBelow ⟨rfl, rfl, by decide, by decide⟩ (m_X5_isBelow C.2.2.2.2.2.2.1 hcr1) rfl rfl (Nat.le_of_ble_eq_true rfl) ?_
  refine a_if_ne (tgt := 11) C dX5_tray_5 (by decide) (fun hc => ?_) (fun hc => ?_)
  · replace h := iq hc h
    refine a_iconst (v := -1) C dX5_tray_11 (by decide) ?_
    refine a_istore_n (lv' := [(2, _), (0, _), (1, _)]) C dX5_tray_12 rfl (by decide) rfl ?_
    refine a_iconst (v := -1) C dX5_tray_13 (by decide) ?_
    refine a_istore_n (lv' := [(3, _), (2, _), (0, _), (1, _)]) C dX5_tray_14 rfl (by decide) rfl ?_
    refine a_iconst (v := -1) C dX5_tray_15 (by decide) ?_
    refine a_istore (lv' := [(4, _), (3, _), (2, _), (0, _), (1, _)]) C dX5_tray_16 (by decide) rfl ?_
    refine a_iconst (v := 0) C dX5_tray_18 (by decide) ?_
    refine a_istore (lv' := [(5, _), (4, _), (3, _), (2, _), (0, _), (1, _)]) C dX5_tray_19 (by decide) rfl ?_
    obtain ⟨s11, hl, h⟩ := bd_some h
    have hE : Ex_X5_tray_21 Y X x1 s11 := by
      refine a_iload_n C dX5_tray_135 0 rfl ?_
      refine a_if_ne (tgt := 141) C dX5_tray_136 (by decide) (fun hc => ?_) (fun hc => ?_)
      · replace h := iq hc h
        refine a_iload_n C dX5_tray_141 0 rfl ?_
        refine a_iconst (v := 1) C dX5_tray_142 (by decide) ?_
        refine a_icmp_ne (tgt := 150) C dX5_tray_143 (by decide) (fun hc => ?_) (fun hc => ?_)
        · replace h := iq hc h
          refine a_iload C dX5_tray_150 3 rfl ?_
          replace h := Option.some.inj h
          subst h
          exact a_iret C dX5_tray_152 hK
        · replace h := ip hc h
          refine a_iload_n C dX5_tray_146 2 rfl ?_
          refine a_goto (tgt := 152) C dX5_tray_147 (by decide) ?_
          replace h := Option.some.inj h
          subst h
          exact a_iret C dX5_tray_152 hK
      · replace h := ip hc h
        refine a_iload_n C dX5_tray_139 1 rfl ?_
        replace h := Option.some.inj h
        subst h
        exact a_iret C dX5_tray_140 hK
    have hA := aw_loop (At_X5_tray_21 Y X x1) (Ex_X5_tray_21 Y X x1) (fun _ _ hb hk => t_X5_tray_21_21b C hb hk) hl hE
    exact a_sub [4, 5, 3, 2, 1, 0] (hA) rfl
  · replace h := ip hc h
    refine a_bipush (v := -2) C dX5_tray_8 (by decide) ?_
    replace h := Option.some.inj h
    subst h
    exact a_iret C dX5_tray_10 hK
theorem m_X5_tray {Y : EY} (hY : HY Y) {x1 : Int32} {M : Mem}  {r : Int32 × Mem} (h : f_X5_tray x1 M = some r) : MX Y yX5_tray cX5_tray 8 (some .int) rm_X5_tray [.ref (Y.2.2.2.1 0), .int x1] M (some (.int r.1)) r.2 := MX.of hY (by decide) (Nat.le_of_ble_eq_true rfl) (fun _ hR C => a_sub [0, 1] (t_X5_tray C  h hR) rfl)
abbrev rm_X5_nobodyAstrayWithout : Room := { frames := 4, cells := 0, slots := 0, locals := 93 }
noncomputable def f_X5_nobodyAstrayWithout (x1 : Int32) (x2 : Int32) (M : Mem) : Option (Int32 × Mem) :=
  Option.bind (f_X1_become 13 5 M) (fun r1 => Option.bind (f_X1_dropHiring 13 x2 r1) (fun r2 => Option.bind (f_X1_dropHiring 13 x1 r2) (fun r3 => Option.bind (f_X4_begin 26 r3) (fun r4 => Option.bind (f_X4_go 26 (29 : Int32) r4) (fun r5 => Option.bind (f_X4_astrayBits 26 r5) (fun r6 => (if r6 = 0 then some ((1 : Int32), r5) else some ((0 : Int32), r5))))))))
theorem t_X5_nobodyAstrayWithout {Y : EY} {X : CX} (C : CK Y X cX5_nobodyAstrayWithout RX5 3 (some .boolean) rm_X5_nobodyAstrayWithout) {x1 : Int32} {x2 : Int32} {M : Mem}  {res : Int32 × Mem} (h : f_X5_nobodyAstrayWithout x1 x2 M = some res) (hK : RK Y X (some (.int res.1)) res.2) : AW Y X 3 0 [(0, .ref (Y.2.2.2.1 0)), (1, .int x1), (2, .int x2)] [] M := by
  unfold f_X5_nobodyAstrayWithout at h
  refine a_aload_n C dX5_nobodyAstrayWithout_0 0 rfl ?_
  refine a_getr (k1 := 13) C dX5_nobodyAstrayWithout_1 fl_X5_32 rfl Kc_0 rfl ?_
  refine a_aload_n C dX5_nobodyAstrayWithout_4 0 rfl ?_
  refine a_getr (k1 := 5) C dX5_nobodyAstrayWithout_5 fl_X5_28 rfl Kc_0 rfl ?_
  obtain ⟨r1, hcr1, h⟩ := bd_some h
  refine a_callVv C dX5_nobodyAstrayWithout_8 lv_X5_196 lm_X1_become ⟨rfl, rfl, by decide, by decide⟩ Kc_13 (m_X1_become C.2.2.2.2.2.2.1 Kc_13 Kc_5 hcr1) rfl rfl (Nat.le_of_ble_eq_true rfl) ?_
  refine a_aload_n C dX5_nobodyAstrayWithout_11 0 rfl ?_
  refine a_getr (k1 := 13) C dX5_nobodyAstrayWithout_12 fl_X5_32 rfl Kc_0 rfl ?_
  refine a_iload_n C dX5_nobodyAstrayWithout_15 2 rfl ?_
  obtain ⟨r2, hcr2, h⟩ := bd_some h
  refine a_callVv C dX5_nobodyAstrayWithout_16 lv_X5_136 lm_X1_dropHiring ⟨rfl, rfl, by decide, by decide⟩ Kc_13 (m_X1_dropHiring C.2.2.2.2.2.2.1 Kc_13 hcr2) rfl rfl (Nat.le_of_ble_eq_true rfl) ?_
  refine a_aload_n C dX5_nobodyAstrayWithout_19 0 rfl ?_
  refine a_getr (k1 := 13) C dX5_nobodyAstrayWithout_20 fl_X5_32 rfl Kc_0 rfl ?_
  refine a_iload_n C dX5_nobodyAstrayWithout_23 1 rfl ?_
  obtain ⟨r3, hcr3, h⟩ := bd_some h
  refine a_callVv C dX5_nobodyAstrayWithout_24 lv_X5_136 lm_X1_dropHiring ⟨rfl, rfl, by decide, by decide⟩ Kc_13 (m_X1_dropHiring C.2.2.2.2.2.2.1 Kc_13 hcr3) rfl rfl (Nat.le_of_ble_eq_true rfl) ?_
  refine a_aload_n C dX5_nobodyAstrayWithout_27 0 rfl ?_
  refine a_getr (k1 := 26) C dX5_nobodyAstrayWithout_28 fl_X5_44 rfl Kc_0 rfl ?_
  obtain ⟨r4, hcr4, h⟩ := bd_some h
  refine a_callVv C dX5_nobodyAstrayWithout_31 lv_X5_203 lm_X4_begin ⟨rfl, rfl, by decide, by decide⟩ Kc_26 (m_X4_begin C.2.2.2.2.2.2.1 Kc_26 hcr4) rfl rfl (Nat.le_of_ble_eq_true rfl) ?_
  refine a_aload_n C dX5_nobodyAstrayWithout_34 0 rfl ?_
  refine a_getr (k1 := 26) C dX5_nobodyAstrayWithout_35 fl_X5_44 rfl Kc_0 rfl ?_
  refine a_bipush (v := 29) C dX5_nobodyAstrayWithout_38 (by decide) ?_
  obtain ⟨r5, hcr5, h⟩ := bd_some h
  refine a_callVv C dX5_nobodyAstrayWithout_40 lv_X5_206 lm_X4_go ⟨rfl, rfl, by decide, by decide⟩ Kc_26 (m_X4_go C.2.2.2.2.2.2.1 Kc_26 hcr5) rfl rfl (Nat.le_of_ble_eq_true rfl) ?_
  refine a_aload_n C dX5_nobodyAstrayWithout_43 0 rfl ?_
  refine a_getr (k1 := 26) C dX5_nobodyAstrayWithout_44 fl_X5_44 rfl Kc_0 rfl ?_
  obtain ⟨r6, hcr6, h⟩ := bd_some h
  refine a_callVi C dX5_nobodyAstrayWithout_47 lv_X5_177 lm_X4_astrayBits ⟨rfl, rfl, by decide, by decide⟩ Kc_26 (m_X4_astrayBits C.2.2.2.2.2.2.1 Kc_26 hcr6) rfl rfl (Nat.le_of_ble_eq_true rfl) ?_
  refine a_if_ne (tgt := 57) C dX5_nobodyAstrayWithout_50 (by decide) (fun hc => ?_) (fun hc => ?_)
  · replace h := iq hc h
    refine a_iconst (v := 0) C dX5_nobodyAstrayWithout_57 (by decide) ?_
    replace h := Option.some.inj h
    subst h
    exact a_zret C dX5_nobodyAstrayWithout_58 rfl hK
  · replace h := ip hc h
    refine a_iconst (v := 1) C dX5_nobodyAstrayWithout_53 (by decide) ?_
    refine a_goto (tgt := 58) C dX5_nobodyAstrayWithout_54 (by decide) ?_
    replace h := Option.some.inj h
    subst h
    exact a_zret C dX5_nobodyAstrayWithout_58 rfl hK
theorem m_X5_nobodyAstrayWithout {Y : EY} (hY : HY Y) {x1 : Int32} {x2 : Int32} {M : Mem}  {r : Int32 × Mem} (h : f_X5_nobodyAstrayWithout x1 x2 M = some r) : MX Y yX5_nobodyAstrayWithout cX5_nobodyAstrayWithout 3 (some .boolean) rm_X5_nobodyAstrayWithout [.ref (Y.2.2.2.1 0), .int x1, .int x2] M (some (.int r.1)) r.2 := MX.of hY (by decide) (Nat.le_of_ble_eq_true rfl) (fun _ hR C => a_sub [0, 1, 2] (t_X5_nobodyAstrayWithout C  h hR) rfl)
abbrev rm_X5_findRefused : Room := { frames := 5, cells := 0, slots := 0, locals := 115 }
abbrev At_X5_findRefused_27 (Y : EY) (X : CX)  (s : Int32 × Mem) : Prop := AW Y X 3 27 [(0, .ref (Y.2.2.2.1 0)), (1, .int s.1)] [] s.2
abbrev Ex_X5_findRefused_27 (Y : EY) (X : CX)  : ((Int32 × Mem) ⊕ (Int32 × Mem)) → Prop := KL (fun s : Int32 × Mem => AW Y X 3 62 [(0, .ref (Y.2.2.2.1 0))] [] s.2) (fun res : Int32 × Mem => RK Y X (some (.int res.1)) res.2)
noncomputable def f_X5_findRefused_27_27b (x1 : Int32) (M : Mem) : Option ((Int32 × Mem) ⊕ ((Int32 × Mem) ⊕ (Int32 × Mem))) :=
  (if (M 5 6) ≤ x1 then some (.inr (.inl (x1, M))) else Option.bind (f_X5_nobodyAstrayWithout x1 (-1 : Int32) M) (fun r2 => (if r2.1 = 0 then some (.inl ((x1 + (1 : Int32)), r2.2)) else ck (inb (0 : Int32) 2) (some (.inr (.inr ((1 : Int32), (upM r2.2 48 ((0 : Int32)).toNatClampNeg x1))))))))
theorem t_X5_findRefused_27_27b {Y : EY} {X : CX} (C : CK Y X cX5_findRefused RX5 3 (some .int) rm_X5_findRefused) {x1 : Int32} {M : Mem}  {res : (Int32 × Mem) ⊕ ((Int32 × Mem) ⊕ (Int32 × Mem))} (h : f_X5_findRefused_27_27b x1 M = some res) (hK : KL (At_X5_findRefused_27 Y X) (Ex_X5_findRefused_27 Y X) res) : AW Y X 3 27 [(0, .ref (Y.2.2.2.1 0)), (1, .int x1)] [] M := by
  unfold f_X5_findRefused_27_27b at h
  refine a_iload_n C dX5_findRefused_27 1 rfl ?_
  refine a_aload_n C dX5_findRefused_28 0 rfl ?_
  refine a_getr (k1 := 5) C dX5_findRefused_29 fl_X5_28 rfl Kc_0 rfl ?_
  refine a_geti C dX5_findRefused_32 fl_X5_126 rfl Kc_5 ?_
  refine a_icmp_ge (tgt := 62) C dX5_findRefused_35 (by decide) (fun hc => ?_) (fun hc => ?_)
  · replace h := ip hc h
    replace h := Option.some.inj h
    subst h
    exact a_sub [0] (hK) rfl
  · replace h := iq hc h
    refine a_aload_n C dX5_findRefused_38 0 rfl ?_
    refine a_iload_n C dX5_findRefused_39 1 rfl ?_
    refine a_iconst (v := -1) C dX5_findRefused_40 (by decide) ?_
    obtain ⟨r2, hcr2, h⟩ := bd_some h
    refine a_callVi C dX5_findRefused_41 lv_X5_361 lm_X5_nobodyAstrayWithout ⟨rfl, rfl, by decide, by decide⟩ Kc_0 (m_X5_nobodyAstrayWithout C.2.2.2.2.2.2.1 hcr2) rfl rfl (Nat.le_of_ble_eq_true rfl) ?_
    refine a_if_eq (tgt := 56) C dX5_findRefused_44 (by decide) (fun hc => ?_) (fun hc => ?_)
    · replace h := ip hc h
      refine a_iinc (v := 1) (lv' := [(1, _), (0, _)]) C dX5_findRefused_56 1 rfl (by decide) (by decide) rfl ?_
      refine a_goto (tgt := 27) C dX5_findRefused_59 (by decide) ?_
      replace h := Option.some.inj h
      subst h
      exact a_sub [1, 0] (hK) rfl
    · replace h := iq hc h
      refine a_aload_n C dX5_findRefused_47 0 rfl ?_
      refine a_getr (k1 := 48) C dX5_findRefused_48 fl_X5_75 rfl Kc_0 rfl ?_
      refine a_iconst (v := 0) C dX5_findRefused_51 (by decide) ?_
      refine a_iload_n C dX5_findRefused_52 1 rfl ?_
      obtain ⟨hb, h⟩ := ck_some h
      refine a_iast C dX5_findRefused_53 Kc_48 rfl hb ?_
      refine a_iconst (v := 1) C dX5_findRefused_54 (by decide) ?_
      replace h := Option.some.inj h
      subst h
      exact a_iret C dX5_findRefused_55 hK
abbrev At_X5_findRefused_64 (Y : EY) (X : CX)  (s : Int32 × Mem) : Prop := AW Y X 3 64 [(0, .ref (Y.2.2.2.1 0)), (1, .int s.1)] [] s.2
abbrev Ex_X5_findRefused_64 (Y : EY) (X : CX)  : ((Int32 × Mem) ⊕ (Int32 × Mem)) → Prop := KL (fun s : Int32 × Mem => AW Y X 3 127 [] [] s.2) (fun res : Int32 × Mem => RK Y X (some (.int res.1)) res.2)
abbrev At_X5_findRefused_79 (Y : EY) (X : CX) (x1 : Int32) (s : Int32 × Mem) : Prop := AW Y X 3 79 [(0, .ref (Y.2.2.2.1 0)), (1, .int x1), (2, .int s.1)] [] s.2
abbrev Ex_X5_findRefused_79 (Y : EY) (X : CX) (x1 : Int32) : ((Int32 × Mem) ⊕ (Int32 × Mem)) → Prop := KL (fun s : Int32 × Mem => AW Y X 3 121 [(0, .ref (Y.2.2.2.1 0)), (1, .int x1)] [] s.2) (fun res : Int32 × Mem => RK Y X (some (.int res.1)) res.2)
noncomputable def f_X5_findRefused_79_79b (x1 : Int32) (x2 : Int32) (M : Mem) : Option ((Int32 × Mem) ⊕ ((Int32 × Mem) ⊕ (Int32 × Mem))) :=
  (if (M 5 6) ≤ x2 then some (.inr (.inl (x2, M))) else Option.bind (f_X5_nobodyAstrayWithout x1 x2 M) (fun r5 => (if r5.1 = 0 then some (.inl ((x2 + (1 : Int32)), r5.2)) else ck (inb (0 : Int32) 2) (ck (inb (1 : Int32) 2) (some (.inr (.inr ((2 : Int32), (upM (upM r5.2 48 ((0 : Int32)).toNatClampNeg x1) 48 ((1 : Int32)).toNatClampNeg x2)))))))))
theorem t_X5_findRefused_79_79b {Y : EY} {X : CX} (C : CK Y X cX5_findRefused RX5 3 (some .int) rm_X5_findRefused) {x1 : Int32} {x2 : Int32} {M : Mem}  {res : (Int32 × Mem) ⊕ ((Int32 × Mem) ⊕ (Int32 × Mem))} (h : f_X5_findRefused_79_79b x1 x2 M = some res) (hK : KL (At_X5_findRefused_79 Y X x1) (Ex_X5_findRefused_79 Y X x1) res) : AW Y X 3 79 [(0, .ref (Y.2.2.2.1 0)), (1, .int x1), (2, .int x2)] [] M := by
  unfold f_X5_findRefused_79_79b at h
  refine a_iload_n C dX5_findRefused_79 2 rfl ?_
  refine a_aload_n C dX5_findRefused_80 0 rfl ?_
  refine a_getr (k1 := 5) C dX5_findRefused_81 fl_X5_28 rfl Kc_0 rfl ?_
  refine a_geti C dX5_findRefused_84 fl_X5_126 rfl Kc_5 ?_
  refine a_icmp_ge (tgt := 121) C dX5_findRefused_87 (by decide) (fun hc => ?_) (fun hc => ?_)
  · replace h := ip hc h
    replace h := Option.some.inj h
    subst h
    exact a_sub [0, 1] (hK) rfl
  · replace h := iq hc h
    refine a_aload_n C dX5_findRefused_90 0 rfl ?_
    refine a_iload_n C dX5_findRefused_91 1 rfl ?_
    refine a_iload_n C dX5_findRefused_92 2 rfl ?_
    obtain ⟨r5, hcr5, h⟩ := bd_some h
    refine a_callVi C dX5_findRefused_93 lv_X5_361 lm_X5_nobodyAstrayWithout ⟨rfl, rfl, by decide, by decide⟩ Kc_0 (m_X5_nobodyAstrayWithout C.2.2.2.2.2.2.1 hcr5) rfl rfl (Nat.le_of_ble_eq_true rfl) ?_
    refine a_if_eq (tgt := 115) C dX5_findRefused_96 (by decide) (fun hc => ?_) (fun hc => ?_)
    · replace h := ip hc h
      refine a_iinc (v := 1) (lv' := [(2, _), (0, _), (1, _)]) C dX5_findRefused_115 2 rfl (by decide) (by decide) rfl ?_
      refine a_goto (tgt := 79) C dX5_findRefused_118 (by decide) ?_
      replace h := Option.some.inj h
      subst h
      exact a_sub [1, 2, 0] (hK) rfl
    · replace h := iq hc h
      refine a_aload_n C dX5_findRefused_99 0 rfl ?_
      refine a_getr (k1 := 48) C dX5_findRefused_100 fl_X5_75 rfl Kc_0 rfl ?_
      refine a_iconst (v := 0) C dX5_findRefused_103 (by decide) ?_
      refine a_iload_n C dX5_findRefused_104 1 rfl ?_
      obtain ⟨hb, h⟩ := ck_some h
      refine a_iast C dX5_findRefused_105 Kc_48 rfl hb ?_
      refine a_aload_n C dX5_findRefused_106 0 rfl ?_
      refine a_getr (k1 := 48) C dX5_findRefused_107 fl_X5_75 rfl Kc_0 rfl ?_
      refine a_iconst (v := 1) C dX5_findRefused_110 (by decide) ?_
      refine a_iload_n C dX5_findRefused_111 2 rfl ?_
      obtain ⟨hb, h⟩ := ck_some h
      refine a_iast C dX5_findRefused_112 Kc_48 rfl hb ?_
      refine a_iconst (v := 2) C dX5_findRefused_113 (by decide) ?_
      replace h := Option.some.inj h
      subst h
      exact a_iret C dX5_findRefused_114 hK
noncomputable def f_X5_findRefused_64_64b (x1 : Int32) (M : Mem) : Option ((Int32 × Mem) ⊕ ((Int32 × Mem) ⊕ (Int32 × Mem))) :=
  (if (M 5 6) ≤ x1 then some (.inr (.inl (x1, M))) else Option.bind (loop (fun s6 : Int32 × Mem => f_X5_findRefused_79_79b x1 s6.1 s6.2) ((x1 + (1 : Int32)), M)) (eo (fun s7 => some (.inl ((x1 + (1 : Int32)), s7.2))) (fun r8 => some (.inr (.inr r8)))))
theorem t_X5_findRefused_64_64b {Y : EY} {X : CX} (C : CK Y X cX5_findRefused RX5 3 (some .int) rm_X5_findRefused) {x1 : Int32} {M : Mem}  {res : (Int32 × Mem) ⊕ ((Int32 × Mem) ⊕ (Int32 × Mem))} (h : f_X5_findRefused_64_64b x1 M = some res) (hK : KL (At_X5_findRefused_64 Y X) (Ex_X5_findRefused_64 Y X) res) : AW Y X 3 64 [(0, .ref (Y.2.2.2.1 0)), (1, .int x1)] [] M := by
  unfold f_X5_findRefused_64_64b at h
  refine a_iload_n C dX5_findRefused_64 1 rfl ?_
  refine a_aload_n C dX5_findRefused_65 0 rfl ?_
  refine a_getr (k1 := 5) C dX5_findRefused_66 fl_X5_28 rfl Kc_0 rfl ?_
  refine a_geti C dX5_findRefused_69 fl_X5_126 rfl Kc_5 ?_
  refine a_icmp_ge (tgt := 127) C dX5_findRefused_72 (by decide) (fun hc => ?_) (fun hc => ?_)
  · replace h := ip hc h
    replace h := Option.some.inj h
    subst h
    exact a_sub [] (hK) rfl
  · replace h := iq hc h
    refine a_iload_n C dX5_findRefused_75 1 rfl ?_
    refine a_iconst (v := 1) C dX5_findRefused_76 (by decide) ?_
    refine a_iadd C dX5_findRefused_77 ?_
    refine a_istore_n (lv' := [(2, _), (0, _), (1, _)]) C dX5_findRefused_78 rfl (by decide) rfl ?_
    obtain ⟨ee, hl, h⟩ := bd_some h
    have hE : Ex_X5_findRefused_79 Y X x1 ee := by
      cases ee with
      | inl s7 =>
        refine a_iinc (v := 1) (lv' := [(1, _), (0, _)]) C dX5_findRefused_121 1 rfl (by decide) (by decide) rfl ?_
        refine a_goto (tgt := 64) C dX5_findRefused_124 (by decide) ?_
        replace h := Option.some.inj h
        subst h
        exact a_sub [1, 0] (hK) rfl
      | inr r8 =>
        replace h := Option.some.inj h
        subst h
        exact hK
    have hA := aw_loop (At_X5_findRefused_79 Y X x1) (Ex_X5_findRefused_79 Y X x1) (fun _ _ hb hk => t_X5_findRefused_79_79b C hb hk) hl hE
    exact a_sub [1, 2, 0] (hA) rfl
noncomputable def f_X5_findRefused  (M : Mem) : Option (Int32 × Mem) :=
  ck (inb (0 : Int32) 2) (ck (inb (1 : Int32) 2) (Option.bind (f_X5_nobodyAstrayWithout (-1 : Int32) (-1 : Int32) (upM (upM M 48 ((0 : Int32)).toNatClampNeg (-1 : Int32)) 48 ((1 : Int32)).toNatClampNeg (-1 : Int32))) (fun r1 => (if r1.1 = 0 then Option.bind (loop (fun s3 : Int32 × Mem => f_X5_findRefused_27_27b s3.1 s3.2) ((0 : Int32), r1.2)) (eo (fun s4 => Option.bind (loop (fun s9 : Int32 × Mem => f_X5_findRefused_64_64b s9.1 s9.2) ((0 : Int32), s4.2)) (eo (fun s10 => some ((-1 : Int32), s10.2)) (fun r11 => some r11))) (fun r12 => some r12)) else some ((0 : Int32), r1.2)))))
theorem t_X5_findRefused {Y : EY} {X : CX} (C : CK Y X cX5_findRefused RX5 3 (some .int) rm_X5_findRefused)  {M : Mem}  {res : Int32 × Mem} (h : f_X5_findRefused M = some res) (hK : RK Y X (some (.int res.1)) res.2) : AW Y X 3 0 [(0, .ref (Y.2.2.2.1 0))] [] M := by
  unfold f_X5_findRefused at h
  refine a_aload_n C dX5_findRefused_0 0 rfl ?_
  refine a_getr (k1 := 48) C dX5_findRefused_1 fl_X5_75 rfl Kc_0 rfl ?_
  refine a_iconst (v := 0) C dX5_findRefused_4 (by decide) ?_
  refine a_iconst (v := -1) C dX5_findRefused_5 (by decide) ?_
  obtain ⟨hb, h⟩ := ck_some h
  refine a_iast C dX5_findRefused_6 Kc_48 rfl hb ?_
  refine a_aload_n C dX5_findRefused_7 0 rfl ?_
  refine a_getr (k1 := 48) C dX5_findRefused_8 fl_X5_75 rfl Kc_0 rfl ?_
  refine a_iconst (v := 1) C dX5_findRefused_11 (by decide) ?_
  refine a_iconst (v := -1) C dX5_findRefused_12 (by decide) ?_
  obtain ⟨hb, h⟩ := ck_some h
  refine a_iast C dX5_findRefused_13 Kc_48 rfl hb ?_
  refine a_aload_n C dX5_findRefused_14 0 rfl ?_
  refine a_iconst (v := -1) C dX5_findRefused_15 (by decide) ?_
  refine a_iconst (v := -1) C dX5_findRefused_16 (by decide) ?_
  obtain ⟨r1, hcr1, h⟩ := bd_some h
  refine a_callVi C dX5_findRefused_17 lv_X5_361 lm_X5_nobodyAstrayWithout ⟨rfl, rfl, by decide, by decide⟩ Kc_0 (m_X5_nobodyAstrayWithout C.2.2.2.2.2.2.1 hcr1) rfl rfl (Nat.le_of_ble_eq_true rfl) ?_
  refine a_if_eq (tgt := 25) C dX5_findRefused_20 (by decide) (fun hc => ?_) (fun hc => ?_)
  · replace h := ip hc h
    refine a_iconst (v := 0) C dX5_findRefused_25 (by decide) ?_
    refine a_istore_n (lv' := [(1, _), (0, _)]) C dX5_findRefused_26 rfl (by decide) rfl ?_
    obtain ⟨ee, hl, h⟩ := bd_some h
    have hE : Ex_X5_findRefused_27 Y X ee := by
      cases ee with
      | inl s4 =>
        refine a_iconst (v := 0) C dX5_findRefused_62 (by decide) ?_
        refine a_istore_n (lv' := [(1, _), (0, _)]) C dX5_findRefused_63 rfl (by decide) rfl ?_
        obtain ⟨ee, hl, h⟩ := bd_some h
        have hE : Ex_X5_findRefused_64 Y X ee := by
          cases ee with
          | inl s10 =>
            refine a_iconst (v := -1) C dX5_findRefused_127 (by decide) ?_
            replace h := Option.some.inj h
            subst h
            exact a_iret C dX5_findRefused_128 hK
          | inr r11 =>
            replace h := Option.some.inj h
            subst h
            exact hK
        have hA := aw_loop (At_X5_findRefused_64 Y X) (Ex_X5_findRefused_64 Y X) (fun _ _ hb hk => t_X5_findRefused_64_64b C hb hk) hl hE
        exact a_sub [1, 0] (hA) rfl
      | inr r12 =>
        replace h := Option.some.inj h
        subst h
        exact hK
    have hA := aw_loop (At_X5_findRefused_27 Y X) (Ex_X5_findRefused_27 Y X) (fun _ _ hb hk => t_X5_findRefused_27_27b C hb hk) hl hE
    exact a_sub [1, 0] (hA) rfl
  · replace h := iq hc h
    refine a_iconst (v := 0) C dX5_findRefused_23 (by decide) ?_
    replace h := Option.some.inj h
    subst h
    exact a_iret C dX5_findRefused_24 hK
theorem m_X5_findRefused {Y : EY} (hY : HY Y)  {M : Mem}  {r : Int32 × Mem} (h : f_X5_findRefused M = some r) : MX Y yX5_findRefused cX5_findRefused 3 (some .int) rm_X5_findRefused [.ref (Y.2.2.2.1 0)] M (some (.int r.1)) r.2 := MX.of hY (by decide) (Nat.le_of_ble_eq_true rfl) (fun _ hR C => a_sub [0] (t_X5_findRefused C  h hR) rfl)
abbrev rm_X5_refuse : Room := { frames := 6, cells := 0, slots := 0, locals := 137 }
noncomputable def f_X5_refuse_16 (x1 : Int32) (M : Mem) : Option (Int32 × Mem) :=
  Option.bind (f_X5_findRefused M) (fun r1 => (if x1 = (-1 : Int32) then some (r1.1, r1.2) else ck (inb x1 2) (some ((r1.2 48 (x1).toNatClampNeg), r1.2))))
theorem t_X5_refuse_16 {Y : EY} {X : CX} (C : CK Y X cX5_refuse RX5 3 (some .int) rm_X5_refuse) {x1 : Int32} {M : Mem}  {res : Int32 × Mem} (h : f_X5_refuse_16 x1 M = some res) (hK : RK Y X (some (.int res.1)) res.2) : AW Y X 3 16 [(0, .ref (Y.2.2.2.1 0)), (1, .int x1)] [] M := by
  unfold f_X5_refuse_16 at h
  refine a_aload_n C dX5_refuse_16 0 rfl ?_
  obtain ⟨r1, hcr1, h⟩ := bd_some h
  refine a_callVi C dX5_refuse_17 lv_X5_214 lm_X5_findRefused ⟨rfl, rfl, by decide, by decide⟩ Kc_0 (m_X5_findRefused C.2.2.2.2.2.2.1 hcr1) rfl rfl (Nat.le_of_ble_eq_true rfl) ?_
  refine a_istore_n (lv' := [(2, _), (0, _), (1, _)]) C dX5_refuse_20 rfl (by decide) rfl ?_
  refine a_iload_n C dX5_refuse_21 2 rfl ?_
  refine a_iconst (v := -1) C dX5_refuse_22 (by decide) ?_
  refine a_icmp_ne (tgt := 30) C dX5_refuse_23 (by decide) (fun hc => ?_) (fun hc => ?_)
  · replace h := iq hc h
    refine a_aload_n C dX5_refuse_30 1 rfl ?_
    refine a_getr (k1 := 48) C dX5_refuse_31 fl_X5_75 rfl Kc_0 rfl ?_
    refine a_iload_n C dX5_refuse_34 2 rfl ?_
    obtain ⟨hb, h⟩ := ck_some h
    refine a_iald C dX5_refuse_35 Kc_48 rfl hb ?_
    replace h := Option.some.inj h
    subst h
    exact a_iret C dX5_refuse_36 hK
  · replace h := ip hc h
    refine a_iload_n C dX5_refuse_26 0 rfl ?_
    refine a_goto (tgt := 36) C dX5_refuse_27 (by decide) ?_
    replace h := Option.some.inj h
    subst h
    exact a_iret C dX5_refuse_36 hK
noncomputable def f_X5_refuse (x1 : Int32) (M : Mem) : Option (Int32 × Mem) :=
  (if x1 = (-1 : Int32) then f_X5_refuse_16 x1 M else Option.bind (f_X5_isBelow x1 (2 : Int32)) (fun r2 => (if r2 = 0 then some ((-2 : Int32), M) else f_X5_refuse_16 x1 M)))
theorem t_X5_refuse {Y : EY} {X : CX} (C : CK Y X cX5_refuse RX5 3 (some .int) rm_X5_refuse) {x1 : Int32} {M : Mem}  {res : Int32 × Mem} (h : f_X5_refuse x1 M = some res) (hK : RK Y X (some (.int res.1)) res.2) : AW Y X 3 0 [(0, .ref (Y.2.2.2.1 0)), (1, .int x1)] [] M := by
  unfold f_X5_refuse at h
  refine a_iload_n C dX5_refuse_0 1 rfl ?_
  refine a_iconst (v := -1) C dX5_refuse_1 (by decide) ?_
  refine a_icmp_eq (tgt := 16) C dX5_refuse_2 (by decide) (fun hc => ?_) (fun hc => ?_)
  · replace h := ip hc h
    exact a_sub [0, 1] (t_X5_refuse_16 C h hK) rfl
  · replace h := iq hc h
    refine a_iload_n C dX5_refuse_5 1 rfl ?_
    refine a_iconst (v := 2) C dX5_refuse_6 (by decide) ?_
    obtain ⟨r2, hcr2, h⟩ := bd_some h
    refine a_callSi C dX5_refuse_7 ls_X5_82 lm_X5_isBelow ⟨rfl, rfl, by decide, by decide⟩ (m_X5_isBelow C.2.2.2.2.2.2.1 hcr2) rfl rfl (Nat.le_of_ble_eq_true rfl) ?_
    refine a_if_ne (tgt := 16) C dX5_refuse_10 (by decide) (fun hc => ?_) (fun hc => ?_)
    · replace h := iq hc h
      exact a_sub [0, 1] (t_X5_refuse_16 C h hK) rfl
    · replace h := ip hc h
      refine a_bipush (v := -2) C dX5_refuse_13 (by decide) ?_
      replace h := Option.some.inj h
      subst h
      exact a_iret C dX5_refuse_15 hK
theorem m_X5_refuse {Y : EY} (hY : HY Y) {x1 : Int32} {M : Mem}  {r : Int32 × Mem} (h : f_X5_refuse x1 M = some r) : MX Y yX5_refuse cX5_refuse 3 (some .int) rm_X5_refuse [.ref (Y.2.2.2.1 0), .int x1] M (some (.int r.1)) r.2 := MX.of hY (by decide) (Nat.le_of_ble_eq_true rfl) (fun _ hR C => a_sub [0, 1] (t_X5_refuse C  h hR) rfl)
abbrev rm_X5_hear : Room := { frames := 2, cells := 0, slots := 0, locals := 45 }
noncomputable def f_X5_hear (x1 : Int32) (x2 : Int32) (x3 : Int32) (x4 : Int32) (M : Mem) : Option (Int32 × Mem) :=
  Option.bind (f_X5_isBelow x1 (30 : Int32)) (fun r1 => (if r1 = 0 then some ((-2 : Int32), M) else Option.bind (f_X5_isBelow x2 (8 : Int32)) (fun r2 => (if r2 = 0 then some ((-2 : Int32), M) else Option.bind (f_X5_isBelow x3 (5 : Int32)) (fun r3 => (if r3 = 0 then some ((-2 : Int32), M) else Option.bind (f_X5_isBelow x4 (10 : Int32)) (fun r4 => (if r4 = 0 then some ((-2 : Int32), M) else Option.bind (f_X0_add 31 x1 x2 x3 x4 M) (fun r5 => (if r5.1 = 0 then some ((-4 : Int32), r5.2) else some ((r5.2 31 0), r5.2)))))))))))
theorem t_X5_hear {Y : EY} {X : CX} (C : CK Y X cX5_hear RX5 5 (some .int) rm_X5_hear) {x1 : Int32} {x2 : Int32} {x3 : Int32} {x4 : Int32} {M : Mem}  {res : Int32 × Mem} (h : f_X5_hear x1 x2 x3 x4 M = some res) (hK : RK Y X (some (.int res.1)) res.2) : AW Y X 5 0 [(0, .ref (Y.2.2.2.1 0)), (1, .int x1), (2, .int x2), (3, .int x3), (4, .int x4)] [] M := by
  unfold f_X5_hear at h
  refine a_iload_n C dX5_hear_0 1 rfl ?_
  refine a_bipush (v := 30) C dX5_hear_1 (by decide) ?_
  obtain ⟨r1, hcr1, h⟩ := bd_some h
  refine a_callSi C dX5_hear_3 ls_X5_82 lm_X5_isBelow ⟨rfl, rfl, by decide, by decide⟩ (m_X5_isBelow C.2.2.2.2.2.2.1 hcr1) rfl rfl (Nat.le_of_ble_eq_true rfl) ?_
  refine a_if_eq (tgt := 18) C dX5_hear_6 (by decide) (fun hc => ?_) (fun hc => ?_)
  · replace h := ip hc h
    refine a_bipush (v := -2) C dX5_hear_18 (by decide) ?_
    replace h := Option.some.inj h
    subst h
    exact a_iret C dX5_hear_20 hK
  · replace h := iq hc h
    refine a_iload_n C dX5_hear_9 2 rfl ?_
    refine a_bipush (v := 8) C dX5_hear_10 (by decide) ?_
    obtain ⟨r2, hcr2, h⟩ := bd_some h
    refine a_callSi C dX5_hear_12 ls_X5_82 lm_X5_isBelow ⟨rfl, rfl, by decide, by decide⟩ (m_X5_isBelow C.2.2.2.2.2.2.1 hcr2) rfl rfl (Nat.le_of_ble_eq_true rfl) ?_
    refine a_if_ne (tgt := 21) C dX5_hear_15 (by decide) (fun hc => ?_) (fun hc => ?_)
    · replace h := iq hc h
      refine a_iload_n C dX5_hear_21 3 rfl ?_
      refine a_iconst (v := 5) C dX5_hear_22 (by decide) ?_
      obtain ⟨r3, hcr3, h⟩ := bd_some h
      refine a_callSi C dX5_hear_23 ls_X5_82 lm_X5_isBelow ⟨rfl, rfl, by decide, by decide⟩ (m_X5_isBelow C.2.2.2.2.2.2.1 hcr3) rfl rfl (Nat.le_of_ble_eq_true rfl) ?_
      refine a_if_eq (tgt := 39) C dX5_hear_26 (by decide) (fun hc => ?_) (fun hc => ?_)
      · replace h := ip hc h
        refine a_bipush (v := -2) C dX5_hear_39 (by decide) ?_
        replace h := Option.some.inj h
        subst h
        exact a_iret C dX5_hear_41 hK
      · replace h := iq hc h
        refine a_iload C dX5_hear_29 4 rfl ?_
        refine a_bipush (v := 10) C dX5_hear_31 (by decide) ?_
        obtain ⟨r4, hcr4, h⟩ := bd_some h
        refine a_callSi C dX5_hear_33 ls_X5_82 lm_X5_isBelow ⟨rfl, rfl, by decide, by decide⟩ (m_X5_isBelow C.2.2.2.2.2.2.1 hcr4) rfl rfl (Nat.le_of_ble_eq_true rfl) ?_
        refine a_if_ne (tgt := 42) C dX5_hear_36 (by decide) (fun hc => ?_) (fun hc => ?_)
        · replace h := iq hc h
          refine a_aload_n C dX5_hear_42 0 rfl ?_
          refine a_getr (k1 := 31) C dX5_hear_43 fl_X5_50 rfl Kc_0 rfl ?_
          refine a_iload_n C dX5_hear_46 1 rfl ?_
          refine a_iload_n C dX5_hear_47 2 rfl ?_
          refine a_iload_n C dX5_hear_48 3 rfl ?_
          refine a_iload C dX5_hear_49 4 rfl ?_
          obtain ⟨r5, hcr5, h⟩ := bd_some h
          refine a_callVi C dX5_hear_51 lv_X5_217 lm_X0_add ⟨rfl, rfl, by decide, by decide⟩ Kc_31 (m_X0_add C.2.2.2.2.2.2.1 Kc_31 hcr5) rfl rfl (Nat.le_of_ble_eq_true rfl) ?_
          refine a_if_eq (tgt := 67) C dX5_hear_54 (by decide) (fun hc => ?_) (fun hc => ?_)
          · replace h := ip hc h
            refine a_bipush (v := -4) C dX5_hear_67 (by decide) ?_
            replace h := Option.some.inj h
            subst h
            exact a_iret C dX5_hear_69 hK
          · replace h := iq hc h
            refine a_aload_n C dX5_hear_57 0 rfl ?_
            refine a_getr (k1 := 31) C dX5_hear_58 fl_X5_50 rfl Kc_0 rfl ?_
            refine a_geti C dX5_hear_61 fl_X5_221 rfl Kc_31 ?_
            refine a_goto (tgt := 69) C dX5_hear_64 (by decide) ?_
            replace h := Option.some.inj h
            subst h
            exact a_iret C dX5_hear_69 hK
        · replace h := ip hc h
          refine a_bipush (v := -2) C dX5_hear_39 (by decide) ?_
          replace h := Option.some.inj h
          subst h
          exact a_iret C dX5_hear_41 hK
    · replace h := ip hc h
      refine a_bipush (v := -2) C dX5_hear_18 (by decide) ?_
      replace h := Option.some.inj h
      subst h
      exact a_iret C dX5_hear_20 hK
theorem m_X5_hear {Y : EY} (hY : HY Y) {x1 : Int32} {x2 : Int32} {x3 : Int32} {x4 : Int32} {M : Mem}  {r : Int32 × Mem} (h : f_X5_hear x1 x2 x3 x4 M = some r) : MX Y yX5_hear cX5_hear 5 (some .int) rm_X5_hear [.ref (Y.2.2.2.1 0), .int x1, .int x2, .int x3, .int x4] M (some (.int r.1)) r.2 := MX.of hY (by decide) (Nat.le_of_ble_eq_true rfl) (fun _ hR C => a_sub [0, 1, 2, 3, 4] (t_X5_hear C  h hR) rfl)
abbrev rm_X5_forget : Room := { frames := 0, cells := 0, slots := 0, locals := 0 }
noncomputable def f_X5_forget  (M : Mem) : Option (Int32 × Mem) :=
  some ((M 31 0), (upM M 31 0 (0 : Int32)))
theorem t_X5_forget {Y : EY} {X : CX} (C : CK Y X cX5_forget RX5 2 (some .int) rm_X5_forget)  {M : Mem}  {res : Int32 × Mem} (h : f_X5_forget M = some res) (hK : RK Y X (some (.int res.1)) res.2) : AW Y X 2 0 [(0, .ref (Y.2.2.2.1 0))] [] M := by
  unfold f_X5_forget at h
  refine a_aload_n C dX5_forget_0 0 rfl ?_
  refine a_getr (k1 := 31) C dX5_forget_1 fl_X5_50 rfl Kc_0 rfl ?_
  refine a_geti C dX5_forget_4 fl_X5_221 rfl Kc_31 ?_
  refine a_istore_n (lv' := [(1, _), (0, _)]) C dX5_forget_7 rfl (by decide) rfl ?_
  refine a_aload_n C dX5_forget_8 1 rfl ?_
  refine a_getr (k1 := 31) C dX5_forget_9 fl_X5_50 rfl Kc_0 rfl ?_
  refine a_iconst (v := 0) C dX5_forget_12 (by decide) ?_
  refine a_put (ty := .int) C dX5_forget_13 fl_X5_221 (fp_0_0) rfl Kc_31 rfl rfl ?_
  refine a_iload_n C dX5_forget_16 0 rfl ?_
  replace h := Option.some.inj h
  subst h
  exact a_iret C dX5_forget_17 hK
theorem m_X5_forget {Y : EY} (hY : HY Y)  {M : Mem}  {r : Int32 × Mem} (h : f_X5_forget M = some r) : MX Y yX5_forget cX5_forget 2 (some .int) rm_X5_forget [.ref (Y.2.2.2.1 0)] M (some (.int r.1)) r.2 := MX.of hY (by decide) (Nat.le_of_ble_eq_true rfl) (fun _ hR C => a_sub [0] (t_X5_forget C  h hR) rfl)
abbrev rm_X5_comesOut : Room := { frames := 3, cells := 0, slots := 0, locals := 73 }
abbrev At_X5_comesOut_17 (Y : EY) (X : CX) (x1 : Int32) (s : Int32 × Mem) : Prop := AW Y X 3 17 [(0, .ref (Y.2.2.2.1 0)), (1, .int x1), (2, .int s.1)] [] s.2
abbrev Ex_X5_comesOut_17 (Y : EY) (X : CX) (x1 : Int32) : ((Int32 × Mem) ⊕ (Int32 × Mem)) → Prop := KL (fun s : Int32 × Mem => AW Y X 3 52 [] [] s.2) (fun res : Int32 × Mem => RK Y X (some (.int res.1)) res.2)
noncomputable def f_X5_comesOut_17_17b (x1 : Int32) (x2 : Int32) (M : Mem) : Option ((Int32 × Mem) ⊕ ((Int32 × Mem) ⊕ (Int32 × Mem))) :=
  (if x1 < x2 then some (.inr (.inl (x2, M))) else Option.bind (f_X4_go 26 x2 M) (fun r3 => Option.bind (f_X0_agreesWith 31 26 r3) (fun r4 => (if r4 = 0 then some (.inr (.inr ((0 : Int32), r3))) else some (.inl ((x2 + (1 : Int32)), r3))))))
theorem t_X5_comesOut_17_17b {Y : EY} {X : CX} (C : CK Y X cX5_comesOut RX5 3 (some .boolean) rm_X5_comesOut) {x1 : Int32} {x2 : Int32} {M : Mem}  {res : (Int32 × Mem) ⊕ ((Int32 × Mem) ⊕ (Int32 × Mem))} (h : f_X5_comesOut_17_17b x1 x2 M = some res) (hK : KL (At_X5_comesOut_17 Y X x1) (Ex_X5_comesOut_17 Y X x1) res) : AW Y X 3 17 [(0, .ref (Y.2.2.2.1 0)), (1, .int x1), (2, .int x2)] [] M := by
  unfold f_X5_comesOut_17_17b at h
  refine a_iload_n C dX5_comesOut_17 2 rfl ?_
  refine a_iload_n C dX5_comesOut_18 1 rfl ?_
  refine a_icmp_gt (tgt := 52) C dX5_comesOut_19 (by decide) (fun hc => ?_) (fun hc => ?_)
  · replace h := ip hc h
    replace h := Option.some.inj h
    subst h
    exact a_sub [] (hK) rfl
  · replace h := iq hc h
    refine a_aload_n C dX5_comesOut_22 0 rfl ?_
    refine a_getr (k1 := 26) C dX5_comesOut_23 fl_X5_44 rfl Kc_0 rfl ?_
    refine a_iload_n C dX5_comesOut_26 2 rfl ?_
    obtain ⟨r3, hcr3, h⟩ := bd_some h
    refine a_callVv C dX5_comesOut_27 lv_X5_206 lm_X4_go ⟨rfl, rfl, by decide, by decide⟩ Kc_26 (m_X4_go C.2.2.2.2.2.2.1 Kc_26 hcr3) rfl rfl (Nat.le_of_ble_eq_true rfl) ?_
    refine a_aload_n C dX5_comesOut_30 0 rfl ?_
    refine a_getr (k1 := 31) C dX5_comesOut_31 fl_X5_50 rfl Kc_0 rfl ?_
    refine a_aload_n C dX5_comesOut_34 0 rfl ?_
    refine a_getr (k1 := 26) C dX5_comesOut_35 fl_X5_44 rfl Kc_0 rfl ?_
    obtain ⟨r4, hcr4, h⟩ := bd_some h
    refine a_callVi C dX5_comesOut_38 lv_X5_367 lm_X0_agreesWith ⟨rfl, rfl, by decide, by decide⟩ Kc_31 (m_X0_agreesWith C.2.2.2.2.2.2.1 Kc_31 Kc_26 hcr4) rfl rfl (Nat.le_of_ble_eq_true rfl) ?_
    refine a_if_ne (tgt := 46) C dX5_comesOut_41 (by decide) (fun hc => ?_) (fun hc => ?_)
    · replace h := iq hc h
      refine a_iinc (v := 1) (lv' := [(2, _), (0, _), (1, _)]) C dX5_comesOut_46 2 rfl (by decide) (by decide) rfl ?_
      refine a_goto (tgt := 17) C dX5_comesOut_49 (by decide) ?_
      replace h := Option.some.inj h
      subst h
      exact a_sub [1, 2, 0] (hK) rfl
    · replace h := ip hc h
      refine a_iconst (v := 0) C dX5_comesOut_44 (by decide) ?_
      replace h := Option.some.inj h
      subst h
      exact a_zret C dX5_comesOut_45 rfl hK
noncomputable def f_X5_comesOut  (M : Mem) : Option (Int32 × Mem) :=
  Option.bind (f_X0_latestDay 31 M) (fun r1 => Option.bind (f_X4_begin 26 M) (fun r2 => Option.bind (loop (fun s5 : Int32 × Mem => f_X5_comesOut_17_17b r1 s5.1 s5.2) ((0 : Int32), r2)) (eo (fun s6 => some ((1 : Int32), s6.2)) (fun r7 => some r7))))
theorem t_X5_comesOut {Y : EY} {X : CX} (C : CK Y X cX5_comesOut RX5 3 (some .boolean) rm_X5_comesOut)  {M : Mem}  {res : Int32 × Mem} (h : f_X5_comesOut M = some res) (hK : RK Y X (some (.int res.1)) res.2) : AW Y X 3 0 [(0, .ref (Y.2.2.2.1 0))] [] M := by
  unfold f_X5_comesOut at h
  refine a_aload_n C dX5_comesOut_0 0 rfl ?_
  refine a_getr (k1 := 31) C dX5_comesOut_1 fl_X5_50 rfl Kc_0 rfl ?_
  obtain ⟨r1, hcr1, h⟩ := bd_some h
  refine a_callVi C dX5_comesOut_4 lv_X5_364 lm_X0_latestDay ⟨rfl, rfl, by decide, by decide⟩ Kc_31 (m_X0_latestDay C.2.2.2.2.2.2.1 Kc_31 hcr1) rfl rfl (Nat.le_of_ble_eq_true rfl) ?_
  refine a_istore_n (lv' := [(1, _), (0, _)]) C dX5_comesOut_7 rfl (by decide) rfl ?_
  refine a_aload_n C dX5_comesOut_8 1 rfl ?_
  refine a_getr (k1 := 26) C dX5_comesOut_9 fl_X5_44 rfl Kc_0 rfl ?_
  obtain ⟨r2, hcr2, h⟩ := bd_some h
  refine a_callVv C dX5_comesOut_12 lv_X5_203 lm_X4_begin ⟨rfl, rfl, by decide, by decide⟩ Kc_26 (m_X4_begin C.2.2.2.2.2.2.1 Kc_26 hcr2) rfl rfl (Nat.le_of_ble_eq_true rfl) ?_
  refine a_iconst (v := 0) C dX5_comesOut_15 (by decide) ?_
  refine a_istore_n (lv' := [(2, _), (1, _), (0, _)]) C dX5_comesOut_16 rfl (by decide) rfl ?_
  obtain ⟨ee, hl, h⟩ := bd_some h
  have hE : Ex_X5_comesOut_17 Y X r1 ee := by
    cases ee with
    | inl s6 =>
      refine a_iconst (v := 1) C dX5_comesOut_52 (by decide) ?_
      replace h := Option.some.inj h
      subst h
      exact a_zret C dX5_comesOut_53 rfl hK
    | inr r7 =>
      replace h := Option.some.inj h
      subst h
      exact hK
  have hA := aw_loop (At_X5_comesOut_17 Y X r1) (Ex_X5_comesOut_17 Y X r1) (fun _ _ hb hk => t_X5_comesOut_17_17b C hb hk) hl hE
  exact a_sub [2, 1, 0] (hA) rfl
theorem m_X5_comesOut {Y : EY} (hY : HY Y)  {M : Mem}  {r : Int32 × Mem} (h : f_X5_comesOut M = some r) : MX Y yX5_comesOut cX5_comesOut 3 (some .boolean) rm_X5_comesOut [.ref (Y.2.2.2.1 0)] M (some (.int r.1)) r.2 := MX.of hY (by decide) (Nat.le_of_ble_eq_true rfl) (fun _ hR C => a_sub [0] (t_X5_comesOut C  h hR) rfl)
abbrev rm_X5_never : Room := { frames := 4, cells := 0, slots := 0, locals := 95 }
abbrev At_X5_never_4 (Y : EY) (X : CX)  (s : Int32 × Int32 × Mem) : Prop := AW Y X 3 4 [(0, .ref (Y.2.2.2.1 0)), (1, .int s.1), (2, .int s.2.1)] [] s.2.2
abbrev Ex_X5_never_4 (Y : EY) (X : CX)  (s : Int32 × Int32 × Mem) : Prop := AW Y X 3 53 [(1, .int s.1)] [] s.2.2
noncomputable def f_X5_never_47_4 (x1 : Int32) (x2 : Int32) (M : Mem) : Option ((Int32 × Int32 × Mem) ⊕ (Int32 × Int32 × Mem)) :=
  some (.inl (x1, (x2 + (1 : Int32)), M))
theorem t_X5_never_47_4 {Y : EY} {X : CX} (C : CK Y X cX5_never RX5 3 (some .int) rm_X5_never) {x1 : Int32} {x2 : Int32} {M : Mem}  {res : (Int32 × Int32 × Mem) ⊕ (Int32 × Int32 × Mem)} (h : f_X5_never_47_4 x1 x2 M = some res) (hK : KL (At_X5_never_4 Y X) (Ex_X5_never_4 Y X) res) : AW Y X 3 47 [(0, .ref (Y.2.2.2.1 0)), (1, .int x1), (2, .int x2)] [] M := by
  unfold f_X5_never_47_4 at h
  refine a_iinc (v := 1) (lv' := [(2, _), (0, _), (1, _)]) C dX5_never_47 2 rfl (by decide) (by decide) rfl ?_
  refine a_goto (tgt := 4) C dX5_never_50 (by decide) ?_
  replace h := Option.some.inj h
  subst h
  exact a_sub [1, 2, 0] (hK) rfl
noncomputable def f_X5_never_4_4b (x1 : Int32) (x2 : Int32) (M : Mem) : Option ((Int32 × Int32 × Mem) ⊕ (Int32 × Int32 × Mem)) :=
  (if (M 5 6) ≤ x2 then some (.inr (x1, x2, M)) else Option.bind (f_X1_become 13 5 M) (fun r1 => Option.bind (f_X1_dropHiring 13 x2 r1) (fun r2 => Option.bind (f_X5_comesOut r2) (fun r3 => (if r3.1 = 0 then f_X5_never_47_4 x1 x2 r3.2 else f_X5_never_47_4 (x1 ||| (shlI (1 : Int32) x2)) x2 r3.2)))))
theorem t_X5_never_4_4b {Y : EY} {X : CX} (C : CK Y X cX5_never RX5 3 (some .int) rm_X5_never) {x1 : Int32} {x2 : Int32} {M : Mem}  {res : (Int32 × Int32 × Mem) ⊕ (Int32 × Int32 × Mem)} (h : f_X5_never_4_4b x1 x2 M = some res) (hK : KL (At_X5_never_4 Y X) (Ex_X5_never_4 Y X) res) : AW Y X 3 4 [(0, .ref (Y.2.2.2.1 0)), (1, .int x1), (2, .int x2)] [] M := by
  unfold f_X5_never_4_4b at h
  refine a_iload_n C dX5_never_4 2 rfl ?_
  refine a_aload_n C dX5_never_5 0 rfl ?_
  refine a_getr (k1 := 5) C dX5_never_6 fl_X5_28 rfl Kc_0 rfl ?_
  refine a_geti C dX5_never_9 fl_X5_126 rfl Kc_5 ?_
  refine a_icmp_ge (tgt := 53) C dX5_never_12 (by decide) (fun hc => ?_) (fun hc => ?_)
  · replace h := ip hc h
    replace h := Option.some.inj h
    subst h
    exact a_sub [1] (hK) rfl
  · replace h := iq hc h
    refine a_aload_n C dX5_never_15 0 rfl ?_
    refine a_getr (k1 := 13) C dX5_never_16 fl_X5_32 rfl Kc_0 rfl ?_
    refine a_aload_n C dX5_never_19 0 rfl ?_
    refine a_getr (k1 := 5) C dX5_never_20 fl_X5_28 rfl Kc_0 rfl ?_
    obtain ⟨r1, hcr1, h⟩ := bd_some h
    refine a_callVv C dX5_never_23 lv_X5_196 lm_X1_become ⟨rfl, rfl, by decide, by decide⟩ Kc_13 (m_X1_become C.2.2.2.2.2.2.1 Kc_13 Kc_5 hcr1) rfl rfl (Nat.le_of_ble_eq_true rfl) ?_
    refine a_aload_n C dX5_never_26 0 rfl ?_
    refine a_getr (k1 := 13) C dX5_never_27 fl_X5_32 rfl Kc_0 rfl ?_
    refine a_iload_n C dX5_never_30 2 rfl ?_
    obtain ⟨r2, hcr2, h⟩ := bd_some h
    refine a_callVv C dX5_never_31 lv_X5_136 lm_X1_dropHiring ⟨rfl, rfl, by decide, by decide⟩ Kc_13 (m_X1_dropHiring C.2.2.2.2.2.2.1 Kc_13 hcr2) rfl rfl (Nat.le_of_ble_eq_true rfl) ?_
    refine a_aload_n C dX5_never_34 0 rfl ?_
    obtain ⟨r3, hcr3, h⟩ := bd_some h
    refine a_callVi C dX5_never_35 lv_X5_222 lm_X5_comesOut ⟨rfl, rfl, by decide, by decide⟩ Kc_0 (m_X5_comesOut C.2.2.2.2.2.2.1 hcr3) rfl rfl (Nat.le_of_ble_eq_true rfl) ?_
    refine a_if_eq (tgt := 47) C dX5_never_38 (by decide) (fun hc => ?_) (fun hc => ?_)
    · replace h := ip hc h
      exact a_sub [0, 1, 2] (t_X5_never_47_4 C h hK) rfl
    · replace h := iq hc h
      refine a_iload_n C dX5_never_41 1 rfl ?_
      refine a_iconst (v := 1) C dX5_never_42 (by decide) ?_
      refine a_iload_n C dX5_never_43 2 rfl ?_
      refine a_ishl C dX5_never_44 ?_
      refine a_ior C dX5_never_45 ?_
      refine a_istore_n (lv' := [(1, _), (0, _), (2, _)]) C dX5_never_46 rfl (by decide) rfl ?_
      exact a_sub [1, 0, 2] (t_X5_never_47_4 C h hK) rfl
noncomputable def f_X5_never  (M : Mem) : Option (Int32 × Mem) :=
  Option.bind (loop (fun s4 : Int32 × Int32 × Mem => f_X5_never_4_4b s4.1 s4.2.1 s4.2.2) ((0 : Int32), (0 : Int32), M)) (fun s5 => some (s5.1, s5.2.2))
theorem t_X5_never {Y : EY} {X : CX} (C : CK Y X cX5_never RX5 3 (some .int) rm_X5_never)  {M : Mem}  {res : Int32 × Mem} (h : f_X5_never M = some res) (hK : RK Y X (some (.int res.1)) res.2) : AW Y X 3 0 [(0, .ref (Y.2.2.2.1 0))] [] M := by
  unfold f_X5_never at h
  refine a_iconst (v := 0) C dX5_never_0 (by decide) ?_
  refine a_istore_n (lv' := [(1, _), (0, _)]) C dX5_never_1 rfl (by decide) rfl ?_
  refine a_iconst (v := 0) C dX5_never_2 (by decide) ?_
  refine a_istore_n (lv' := [(2, _), (1, _), (0, _)]) C dX5_never_3 rfl (by decide) rfl ?_
  obtain ⟨s5, hl, h⟩ := bd_some h
  have hE : Ex_X5_never_4 Y X s5 := by
    refine a_iload_n C dX5_never_53 0 rfl ?_
    replace h := Option.some.inj h
    subst h
    exact a_iret C dX5_never_54 hK
  have hA := aw_loop (At_X5_never_4 Y X) (Ex_X5_never_4 Y X) (fun _ _ hb hk => t_X5_never_4_4b C hb hk) hl hE
  exact a_sub [2, 1, 0] (hA) rfl
theorem m_X5_never {Y : EY} (hY : HY Y)  {M : Mem}  {r : Int32 × Mem} (h : f_X5_never M = some r) : MX Y yX5_never cX5_never 3 (some .int) rm_X5_never [.ref (Y.2.2.2.1 0)] M (some (.int r.1)) r.2 := MX.of hY (by decide) (Nat.le_of_ble_eq_true rfl) (fun _ hR C => a_sub [0] (t_X5_never C  h hR) rfl)
abbrev rm_X5_sortBits : Room := { frames := 4, cells := 0, slots := 0, locals := 95 }
abbrev At_X5_sortBits_4 (Y : EY) (X : CX) (x1 : Int32) (s : Int32 × Int32 × Mem) : Prop := AW Y X 4 4 [(0, .ref (Y.2.2.2.1 0)), (1, .int x1), (2, .int s.1), (3, .int s.2.1)] [] s.2.2
abbrev Ex_X5_sortBits_4 (Y : EY) (X : CX) (x1 : Int32) (s : Int32 × Int32 × Mem) : Prop := AW Y X 4 49 [(2, .int s.1)] [] s.2.2
noncomputable def f_X5_sortBits_43_4 (x1 : Int32) (x2 : Int32) (x3 : Int32) (M : Mem) : Option ((Int32 × Int32 × Mem) ⊕ (Int32 × Int32 × Mem)) :=
  some (.inl (x2, (x3 + (1 : Int32)), M))
theorem t_X5_sortBits_43_4 {Y : EY} {X : CX} (C : CK Y X cX5_sortBits RX5 4 (some .int) rm_X5_sortBits) {x1 : Int32} {x2 : Int32} {x3 : Int32} {M : Mem}  {res : (Int32 × Int32 × Mem) ⊕ (Int32 × Int32 × Mem)} (h : f_X5_sortBits_43_4 x1 x2 x3 M = some res) (hK : KL (At_X5_sortBits_4 Y X x1) (Ex_X5_sortBits_4 Y X x1) res) : AW Y X 4 43 [(0, .ref (Y.2.2.2.1 0)), (1, .int x1), (2, .int x2), (3, .int x3)] [] M := by
  unfold f_X5_sortBits_43_4 at h
  refine a_iinc (v := 1) (lv' := [(3, _), (0, _), (1, _), (2, _)]) C dX5_sortBits_43 3 rfl (by decide) (by decide) rfl ?_
  refine a_goto (tgt := 4) C dX5_sortBits_46 (by decide) ?_
  replace h := Option.some.inj h
  subst h
  exact a_sub [1, 2, 3, 0] (hK) rfl
noncomputable def f_X5_sortBits_4_4b (x1 : Int32) (x2 : Int32) (x3 : Int32) (M : Mem) : Option ((Int32 × Int32 × Mem) ⊕ (Int32 × Int32 × Mem)) :=
  (if (3 : Int32) ≤ x3 then some (.inr (x2, x3, M)) else Option.bind (f_X1_become 13 5 M) (fun r1 => ck (inb x1 8) (Option.bind (f_X5_comesOut (upM r1 16 (x1).toNatClampNeg x3)) (fun r2 => (if r2.1 = 0 then f_X5_sortBits_43_4 x1 x2 x3 r2.2 else f_X5_sortBits_43_4 x1 (x2 ||| (shlI (1 : Int32) x3)) x3 r2.2)))))
theorem t_X5_sortBits_4_4b {Y : EY} {X : CX} (C : CK Y X cX5_sortBits RX5 4 (some .int) rm_X5_sortBits) {x1 : Int32} {x2 : Int32} {x3 : Int32} {M : Mem}  {res : (Int32 × Int32 × Mem) ⊕ (Int32 × Int32 × Mem)} (h : f_X5_sortBits_4_4b x1 x2 x3 M = some res) (hK : KL (At_X5_sortBits_4 Y X x1) (Ex_X5_sortBits_4 Y X x1) res) : AW Y X 4 4 [(0, .ref (Y.2.2.2.1 0)), (1, .int x1), (2, .int x2), (3, .int x3)] [] M := by
  unfold f_X5_sortBits_4_4b at h
  refine a_iload_n C dX5_sortBits_4 3 rfl ?_
  refine a_iconst (v := 3) C dX5_sortBits_5 (by decide) ?_
  refine a_icmp_ge (tgt := 49) C dX5_sortBits_6 (by decide) (fun hc => ?_) (fun hc => ?_)
  · replace h := ip hc h
    replace h := Option.some.inj h
    subst h
    exact a_sub [2] (hK) rfl
  · replace h := iq hc h
    refine a_aload_n C dX5_sortBits_9 0 rfl ?_
    refine a_getr (k1 := 13) C dX5_sortBits_10 fl_X5_32 rfl Kc_0 rfl ?_
    refine a_aload_n C dX5_sortBits_13 0 rfl ?_
    refine a_getr (k1 := 5) C dX5_sortBits_14 fl_X5_28 rfl Kc_0 rfl ?_
    obtain ⟨r1, hcr1, h⟩ := bd_some h
    refine a_callVv C dX5_sortBits_17 lv_X5_196 lm_X1_become ⟨rfl, rfl, by decide, by decide⟩ Kc_13 (m_X1_become C.2.2.2.2.2.2.1 Kc_13 Kc_5 hcr1) rfl rfl (Nat.le_of_ble_eq_true rfl) ?_
    refine a_aload_n C dX5_sortBits_20 0 rfl ?_
    refine a_getr (k1 := 13) C dX5_sortBits_21 fl_X5_32 rfl Kc_0 rfl ?_
    refine a_getr (k1 := 16) C dX5_sortBits_24 fl_X5_116 rfl Kc_13 rfl ?_
    refine a_iload_n C dX5_sortBits_27 1 rfl ?_
    refine a_iload_n C dX5_sortBits_28 3 rfl ?_
    obtain ⟨hb, h⟩ := ck_some h
    refine a_iast C dX5_sortBits_29 Kc_16 rfl hb ?_
    refine a_aload_n C dX5_sortBits_30 0 rfl ?_
    obtain ⟨r2, hcr2, h⟩ := bd_some h
    refine a_callVi C dX5_sortBits_31 lv_X5_222 lm_X5_comesOut ⟨rfl, rfl, by decide, by decide⟩ Kc_0 (m_X5_comesOut C.2.2.2.2.2.2.1 hcr2) rfl rfl (Nat.le_of_ble_eq_true rfl) ?_
    refine a_if_eq (tgt := 43) C dX5_sortBits_34 (by decide) (fun hc => ?_) (fun hc => ?_)
    · replace h := ip hc h
      exact a_sub [0, 1, 2, 3] (t_X5_sortBits_43_4 C h hK) rfl
    · replace h := iq hc h
      refine a_iload_n C dX5_sortBits_37 2 rfl ?_
      refine a_iconst (v := 1) C dX5_sortBits_38 (by decide) ?_
      refine a_iload_n C dX5_sortBits_39 3 rfl ?_
      refine a_ishl C dX5_sortBits_40 ?_
      refine a_ior C dX5_sortBits_41 ?_
      refine a_istore_n (lv' := [(2, _), (0, _), (1, _), (3, _)]) C dX5_sortBits_42 rfl (by decide) rfl ?_
      exact a_sub [1, 2, 0, 3] (t_X5_sortBits_43_4 C h hK) rfl
noncomputable def f_X5_sortBits (x1 : Int32) (M : Mem) : Option (Int32 × Mem) :=
  Option.bind (loop (fun s3 : Int32 × Int32 × Mem => f_X5_sortBits_4_4b x1 s3.1 s3.2.1 s3.2.2) ((0 : Int32), (0 : Int32), M)) (fun s4 => some (s4.1, s4.2.2))
theorem t_X5_sortBits {Y : EY} {X : CX} (C : CK Y X cX5_sortBits RX5 4 (some .int) rm_X5_sortBits) {x1 : Int32} {M : Mem}  {res : Int32 × Mem} (h : f_X5_sortBits x1 M = some res) (hK : RK Y X (some (.int res.1)) res.2) : AW Y X 4 0 [(0, .ref (Y.2.2.2.1 0)), (1, .int x1)] [] M := by
  unfold f_X5_sortBits at h
  refine a_iconst (v := 0) C dX5_sortBits_0 (by decide) ?_
  refine a_istore_n (lv' := [(2, _), (0, _), (1, _)]) C dX5_sortBits_1 rfl (by decide) rfl ?_
  refine a_iconst (v := 0) C dX5_sortBits_2 (by decide) ?_
  refine a_istore_n (lv' := [(3, _), (2, _), (0, _), (1, _)]) C dX5_sortBits_3 rfl (by decide) rfl ?_
  obtain ⟨s4, hl, h⟩ := bd_some h
  have hE : Ex_X5_sortBits_4 Y X x1 s4 := by
    refine a_iload_n C dX5_sortBits_49 0 rfl ?_
    replace h := Option.some.inj h
    subst h
    exact a_iret C dX5_sortBits_50 hK
  have hA := aw_loop (At_X5_sortBits_4 Y X x1) (Ex_X5_sortBits_4 Y X x1) (fun _ _ hb hk => t_X5_sortBits_4_4b C hb hk) hl hE
  exact a_sub [2, 3, 1, 0] (hA) rfl
theorem m_X5_sortBits {Y : EY} (hY : HY Y) {x1 : Int32} {M : Mem}  {r : Int32 × Mem} (h : f_X5_sortBits x1 M = some r) : MX Y yX5_sortBits cX5_sortBits 4 (some .int) rm_X5_sortBits [.ref (Y.2.2.2.1 0), .int x1] M (some (.int r.1)) r.2 := MX.of hY (by decide) (Nat.le_of_ble_eq_true rfl) (fun _ hR C => a_sub [0, 1] (t_X5_sortBits C  h hR) rfl)
