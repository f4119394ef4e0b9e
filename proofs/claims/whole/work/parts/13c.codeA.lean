abbrev rm_X5_whoseBits : Room := { frames := 4, cells := 0, slots := 0, locals := 95 }
abbrev At_X5_whoseBits_4 (Y : EY) (X : CX) (x1 : Int32) (s : Int32 × Int32 × Mem) : Prop := AW Y X 4 4 [(0, .ref (Y.2.2.2.1 0)), (1, .int x1), (2, .int s.1), (3, .int s.2.1)] [] s.2.2
abbrev Ex_X5_whoseBits_4 (Y : EY) (X : CX) (x1 : Int32) (s : Int32 × Int32 × Mem) : Prop := AW Y X 4 50 [(2, .int s.1)] [] s.2.2
noncomputable def f_X5_whoseBits_44_4 (x1 : Int32) (x2 : Int32) (x3 : Int32) (M : Mem) : Option ((Int32 × Int32 × Mem) ⊕ (Int32 × Int32 × Mem)) :=
  some (.inl (x2, (x3 + (1 : Int32)), M))
theorem t_X5_whoseBits_44_4 {Y : EY} {X : CX} (C : CK Y X cX5_whoseBits RX5 4 (some .int) rm_X5_whoseBits) {x1 : Int32} {x2 : Int32} {x3 : Int32} {M : Mem}  {res : (Int32 × Int32 × Mem) ⊕ (Int32 × Int32 × Mem)} (h : f_X5_whoseBits_44_4 x1 x2 x3 M = some res) (hK : KL (At_X5_whoseBits_4 Y X x1) (Ex_X5_whoseBits_4 Y X x1) res) : AW Y X 4 44 [(0, .ref (Y.2.2.2.1 0)), (1, .int x1), (2, .int x2), (3, .int x3)] [] M := by
  unfold f_X5_whoseBits_44_4 at h
  refine a_iinc (v := 1) (lv' := [(3, _), (0, _), (1, _), (2, _)]) C dX5_whoseBits_44 3 rfl (by decide) (by decide) rfl ?_
  refine a_goto (tgt := 4) C dX5_whoseBits_47 (by decide) ?_
  replace h := Option.some.inj h
  subst h
  exact a_sub [1, 2, 3, 0] (hK) rfl
noncomputable def f_X5_whoseBits_4_4b (x1 : Int32) (x2 : Int32) (x3 : Int32) (M : Mem) : Option ((Int32 × Int32 × Mem) ⊕ (Int32 × Int32 × Mem)) :=
  (if (8 : Int32) ≤ x3 then some (.inr (x2, x3, M)) else Option.bind (f_X1_become 13 5 M) (fun r1 => ck (inb x1 8) (Option.bind (f_X5_comesOut (upM r1 17 (x1).toNatClampNeg x3)) (fun r2 => (if r2.1 = 0 then f_X5_whoseBits_44_4 x1 x2 x3 r2.2 else f_X5_whoseBits_44_4 x1 (x2 ||| (shlI (1 : Int32) x3)) x3 r2.2)))))
theorem t_X5_whoseBits_4_4b {Y : EY} {X : CX} (C : CK Y X cX5_whoseBits RX5 4 (some .int) rm_X5_whoseBits) {x1 : Int32} {x2 : Int32} {x3 : Int32} {M : Mem}  {res : (Int32 × Int32 × Mem) ⊕ (Int32 × Int32 × Mem)} (h : f_X5_whoseBits_4_4b x1 x2 x3 M = some res) (hK : KL (At_X5_whoseBits_4 Y X x1) (Ex_X5_whoseBits_4 Y X x1) res) : AW Y X 4 4 [(0, .ref (Y.2.2.2.1 0)), (1, .int x1), (2, .int x2), (3, .int x3)] [] M := by
  unfold f_X5_whoseBits_4_4b at h
  refine a_iload_n C dX5_whoseBits_4 3 rfl ?_
  refine a_bipush (v := 8) C dX5_whoseBits_5 (by decide) ?_
  refine a_icmp_ge (tgt := 50) C dX5_whoseBits_7 (by decide) (fun hc => ?_) (fun hc => ?_)
  · replace h := ip hc h
    replace h := Option.some.inj h
    subst h
    exact a_sub [2] (hK) rfl
  · replace h := iq hc h
    refine a_aload_n C dX5_whoseBits_10 0 rfl ?_
    refine a_getr (k1 := 13) C dX5_whoseBits_11 fl_X5_32 rfl Kc_0 rfl ?_
    refine a_aload_n C dX5_whoseBits_14 0 rfl ?_
    refine a_getr (k1 := 5) C dX5_whoseBits_15 fl_X5_28 rfl Kc_0 rfl ?_
    obtain ⟨r1, hcr1, h⟩ := bd_some h
    refine a_callVv C dX5_whoseBits_18 lv_X5_196 lm_X1_become ⟨rfl, rfl, by decide, by decide⟩ Kc_13 (m_X1_become C.2.2.2.2.2.2.1 Kc_13 Kc_5 hcr1) rfl rfl (Nat.le_of_ble_eq_true rfl) ?_
    refine a_aload_n C dX5_whoseBits_21 0 rfl ?_
    refine a_getr (k1 := 13) C dX5_whoseBits_22 fl_X5_32 rfl Kc_0 rfl ?_
    refine a_getr (k1 := 17) C dX5_whoseBits_25 fl_X5_119 rfl Kc_13 rfl ?_
    refine a_iload_n C dX5_whoseBits_28 1 rfl ?_
    refine a_iload_n C dX5_whoseBits_29 3 rfl ?_
    obtain ⟨hb, h⟩ := ck_some h
    refine a_iast C dX5_whoseBits_30 Kc_17 rfl hb ?_
    refine a_aload_n C dX5_whoseBits_31 0 rfl ?_
    obtain ⟨r2, hcr2, h⟩ := bd_some h
    refine a_callVi C dX5_whoseBits_32 lv_X5_222 lm_X5_comesOut ⟨rfl, rfl, by decide, by decide⟩ Kc_0 (m_X5_comesOut C.2.2.2.2.2.2.1 hcr2) rfl rfl (Nat.le_of_ble_eq_true rfl) ?_
    refine a_if_eq (tgt := 44) C dX5_whoseBits_35 (by decide) (fun hc => ?_) (fun hc => ?_)
    · replace h := ip hc h
      exact a_sub [0, 1, 2, 3] (t_X5_whoseBits_44_4 C h hK) rfl
    · replace h := iq hc h
      refine a_iload_n C dX5_whoseBits_38 2 rfl ?_
      refine a_iconst (v := 1) C dX5_whoseBits_39 (by decide) ?_
      refine a_iload_n C dX5_whoseBits_40 3 rfl ?_
      refine a_ishl C dX5_whoseBits_41 ?_
      refine a_ior C dX5_whoseBits_42 ?_
      refine a_istore_n (lv' := [(2, _), (0, _), (1, _), (3, _)]) C dX5_whoseBits_43 rfl (by decide) rfl ?_
      exact a_sub [1, 2, 0, 3] (t_X5_whoseBits_44_4 C h hK) rfl
noncomputable def f_X5_whoseBits (x1 : Int32) (M : Mem) : Option (Int32 × Mem) :=
  Option.bind (loop (fun s3 : Int32 × Int32 × Mem => f_X5_whoseBits_4_4b x1 s3.1 s3.2.1 s3.2.2) ((0 : Int32), (0 : Int32), M)) (fun s4 => some (s4.1, s4.2.2))
theorem t_X5_whoseBits {Y : EY} {X : CX} (C : CK Y X cX5_whoseBits RX5 4 (some .int) rm_X5_whoseBits) {x1 : Int32} {M : Mem}  {res : Int32 × Mem} (h : f_X5_whoseBits x1 M = some res) (hK : RK Y X (some (.int res.1)) res.2) : AW Y X 4 0 [(0, .ref (Y.2.2.2.1 0)), (1, .int x1)] [] M := by
  unfold f_X5_whoseBits at h
  refine a_iconst (v := 0) C dX5_whoseBits_0 (by decide) ?_
  refine a_istore_n (lv' := [(2, _), (0, _), (1, _)]) C dX5_whoseBits_1 rfl (by decide) rfl ?_
  refine a_iconst (v := 0) C dX5_whoseBits_2 (by decide) ?_
  refine a_istore_n (lv' := [(3, _), (2, _), (0, _), (1, _)]) C dX5_whoseBits_3 rfl (by decide) rfl ?_
  obtain ⟨s4, hl, h⟩ := bd_some h
  have hE : Ex_X5_whoseBits_4 Y X x1 s4 := by
    refine a_iload_n C dX5_whoseBits_50 0 rfl ?_
    replace h := Option.some.inj h
    subst h
    exact a_iret C dX5_whoseBits_51 hK
  have hA := aw_loop (At_X5_whoseBits_4 Y X x1) (Ex_X5_whoseBits_4 Y X x1) (fun _ _ hb hk => t_X5_whoseBits_4_4b C hb hk) hl hE
  exact a_sub [2, 3, 1, 0] (hA) rfl
theorem m_X5_whoseBits {Y : EY} (hY : HY Y) {x1 : Int32} {M : Mem}  {r : Int32 × Mem} (h : f_X5_whoseBits x1 M = some r) : MX Y yX5_whoseBits cX5_whoseBits 4 (some .int) rm_X5_whoseBits [.ref (Y.2.2.2.1 0), .int x1] M (some (.int r.1)) r.2 := MX.of hY (by decide) (Nat.le_of_ble_eq_true rfl) (fun _ hR C => a_sub [0, 1] (t_X5_whoseBits C  h hR) rfl)
abbrev rm_X5_was : Room := { frames := 5, cells := 0, slots := 0, locals := 118 }
noncomputable def f_X5_was (x1 : Int32) (x2 : Int32) (M : Mem) : Option (Int32 × Mem) :=
  Option.bind (f_X1_hasPerson 5 x1 M) (fun r1 => (if r1 = 0 then some ((-2 : Int32), M) else Option.bind (f_X5_isBelow x2 (2 : Int32)) (fun r2 => (if r2 = 0 then some ((-2 : Int32), M) else (if x2 = 0 then Option.bind (f_X5_whoseBits x1 M) (fun r4 => some (r4.1, r4.2)) else Option.bind (f_X5_sortBits x1 M) (fun r3 => some (r3.1, r3.2)))))))
theorem t_X5_was {Y : EY} {X : CX} (C : CK Y X cX5_was RX5 3 (some .int) rm_X5_was) {x1 : Int32} {x2 : Int32} {M : Mem}  {res : Int32 × Mem} (h : f_X5_was x1 x2 M = some res) (hK : RK Y X (some (.int res.1)) res.2) : AW Y X 3 0 [(0, .ref (Y.2.2.2.1 0)), (1, .int x1), (2, .int x2)] [] M := by
  unfold f_X5_was at h
  refine a_aload_n C dX5_was_0 0 rfl ?_
  refine a_getr (k1 := 5) C dX5_was_1 fl_X5_28 rfl Kc_0 rfl ?_
  refine a_iload_n C dX5_was_4 1 rfl ?_
  obtain ⟨r1, hcr1, h⟩ := bd_some h
  refine a_callVi C dX5_was_5 lv_X5_113 lm_X1_hasPerson ⟨rfl, rfl, by decide, by decide⟩ Kc_5 (m_X1_hasPerson C.2.2.2.2.2.2.1 Kc_5 hcr1) rfl rfl (Nat.le_of_ble_eq_true rfl) ?_
  refine a_if_eq (tgt := 19) C dX5_was_8 (by decide) (fun hc => ?_) (fun hc => ?_)
  · replace h := ip hc h
    refine a_bipush (v := -2) C dX5_was_19 (by decide) ?_
    replace h := Option.some.inj h
    subst h
    exact a_iret C dX5_was_21 hK
  · replace h := iq hc h
    refine a_iload_n C dX5_was_11 2 rfl ?_
    refine a_iconst (v := 2) C dX5_was_12 (by decide) ?_
    obtain ⟨r2, hcr2, h⟩ := bd_some h
    refine a_callSi C dX5_was_13 ls_X5_82 lm_X5_isBelow ⟨rfl, rfl, by decide, by decide⟩ (m_X5_isBelow C.2.2.2.2.2.2.1 hcr2) rfl rfl (Nat.le_of_ble_eq_true rfl) ?_
    refine a_if_ne (tgt := 22) C dX5_was_16 (by decide) (fun hc => ?_) (fun hc => ?_)
    · replace h := iq hc h
      refine a_iload_n C dX5_was_22 2 rfl ?_
      refine a_if_ne (tgt := 34) C dX5_was_23 (by decide) (fun hc => ?_) (fun hc => ?_)
      · replace h := iq hc h
        refine a_aload_n C dX5_was_34 0 rfl ?_
        refine a_iload_n C dX5_was_35 1 rfl ?_
        obtain ⟨r3, hcr3, h⟩ := bd_some h
        refine a_callVi C dX5_was_36 lv_X5_229 lm_X5_sortBits ⟨rfl, rfl, by decide, by decide⟩ Kc_0 (m_X5_sortBits C.2.2.2.2.2.2.1 hcr3) rfl rfl (Nat.le_of_ble_eq_true rfl) ?_
        replace h := Option.some.inj h
        subst h
        exact a_iret C dX5_was_39 hK
      · replace h := ip hc h
        refine a_aload_n C dX5_was_26 0 rfl ?_
        refine a_iload_n C dX5_was_27 1 rfl ?_
        obtain ⟨r4, hcr4, h⟩ := bd_some h
        refine a_callVi C dX5_was_28 lv_X5_226 lm_X5_whoseBits ⟨rfl, rfl, by decide, by decide⟩ Kc_0 (m_X5_whoseBits C.2.2.2.2.2.2.1 hcr4) rfl rfl (Nat.le_of_ble_eq_true rfl) ?_
        refine a_goto (tgt := 39) C dX5_was_31 (by decide) ?_
        replace h := Option.some.inj h
        subst h
        exact a_iret C dX5_was_39 hK
    · replace h := ip hc h
      refine a_bipush (v := -2) C dX5_was_19 (by decide) ?_
      replace h := Option.some.inj h
      subst h
      exact a_iret C dX5_was_21 hK
theorem m_X5_was {Y : EY} (hY : HY Y) {x1 : Int32} {x2 : Int32} {M : Mem}  {r : Int32 × Mem} (h : f_X5_was x1 x2 M = some r) : MX Y yX5_was cX5_was 3 (some .int) rm_X5_was [.ref (Y.2.2.2.1 0), .int x1, .int x2] M (some (.int r.1)) r.2 := MX.of hY (by decide) (Nat.le_of_ble_eq_true rfl) (fun _ hR C => a_sub [0, 1, 2] (t_X5_was C  h hR) rfl)
abbrev rm_X5_mostAlike : Room := { frames := 0, cells := 0, slots := 0, locals := 0 }
abbrev At_X5_mostAlike_4 (Y : EY) (X : CX) (x1 : Int32) (M : Mem) (s : Int32 × Int32) : Prop := AW Y X 5 4 [(0, .ref (Y.2.2.2.1 0)), (1, .int x1), (2, .int s.1), (3, .int s.2)] [] M
abbrev Ex_X5_mostAlike_4 (Y : EY) (X : CX) (x1 : Int32) (M : Mem) (s : Int32 × Int32) : Prop := AW Y X 5 38 [(2, .int s.1)] [] M
noncomputable def f_X5_mostAlike_32_4 (x1 : Int32) (x2 : Int32) (x3 : Int32) (M : Mem) : Option ((Int32 × Int32) ⊕ (Int32 × Int32)) :=
  some (.inl (x2, (x3 + (1 : Int32))))
theorem t_X5_mostAlike_32_4 {Y : EY} {X : CX} (C : CK Y X cX5_mostAlike RX5 5 (some .int) rm_X5_mostAlike) {x1 : Int32} {x2 : Int32} {x3 : Int32} {M : Mem}  {res : (Int32 × Int32) ⊕ (Int32 × Int32)} (h : f_X5_mostAlike_32_4 x1 x2 x3 M = some res) (hK : KL (At_X5_mostAlike_4 Y X x1 M) (Ex_X5_mostAlike_4 Y X x1 M) res) : AW Y X 5 32 [(0, .ref (Y.2.2.2.1 0)), (1, .int x1), (2, .int x2), (3, .int x3)] [] M := by
  unfold f_X5_mostAlike_32_4 at h
  refine a_iinc (v := 1) (lv' := [(3, _), (0, _), (1, _), (2, _)]) C dX5_mostAlike_32 3 rfl (by decide) (by decide) rfl ?_
  refine a_goto (tgt := 4) C dX5_mostAlike_35 (by decide) ?_
  replace h := Option.some.inj h
  subst h
  exact a_sub [1, 2, 3, 0] (hK) rfl
noncomputable def f_X5_mostAlike_4_4b (x1 : Int32) (x2 : Int32) (x3 : Int32) (M : Mem) : Option ((Int32 × Int32) ⊕ (Int32 × Int32)) :=
  (if (9 : Int32) ≤ x3 then some (.inr (x2, x3)) else ck (inb ((x1 * (9 : Int32)) + x3) 270) ((if (M 47 (((x1 * (9 : Int32)) + x3)).toNatClampNeg) ≤ x2 then f_X5_mostAlike_32_4 x1 x2 x3 M else f_X5_mostAlike_32_4 x1 (M 47 (((x1 * (9 : Int32)) + x3)).toNatClampNeg) x3 M)))
theorem t_X5_mostAlike_4_4b {Y : EY} {X : CX} (C : CK Y X cX5_mostAlike RX5 5 (some .int) rm_X5_mostAlike) {x1 : Int32} {x2 : Int32} {x3 : Int32} {M : Mem}  {res : (Int32 × Int32) ⊕ (Int32 × Int32)} (h : f_X5_mostAlike_4_4b x1 x2 x3 M = some res) (hK : KL (At_X5_mostAlike_4 Y X x1 M) (Ex_X5_mostAlike_4 Y X x1 M) res) : AW Y X 5 4 [(0, .ref (Y.2.2.2.1 0)), (1, .int x1), (2, .int x2), (3, .int x3)] [] M := by
  unfold f_X5_mostAlike_4_4b at h
  refine a_iload_n C dX5_mostAlike_4 3 rfl ?_
  refine a_bipush (v := 9) C dX5_mostAlike_5 (by decide) ?_
  refine a_icmp_ge (tgt := 38) C dX5_mostAlike_7 (by decide) (fun hc => ?_) (fun hc => ?_)
  · replace h := ip hc h
    replace h := Option.some.inj h
    subst h
    exact a_sub [2] (hK) rfl
  · replace h := iq hc h
    refine a_aload_n C dX5_mostAlike_10 0 rfl ?_
    refine a_getr (k1 := 47) C dX5_mostAlike_11 fl_X5_72 rfl Kc_0 rfl ?_
    refine a_iload_n C dX5_mostAlike_14 1 rfl ?_
    refine a_bipush (v := 9) C dX5_mostAlike_15 (by decide) ?_
    refine a_imul C dX5_mostAlike_17 ?_
    refine a_iload_n C dX5_mostAlike_18 3 rfl ?_
    refine a_iadd C dX5_mostAlike_19 ?_
    obtain ⟨hb, h⟩ := ck_some h
    refine a_iald C dX5_mostAlike_20 Kc_47 rfl hb ?_
    refine a_istore (lv' := [(4, _), (0, _), (1, _), (2, _), (3, _)]) C dX5_mostAlike_21 (by decide) rfl ?_
    refine a_iload C dX5_mostAlike_23 0 rfl ?_
    refine a_iload_n C dX5_mostAlike_25 3 rfl ?_
    refine a_icmp_le (tgt := 32) C dX5_mostAlike_26 (by decide) (fun hc => ?_) (fun hc => ?_)
    · replace h := ip hc h
      exact a_sub [1, 2, 3, 4] (t_X5_mostAlike_32_4 C h hK) rfl
    · replace h := iq hc h
      refine a_iload C dX5_mostAlike_29 0 rfl ?_
      refine a_istore_n (lv' := [(2, _), (4, _), (0, _), (1, _), (3, _)]) C dX5_mostAlike_31 rfl (by decide) rfl ?_
      exact a_sub [2, 3, 0, 4] (t_X5_mostAlike_32_4 C h hK) rfl
noncomputable def f_X5_mostAlike (x1 : Int32) (M : Mem) : Option (Int32) :=
  Option.bind (loop (fun s1 : Int32 × Int32 => f_X5_mostAlike_4_4b x1 s1.1 s1.2 M) ((0 : Int32), (0 : Int32))) (fun s2 => some s2.1)
theorem t_X5_mostAlike {Y : EY} {X : CX} (C : CK Y X cX5_mostAlike RX5 5 (some .int) rm_X5_mostAlike) {x1 : Int32} {M : Mem}  {res : Int32} (h : f_X5_mostAlike x1 M = some res) (hK : RK Y X (some (.int res)) M) : AW Y X 5 0 [(0, .ref (Y.2.2.2.1 0)), (1, .int x1)] [] M := by
  unfold f_X5_mostAlike at h
  refine a_iconst (v := 0) C dX5_mostAlike_0 (by decide) ?_
  refine a_istore_n (lv' := [(2, _), (0, _), (1, _)]) C dX5_mostAlike_1 rfl (by decide) rfl ?_
  refine a_iconst (v := 0) C dX5_mostAlike_2 (by decide) ?_
  refine a_istore_n (lv' := [(3, _), (2, _), (0, _), (1, _)]) C dX5_mostAlike_3 rfl (by decide) rfl ?_
  obtain ⟨s2, hl, h⟩ := bd_some h
  have hE : Ex_X5_mostAlike_4 Y X x1 M s2 := by
    refine a_iload_n C dX5_mostAlike_38 0 rfl ?_
    replace h := Option.some.inj h
    subst h
    exact a_iret C dX5_mostAlike_39 hK
  have hA := aw_loop (At_X5_mostAlike_4 Y X x1 M) (Ex_X5_mostAlike_4 Y X x1 M) (fun _ _ hb hk => t_X5_mostAlike_4_4b C hb hk) hl hE
  exact a_sub [2, 3, 1, 0] (hA) rfl
theorem m_X5_mostAlike {Y : EY} (hY : HY Y) {x1 : Int32} {M : Mem}  {r : Int32} (h : f_X5_mostAlike x1 M = some r) : MX Y yX5_mostAlike cX5_mostAlike 5 (some .int) rm_X5_mostAlike [.ref (Y.2.2.2.1 0), .int x1] M (some (.int r)) M := MX.of hY (by decide) (Nat.le_of_ble_eq_true rfl) (fun _ hR C => a_sub [0, 1] (t_X5_mostAlike C  h hR) rfl)
abbrev rm_X5_tallyAsOwn : Room := { frames := 4, cells := 0, slots := 0, locals := 93 }
abbrev At_X5_tallyAsOwn_30 (Y : EY) (X : CX) (x1 : Int32) (s : Int32 × Mem) : Prop := AW Y X 4 30 [(0, .ref (Y.2.2.2.1 0)), (1, .int x1), (3, .int s.1)] [] s.2
abbrev Ex_X5_tallyAsOwn_30 (Y : EY) (X : CX) (x1 : Int32) (s : Int32 × Mem) : Prop := AW Y X 4 59 [] [] s.2
noncomputable def f_X5_tallyAsOwn_30_30b (x1 : Int32) (x3 : Int32) (M : Mem) : Option ((Int32 × Mem) ⊕ (Int32 × Mem)) :=
  (if (30 : Int32) ≤ x3 then some (.inr (x3, M)) else Option.bind (f_X4_go 26 x3 M) (fun r3 => Option.bind (f_X5_tallyTaken 26 x1 r3) (fun r4 => some (.inl ((x3 + (1 : Int32)), r4)))))
theorem t_X5_tallyAsOwn_30_30b {Y : EY} {X : CX} (C : CK Y X cX5_tallyAsOwn RX5 4 none rm_X5_tallyAsOwn) {x1 : Int32} {x3 : Int32} {M : Mem}  {res : (Int32 × Mem) ⊕ (Int32 × Mem)} (h : f_X5_tallyAsOwn_30_30b x1 x3 M = some res) (hK : KL (At_X5_tallyAsOwn_30 Y X x1) (Ex_X5_tallyAsOwn_30 Y X x1) res) : AW Y X 4 30 [(0, .ref (Y.2.2.2.1 0)), (1, .int x1), (3, .int x3)] [] M := by
  unfold f_X5_tallyAsOwn_30_30b at h
  refine a_iload_n C dX5_tallyAsOwn_30 2 rfl ?_
  refine a_bipush (v := 30) C dX5_tallyAsOwn_31 (by decide) ?_
  refine a_icmp_ge (tgt := 59) C dX5_tallyAsOwn_33 (by decide) (fun hc => ?_) (fun hc => ?_)
  · replace h := ip hc h
    replace h := Option.some.inj h
    subst h
    exact a_sub [] (hK) rfl
  · replace h := iq hc h
    refine a_aload_n C dX5_tallyAsOwn_36 0 rfl ?_
    refine a_getr (k1 := 26) C dX5_tallyAsOwn_37 fl_X5_44 rfl Kc_0 rfl ?_
    refine a_iload_n C dX5_tallyAsOwn_40 2 rfl ?_
    obtain ⟨r3, hcr3, h⟩ := bd_some h
    refine a_callVv C dX5_tallyAsOwn_41 lv_X5_206 lm_X4_go ⟨rfl, rfl, by decide, by decide⟩ Kc_26 (m_X4_go C.2.2.2.2.2.2.1 Kc_26 hcr3) rfl rfl (Nat.le_of_ble_eq_true rfl) ?_
    refine a_aload_n C dX5_tallyAsOwn_44 0 rfl ?_
    refine a_aload_n C dX5_tallyAsOwn_45 0 rfl ?_
    refine a_getr (k1 := 26) C dX5_tallyAsOwn_46 fl_X5_44 rfl Kc_0 rfl ?_
    refine a_iload_n C dX5_tallyAsOwn_49 1 rfl ?_
    obtain ⟨r4, hcr4, h⟩ := bd_some h
    refine a_callVv C dX5_tallyAsOwn_50 lv_X5_186 lm_X5_tallyTaken ⟨rfl, rfl, by decide, by decide⟩ Kc_0 (m_X5_tallyTaken C.2.2.2.2.2.2.1 Kc_26 hcr4) rfl rfl (Nat.le_of_ble_eq_true rfl) ?_
    refine a_iinc (v := 1) (lv' := [(3, _), (0, _), (1, _)]) C dX5_tallyAsOwn_53 2 rfl (by decide) (by decide) rfl ?_
    refine a_goto (tgt := 30) C dX5_tallyAsOwn_56 (by decide) ?_
    replace h := Option.some.inj h
    subst h
    exact a_sub [1, 2, 0] (hK) rfl
noncomputable def f_X5_tallyAsOwn (x1 : Int32) (x2 : Int32) (M : Mem) : Option (Mem) :=
  Option.bind (f_X1_become 13 5 M) (fun r1 => ck (inb x1 8) (Option.bind (f_X4_begin 26 (upM r1 17 (x1).toNatClampNeg x2)) (fun r2 => Option.bind (loop (fun s5 : Int32 × Mem => f_X5_tallyAsOwn_30_30b x1 s5.1 s5.2) ((0 : Int32), r2)) (fun s6 => some s6.2))))
theorem t_X5_tallyAsOwn {Y : EY} {X : CX} (C : CK Y X cX5_tallyAsOwn RX5 4 none rm_X5_tallyAsOwn) {x1 : Int32} {x2 : Int32} {M : Mem}  {res : Mem} (h : f_X5_tallyAsOwn x1 x2 M = some res) (hK : RK Y X none res) : AW Y X 4 0 [(0, .ref (Y.2.2.2.1 0)), (1, .int x1), (2, .int x2)] [] M := by
  unfold f_X5_tallyAsOwn at h
  refine a_aload_n C dX5_tallyAsOwn_0 0 rfl ?_
  refine a_getr (k1 := 13) C dX5_tallyAsOwn_1 fl_X5_32 rfl Kc_0 rfl ?_
  refine a_aload_n C dX5_tallyAsOwn_4 0 rfl ?_
  refine a_getr (k1 := 5) C dX5_tallyAsOwn_5 fl_X5_28 rfl Kc_0 rfl ?_
  obtain ⟨r1, hcr1, h⟩ := bd_some h
  refine a_callVv C dX5_tallyAsOwn_8 lv_X5_196 lm_X1_become ⟨rfl, rfl, by decide, by decide⟩ Kc_13 (m_X1_become C.2.2.2.2.2.2.1 Kc_13 Kc_5 hcr1) rfl rfl (Nat.le_of_ble_eq_true rfl) ?_
  refine a_aload_n C dX5_tallyAsOwn_11 0 rfl ?_
  refine a_getr (k1 := 13) C dX5_tallyAsOwn_12 fl_X5_32 rfl Kc_0 rfl ?_
  refine a_getr (k1 := 17) C dX5_tallyAsOwn_15 fl_X5_119 rfl Kc_13 rfl ?_
  refine a_iload_n C dX5_tallyAsOwn_18 1 rfl ?_
  refine a_iload_n C dX5_tallyAsOwn_19 2 rfl ?_
  obtain ⟨hb, h⟩ := ck_some h
  refine a_iast C dX5_tallyAsOwn_20 Kc_17 rfl hb ?_
  refine a_aload_n C dX5_tallyAsOwn_21 0 rfl ?_
  refine a_getr (k1 := 26) C dX5_tallyAsOwn_22 fl_X5_44 rfl Kc_0 rfl ?_
  obtain ⟨r2, hcr2, h⟩ := bd_some h
  refine a_callVv C dX5_tallyAsOwn_25 lv_X5_203 lm_X4_begin ⟨rfl, rfl, by decide, by decide⟩ Kc_26 (m_X4_begin C.2.2.2.2.2.2.1 Kc_26 hcr2) rfl rfl (Nat.le_of_ble_eq_true rfl) ?_
  refine a_iconst (v := 0) C dX5_tallyAsOwn_28 (by decide) ?_
  refine a_istore_n (lv' := [(3, _), (0, _), (1, _), (2, _)]) C dX5_tallyAsOwn_29 rfl (by decide) rfl ?_
  obtain ⟨s6, hl, h⟩ := bd_some h
  have hE : Ex_X5_tallyAsOwn_30 Y X x1 s6 := by
    replace h := Option.some.inj h
    subst h
    exact a_vret C dX5_tallyAsOwn_59 hK
  have hA := aw_loop (At_X5_tallyAsOwn_30 Y X x1) (Ex_X5_tallyAsOwn_30 Y X x1) (fun _ _ hb hk => t_X5_tallyAsOwn_30_30b C hb hk) hl hE
  exact a_sub [1, 2, 0] (hA) rfl
theorem m_X5_tallyAsOwn {Y : EY} (hY : HY Y) {x1 : Int32} {x2 : Int32} {M : Mem}  {r : Mem} (h : f_X5_tallyAsOwn x1 x2 M = some r) : MX Y yX5_tallyAsOwn cX5_tallyAsOwn 4 none rm_X5_tallyAsOwn [.ref (Y.2.2.2.1 0), .int x1, .int x2] M (none) r := MX.of hY (by decide) (Nat.le_of_ble_eq_true rfl) (fun _ hR C => a_sub [0, 1, 2] (t_X5_tallyAsOwn C  h hR) rfl)
abbrev rm_X5_ask : Room := { frames := 5, cells := 0, slots := 0, locals := 118 }
abbrev At_X5_ask_26 (Y : EY) (X : CX) (x1 : Int32) (x2 : Int32) (s : Int32 × Mem) : Prop := AW Y X 5 26 [(0, .ref (Y.2.2.2.1 0)), (1, .int x1), (2, .int x2), (3, .int s.1)] [] s.2
abbrev Ex_X5_ask_26 (Y : EY) (X : CX) (x1 : Int32) (x2 : Int32) (s : Int32 × Mem) : Prop := AW Y X 5 52 [(0, .ref (Y.2.2.2.1 0))] [] s.2
noncomputable def f_X5_ask_46_26 (x1 : Int32) (x2 : Int32) (x3 : Int32) (M : Mem) : Option ((Int32 × Mem) ⊕ (Int32 × Mem)) :=
  some (.inl ((x3 + (1 : Int32)), M))
theorem t_X5_ask_46_26 {Y : EY} {X : CX} (C : CK Y X cX5_ask RX5 5 (some .int) rm_X5_ask) {x1 : Int32} {x2 : Int32} {x3 : Int32} {M : Mem}  {res : (Int32 × Mem) ⊕ (Int32 × Mem)} (h : f_X5_ask_46_26 x1 x2 x3 M = some res) (hK : KL (At_X5_ask_26 Y X x1 x2) (Ex_X5_ask_26 Y X x1 x2) res) : AW Y X 5 46 [(0, .ref (Y.2.2.2.1 0)), (1, .int x1), (2, .int x2), (3, .int x3)] [] M := by
  unfold f_X5_ask_46_26 at h
  refine a_iinc (v := 1) (lv' := [(3, _), (0, _), (1, _), (2, _)]) C dX5_ask_46 3 rfl (by decide) (by decide) rfl ?_
  refine a_goto (tgt := 26) C dX5_ask_49 (by decide) ?_
  replace h := Option.some.inj h
  subst h
  exact a_sub [1, 2, 3, 0] (hK) rfl
noncomputable def f_X5_ask_26_26b (x1 : Int32) (x2 : Int32) (x3 : Int32) (M : Mem) : Option ((Int32 × Mem) ⊕ (Int32 × Mem)) :=
  (if (8 : Int32) ≤ x3 then some (.inr (x3, M)) else (if (x2 &&& (shlI (1 : Int32) x3)) = 0 then f_X5_ask_46_26 x1 x2 x3 M else Option.bind (f_X5_tallyAsOwn x1 x3 M) (fun r4 => f_X5_ask_46_26 x1 x2 x3 r4)))
theorem t_X5_ask_26_26b {Y : EY} {X : CX} (C : CK Y X cX5_ask RX5 5 (some .int) rm_X5_ask) {x1 : Int32} {x2 : Int32} {x3 : Int32} {M : Mem}  {res : (Int32 × Mem) ⊕ (Int32 × Mem)} (h : f_X5_ask_26_26b x1 x2 x3 M = some res) (hK : KL (At_X5_ask_26 Y X x1 x2) (Ex_X5_ask_26 Y X x1 x2) res) : AW Y X 5 26 [(0, .ref (Y.2.2.2.1 0)), (1, .int x1), (2, .int x2), (3, .int x3)] [] M := by
  unfold f_X5_ask_26_26b at h
  refine a_iload_n C dX5_ask_26 3 rfl ?_
  refine a_bipush (v := 8) C dX5_ask_27 (by decide) ?_
  refine a_icmp_ge (tgt := 52) C dX5_ask_29 (by decide) (fun hc => ?_) (fun hc => ?_)
  · replace h := ip hc h
    replace h := Option.some.inj h
    subst h
    exact a_sub [0] (hK) rfl
  · replace h := iq hc h
    refine a_iload_n C dX5_ask_32 2 rfl ?_
    refine a_iconst (v := 1) C dX5_ask_33 (by decide) ?_
    refine a_iload_n C dX5_ask_34 3 rfl ?_
    refine a_ishl C dX5_ask_35 ?_
    refine a_iand C dX5_ask_36 ?_
    refine a_if_eq (tgt := 46) C dX5_ask_37 (by decide) (fun hc => ?_) (fun hc => ?_)
    · replace h := ip hc h
      exact a_sub [0, 1, 2, 3] (t_X5_ask_46_26 C h hK) rfl
    · replace h := iq hc h
      refine a_aload_n C dX5_ask_40 0 rfl ?_
      refine a_iload_n C dX5_ask_41 1 rfl ?_
      refine a_iload_n C dX5_ask_42 3 rfl ?_
      obtain ⟨r4, hcr4, h⟩ := bd_some h
      refine a_callVv C dX5_ask_43 lv_X5_232 lm_X5_tallyAsOwn ⟨rfl, rfl, by decide, by decide⟩ Kc_0 (m_X5_tallyAsOwn C.2.2.2.2.2.2.1 hcr4) rfl rfl (Nat.le_of_ble_eq_true rfl) ?_
      exact a_sub [0, 1, 2, 3] (t_X5_ask_46_26 C h hK) rfl
abbrev At_X5_ask_57 (Y : EY) (X : CX) (M : Mem) (s : Int32 × Int32) : Prop := AW Y X 5 57 [(0, .ref (Y.2.2.2.1 0)), (3, .int s.1), (4, .int s.2)] [] M
abbrev Ex_X5_ask_57 (Y : EY) (X : CX) (M : Mem) (s : Int32 × Int32) : Prop := AW Y X 5 87 [(3, .int s.1)] [] M
noncomputable def f_X5_ask_81_57 (x3 : Int32) (x4 : Int32) (M : Mem) : Option ((Int32 × Int32) ⊕ (Int32 × Int32)) :=
  some (.inl (x3, (x4 + (1 : Int32))))
theorem t_X5_ask_81_57 {Y : EY} {X : CX} (C : CK Y X cX5_ask RX5 5 (some .int) rm_X5_ask) {x3 : Int32} {x4 : Int32} {M : Mem}  {res : (Int32 × Int32) ⊕ (Int32 × Int32)} (h : f_X5_ask_81_57 x3 x4 M = some res) (hK : KL (At_X5_ask_57 Y X M) (Ex_X5_ask_57 Y X M) res) : AW Y X 5 81 [(0, .ref (Y.2.2.2.1 0)), (3, .int x3), (4, .int x4)] [] M := by
  unfold f_X5_ask_81_57 at h
  refine a_iinc (v := 1) (lv' := [(4, _), (0, _), (3, _)]) C dX5_ask_81 2 rfl (by decide) (by decide) rfl ?_
  refine a_goto (tgt := 57) C dX5_ask_84 (by decide) ?_
  replace h := Option.some.inj h
  subst h
  exact a_sub [1, 2, 0] (hK) rfl
noncomputable def f_X5_ask_57_57b (x3 : Int32) (x4 : Int32) (M : Mem) : Option ((Int32 × Int32) ⊕ (Int32 × Int32)) :=
  (if (30 : Int32) ≤ x4 then some (.inr (x3, x4)) else Option.bind (f_X5_mostAlike x4 M) (fun r7 => Option.bind (f_X5_mostAlike x3 M) (fun r8 => (if r8 ≤ r7 then f_X5_ask_81_57 x3 x4 M else f_X5_ask_81_57 x4 x4 M))))
theorem t_X5_ask_57_57b {Y : EY} {X : CX} (C : CK Y X cX5_ask RX5 5 (some .int) rm_X5_ask) {x3 : Int32} {x4 : Int32} {M : Mem}  {res : (Int32 × Int32) ⊕ (Int32 × Int32)} (h : f_X5_ask_57_57b x3 x4 M = some res) (hK : KL (At_X5_ask_57 Y X M) (Ex_X5_ask_57 Y X M) res) : AW Y X 5 57 [(0, .ref (Y.2.2.2.1 0)), (3, .int x3), (4, .int x4)] [] M := by
  unfold f_X5_ask_57_57b at h
  refine a_iload C dX5_ask_57 2 rfl ?_
  refine a_bipush (v := 30) C dX5_ask_59 (by decide) ?_
  refine a_icmp_ge (tgt := 87) C dX5_ask_61 (by decide) (fun hc => ?_) (fun hc => ?_)
  · replace h := ip hc h
    replace h := Option.some.inj h
    subst h
    exact a_sub [1] (hK) rfl
  · replace h := iq hc h
    refine a_aload_n C dX5_ask_64 0 rfl ?_
    refine a_iload C dX5_ask_65 2 rfl ?_
    obtain ⟨r7, hcr7, h⟩ := bd_some h
    refine a_callVi C dX5_ask_67 lv_X5_235 lm_X5_mostAlike ⟨rfl, rfl, by decide, by decide⟩ Kc_0 (m_X5_mostAlike C.2.2.2.2.2.2.1 hcr7) rfl rfl (Nat.le_of_ble_eq_true rfl) ?_
    refine a_aload_n C dX5_ask_70 0 rfl ?_
    refine a_iload_n C dX5_ask_71 1 rfl ?_
    obtain ⟨r8, hcr8, h⟩ := bd_some h
    refine a_callVi C dX5_ask_72 lv_X5_235 lm_X5_mostAlike ⟨rfl, rfl, by decide, by decide⟩ Kc_0 (m_X5_mostAlike C.2.2.2.2.2.2.1 hcr8) rfl rfl (Nat.le_of_ble_eq_true rfl) ?_
    refine a_icmp_ge (tgt := 81) C dX5_ask_75 (by decide) (fun hc => ?_) (fun hc => ?_)
    · replace h := ip hc h
      exact a_sub [0, 1, 2] (t_X5_ask_81_57 C h hK) rfl
    · replace h := iq hc h
      refine a_iload C dX5_ask_78 2 rfl ?_
      refine a_istore_n (lv' := [(3, _), (0, _), (4, _)]) C dX5_ask_80 rfl (by decide) rfl ?_
      exact a_sub [1, 0, 2] (t_X5_ask_81_57 C h hK) rfl
noncomputable def f_X5_ask (x1 : Int32) (M : Mem) : Option (Int32 × Mem) :=
  Option.bind (f_X1_hasPerson 5 x1 M) (fun r1 => (if r1 = 0 then some ((-2 : Int32), M) else Option.bind (f_X5_whoseBits x1 M) (fun r2 => Option.bind (f_X5_clearTally r2.2) (fun r3 => Option.bind (loop (fun s5 : Int32 × Mem => f_X5_ask_26_26b x1 r2.1 s5.1 s5.2) ((0 : Int32), r3)) (fun s6 => Option.bind (loop (fun s9 : Int32 × Int32 => f_X5_ask_57_57b s9.1 s9.2 s6.2) ((0 : Int32), (1 : Int32))) (fun s10 => some (s10.1, s6.2)))))))
theorem t_X5_ask {Y : EY} {X : CX} (C : CK Y X cX5_ask RX5 5 (some .int) rm_X5_ask) {x1 : Int32} {M : Mem}  {res : Int32 × Mem} (h : f_X5_ask x1 M = some res) (hK : RK Y X (some (.int res.1)) res.2) : AW Y X 5 0 [(0, .ref (Y.2.2.2.1 0)), (1, .int x1)] [] M := by
  unfold f_X5_ask at h
  refine a_aload_n C dX5_ask_0 0 rfl ?_
  refine a_getr (k1 := 5) C dX5_ask_1 fl_X5_28 rfl Kc_0 rfl ?_
  refine a_iload_n C dX5_ask_4 1 rfl ?_
  obtain ⟨r1, hcr1, h⟩ := bd_some h
  refine a_callVi C dX5_ask_5 lv_X5_113 lm_X1_hasPerson ⟨rfl, rfl, by decide, by decide⟩ Kc_5 (m_X1_hasPerson C.2.2.2.2.2.2.1 Kc_5 hcr1) rfl rfl (Nat.le_of_ble_eq_true rfl) ?_
  refine a_if_ne (tgt := 14) C dX5_ask_8 (by decide) (fun hc => ?_) (fun hc => ?_)
  · replace h := iq hc h
    refine a_aload_n C dX5_ask_14 0 rfl ?_
    refine a_iload_n C dX5_ask_15 1 rfl ?_
    obtain ⟨r2, hcr2, h⟩ := bd_some h
    refine a_callVi C dX5_ask_16 lv_X5_226 lm_X5_whoseBits ⟨rfl, rfl, by decide, by decide⟩ Kc_0 (m_X5_whoseBits C.2.2.2.2.2.2.1 hcr2) rfl rfl (Nat.le_of_ble_eq_true rfl) ?_
    refine a_istore_n (lv' := [(2, _), (0, _), (1, _)]) C dX5_ask_19 rfl (by decide) rfl ?_
    refine a_aload_n C dX5_ask_20 1 rfl ?_
    obtain ⟨r3, hcr3, h⟩ := bd_some h
    refine a_callVv C dX5_ask_21 lv_X5_180 lm_X5_clearTally ⟨rfl, rfl, by decide, by decide⟩ Kc_0 (m_X5_clearTally C.2.2.2.2.2.2.1 hcr3) rfl rfl (Nat.le_of_ble_eq_true rfl) ?_
    refine a_iconst (v := 0) C dX5_ask_24 (by decide) ?_
    refine a_istore_n (lv' := [(3, _), (2, _), (0, _), (1, _)]) C dX5_ask_25 rfl (by decide) rfl ?_
    obtain ⟨s6, hl, h⟩ := bd_some h
    have hE : Ex_X5_ask_26 Y X x1 r2.1 s6 := by
      refine a_iconst (v := 0) C dX5_ask_52 (by decide) ?_
      refine a_istore_n (lv' := [(3, _), (0, _)]) C dX5_ask_53 rfl (by decide) rfl ?_
      refine a_iconst (v := 1) C dX5_ask_54 (by decide) ?_
      refine a_istore (lv' := [(4, _), (3, _), (0, _)]) C dX5_ask_55 (by decide) rfl ?_
      obtain ⟨s10, hl, h⟩ := bd_some h
      have hE : Ex_X5_ask_57 Y X s6.2 s10 := by
        refine a_iload_n C dX5_ask_87 0 rfl ?_
        replace h := Option.some.inj h
        subst h
        exact a_iret C dX5_ask_88 hK
      have hA := aw_loop (At_X5_ask_57 Y X s6.2) (Ex_X5_ask_57 Y X s6.2) (fun _ _ hb hk => t_X5_ask_57_57b C hb hk) hl hE
      exact a_sub [2, 1, 0] (hA) rfl
    have hA := aw_loop (At_X5_ask_26 Y X x1 r2.1) (Ex_X5_ask_26 Y X x1 r2.1) (fun _ _ hb hk => t_X5_ask_26_26b C hb hk) hl hE
    exact a_sub [2, 3, 1, 0] (hA) rfl
  · replace h := ip hc h
    refine a_bipush (v := -2) C dX5_ask_11 (by decide) ?_
    replace h := Option.some.inj h
    subst h
    exact a_iret C dX5_ask_13 hK
theorem m_X5_ask {Y : EY} (hY : HY Y) {x1 : Int32} {M : Mem}  {r : Int32 × Mem} (h : f_X5_ask x1 M = some r) : MX Y yX5_ask cX5_ask 5 (some .int) rm_X5_ask [.ref (Y.2.2.2.1 0), .int x1] M (some (.int r.1)) r.2 := MX.of hY (by decide) (Nat.le_of_ble_eq_true rfl) (fun _ hR C => a_sub [0, 1] (t_X5_ask C  h hR) rfl)
abbrev rm_X5_learnStrays : Room := { frames := 4, cells := 0, slots := 0, locals := 93 }
abbrev At_X5_learnStrays_10 (Y : EY) (X : CX)  (s : Int32 × Mem) : Prop := AW Y X 2 10 [(0, .ref (Y.2.2.2.1 0)), (1, .int s.1)] [] s.2
abbrev Ex_X5_learnStrays_10 (Y : EY) (X : CX)  (s : Int32 × Mem) : Prop := AW Y X 2 86 [(0, .ref (Y.2.2.2.1 0))] [] s.2
noncomputable def f_X5_learnStrays_10_10b (x1 : Int32) (M : Mem) : Option ((Int32 × Mem) ⊕ (Int32 × Mem)) :=
  (if (shlI (1 : Int32) (M 5 6)) ≤ x1 then some (.inr (x1, M)) else (if (256 : Int32) ≤ x1 then some (.inr (x1, M)) else Option.bind (f_X1_become 13 5 M) (fun r1 => Option.bind (f_X1_keepHirings 13 x1 r1) (fun r2 => Option.bind (f_X4_begin 26 r2) (fun r3 => Option.bind (f_X4_go 26 (29 : Int32) r3) (fun r4 => Option.bind (f_X4_astrayBits 26 r4) (fun r5 => ck (inb x1 256) (some (.inl ((x1 + (1 : Int32)), (upM r4 45 (x1).toNatClampNeg r5)))))))))))
theorem t_X5_learnStrays_10_10b {Y : EY} {X : CX} (C : CK Y X cX5_learnStrays RX5 2 none rm_X5_learnStrays) {x1 : Int32} {M : Mem}  {res : (Int32 × Mem) ⊕ (Int32 × Mem)} (h : f_X5_learnStrays_10_10b x1 M = some res) (hK : KL (At_X5_learnStrays_10 Y X) (Ex_X5_learnStrays_10 Y X) res) : AW Y X 2 10 [(0, .ref (Y.2.2.2.1 0)), (1, .int x1)] [] M := by
  unfold f_X5_learnStrays_10_10b at h
  refine a_iload_n C dX5_learnStrays_10 1 rfl ?_
  refine a_iconst (v := 1) C dX5_learnStrays_11 (by decide) ?_
  refine a_aload_n C dX5_learnStrays_12 0 rfl ?_
  refine a_getr (k1 := 5) C dX5_learnStrays_13 fl_X5_28 rfl Kc_0 rfl ?_
  refine a_geti C dX5_learnStrays_16 fl_X5_126 rfl Kc_5 ?_
  refine a_ishl C dX5_learnStrays_19 ?_
  refine a_icmp_ge (tgt := 86) C dX5_learnStrays_20 (by decide) (fun hc => ?_) (fun hc => ?_)
  · replace h := ip hc h
    replace h := Option.some.inj h
    subst h
    exact a_sub [0] (hK) rfl
  · replace h := iq hc h
    refine a_iload_n C dX5_learnStrays_23 1 rfl ?_
    refine a_aload_n C dX5_learnStrays_24 0 rfl ?_
    refine a_getr (k1 := 45) C dX5_learnStrays_25 fl_X5_61 rfl Kc_0 rfl ?_
    refine a_alen (v := 256) C dX5_learnStrays_28 Kc_45 (by rw [show ln 45 = 256 from rfl]; rfl) ?_
    refine a_icmp_ge (tgt := 86) C dX5_learnStrays_29 (by decide) (fun hc => ?_) (fun hc => ?_)
    · replace h := ip hc h
      replace h := Option.some.inj h
      subst h
      exact a_sub [0] (hK) rfl
    · replace h := iq hc h
      refine a_aload_n C dX5_learnStrays_32 0 rfl ?_
      refine a_getr (k1 := 13) C dX5_learnStrays_33 fl_X5_32 rfl Kc_0 rfl ?_
      refine a_aload_n C dX5_learnStrays_36 0 rfl ?_
      refine a_getr (k1 := 5) C dX5_learnStrays_37 fl_X5_28 rfl Kc_0 rfl ?_
      obtain ⟨r1, hcr1, h⟩ := bd_some h
      refine a_callVv C dX5_learnStrays_40 lv_X5_196 lm_X1_become ⟨rfl, rfl, by decide, by decide⟩ Kc_13 (m_X1_become C.2.2.2.2.2.2.1 Kc_13 Kc_5 hcr1) rfl rfl (Nat.le_of_ble_eq_true rfl) ?_
      refine a_aload_n C dX5_learnStrays_43 0 rfl ?_
      refine a_getr (k1 := 13) C dX5_learnStrays_44 fl_X5_32 rfl Kc_0 rfl ?_
      refine a_iload_n C dX5_learnStrays_47 1 rfl ?_
      obtain ⟨r2, hcr2, h⟩ := bd_some h
      refine a_callVv C dX5_learnStrays_48 lv_X5_371 lm_X1_keepHirings ⟨rfl, rfl, by decide, by decide⟩ Kc_13 (m_X1_keepHirings C.2.2.2.2.2.2.1 Kc_13 hcr2) rfl rfl (Nat.le_of_ble_eq_true rfl) ?_
      refine a_aload_n C dX5_learnStrays_51 0 rfl ?_
      refine a_getr (k1 := 26) C dX5_learnStrays_52 fl_X5_44 rfl Kc_0 rfl ?_
      obtain ⟨r3, hcr3, h⟩ := bd_some h
      refine a_callVv C dX5_learnStrays_55 lv_X5_203 lm_X4_begin ⟨rfl, rfl, by decide, by decide⟩ Kc_26 (m_X4_begin C.2.2.2.2.2.2.1 Kc_26 hcr3) rfl rfl (Nat.le_of_ble_eq_true rfl) ?_
      refine a_aload_n C dX5_learnStrays_58 0 rfl ?_
      refine a_getr (k1 := 26) C dX5_learnStrays_59 fl_X5_44 rfl Kc_0 rfl ?_
      refine a_bipush (v := 29) C dX5_learnStrays_62 (by decide) ?_
      obtain ⟨r4, hcr4, h⟩ := bd_some h
      refine a_callVv C dX5_learnStrays_64 lv_X5_206 lm_X4_go ⟨rfl, rfl, by decide, by decide⟩ Kc_26 (m_X4_go C.2.2.2.2.2.2.1 Kc_26 hcr4) rfl rfl (Nat.le_of_ble_eq_true rfl) ?_
      refine a_aload_n C dX5_learnStrays_67 0 rfl ?_
      refine a_getr (k1 := 45) C dX5_learnStrays_68 fl_X5_61 rfl Kc_0 rfl ?_
      refine a_iload_n C dX5_learnStrays_71 1 rfl ?_
      refine a_aload_n C dX5_learnStrays_72 0 rfl ?_
      refine a_getr (k1 := 26) C dX5_learnStrays_73 fl_X5_44 rfl Kc_0 rfl ?_
      obtain ⟨r5, hcr5, h⟩ := bd_some h
      refine a_callVi C dX5_learnStrays_76 lv_X5_177 lm_X4_astrayBits ⟨rfl, rfl, by decide, by decide⟩ Kc_26 (m_X4_astrayBits C.2.2.2.2.2.2.1 Kc_26 hcr5) rfl rfl (Nat.le_of_ble_eq_true rfl) ?_
      obtain ⟨hb, h⟩ := ck_some h
      refine a_iast C dX5_learnStrays_79 Kc_45 rfl hb ?_
      refine a_iinc (v := 1) (lv' := [(1, _), (0, _)]) C dX5_learnStrays_80 1 rfl (by decide) (by decide) rfl ?_
      refine a_goto (tgt := 10) C dX5_learnStrays_83 (by decide) ?_
      replace h := Option.some.inj h
      subst h
      exact a_sub [1, 0] (hK) rfl
noncomputable def f_X5_learnStrays  (M : Mem) : Option (Mem) :=
  (if (M 0 9) = 0 then Option.bind (loop (fun s6 : Int32 × Mem => f_X5_learnStrays_10_10b s6.1 s6.2) ((0 : Int32), M)) (fun s7 => some (upM s7.2 0 9 (1 : Int32))) else some M)
theorem t_X5_learnStrays {Y : EY} {X : CX} (C : CK Y X cX5_learnStrays RX5 2 none rm_X5_learnStrays)  {M : Mem}  {res : Mem} (h : f_X5_learnStrays M = some res) (hK : RK Y X none res) : AW Y X 2 0 [(0, .ref (Y.2.2.2.1 0))] [] M := by
  unfold f_X5_learnStrays at h
  refine a_aload_n C dX5_learnStrays_0 0 rfl ?_
  refine a_geti C dX5_learnStrays_1 fl_X5_65 rfl Kc_0 ?_
  refine a_if_eq (tgt := 8) C dX5_learnStrays_4 (by decide) (fun hc => ?_) (fun hc => ?_)
  · replace h := ip hc h
    refine a_iconst (v := 0) C dX5_learnStrays_8 (by decide) ?_
    refine a_istore_n (lv' := [(1, _), (0, _)]) C dX5_learnStrays_9 rfl (by decide) rfl ?_
    obtain ⟨s7, hl, h⟩ := bd_some h
    have hE : Ex_X5_learnStrays_10 Y X s7 := by
      refine a_aload_n C dX5_learnStrays_86 0 rfl ?_
      refine a_iconst (v := 1) C dX5_learnStrays_87 (by decide) ?_
      refine a_put (ty := .boolean) C dX5_learnStrays_88 fl_X5_65 (fp_5_9) rfl Kc_0 rfl rfl ?_
      replace h := Option.some.inj h
      subst h
      exact a_vret C dX5_learnStrays_91 hK
    have hA := aw_loop (At_X5_learnStrays_10 Y X) (Ex_X5_learnStrays_10 Y X) (fun _ _ hb hk => t_X5_learnStrays_10_10b C hb hk) hl hE
    exact a_sub [1, 0] (hA) rfl
  · replace h := iq hc h
    replace h := Option.some.inj h
    subst h
    exact a_vret C dX5_learnStrays_7 hK
theorem m_X5_learnStrays {Y : EY} (hY : HY Y)  {M : Mem}  {r : Mem} (h : f_X5_learnStrays M = some r) : MX Y yX5_learnStrays cX5_learnStrays 2 none rm_X5_learnStrays [.ref (Y.2.2.2.1 0)] M (none) r := MX.of hY (by decide) (Nat.le_of_ble_eq_true rfl) (fun _ hR C => a_sub [0] (t_X5_learnStrays C  h hR) rfl)
abbrev rm_X5_weight : Room := { frames := 0, cells := 0, slots := 0, locals := 0 }
abbrev At_X5_weight_5 (Y : EY) (X : CX) (x1 : Int32) (x2 : Int32) (M : Mem) (s : Int64 × Int32) : Prop := AW Y X 6 5 [(0, .ref (Y.2.2.2.1 0)), (1, .int x1), (2, .int x2), (3, .long s.1), (5, .int s.2)] [] M
abbrev Ex_X5_weight_5 (Y : EY) (X : CX) (x1 : Int32) (x2 : Int32) (M : Mem) (s : Int64 × Int32) : Prop := AW Y X 6 45 [(3, .long s.1)] [] M
noncomputable def f_X5_weight_37_5 (x1 : Int32) (x2 : Int32) (x5 : Int32) (t0 : Int64) (t1 : Int64) (M : Mem) : Option ((Int64 × Int32) ⊕ (Int64 × Int32)) :=
  some (.inl ((t0 * t1), (x5 + (1 : Int32))))
theorem t_X5_weight_37_5 {Y : EY} {X : CX} (C : CK Y X cX5_weight RX5 6 (some .long) rm_X5_weight) {x1 : Int32} {x2 : Int32} {x5 : Int32} {t0 : Int64} {t1 : Int64} {M : Mem}  {res : (Int64 × Int32) ⊕ (Int64 × Int32)} (h : f_X5_weight_37_5 x1 x2 x5 t0 t1 M = some res) (hK : KL (At_X5_weight_5 Y X x1 x2 M) (Ex_X5_weight_5 Y X x1 x2 M) res) : AW Y X 6 37 [(0, .ref (Y.2.2.2.1 0)), (1, .int x1), (2, .int x2), (5, .int x5)] [.long t1, .long t0] M := by
  unfold f_X5_weight_37_5 at h
  refine a_lmul C dX5_weight_37 ?_
  refine a_lstore_n (lv' := [(3, _), (0, _), (1, _), (2, _), (5, _)]) C dX5_weight_38 rfl (by decide) rfl ?_
  refine a_iinc (v := 1) (lv' := [(5, _), (3, _), (0, _), (1, _), (2, _)]) C dX5_weight_39 4 rfl (by decide) (by decide) rfl ?_
  refine a_goto (tgt := 5) C dX5_weight_42 (by decide) ?_
  replace h := Option.some.inj h
  subst h
  exact a_sub [2, 3, 4, 1, 0] (hK) rfl
noncomputable def f_X5_weight_5_5b (x1 : Int32) (x2 : Int32) (x3 : Int64) (x5 : Int32) (M : Mem) : Option ((Int64 × Int32) ⊕ (Int64 × Int32)) :=
  (if (M 5 6) ≤ x5 then some (.inr (x3, x5)) else (if (x2 &&& (shlI (1 : Int32) x5)) = 0 then f_X5_weight_37_5 x1 x2 x5 x3 (((16 : Int32) - x1)).toInt64 M else f_X5_weight_37_5 x1 x2 x5 x3 (x1).toInt64 M))
theorem t_X5_weight_5_5b {Y : EY} {X : CX} (C : CK Y X cX5_weight RX5 6 (some .long) rm_X5_weight) {x1 : Int32} {x2 : Int32} {x3 : Int64} {x5 : Int32} {M : Mem}  {res : (Int64 × Int32) ⊕ (Int64 × Int32)} (h : f_X5_weight_5_5b x1 x2 x3 x5 M = some res) (hK : KL (At_X5_weight_5 Y X x1 x2 M) (Ex_X5_weight_5 Y X x1 x2 M) res) : AW Y X 6 5 [(0, .ref (Y.2.2.2.1 0)), (1, .int x1), (2, .int x2), (3, .long x3), (5, .int x5)] [] M := by
  unfold f_X5_weight_5_5b at h
  refine a_iload C dX5_weight_5 4 rfl ?_
  refine a_aload_n C dX5_weight_7 0 rfl ?_
  refine a_getr (k1 := 5) C dX5_weight_8 fl_X5_28 rfl Kc_0 rfl ?_
  refine a_geti C dX5_weight_11 fl_X5_126 rfl Kc_5 ?_
  refine a_icmp_ge (tgt := 45) C dX5_weight_14 (by decide) (fun hc => ?_) (fun hc => ?_)
  · replace h := ip hc h
    replace h := Option.some.inj h
    subst h
    exact a_sub [3] (hK) rfl
  · replace h := iq hc h
    refine a_lload_n C dX5_weight_17 3 rfl ?_
    refine a_iload_n C dX5_weight_18 2 rfl ?_
    refine a_iconst (v := 1) C dX5_weight_19 (by decide) ?_
    refine a_iload C dX5_weight_20 4 rfl ?_
    refine a_ishl C dX5_weight_22 ?_
    refine a_iand C dX5_weight_23 ?_
    refine a_if_eq (tgt := 32) C dX5_weight_24 (by decide) (fun hc => ?_) (fun hc => ?_)
    · replace h := ip hc h
      refine a_bipush (v := 16) C dX5_weight_32 (by decide) ?_
      refine a_iload_n C dX5_weight_34 1 rfl ?_
      refine a_isub C dX5_weight_35 ?_
      refine a_i2l C dX5_weight_36 ?_
      exact a_sub [0, 1, 2, 4] (t_X5_weight_37_5 C h hK) rfl
    · replace h := iq hc h
      refine a_iload_n C dX5_weight_27 1 rfl ?_
      refine a_i2l C dX5_weight_28 ?_
      refine a_goto (tgt := 37) C dX5_weight_29 (by decide) ?_
      exact a_sub [0, 1, 2, 4] (t_X5_weight_37_5 C h hK) rfl
noncomputable def f_X5_weight (x1 : Int32) (x2 : Int32) (M : Mem) : Option (Int64) :=
  Option.bind (loop (fun s1 : Int64 × Int32 => f_X5_weight_5_5b x1 x2 s1.1 s1.2 M) ((1 : Int64), (0 : Int32))) (fun s2 => some s2.1)
theorem t_X5_weight {Y : EY} {X : CX} (C : CK Y X cX5_weight RX5 6 (some .long) rm_X5_weight) {x1 : Int32} {x2 : Int32} {M : Mem}  {res : Int64} (h : f_X5_weight x1 x2 M = some res) (hK : RK Y X (some (.long res)) M) : AW Y X 6 0 [(0, .ref (Y.2.2.2.1 0)), (1, .int x1), (2, .int x2)] [] M := by
  unfold f_X5_weight at h
  refine a_lconst (v := 1) C dX5_weight_0 (by decide) ?_
  refine a_lstore_n (lv' := [(3, _), (0, _), (1, _), (2, _)]) C dX5_weight_1 rfl (by decide) rfl ?_
  refine a_iconst (v := 0) C dX5_weight_2 (by decide) ?_
  refine a_istore (lv' := [(5, _), (3, _), (0, _), (1, _), (2, _)]) C dX5_weight_3 (by decide) rfl ?_
  obtain ⟨s2, hl, h⟩ := bd_some h
  have hE : Ex_X5_weight_5 Y X x1 x2 M s2 := by
    refine a_lload_n C dX5_weight_45 0 rfl ?_
    replace h := Option.some.inj h
    subst h
    exact a_lret C dX5_weight_46 hK
  have hA := aw_loop (At_X5_weight_5 Y X x1 x2 M) (Ex_X5_weight_5 Y X x1 x2 M) (fun _ _ hb hk => t_X5_weight_5_5b C hb hk) hl hE
  exact a_sub [2, 3, 4, 1, 0] (hA) rfl
theorem m_X5_weight {Y : EY} (hY : HY Y) {x1 : Int32} {x2 : Int32} {M : Mem}  {r : Int64} (h : f_X5_weight x1 x2 M = some r) : MX Y yX5_weight cX5_weight 6 (some .long) rm_X5_weight [.ref (Y.2.2.2.1 0), .int x1, .int x2] M (some (.long r)) M := MX.of hY (by decide) (Nat.le_of_ble_eq_true rfl) (fun _ hR C => a_sub [0, 1, 2] (t_X5_weight C  h hR) rfl)
abbrev rm_X5_custom : Room := { frames := 5, cells := 0, slots := 0, locals := 114 }
abbrev At_X5_custom_42 (Y : EY) (X : CX) (x1 : Int32) (x2 : Int32) (x3 : Int32) (M : Mem) (s : Int64 × Int32) : Prop := AW Y X 10 42 [(0, .ref (Y.2.2.2.1 0)), (1, .int x1), (2, .int x2), (3, .int x3), (4, .long s.1), (6, .int s.2)] [] M
abbrev Ex_X5_custom_42 (Y : EY) (X : CX) (x1 : Int32) (x2 : Int32) (x3 : Int32) (M : Mem) (s : Int64 × Int32) : Prop := AW Y X 10 98 [(0, .ref (Y.2.2.2.1 0)), (3, .int x3), (4, .long s.1)] [] M
noncomputable def f_X5_custom_92_42 (x1 : Int32) (x2 : Int32) (x3 : Int32) (x4 : Int64) (x6 : Int32) (M : Mem) : Option ((Int64 × Int32) ⊕ (Int64 × Int32)) :=
  some (.inl (x4, (x6 + (1 : Int32))))
theorem t_X5_custom_92_42 {Y : EY} {X : CX} (C : CK Y X cX5_custom RX5 10 (some .long) rm_X5_custom) {x1 : Int32} {x2 : Int32} {x3 : Int32} {x4 : Int64} {x6 : Int32} {M : Mem}  {res : (Int64 × Int32) ⊕ (Int64 × Int32)} (h : f_X5_custom_92_42 x1 x2 x3 x4 x6 M = some res) (hK : KL (At_X5_custom_42 Y X x1 x2 x3 M) (Ex_X5_custom_42 Y X x1 x2 x3 M) res) : AW Y X 10 92 [(0, .ref (Y.2.2.2.1 0)), (1, .int x1), (2, .int x2), (3, .int x3), (4, .long x4), (6, .int x6)] [] M := by
  unfold f_X5_custom_92_42 at h
  refine a_iinc (v := 1) (lv' := [(6, _), (0, _), (1, _), (2, _), (3, _), (4, _)]) C dX5_custom_92 5 rfl (by decide) (by decide) rfl ?_
  refine a_goto (tgt := 42) C dX5_custom_95 (by decide) ?_
  replace h := Option.some.inj h
  subst h
  exact a_sub [1, 2, 3, 4, 5, 0] (hK) rfl
noncomputable def f_X5_custom_42_42b (x1 : Int32) (x2 : Int32) (x3 : Int32) (x4 : Int64) (x6 : Int32) (M : Mem) : Option ((Int64 × Int32) ⊕ (Int64 × Int32)) :=
  (if (shlI (1 : Int32) (M 5 6)) ≤ x6 then some (.inr (x4, x6)) else (if (256 : Int32) ≤ x6 then some (.inr (x4, x6)) else ck (inb x6 256) ((if ((M 45 (x6).toNatClampNeg) &&& (shlI (1 : Int32) x2)) = 0 then f_X5_custom_92_42 x1 x2 x3 x4 x6 M else Option.bind (f_X5_weight x1 x6 M) (fun r5 => f_X5_custom_92_42 x1 x2 x3 (x4 + r5) x6 M)))))
theorem t_X5_custom_42_42b {Y : EY} {X : CX} (C : CK Y X cX5_custom RX5 10 (some .long) rm_X5_custom) {x1 : Int32} {x2 : Int32} {x3 : Int32} {x4 : Int64} {x6 : Int32} {M : Mem}  {res : (Int64 × Int32) ⊕ (Int64 × Int32)} (h : f_X5_custom_42_42b x1 x2 x3 x4 x6 M = some res) (hK : KL (At_X5_custom_42 Y X x1 x2 x3 M) (Ex_X5_custom_42 Y X x1 x2 x3 M) res) : AW Y X 10 42 [(0, .ref (Y.2.2.2.1 0)), (1, .int x1), (2, .int x2), (3, .int x3), (4, .long x4), (6, .int x6)] [] M := by
  unfold f_X5_custom_42_42b at h
  refine a_iload C dX5_custom_42 5 rfl ?_
  refine a_iconst (v := 1) C dX5_custom_44 (by decide) ?_
  refine a_aload_n C dX5_custom_45 0 rfl ?_
  refine a_getr (k1 := 5) C dX5_custom_46 fl_X5_28 rfl Kc_0 rfl ?_
  refine a_geti C dX5_custom_49 fl_X5_126 rfl Kc_5 ?_
  refine a_ishl C dX5_custom_52 ?_
  refine a_icmp_ge (tgt := 98) C dX5_custom_53 (by decide) (fun hc => ?_) (fun hc => ?_)
  · replace h := ip hc h
    replace h := Option.some.inj h
    subst h
    exact a_sub [0, 3, 4] (hK) rfl
  · replace h := iq hc h
    refine a_iload C dX5_custom_56 5 rfl ?_
    refine a_aload_n C dX5_custom_58 0 rfl ?_
    refine a_getr (k1 := 45) C dX5_custom_59 fl_X5_61 rfl Kc_0 rfl ?_
    refine a_alen (v := 256) C dX5_custom_62 Kc_45 (by rw [show ln 45 = 256 from rfl]; rfl) ?_
    refine a_icmp_ge (tgt := 98) C dX5_custom_63 (by decide) (fun hc => ?_) (fun hc => ?_)
    · replace h := ip hc h
      replace h := Option.some.inj h
      subst h
      exact a_sub [0, 3, 4] (hK) rfl
    · replace h := iq hc h
      refine a_aload_n C dX5_custom_66 0 rfl ?_
      refine a_getr (k1 := 45) C dX5_custom_67 fl_X5_61 rfl Kc_0 rfl ?_
      refine a_iload C dX5_custom_70 5 rfl ?_
      obtain ⟨hb, h⟩ := ck_some h
      refine a_iald C dX5_custom_72 Kc_45 rfl hb ?_
      refine a_iconst (v := 1) C dX5_custom_73 (by decide) ?_
      refine a_iload_n C dX5_custom_74 2 rfl ?_
      refine a_ishl C dX5_custom_75 ?_
      refine a_iand C dX5_custom_76 ?_
      refine a_if_eq (tgt := 92) C dX5_custom_77 (by decide) (fun hc => ?_) (fun hc => ?_)
      · replace h := ip hc h
        exact a_sub [0, 1, 2, 3, 4, 5] (t_X5_custom_92_42 C h hK) rfl
      · replace h := iq hc h
        refine a_lload C dX5_custom_80 4 rfl ?_
        refine a_aload_n C dX5_custom_82 0 rfl ?_
        refine a_iload_n C dX5_custom_83 1 rfl ?_
        refine a_iload C dX5_custom_84 5 rfl ?_
        obtain ⟨r5, hcr5, h⟩ := bd_some h
        refine a_callVl C dX5_custom_86 lv_X5_243 lm_X5_weight ⟨rfl, rfl, by decide, by decide⟩ Kc_0 (m_X5_weight C.2.2.2.2.2.2.1 hcr5) rfl rfl (Nat.le_of_ble_eq_true rfl) ?_
        refine a_ladd C dX5_custom_89 ?_
        refine a_lstore (lv' := [(4, _), (0, _), (1, _), (2, _), (3, _), (6, _)]) C dX5_custom_90 (by decide) rfl ?_
        exact a_sub [1, 2, 3, 4, 0, 5] (t_X5_custom_92_42 C h hK) rfl
abbrev At_X5_custom_118 (Y : EY) (X : CX) (x3 : Int32) (x6 : Int32) (M : Mem) (s : Int64 × Int64 × Int32) : Prop := AW Y X 10 118 [(3, .int x3), (4, .long s.1), (6, .int x6), (7, .long s.2.1), (9, .int s.2.2)] [] M
abbrev Ex_X5_custom_118 (Y : EY) (X : CX) (x3 : Int32) (x6 : Int32) (M : Mem) (s : Int64 × Int64 × Int32) : Prop := AW Y X 10 158 [(3, .int x3), (4, .long s.1), (7, .long s.2.1)] [] M
noncomputable def f_X5_custom_118_118b (x3 : Int32) (x4 : Int64) (x6 : Int32) (x7 : Int64) (x9 : Int32) (M : Mem) : Option ((Int64 × Int64 × Int32) ⊕ (Int64 × Int64 × Int32)) :=
  (if x6 ≤ x9 then some (.inr (x4, x7, x9)) else (if (lg_cmp (remL x4 (2 : Int64)) (0 : Int64)) = 0 then some (.inl ((x4 / (2 : Int64)), (x7 / (2 : Int64)), (x9 + (1 : Int32)))) else some (.inr (x4, x7, x9))))
theorem t_X5_custom_118_118b {Y : EY} {X : CX} (C : CK Y X cX5_custom RX5 10 (some .long) rm_X5_custom) {x3 : Int32} {x4 : Int64} {x6 : Int32} {x7 : Int64} {x9 : Int32} {M : Mem}  {res : (Int64 × Int64 × Int32) ⊕ (Int64 × Int64 × Int32)} (h : f_X5_custom_118_118b x3 x4 x6 x7 x9 M = some res) (hK : KL (At_X5_custom_118 Y X x3 x6 M) (Ex_X5_custom_118 Y X x3 x6 M) res) : AW Y X 10 118 [(3, .int x3), (4, .long x4), (6, .int x6), (7, .long x7), (9, .int x9)] [] M := by
  unfold f_X5_custom_118_118b at h
  refine a_iload C dX5_custom_118 4 rfl ?_
  refine a_iload C dX5_custom_120 2 rfl ?_
  refine a_icmp_ge (tgt := 158) C dX5_custom_122 (by decide) (fun hc => ?_) (fun hc => ?_)
  · replace h := ip hc h
    replace h := Option.some.inj h
    subst h
    exact a_sub [0, 1, 3] (hK) rfl
  · replace h := iq hc h
    refine a_lload C dX5_custom_125 1 rfl ?_
    refine a_ldc2 C dX5_custom_127 co_X5_247 ?_
    refine a_lrem C dX5_custom_130 (by decide) ?_
    refine a_lconst (v := 0) C dX5_custom_131 (by decide) ?_
    refine a_lcmp C dX5_custom_132 ?_
    refine a_if_ne (tgt := 158) C dX5_custom_133 (by decide) (fun hc => ?_) (fun hc => ?_)
    · replace h := iq hc h
      replace h := Option.some.inj h
      subst h
      exact a_sub [0, 1, 3] (hK) rfl
    · replace h := ip hc h
      refine a_lload C dX5_custom_136 1 rfl ?_
      refine a_ldc2 C dX5_custom_138 co_X5_247 ?_
      refine a_ldiv C dX5_custom_141 (by decide) ?_
      refine a_lstore (lv' := [(4, _), (3, _), (6, _), (7, _), (9, _)]) C dX5_custom_142 (by decide) rfl ?_
      refine a_lload C dX5_custom_144 3 rfl ?_
      refine a_ldc2 C dX5_custom_146 co_X5_247 ?_
      refine a_ldiv C dX5_custom_149 (by decide) ?_
      refine a_lstore (lv' := [(7, _), (4, _), (3, _), (6, _), (9, _)]) C dX5_custom_150 (by decide) rfl ?_
      refine a_iinc (v := 1) (lv' := [(9, _), (7, _), (4, _), (3, _), (6, _)]) C dX5_custom_152 4 rfl (by decide) (by decide) rfl ?_
      refine a_goto (tgt := 118) C dX5_custom_155 (by decide) ?_
      replace h := Option.some.inj h
      subst h
      exact a_sub [3, 2, 4, 1, 0] (hK) rfl
noncomputable def f_X5_custom_158 (x3 : Int32) (x4 : Int64) (x7 : Int64) (M : Mem) : Option (Int64 × Mem) :=
  (if x3 = 0 then some (x4, M) else some (x7, M))
theorem t_X5_custom_158 {Y : EY} {X : CX} (C : CK Y X cX5_custom RX5 10 (some .long) rm_X5_custom) {x3 : Int32} {x4 : Int64} {x7 : Int64} {M : Mem}  {res : Int64 × Mem} (h : f_X5_custom_158 x3 x4 x7 M = some res) (hK : RK Y X (some (.long res.1)) res.2) : AW Y X 10 158 [(3, .int x3), (4, .long x4), (7, .long x7)] [] M := by
  unfold f_X5_custom_158 at h
  refine a_iload_n C dX5_custom_158 0 rfl ?_
  refine a_if_ne (tgt := 167) C dX5_custom_159 (by decide) (fun hc => ?_) (fun hc => ?_)
  · replace h := iq hc h
    refine a_lload C dX5_custom_167 2 rfl ?_
    replace h := Option.some.inj h
    subst h
    exact a_lret C dX5_custom_169 hK
  · replace h := ip hc h
    refine a_lload C dX5_custom_162 1 rfl ?_
    refine a_goto (tgt := 169) C dX5_custom_164 (by decide) ?_
    replace h := Option.some.inj h
    subst h
    exact a_lret C dX5_custom_169 hK
noncomputable def f_X5_custom_98 (x3 : Int32) (x4 : Int64) (M : Mem) : Option (Int64 × Mem) :=
  Option.bind (loop (fun s8 : Int64 × Int64 × Int32 => f_X5_custom_118_118b x3 s8.1 ((4 : Int32) * (M 5 6)) s8.2.1 s8.2.2 M) (x4, (shlL (1 : Int64) ((4 : Int32) * (M 5 6))), (0 : Int32))) (fun s9 => f_X5_custom_158 x3 s9.1 s9.2.1 M)
theorem t_X5_custom_98 {Y : EY} {X : CX} (C : CK Y X cX5_custom RX5 10 (some .long) rm_X5_custom) {x3 : Int32} {x4 : Int64} {M : Mem}  {res : Int64 × Mem} (h : f_X5_custom_98 x3 x4 M = some res) (hK : RK Y X (some (.long res.1)) res.2) : AW Y X 10 98 [(0, .ref (Y.2.2.2.1 0)), (3, .int x3), (4, .long x4)] [] M := by
  unfold f_X5_custom_98 at h
  refine a_iconst (v := 4) C dX5_custom_98 (by decide) ?_
  refine a_aload_n C dX5_custom_99 0 rfl ?_
  refine a_getr (k1 := 5) C dX5_custom_100 fl_X5_28 rfl Kc_0 rfl ?_
  refine a_geti C dX5_custom_103 fl_X5_126 rfl Kc_5 ?_
  refine a_imul C dX5_custom_106 ?_
  refine a_istore (lv' := [(6, _), (0, _), (3, _), (4, _)]) C dX5_custom_107 (by decide) rfl ?_
  refine a_lconst (v := 1) C dX5_custom_109 (by decide) ?_
  refine a_iload C dX5_custom_110 0 rfl ?_
  refine a_lshl C dX5_custom_112 ?_
  refine a_lstore (lv' := [(7, _), (6, _), (0, _), (3, _), (4, _)]) C dX5_custom_113 (by decide) rfl ?_
  refine a_iconst (v := 0) C dX5_custom_115 (by decide) ?_
  refine a_istore (lv' := [(9, _), (7, _), (6, _), (0, _), (3, _), (4, _)]) C dX5_custom_116 (by decide) rfl ?_
  obtain ⟨s9, hl, h⟩ := bd_some h
  have hE : Ex_X5_custom_118 Y X x3 ((4 : Int32) * (M 5 6)) M s9 := by
    exact a_sub [0, 1, 2] (t_X5_custom_158 C h hK) rfl
  have hA := aw_loop (At_X5_custom_118 Y X x3 ((4 : Int32) * (M 5 6)) M) (Ex_X5_custom_118 Y X x3 ((4 : Int32) * (M 5 6)) M) (fun _ _ hb hk => t_X5_custom_118_118b C hb hk) hl hE
  exact a_sub [4, 5, 2, 1, 0] (hA) rfl
noncomputable def f_X5_custom (x1 : Int32) (x2 : Int32) (x3 : Int32) (M : Mem) : Option (Int64 × Mem) :=
  Option.bind (f_X5_isBelow x1 (17 : Int32)) (fun r1 => (if r1 = 0 then some ((-9223372036854775806 : Int64), M) else Option.bind (f_X1_hasPerson 5 x2 M) (fun r2 => (if r2 = 0 then some ((-9223372036854775806 : Int64), M) else Option.bind (f_X5_isBelow x3 (2 : Int32)) (fun r3 => (if r3 = 0 then some ((-9223372036854775806 : Int64), M) else Option.bind (f_X5_learnStrays M) (fun r4 => Option.bind (loop (fun s6 : Int64 × Int32 => f_X5_custom_42_42b x1 x2 x3 s6.1 s6.2 r4) ((0 : Int64), (0 : Int32))) (fun s7 => f_X5_custom_98 x3 s7.1 r4))))))))
theorem t_X5_custom {Y : EY} {X : CX} (C : CK Y X cX5_custom RX5 10 (some .long) rm_X5_custom) {x1 : Int32} {x2 : Int32} {x3 : Int32} {M : Mem}  {res : Int64 × Mem} (h : f_X5_custom x1 x2 x3 M = some res) (hK : RK Y X (some (.long res.1)) res.2) : AW Y X 10 0 [(0, .ref (Y.2.2.2.1 0)), (1, .int x1), (2, .int x2), (3, .int x3)] [] M := by
  unfold f_X5_custom at h
  refine a_iload_n C dX5_custom_0 1 rfl ?_
  refine a_bipush (v := 17) C dX5_custom_1 (by decide) ?_
  obtain ⟨r1, hcr1, h⟩ := bd_some h
  refine a_callSi C dX5_custom_3 ls_X5_82 lm_X5_isBelow ⟨rfl, rfl, by decide, by decide⟩ (m_X5_isBelow C.2.2.2.2.2.2.1 hcr1) rfl rfl (Nat.le_of_ble_eq_true rfl) ?_
  refine a_if_eq (tgt := 28) C dX5_custom_6 (by decide) (fun hc => ?_) (fun hc => ?_)
  · replace h := ip hc h
    refine a_ldc2 C dX5_custom_28 co_X5_238 ?_
    replace h := Option.some.inj h
    subst h
    exact a_lret C dX5_custom_31 hK
  · replace h := iq hc h
    refine a_aload_n C dX5_custom_9 0 rfl ?_
    refine a_getr (k1 := 5) C dX5_custom_10 fl_X5_28 rfl Kc_0 rfl ?_
    refine a_iload_n C dX5_custom_13 2 rfl ?_
    obtain ⟨r2, hcr2, h⟩ := bd_some h
    refine a_callVi C dX5_custom_14 lv_X5_113 lm_X1_hasPerson ⟨rfl, rfl, by decide, by decide⟩ Kc_5 (m_X1_hasPerson C.2.2.2.2.2.2.1 Kc_5 hcr2) rfl rfl (Nat.le_of_ble_eq_true rfl) ?_
    refine a_if_eq (tgt := 28) C dX5_custom_17 (by decide) (fun hc => ?_) (fun hc => ?_)
    · replace h := ip hc h
      refine a_ldc2 C dX5_custom_28 co_X5_238 ?_
      replace h := Option.some.inj h
      subst h
      exact a_lret C dX5_custom_31 hK
    · replace h := iq hc h
      refine a_iload_n C dX5_custom_20 3 rfl ?_
      refine a_iconst (v := 2) C dX5_custom_21 (by decide) ?_
      obtain ⟨r3, hcr3, h⟩ := bd_some h
      refine a_callSi C dX5_custom_22 ls_X5_82 lm_X5_isBelow ⟨rfl, rfl, by decide, by decide⟩ (m_X5_isBelow C.2.2.2.2.2.2.1 hcr3) rfl rfl (Nat.le_of_ble_eq_true rfl) ?_
      refine a_if_ne (tgt := 32) C dX5_custom_25 (by decide) (fun hc => ?_) (fun hc => ?_)
      · replace h := iq hc h
        refine a_aload_n C dX5_custom_32 0 rfl ?_
        obtain ⟨r4, hcr4, h⟩ := bd_some h
        refine a_callVv C dX5_custom_33 lv_X5_240 lm_X5_learnStrays ⟨rfl, rfl, by decide, by decide⟩ Kc_0 (m_X5_learnStrays C.2.2.2.2.2.2.1 hcr4) rfl rfl (Nat.le_of_ble_eq_true rfl) ?_
        refine a_lconst (v := 0) C dX5_custom_36 (by decide) ?_
        refine a_lstore (lv' := [(4, _), (0, _), (1, _), (2, _), (3, _)]) C dX5_custom_37 (by decide) rfl ?_
        refine a_iconst (v := 0) C dX5_custom_39 (by decide) ?_
        refine a_istore (lv' := [(6, _), (4, _), (0, _), (1, _), (2, _), (3, _)]) C dX5_custom_40 (by decide) rfl ?_
        obtain ⟨s7, hl, h⟩ := bd_some h
        have hE : Ex_X5_custom_42 Y X x1 x2 x3 r4 s7 := by
          exact a_sub [0, 1, 2] (t_X5_custom_98 C h hK) rfl
        have hA := aw_loop (At_X5_custom_42 Y X x1 x2 x3 r4) (Ex_X5_custom_42 Y X x1 x2 x3 r4) (fun _ _ hb hk => t_X5_custom_42_42b C hb hk) hl hE
        exact a_sub [2, 3, 4, 5, 1, 0] (hA) rfl
      · replace h := ip hc h
        refine a_ldc2 C dX5_custom_28 co_X5_238 ?_
        replace h := Option.some.inj h
        subst h
        exact a_lret C dX5_custom_31 hK
theorem m_X5_custom {Y : EY} (hY : HY Y) {x1 : Int32} {x2 : Int32} {x3 : Int32} {M : Mem}  {r : Int64 × Mem} (h : f_X5_custom x1 x2 x3 M = some r) : MX Y yX5_custom cX5_custom 10 (some .long) rm_X5_custom [.ref (Y.2.2.2.1 0), .int x1, .int x2, .int x3] M (some (.long r.1)) r.2 := MX.of hY (by decide) (Nat.le_of_ble_eq_true rfl) (fun _ hR C => a_sub [0, 1, 2, 3] (t_X5_custom C  h hR) rfl)
abbrev rm_X5_lot : Room := { frames := 0, cells := 0, slots := 0, locals := 0 }
noncomputable def f_X5_lot (x0 : Int32) (x1 : Int32) : Option (Int32) :=
  (if x1 ≤ 0 then some (0 : Int32) else ck (nzI x1) (some (remI (shrI x0 (16 : Int32)) x1)))
theorem t_X5_lot {Y : EY} {X : CX} (C : CK Y X cX5_lot RX5 2 (some .int) rm_X5_lot) {x0 : Int32} {x1 : Int32} {M : Mem}  {res : Int32} (h : f_X5_lot x0 x1 = some res) (hK : RK Y X (some (.int res)) M) : AW Y X 2 0 [(0, .int x0), (1, .int x1)] [] M := by
  unfold f_X5_lot at h
  refine a_iload_n C dX5_lot_0 1 rfl ?_
  refine a_if_le (tgt := 13) C dX5_lot_1 (by decide) (fun hc => ?_) (fun hc => ?_)
  · replace h := ip hc h
    refine a_iconst (v := 0) C dX5_lot_13 (by decide) ?_
    replace h := Option.some.inj h
    subst h
    exact a_iret C dX5_lot_14 hK
  · replace h := iq hc h
    refine a_iload_n C dX5_lot_4 0 rfl ?_
    refine a_bipush (v := 16) C dX5_lot_5 (by decide) ?_
    refine a_iushr C dX5_lot_7 ?_
    refine a_iload_n C dX5_lot_8 1 rfl ?_
    obtain ⟨hb, h⟩ := ck_some h
    refine a_irem C dX5_lot_9 (of_decide_eq_true hb) ?_
    refine a_goto (tgt := 14) C dX5_lot_10 (by decide) ?_
    replace h := Option.some.inj h
    subst h
    exact a_iret C dX5_lot_14 hK
theorem m_X5_lot {Y : EY} (hY : HY Y) {x0 : Int32} {x1 : Int32} {M : Mem}  {r : Int32} (h : f_X5_lot x0 x1 = some r) : MX Y yX5_lot cX5_lot 2 (some .int) rm_X5_lot [.int x0, .int x1] M (some (.int r)) M := MX.of hY (by decide) (Nat.le_of_ble_eq_true rfl) (fun _ hR C => a_sub [0, 1] (t_X5_lot C  h hR) rfl)
abbrev rm_X5_seedAfter : Room := { frames := 0, cells := 0, slots := 0, locals := 0 }
noncomputable def f_X5_seedAfter (x0 : Int32) : Option (Int32) :=
  some (((1103515245 : Int32) * x0) + (12345 : Int32))
theorem t_X5_seedAfter {Y : EY} {X : CX} (C : CK Y X cX5_seedAfter RX5 1 (some .int) rm_X5_seedAfter) {x0 : Int32} {M : Mem}  {res : Int32} (h : f_X5_seedAfter x0 = some res) (hK : RK Y X (some (.int res)) M) : AW Y X 1 0 [(0, .int x0)] [] M := by
  unfold f_X5_seedAfter at h
  refine a_ldcw C dX5_seedAfter_0 co_X5_380 ?_
  refine a_iload_n C dX5_seedAfter_3 0 rfl ?_
  refine a_imul C dX5_seedAfter_4 ?_
  refine a_sipush (v := 12345) C dX5_seedAfter_5 (by decide) ?_
  refine a_iadd C dX5_seedAfter_8 ?_
  replace h := Option.some.inj h
  subst h
  exact a_iret C dX5_seedAfter_9 hK
theorem m_X5_seedAfter {Y : EY} (hY : HY Y) {x0 : Int32} {M : Mem}  {r : Int32} (h : f_X5_seedAfter x0 = some r) : MX Y yX5_seedAfter cX5_seedAfter 1 (some .int) rm_X5_seedAfter [.int x0] M (some (.int r)) M := MX.of hY (by decide) (Nat.le_of_ble_eq_true rfl) (fun _ hR C => a_sub [0] (t_X5_seedAfter C  h hR) rfl)
abbrev rm_X5_tryYear : Room := { frames := 2, cells := 0, slots := 0, locals := 61 }
abbrev At_X5_tryYear_24 (Y : EY) (X : CX) (x2 : Int32) (s : Int32 × Int32 × Mem) : Prop := AW Y X 7 24 [(0, .ref (Y.2.2.2.1 0)), (2, .int x2), (3, .int s.1), (4, .int s.2.1)] [] s.2.2
abbrev Ex_X5_tryYear_24 (Y : EY) (X : CX) (x2 : Int32) (s : Int32 × Int32 × Mem) : Prop := AW Y X 7 114 [] [] s.2.2
noncomputable def f_X5_tryYear_24_24b (x2 : Int32) (x3 : Int32) (x4 : Int32) (M : Mem) : Option ((Int32 × Int32 × Mem) ⊕ (Int32 × Int32 × Mem)) :=
  (if x2 ≤ x4 then some (.inr (x3, x4, M)) else (if (M 5 3) ≤ 0 then some (.inr (x3, x4, M)) else (if (M 5 0) ≤ 0 then some (.inr (x3, x4, M)) else Option.bind (f_X5_seedAfter x3) (fun r2 => Option.bind (f_X5_lot r2 (30 : Int32)) (fun r3 => Option.bind (f_X5_seedAfter r2) (fun r4 => Option.bind (f_X5_lot r4 (M 5 3)) (fun r5 => Option.bind (f_X5_seedAfter r4) (fun r6 => Option.bind (f_X5_lot r6 (M 5 0)) (fun r7 => Option.bind (f_X1_addHiring 13 r3 r5 r7 M) (fun r8 => some (.inl (r6, (x4 + (1 : Int32)), r8))))))))))))
theorem t_X5_tryYear_24_24b {Y : EY} {X : CX} (C : CK Y X cX5_tryYear RX5 7 none rm_X5_tryYear) {x2 : Int32} {x3 : Int32} {x4 : Int32} {M : Mem}  {res : (Int32 × Int32 × Mem) ⊕ (Int32 × Int32 × Mem)} (h : f_X5_tryYear_24_24b x2 x3 x4 M = some res) (hK : KL (At_X5_tryYear_24 Y X x2) (Ex_X5_tryYear_24 Y X x2) res) : AW Y X 7 24 [(0, .ref (Y.2.2.2.1 0)), (2, .int x2), (3, .int x3), (4, .int x4)] [] M := by
  unfold f_X5_tryYear_24_24b at h
  refine a_iload C dX5_tryYear_24 3 rfl ?_
  refine a_iload_n C dX5_tryYear_26 1 rfl ?_
  refine a_icmp_ge (tgt := 114) C dX5_tryYear_27 (by decide) (fun hc => ?_) (fun hc => ?_)
  · replace h := ip hc h
    replace h := Option.some.inj h
    subst h
    exact a_sub [] (hK) rfl
  · replace h := iq hc h
    refine a_aload_n C dX5_tryYear_30 0 rfl ?_
    refine a_getr (k1 := 5) C dX5_tryYear_31 fl_X5_28 rfl Kc_0 rfl ?_
    refine a_geti C dX5_tryYear_34 fl_X5_183 rfl Kc_5 ?_
    refine a_if_le (tgt := 114) C dX5_tryYear_37 (by decide) (fun hc => ?_) (fun hc => ?_)
    · replace h := ip hc h
      replace h := Option.some.inj h
      subst h
      exact a_sub [] (hK) rfl
    · replace h := iq hc h
      refine a_aload_n C dX5_tryYear_40 0 rfl ?_
      refine a_getr (k1 := 5) C dX5_tryYear_41 fl_X5_28 rfl Kc_0 rfl ?_
      refine a_geti C dX5_tryYear_44 fl_X5_190 rfl Kc_5 ?_
      refine a_if_le (tgt := 114) C dX5_tryYear_47 (by decide) (fun hc => ?_) (fun hc => ?_)
      · replace h := ip hc h
        replace h := Option.some.inj h
        subst h
        exact a_sub [] (hK) rfl
      · replace h := iq hc h
        refine a_iload_n C dX5_tryYear_50 2 rfl ?_
        obtain ⟨r2, hcr2, h⟩ := bd_some h
        refine a_callSi C dX5_tryYear_51 ls_X5_374 lm_X5_seedAfter ⟨rfl, rfl, by decide, by decide⟩ (m_X5_seedAfter C.2.2.2.2.2.2.1 hcr2) rfl rfl (Nat.le_of_ble_eq_true rfl) ?_
        refine a_istore_n (lv' := [(3, _), (0, _), (2, _), (4, _)]) C dX5_tryYear_54 rfl (by decide) rfl ?_
        refine a_iload_n C dX5_tryYear_55 0 rfl ?_
        refine a_bipush (v := 30) C dX5_tryYear_56 (by decide) ?_
        obtain ⟨r3, hcr3, h⟩ := bd_some h
        refine a_callSi C dX5_tryYear_58 ls_X5_377 lm_X5_lot ⟨rfl, rfl, by decide, by decide⟩ (m_X5_lot C.2.2.2.2.2.2.1 hcr3) rfl rfl (Nat.le_of_ble_eq_true rfl) ?_
        refine a_istore (lv' := [(5, _), (3, _), (0, _), (2, _), (4, _)]) C dX5_tryYear_61 (by decide) rfl ?_
        refine a_iload_n C dX5_tryYear_63 1 rfl ?_
        obtain ⟨r4, hcr4, h⟩ := bd_some h
        refine a_callSi C dX5_tryYear_64 ls_X5_374 lm_X5_seedAfter ⟨rfl, rfl, by decide, by decide⟩ (m_X5_seedAfter C.2.2.2.2.2.2.1 hcr4) rfl rfl (Nat.le_of_ble_eq_true rfl) ?_
        refine a_istore_n (lv' := [(3, _), (5, _), (0, _), (2, _), (4, _)]) C dX5_tryYear_67 rfl (by decide) rfl ?_
        refine a_iload_n C dX5_tryYear_68 0 rfl ?_
        refine a_aload_n C dX5_tryYear_69 2 rfl ?_
        refine a_getr (k1 := 5) C dX5_tryYear_70 fl_X5_28 rfl Kc_0 rfl ?_
        refine a_geti C dX5_tryYear_73 fl_X5_183 rfl Kc_5 ?_
        obtain ⟨r5, hcr5, h⟩ := bd_some h
        refine a_callSi C dX5_tryYear_76 ls_X5_377 lm_X5_lot ⟨rfl, rfl, by decide, by decide⟩ (m_X5_lot C.2.2.2.2.2.2.1 hcr5) rfl rfl (Nat.le_of_ble_eq_true rfl) ?_
        refine a_istore (lv' := [(6, _), (3, _), (5, _), (0, _), (2, _), (4, _)]) C dX5_tryYear_79 (by decide) rfl ?_
        refine a_iload_n C dX5_tryYear_81 1 rfl ?_
        obtain ⟨r6, hcr6, h⟩ := bd_some h
        refine a_callSi C dX5_tryYear_82 ls_X5_374 lm_X5_seedAfter ⟨rfl, rfl, by decide, by decide⟩ (m_X5_seedAfter C.2.2.2.2.2.2.1 hcr6) rfl rfl (Nat.le_of_ble_eq_true rfl) ?_
        refine a_istore_n (lv' := [(3, _), (6, _), (5, _), (0, _), (2, _), (4, _)]) C dX5_tryYear_85 rfl (by decide) rfl ?_
        refine a_aload_n C dX5_tryYear_86 3 rfl ?_
        refine a_getr (k1 := 13) C dX5_tryYear_87 fl_X5_32 rfl Kc_0 rfl ?_
        refine a_iload C dX5_tryYear_90 2 rfl ?_
        refine a_iload C dX5_tryYear_92 1 rfl ?_
        refine a_iload_n C dX5_tryYear_94 0 rfl ?_
        refine a_aload_n C dX5_tryYear_95 3 rfl ?_
        refine a_getr (k1 := 5) C dX5_tryYear_96 fl_X5_28 rfl Kc_0 rfl ?_
        refine a_geti C dX5_tryYear_99 fl_X5_190 rfl Kc_5 ?_
        obtain ⟨r7, hcr7, h⟩ := bd_some h
        refine a_callSi C dX5_tryYear_102 ls_X5_377 lm_X5_lot ⟨rfl, rfl, by decide, by decide⟩ (m_X5_lot C.2.2.2.2.2.2.1 hcr7) rfl rfl (Nat.le_of_ble_eq_true rfl) ?_
        obtain ⟨r8, hcr8, h⟩ := bd_some h
        refine a_callVv C dX5_tryYear_105 lv_X5_129 lm_X1_addHiring ⟨rfl, rfl, by decide, by decide⟩ Kc_13 (m_X1_addHiring C.2.2.2.2.2.2.1 Kc_13 hcr8) rfl rfl (Nat.le_of_ble_eq_true rfl) ?_
        refine a_iinc (v := 1) (lv' := [(4, _), (3, _), (6, _), (5, _), (0, _), (2, _)]) C dX5_tryYear_108 5 rfl (by decide) (by decide) rfl ?_
        refine a_goto (tgt := 24) C dX5_tryYear_111 (by decide) ?_
        replace h := Option.some.inj h
        subst h
        exact a_sub [4, 5, 1, 0] (hK) rfl
noncomputable def f_X5_tryYear (x1 : Int32) (x2 : Int32) (M : Mem) : Option (Mem) :=
  Option.bind (f_X1_become 13 5 M) (fun r1 => Option.bind (loop (fun s9 : Int32 × Int32 × Mem => f_X5_tryYear_24_24b x2 s9.1 s9.2.1 s9.2.2) (x1, (0 : Int32), (upM r1 13 6 (0 : Int32)))) (fun s10 => some s10.2.2))
theorem t_X5_tryYear {Y : EY} {X : CX} (C : CK Y X cX5_tryYear RX5 7 none rm_X5_tryYear) {x1 : Int32} {x2 : Int32} {M : Mem}  {res : Mem} (h : f_X5_tryYear x1 x2 M = some res) (hK : RK Y X none res) : AW Y X 7 0 [(0, .ref (Y.2.2.2.1 0)), (1, .int x1), (2, .int x2)] [] M := by
  unfold f_X5_tryYear at h
  refine a_aload_n C dX5_tryYear_0 0 rfl ?_
  refine a_getr (k1 := 13) C dX5_tryYear_1 fl_X5_32 rfl Kc_0 rfl ?_
  refine a_aload_n C dX5_tryYear_4 0 rfl ?_
  refine a_getr (k1 := 5) C dX5_tryYear_5 fl_X5_28 rfl Kc_0 rfl ?_
  obtain ⟨r1, hcr1, h⟩ := bd_some h
  refine a_callVv C dX5_tryYear_8 lv_X5_196 lm_X1_become ⟨rfl, rfl, by decide, by decide⟩ Kc_13 (m_X1_become C.2.2.2.2.2.2.1 Kc_13 Kc_5 hcr1) rfl rfl (Nat.le_of_ble_eq_true rfl) ?_
  refine a_aload_n C dX5_tryYear_11 0 rfl ?_
  refine a_getr (k1 := 13) C dX5_tryYear_12 fl_X5_32 rfl Kc_0 rfl ?_
  refine a_iconst (v := 0) C dX5_tryYear_15 (by decide) ?_
  refine a_put (ty := .int) C dX5_tryYear_16 fl_X5_126 (fp_1_6) rfl Kc_13 rfl rfl ?_
  refine a_iload_n C dX5_tryYear_19 1 rfl ?_
  refine a_istore_n (lv' := [(3, _), (0, _), (1, _), (2, _)]) C dX5_tryYear_20 rfl (by decide) rfl ?_
  refine a_iconst (v := 0) C dX5_tryYear_21 (by decide) ?_
  refine a_istore (lv' := [(4, _), (3, _), (0, _), (1, _), (2, _)]) C dX5_tryYear_22 (by decide) rfl ?_
  obtain ⟨s10, hl, h⟩ := bd_some h
  have hE : Ex_X5_tryYear_24 Y X x2 s10 := by
    replace h := Option.some.inj h
    subst h
    exact a_vret C dX5_tryYear_114 hK
  have hA := aw_loop (At_X5_tryYear_24 Y X x2) (Ex_X5_tryYear_24 Y X x2) (fun _ _ hb hk => t_X5_tryYear_24_24b C hb hk) hl hE
  exact a_sub [2, 4, 1, 0] (hA) rfl
theorem m_X5_tryYear {Y : EY} (hY : HY Y) {x1 : Int32} {x2 : Int32} {M : Mem}  {r : Mem} (h : f_X5_tryYear x1 x2 M = some r) : MX Y yX5_tryYear cX5_tryYear 7 none rm_X5_tryYear [.ref (Y.2.2.2.1 0), .int x1, .int x2] M (none) r := MX.of hY (by decide) (Nat.le_of_ble_eq_true rfl) (fun _ hR C => a_sub [0, 1, 2] (t_X5_tryYear C  h hR) rfl)
abbrev rm_X5_year : Room := { frames := 4, cells := 0, slots := 0, locals := 97 }
noncomputable def f_X5_year (x1 : Int32) (x2 : Int32) (x3 : Int32) (M : Mem) : Option (Int32 × Mem) :=
  Option.bind (f_X5_isBelow x2 (9 : Int32)) (fun r1 => (if r1 = 0 then some ((-2 : Int32), M) else Option.bind (f_X5_isBelow x3 (2 : Int32)) (fun r2 => (if r2 = 0 then some ((-2 : Int32), M) else Option.bind (f_X5_tryYear x1 x2 M) (fun r3 => (if x3 = 0 then Option.bind (f_X4_begin 26 r3) (fun r5 => Option.bind (f_X4_go 26 (29 : Int32) r5) (fun r6 => Option.bind (f_X4_astrayBits 26 r6) (fun r7 => Option.bind (f_J6_bitCount_0f7a4 r7) (fun r8 => some (r8, r6))))) else Option.bind (f_X5_findFirstDays 26 r3) (fun r4 => some (r4.1, r4.2))))))))
theorem t_X5_year {Y : EY} {X : CX} (C : CK Y X cX5_year RX5 4 (some .int) rm_X5_year) {x1 : Int32} {x2 : Int32} {x3 : Int32} {M : Mem}  {res : Int32 × Mem} (h : f_X5_year x1 x2 x3 M = some res) (hK : RK Y X (some (.int res.1)) res.2) : AW Y X 4 0 [(0, .ref (Y.2.2.2.1 0)), (1, .int x1), (2, .int x2), (3, .int x3)] [] M := by
  unfold f_X5_year at h
  refine a_iload_n C dX5_year_0 2 rfl ?_
  refine a_bipush (v := 9) C dX5_year_1 (by decide) ?_
  obtain ⟨r1, hcr1, h⟩ := bd_some h
  refine a_callSi C dX5_year_3 ls_X5_82 lm_X5_isBelow ⟨rfl, rfl, by decide, by decide⟩ (m_X5_isBelow C.2.2.2.2.2.2.1 hcr1) rfl rfl (Nat.le_of_ble_eq_true rfl) ?_
  refine a_if_eq (tgt := 17) C dX5_year_6 (by decide) (fun hc => ?_) (fun hc => ?_)
  · replace h := ip hc h
    refine a_bipush (v := -2) C dX5_year_17 (by decide) ?_
    replace h := Option.some.inj h
    subst h
    exact a_iret C dX5_year_19 hK
  · replace h := iq hc h
    refine a_iload_n C dX5_year_9 3 rfl ?_
    refine a_iconst (v := 2) C dX5_year_10 (by decide) ?_
    obtain ⟨r2, hcr2, h⟩ := bd_some h
    refine a_callSi C dX5_year_11 ls_X5_82 lm_X5_isBelow ⟨rfl, rfl, by decide, by decide⟩ (m_X5_isBelow C.2.2.2.2.2.2.1 hcr2) rfl rfl (Nat.le_of_ble_eq_true rfl) ?_
    refine a_if_ne (tgt := 20) C dX5_year_14 (by decide) (fun hc => ?_) (fun hc => ?_)
    · replace h := iq hc h
      refine a_aload_n C dX5_year_20 0 rfl ?_
      refine a_iload_n C dX5_year_21 1 rfl ?_
      refine a_iload_n C dX5_year_22 2 rfl ?_
      obtain ⟨r3, hcr3, h⟩ := bd_some h
      refine a_callVv C dX5_year_23 lv_X5_249 lm_X5_tryYear ⟨rfl, rfl, by decide, by decide⟩ Kc_0 (m_X5_tryYear C.2.2.2.2.2.2.1 hcr3) rfl rfl (Nat.le_of_ble_eq_true rfl) ?_
      refine a_iload_n C dX5_year_26 3 rfl ?_
      refine a_if_ne (tgt := 57) C dX5_year_27 (by decide) (fun hc => ?_) (fun hc => ?_)
      · replace h := iq hc h
        refine a_aload_n C dX5_year_57 0 rfl ?_
        refine a_aload_n C dX5_year_58 0 rfl ?_
        refine a_getr (k1 := 26) C dX5_year_59 fl_X5_44 rfl Kc_0 rfl ?_
        obtain ⟨r4, hcr4, h⟩ := bd_some h
        refine a_callVi C dX5_year_62 lv_X5_173 lm_X5_findFirstDays ⟨rfl, rfl, by decide, by decide⟩ Kc_0 (m_X5_findFirstDays C.2.2.2.2.2.2.1 Kc_26 hcr4) rfl rfl (Nat.le_of_ble_eq_true rfl) ?_
        replace h := Option.some.inj h
        subst h
        exact a_iret C dX5_year_65 hK
      · replace h := ip hc h
        refine a_aload_n C dX5_year_30 0 rfl ?_
        refine a_getr (k1 := 26) C dX5_year_31 fl_X5_44 rfl Kc_0 rfl ?_
        obtain ⟨r5, hcr5, h⟩ := bd_some h
        refine a_callVv C dX5_year_34 lv_X5_203 lm_X4_begin ⟨rfl, rfl, by decide, by decide⟩ Kc_26 (m_X4_begin C.2.2.2.2.2.2.1 Kc_26 hcr5) rfl rfl (Nat.le_of_ble_eq_true rfl) ?_
        refine a_aload_n C dX5_year_37 0 rfl ?_
        refine a_getr (k1 := 26) C dX5_year_38 fl_X5_44 rfl Kc_0 rfl ?_
        refine a_bipush (v := 29) C dX5_year_41 (by decide) ?_
        obtain ⟨r6, hcr6, h⟩ := bd_some h
        refine a_callVv C dX5_year_43 lv_X5_206 lm_X4_go ⟨rfl, rfl, by decide, by decide⟩ Kc_26 (m_X4_go C.2.2.2.2.2.2.1 Kc_26 hcr6) rfl rfl (Nat.le_of_ble_eq_true rfl) ?_
        refine a_aload_n C dX5_year_46 0 rfl ?_
        refine a_getr (k1 := 26) C dX5_year_47 fl_X5_44 rfl Kc_0 rfl ?_
        obtain ⟨r7, hcr7, h⟩ := bd_some h
        refine a_callVi C dX5_year_50 lv_X5_177 lm_X4_astrayBits ⟨rfl, rfl, by decide, by decide⟩ Kc_26 (m_X4_astrayBits C.2.2.2.2.2.2.1 Kc_26 hcr7) rfl rfl (Nat.le_of_ble_eq_true rfl) ?_
        obtain ⟨r8, hcr8, h⟩ := bd_some h
        refine a_callSi C dX5_year_53 ls_X5_209 lm_J6_bitCount_0f7a4 ⟨rfl, rfl, by decide, by decide⟩ (m_J6_bitCount_0f7a4 C.2.2.2.2.2.2.1 hcr8) rfl rfl (Nat.le_of_ble_eq_true rfl) ?_
        replace h := Option.some.inj h
        subst h
        exact a_iret C dX5_year_56 hK
    · replace h := ip hc h
      refine a_bipush (v := -2) C dX5_year_17 (by decide) ?_
      replace h := Option.some.inj h
      subst h
      exact a_iret C dX5_year_19 hK
theorem m_X5_year {Y : EY} (hY : HY Y) {x1 : Int32} {x2 : Int32} {x3 : Int32} {M : Mem}  {r : Int32 × Mem} (h : f_X5_year x1 x2 x3 M = some r) : MX Y yX5_year cX5_year 4 (some .int) rm_X5_year [.ref (Y.2.2.2.1 0), .int x1, .int x2, .int x3] M (some (.int r.1)) r.2 := MX.of hY (by decide) (Nat.le_of_ble_eq_true rfl) (fun _ hR C => a_sub [0, 1, 2, 3] (t_X5_year C  h hR) rfl)
abbrev rm_X5_sheet : Room := { frames := 1, cells := 0, slots := 0, locals := 23 }
noncomputable def f_X5_sheet (x1 : Int32) (x2 : Int32) (x3 : Int32) (M : Mem) : Option (Int32 × Mem) :=
  Option.bind (f_X5_isBelow x1 (4 : Int32)) (fun r1 => (if r1 = 0 then some ((-2 : Int32), M) else Option.bind (f_X5_isBelow x2 (3 : Int32)) (fun r2 => (if r2 = 0 then some ((-2 : Int32), M) else (if x3 ≤ (60 : Int32) then (if 0 ≤ x3 then ck (inb x1 4) (Option.bind (f_X2_renew (rf 36 (x1).toNatClampNeg) x2 x3 M) (fun r4 => some (x3, r4))) else Option.bind (f_X5_finding (5 : Int32) M) (fun r5 => some (r5.1, r5.2))) else some ((-2 : Int32), M))))))
theorem t_X5_sheet {Y : EY} {X : CX} (C : CK Y X cX5_sheet RX5 4 (some .int) rm_X5_sheet) {x1 : Int32} {x2 : Int32} {x3 : Int32} {M : Mem}  {res : Int32 × Mem} (h : f_X5_sheet x1 x2 x3 M = some res) (hK : RK Y X (some (.int res.1)) res.2) : AW Y X 4 0 [(0, .ref (Y.2.2.2.1 0)), (1, .int x1), (2, .int x2), (3, .int x3)] [] M := by
  unfold f_X5_sheet at h
  refine a_iload_n C dX5_sheet_0 1 rfl ?_
  refine a_iconst (v := 4) C dX5_sheet_1 (by decide) ?_
  obtain ⟨r1, hcr1, h⟩ := bd_some h
  refine a_callSi C dX5_sheet_2 ls_X5_82 lm_X5_isBelow ⟨rfl, rfl, by decide, by decide⟩ (m_X5_isBelow C.2.2.2.2.2.2.1 hcr1) rfl rfl (Nat.le_of_ble_eq_true rfl) ?_
  refine a_if_eq (tgt := 22) C dX5_sheet_5 (by decide) (fun hc => ?_) (fun hc => ?_)
  · replace h := ip hc h
    refine a_bipush (v := -2) C dX5_sheet_22 (by decide) ?_
    replace h := Option.some.inj h
    subst h
    exact a_iret C dX5_sheet_24 hK
  · replace h := iq hc h
    refine a_iload_n C dX5_sheet_8 2 rfl ?_
    refine a_iconst (v := 3) C dX5_sheet_9 (by decide) ?_
    obtain ⟨r2, hcr2, h⟩ := bd_some h
    refine a_callSi C dX5_sheet_10 ls_X5_82 lm_X5_isBelow ⟨rfl, rfl, by decide, by decide⟩ (m_X5_isBelow C.2.2.2.2.2.2.1 hcr2) rfl rfl (Nat.le_of_ble_eq_true rfl) ?_
    refine a_if_eq (tgt := 22) C dX5_sheet_13 (by decide) (fun hc => ?_) (fun hc => ?_)
    · replace h := ip hc h
      refine a_bipush (v := -2) C dX5_sheet_22 (by decide) ?_
      replace h := Option.some.inj h
      subst h
      exact a_iret C dX5_sheet_24 hK
    · replace h := iq hc h
      refine a_iload_n C dX5_sheet_16 3 rfl ?_
      refine a_bipush (v := 60) C dX5_sheet_17 (by decide) ?_
      refine a_icmp_le (tgt := 25) C dX5_sheet_19 (by decide) (fun hc => ?_) (fun hc => ?_)
      · replace h := ip hc h
        refine a_iload_n C dX5_sheet_25 3 rfl ?_
        refine a_if_ge (tgt := 35) C dX5_sheet_26 (by decide) (fun hc => ?_) (fun hc => ?_)
        · replace h := ip hc h
          refine a_aload_n C dX5_sheet_35 0 rfl ?_
          refine a_getr (k1 := 36) C dX5_sheet_36 fl_X5_56 rfl Kc_0 rfl ?_
          refine a_iload_n C dX5_sheet_39 1 rfl ?_
          obtain ⟨hb3, h⟩ := ck_some h
          refine a_aald C dX5_sheet_40 Kc_36 hb3 ?_
          refine a_iload_n C dX5_sheet_41 2 rfl ?_
          refine a_iload_n C dX5_sheet_42 3 rfl ?_
          obtain ⟨r4, hcr4, h⟩ := bd_some h
          refine a_callVv C dX5_sheet_43 lv_X5_252 lm_X2_renew ⟨rfl, rfl, by decide, by decide⟩ (K_sheet hb3) (m_X2_renew C.2.2.2.2.2.2.1 (K_sheet hb3) hcr4) rfl rfl (Nat.le_of_ble_eq_true rfl) ?_
          refine a_iload_n C dX5_sheet_46 3 rfl ?_
          replace h := Option.some.inj h
          subst h
          exact a_iret C dX5_sheet_47 hK
        · replace h := iq hc h
          refine a_aload_n C dX5_sheet_29 0 rfl ?_
          refine a_iconst (v := 5) C dX5_sheet_30 (by decide) ?_
          obtain ⟨r5, hcr5, h⟩ := bd_some h
          refine a_callVi C dX5_sheet_31 lv_X5_143 lm_X5_finding ⟨rfl, rfl, by decide, by decide⟩ Kc_0 (m_X5_finding C.2.2.2.2.2.2.1 hcr5) rfl rfl (Nat.le_of_ble_eq_true rfl) ?_
          replace h := Option.some.inj h
          subst h
          exact a_iret C dX5_sheet_34 hK
      · replace h := iq hc h
        refine a_bipush (v := -2) C dX5_sheet_22 (by decide) ?_
        replace h := Option.some.inj h
        subst h
        exact a_iret C dX5_sheet_24 hK
theorem m_X5_sheet {Y : EY} (hY : HY Y) {x1 : Int32} {x2 : Int32} {x3 : Int32} {M : Mem}  {r : Int32 × Mem} (h : f_X5_sheet x1 x2 x3 M = some r) : MX Y yX5_sheet cX5_sheet 4 (some .int) rm_X5_sheet [.ref (Y.2.2.2.1 0), .int x1, .int x2, .int x3] M (some (.int r.1)) r.2 := MX.of hY (by decide) (Nat.le_of_ble_eq_true rfl) (fun _ hR C => a_sub [0, 1, 2, 3] (t_X5_sheet C  h hR) rfl)
abbrev rm_X5_lose : Room := { frames := 1, cells := 0, slots := 0, locals := 21 }
noncomputable def f_X5_lose (x1 : Int32) (M : Mem) : Option (Int32 × Mem) :=
  Option.bind (f_X5_isBelow x1 (4 : Int32)) (fun r1 => (if r1 = 0 then some ((-2 : Int32), M) else ck (inb x1 4) ((if (M (rf 36 (x1).toNatClampNeg) 0) = (-1 : Int32) then Option.bind (f_X5_finding (1 : Int32) M) (fun r3 => some (r3.1, r3.2)) else some (((upM M (rf 36 (x1).toNatClampNeg) 0 (-1 : Int32)) (rf 36 (x1).toNatClampNeg) 1), (upM M (rf 36 (x1).toNatClampNeg) 0 (-1 : Int32)))))))
theorem t_X5_lose {Y : EY} {X : CX} (C : CK Y X cX5_lose RX5 3 (some .int) rm_X5_lose) {x1 : Int32} {M : Mem}  {res : Int32 × Mem} (h : f_X5_lose x1 M = some res) (hK : RK Y X (some (.int res.1)) res.2) : AW Y X 3 0 [(0, .ref (Y.2.2.2.1 0)), (1, .int x1)] [] M := by
  unfold f_X5_lose at h
  refine a_iload_n C dX5_lose_0 1 rfl ?_
  refine a_iconst (v := 4) C dX5_lose_1 (by decide) ?_
  obtain ⟨r1, hcr1, h⟩ := bd_some h
  refine a_callSi C dX5_lose_2 ls_X5_82 lm_X5_isBelow ⟨rfl, rfl, by decide, by decide⟩ (m_X5_isBelow C.2.2.2.2.2.2.1 hcr1) rfl rfl (Nat.le_of_ble_eq_true rfl) ?_
  refine a_if_ne (tgt := 11) C dX5_lose_5 (by decide) (fun hc => ?_) (fun hc => ?_)
  · replace h := iq hc h
    refine a_aload_n C dX5_lose_11 0 rfl ?_
    refine a_getr (k1 := 36) C dX5_lose_12 fl_X5_56 rfl Kc_0 rfl ?_
    refine a_iload_n C dX5_lose_15 1 rfl ?_
    obtain ⟨hb2, h⟩ := ck_some h
    refine a_aald C dX5_lose_16 Kc_36 hb2 ?_
    refine a_astore_n (lv' := [(2, _), (0, _), (1, _)]) C dX5_lose_17 rfl (by decide) rfl ?_
    refine a_aload_n C dX5_lose_18 0 rfl ?_
    refine a_geti C dX5_lose_19 fl_X5_140 rfl (K_sheet hb2) ?_
    refine a_iconst (v := -1) C dX5_lose_22 (by decide) ?_
    refine a_icmp_ne (tgt := 32) C dX5_lose_23 (by decide) (fun hc => ?_) (fun hc => ?_)
    · replace h := iq hc h
      refine a_aload_n C dX5_lose_32 0 rfl ?_
      refine a_iconst (v := -1) C dX5_lose_33 (by decide) ?_
      refine a_put (ty := .int) C dX5_lose_34 fl_X5_140 (fp_2_0) rfl (K_sheet hb2) rfl rfl ?_
      refine a_aload_n C dX5_lose_37 0 rfl ?_
      refine a_geti C dX5_lose_38 fl_X5_147 rfl (K_sheet hb2) ?_
      replace h := Option.some.inj h
      subst h
      exact a_iret C dX5_lose_41 hK
    · replace h := ip hc h
      refine a_aload_n C dX5_lose_26 1 rfl ?_
      refine a_iconst (v := 1) C dX5_lose_27 (by decide) ?_
      obtain ⟨r3, hcr3, h⟩ := bd_some h
      refine a_callVi C dX5_lose_28 lv_X5_143 lm_X5_finding ⟨rfl, rfl, by decide, by decide⟩ Kc_0 (m_X5_finding C.2.2.2.2.2.2.1 hcr3) rfl rfl (Nat.le_of_ble_eq_true rfl) ?_
      replace h := Option.some.inj h
      subst h
      exact a_iret C dX5_lose_31 hK
  · replace h := ip hc h
    refine a_bipush (v := -2) C dX5_lose_8 (by decide) ?_
    replace h := Option.some.inj h
    subst h
    exact a_iret C dX5_lose_10 hK
theorem m_X5_lose {Y : EY} (hY : HY Y) {x1 : Int32} {M : Mem}  {r : Int32 × Mem} (h : f_X5_lose x1 M = some r) : MX Y yX5_lose cX5_lose 3 (some .int) rm_X5_lose [.ref (Y.2.2.2.1 0), .int x1] M (some (.int r.1)) r.2 := MX.of hY (by decide) (Nat.le_of_ble_eq_true rfl) (fun _ hR C => a_sub [0, 1] (t_X5_lose C  h hR) rfl)
abbrev rm_X5_lay : Room := { frames := 2, cells := 0, slots := 0, locals := 43 }
noncomputable def f_X5_lay (x1 : Int32) (x2 : Int32) (x3 : Int32) (x4 : Int32) (M : Mem) : Option (Int32 × Mem) :=
  Option.bind (f_X5_isBelow x1 (4 : Int32)) (fun r1 => (if r1 = 0 then some ((-2 : Int32), M) else Option.bind (f_X5_isBelow x2 (3 : Int32)) (fun r2 => (if r2 = 0 then some ((-2 : Int32), M) else ck (inb x1 4) (Option.bind (f_X2_whatIsWrong (rf 36 (x1).toNatClampNeg) x2 x3 M) (fun r4 => (if r4 = 0 then ck (inb x1 4) (Option.bind (f_X2_put (rf 36 (x1).toNatClampNeg) x3 x4 M) (fun r6 => some ((1 : Int32), r6))) else Option.bind (f_X5_finding r4 M) (fun r7 => some (r7.1, r7.2)))))))))
theorem t_X5_lay {Y : EY} {X : CX} (C : CK Y X cX5_lay RX5 6 (some .int) rm_X5_lay) {x1 : Int32} {x2 : Int32} {x3 : Int32} {x4 : Int32} {M : Mem}  {res : Int32 × Mem} (h : f_X5_lay x1 x2 x3 x4 M = some res) (hK : RK Y X (some (.int res.1)) res.2) : AW Y X 6 0 [(0, .ref (Y.2.2.2.1 0)), (1, .int x1), (2, .int x2), (3, .int x3), (4, .int x4)] [] M := by
  unfold f_X5_lay at h
  refine a_iload_n C dX5_lay_0 1 rfl ?_
  refine a_iconst (v := 4) C dX5_lay_1 (by decide) ?_
  obtain ⟨r1, hcr1, h⟩ := bd_some h
  refine a_callSi C dX5_lay_2 ls_X5_82 lm_X5_isBelow ⟨rfl, rfl, by decide, by decide⟩ (m_X5_isBelow C.2.2.2.2.2.2.1 hcr1) rfl rfl (Nat.le_of_ble_eq_true rfl) ?_
  refine a_if_eq (tgt := 16) C dX5_lay_5 (by decide) (fun hc => ?_) (fun hc => ?_)
  · replace h := ip hc h
    refine a_bipush (v := -2) C dX5_lay_16 (by decide) ?_
    replace h := Option.some.inj h
    subst h
    exact a_iret C dX5_lay_18 hK
  · replace h := iq hc h
    refine a_iload_n C dX5_lay_8 2 rfl ?_
    refine a_iconst (v := 3) C dX5_lay_9 (by decide) ?_
    obtain ⟨r2, hcr2, h⟩ := bd_some h
    refine a_callSi C dX5_lay_10 ls_X5_82 lm_X5_isBelow ⟨rfl, rfl, by decide, by decide⟩ (m_X5_isBelow C.2.2.2.2.2.2.1 hcr2) rfl rfl (Nat.le_of_ble_eq_true rfl) ?_
    refine a_if_ne (tgt := 19) C dX5_lay_13 (by decide) (fun hc => ?_) (fun hc => ?_)
    · replace h := iq hc h
      refine a_aload_n C dX5_lay_19 0 rfl ?_
      refine a_getr (k1 := 36) C dX5_lay_20 fl_X5_56 rfl Kc_0 rfl ?_
      refine a_iload_n C dX5_lay_23 1 rfl ?_
      obtain ⟨hb3, h⟩ := ck_some h
      refine a_aald C dX5_lay_24 Kc_36 hb3 ?_
      refine a_iload_n C dX5_lay_25 2 rfl ?_
      refine a_iload_n C dX5_lay_26 3 rfl ?_
      obtain ⟨r4, hcr4, h⟩ := bd_some h
      refine a_callVi C dX5_lay_27 lv_X5_255 lm_X2_whatIsWrong ⟨rfl, rfl, by decide, by decide⟩ (K_sheet hb3) (m_X2_whatIsWrong C.2.2.2.2.2.2.1 (K_sheet hb3) hcr4) rfl rfl (Nat.le_of_ble_eq_true rfl) ?_
      refine a_istore (lv' := [(5, _), (0, _), (1, _), (2, _), (3, _), (4, _)]) C dX5_lay_30 (by decide) rfl ?_
      refine a_iload C dX5_lay_32 0 rfl ?_
      refine a_if_eq (tgt := 44) C dX5_lay_34 (by decide) (fun hc => ?_) (fun hc => ?_)
      · replace h := ip hc h
        refine a_aload_n C dX5_lay_44 1 rfl ?_
        refine a_getr (k1 := 36) C dX5_lay_45 fl_X5_56 rfl Kc_0 rfl ?_
        refine a_iload_n C dX5_lay_48 2 rfl ?_
        obtain ⟨hb5, h⟩ := ck_some h
        refine a_aald C dX5_lay_49 Kc_36 hb5 ?_
        refine a_iload_n C dX5_lay_50 4 rfl ?_
        refine a_iload C dX5_lay_51 5 rfl ?_
        obtain ⟨r6, hcr6, h⟩ := bd_some h
        refine a_callVv C dX5_lay_53 lv_X5_258 lm_X2_put ⟨rfl, rfl, by decide, by decide⟩ (K_sheet hb5) (m_X2_put C.2.2.2.2.2.2.1 (K_sheet hb5) hcr6) rfl rfl (Nat.le_of_ble_eq_true rfl) ?_
        refine a_iconst (v := 1) C dX5_lay_56 (by decide) ?_
        replace h := Option.some.inj h
        subst h
        exact a_iret C dX5_lay_57 hK
      · replace h := iq hc h
        refine a_aload_n C dX5_lay_37 1 rfl ?_
        refine a_iload C dX5_lay_38 0 rfl ?_
        obtain ⟨r7, hcr7, h⟩ := bd_some h
        refine a_callVi C dX5_lay_40 lv_X5_143 lm_X5_finding ⟨rfl, rfl, by decide, by decide⟩ Kc_0 (m_X5_finding C.2.2.2.2.2.2.1 hcr7) rfl rfl (Nat.le_of_ble_eq_true rfl) ?_
        replace h := Option.some.inj h
        subst h
        exact a_iret C dX5_lay_43 hK
    · replace h := ip hc h
      refine a_bipush (v := -2) C dX5_lay_16 (by decide) ?_
      replace h := Option.some.inj h
      subst h
      exact a_iret C dX5_lay_18 hK
theorem m_X5_lay {Y : EY} (hY : HY Y) {x1 : Int32} {x2 : Int32} {x3 : Int32} {x4 : Int32} {M : Mem}  {r : Int32 × Mem} (h : f_X5_lay x1 x2 x3 x4 M = some r) : MX Y yX5_lay cX5_lay 6 (some .int) rm_X5_lay [.ref (Y.2.2.2.1 0), .int x1, .int x2, .int x3, .int x4] M (some (.int r.1)) r.2 := MX.of hY (by decide) (Nat.le_of_ble_eq_true rfl) (fun _ hR C => a_sub [0, 1, 2, 3, 4] (t_X5_lay C  h hR) rfl)
