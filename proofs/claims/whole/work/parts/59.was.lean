-- WHAT WAS HEARD: whose accent one had, of what sort one was
def setO (σ : SS) (k v : Nat) : SS := (nA σ, so σ, mk0 σ, nP σ, ki σ, fun p => if p = k then v else ow σ p, hs σ)
def setK (σ : SS) (k v : Nat) : SS := (nA σ, so σ, mk0 σ, nP σ, fun p => if p = k then v else ki σ p, ow σ, hs σ)
theorem setO_ok {σ : SS} {k v : Nat} (ok : OKS σ) (hv : v < 8) : OKS (setO σ k v) := by
  refine ⟨ok.1, ok.2.1, ok.2.2.1, ok.2.2.2.1, fun p => ?_, ok.2.2.2.2.2⟩
  show (if p = k then v else ow σ p) < 8
  split
  · exact hv
  · exact ok.2.2.2.2.1 p
theorem setK_ok {σ : SS} {k v : Nat} (ok : OKS σ) (hv : v < 3) : OKS (setK σ k v) := by
  refine ⟨ok.1, ok.2.1, ok.2.2.1, fun p => ?_, ok.2.2.2.2.1, ok.2.2.2.2.2⟩
  show (if p = k then v else ki σ p) < 3
  split
  · exact hv
  · exact ok.2.2.2.1 p
theorem SR_setO {σ : SS} {M : Mem} {k v : Nat} (h : SR 13 σ M) : SR 13 (setO σ k v) (upM M 17 k (nI v)) := by
  obtain ⟨⟨a1, a2, a3⟩, a4, a5, a6, a7, a8⟩ := h
  refine ⟨⟨?_, ?_, ?_⟩, fun a ha => ?_, fun a s ha hs => ?_, fun p hp => ?_, fun p hp => ?_, fun i h hi => ?_⟩
  · rw [upM_n (by omega)]; exact a1
  · rw [upM_n (by omega)]; exact a2
  · rw [upM_n (by omega)]; exact a3
  · rw [upM_n (by omega)]; exact a4 a ha
  · rw [upM_n (by omega)]; exact a5 a s ha hs
  · rw [upM_n (by omega)]; exact a6 p hp
  · show upM M 17 k (nI v) 17 p = nI (if p = k then v else ow σ p)
    by_cases q : p = k
    · subst q
      rw [upM_s, if_pos rfl]
    · rw [upM_m q, if_neg q]
      exact a7 p hp
  · rw [upM_n (by omega), upM_n (by omega), upM_n (by omega)]
    exact a8 i h hi
theorem SR_setK {σ : SS} {M : Mem} {k v : Nat} (h : SR 13 σ M) : SR 13 (setK σ k v) (upM M 16 k (nI v)) := by
  obtain ⟨⟨a1, a2, a3⟩, a4, a5, a6, a7, a8⟩ := h
  refine ⟨⟨?_, ?_, ?_⟩, fun a ha => ?_, fun a s ha hs => ?_, fun p hp => ?_, fun p hp => ?_, fun i h hi => ?_⟩
  · rw [upM_n (by omega)]; exact a1
  · rw [upM_n (by omega)]; exact a2
  · rw [upM_n (by omega)]; exact a3
  · rw [upM_n (by omega)]; exact a4 a ha
  · rw [upM_n (by omega)]; exact a5 a s ha hs
  · show upM M 16 k (nI v) 16 p = nI (if p = k then v else ki σ p)
    by_cases q : p = k
    · subst q
      rw [upM_s, if_pos rfl]
    · rw [upM_m q, if_neg q]
      exact a6 p hp
  · rw [upM_n (by omega)]; exact a7 p hp
  · rw [upM_n (by omega), upM_n (by omega), upM_n (by omega)]
    exact a8 i h hi
noncomputable def whoseV (α : AS) (k : Nat) : Nat := bitsOf (fun v => hears α (setO (sA α) k v)) 8
noncomputable def sortV (α : AS) (k : Nat) : Nat := bitsOf (fun v => hears α (setK (sA α) k v)) 3
theorem c_whose {α : AS} {M : Mem} {k : Nat} (ok : OKA α) (h : CI α M) (hk : k < nP (sA α)) : ∃ M', f_X5_whoseBits (nI k) M = some (nI (whoseV α k), M') ∧ CI α M' ∧ FrT M M' := by
  have ok2 := ok.s.1.2.1
  unfold f_X5_whoseBits whoseV
  obtain ⟨e, l1, l2, l3⟩ := loop_inv (B := fun s3 : Int32 × Int32 × Mem => f_X5_whoseBits_4_4b (nI k) s3.1 s3.2.1 s3.2.2) (fun i q => q.1 = nI (bitsOf (fun v => hears α (setO (sA α) k v)) i) ∧ q.2.1 = nI i ∧ FrT M q.2.2)
    (fun q => q.1 = nI (bitsOf (fun v => hears α (setO (sA α) k v)) 8) ∧ FrT M q.2.2) 8 (s := (nI 0, nI 0, M))
    (by exact ⟨rfl, rfl, FrT.rf⟩)
    (by
      rintro i ⟨x, y, N⟩ hi ⟨hx, hy, c1⟩
      dsimp only at hx hy c1 ⊢
      subst hx hy
      have ci := h.frT c1
      obtain ⟨M1, a1, a2, a3⟩ := c_become ok.s ci.2.1
      have t2 : FrT N (upM M1 17 k (nI i)) := fun j hj => by rw [upM_n (by omega)]; exact a3.t1 j hj
      obtain ⟨r, M3, d1, d2, d3⟩ := c_comes ok (setO_ok (k := k) ok.s hi) (SR_setO (k := k) (v := i) a2) (ci.2.2.2.2.1.frT t2)
      have t3 : FrT M M3 := (c1.tr t2).tr d3.t2
      unfold f_X5_whoseBits_4_4b f_X5_whoseBits_44_4
      refine ⟨(nI (bitsOf (fun v => hears α (setO (sA α) k v)) (i + 1)), nI (i + 1), M3), ?_, rfl, rfl, t3⟩
      rcases d2 with ⟨rfl, d2⟩ | ⟨rfl, d2⟩
      · rw [bitsOf_t (P := fun v => hears α (setO (sA α) k v)) d2, ← nI_or2 (bitsOf_lt i) (by omega)]
        simp (disch := omega) only [li_0, li_1, li_2, li_3, li_4, li_5, li_6, li_7, li_8, li_9, li_10, li_11, li_12, li_14, li_15, li_16, li_18, li_20, li_22, li_23, li_24, li_29, li_30, li_31, li_32, li_33, li_40, li_48, li_54, li_55, li_56, li_57, li_59, li_60, li_63, li_64, li_97, li_98, li_99, li_100, li_103, li_107, li_108, li_112, li_121, li_206, li_212, li_232, li_240, li_255, li_256, li_261, li_270, ng_1, ng_2, ng_3, ng_4, ng_9, ng_10, m1_1, nI_m1, m1_nI, if_true, if_false, nI_add, pk_mul, pk_sub, nI_div, nI_rem, nI_eq, nI_leI, nI_ltI, nI_clamp, ck_in, ck_nz, bind_sm, upM_n, upM_m, upM_s, if_pos, if_neg, a1, d1]
      · rw [bitsOf_f (P := fun v => hears α (setO (sA α) k v)) d2]
        simp (disch := omega) only [li_0, li_1, li_2, li_3, li_4, li_5, li_6, li_7, li_8, li_9, li_10, li_11, li_12, li_14, li_15, li_16, li_18, li_20, li_22, li_23, li_24, li_29, li_30, li_31, li_32, li_33, li_40, li_48, li_54, li_55, li_56, li_57, li_59, li_60, li_63, li_64, li_97, li_98, li_99, li_100, li_103, li_107, li_108, li_112, li_121, li_206, li_212, li_232, li_240, li_255, li_256, li_261, li_270, ng_1, ng_2, ng_3, ng_4, ng_9, ng_10, m1_1, nI_m1, m1_nI, if_true, if_false, nI_add, pk_mul, pk_sub, nI_div, nI_rem, nI_eq, nI_leI, nI_ltI, nI_clamp, ck_in, ck_nz, bind_sm, upM_n, upM_m, upM_s, if_pos, if_neg, a1, d1])
    (by
      rintro ⟨x, y, N⟩ ⟨hx, hy, c1⟩
      dsimp only at hx hy c1 ⊢
      subst hy
      refine ⟨(x, nI 8, N), ?_, hx, c1⟩
      unfold f_X5_whoseBits_4_4b
      simp (disch := omega) only [li_0, li_1, li_2, li_3, li_4, li_5, li_6, li_7, li_8, li_9, li_10, li_11, li_12, li_14, li_15, li_16, li_18, li_20, li_22, li_23, li_24, li_29, li_30, li_31, li_32, li_33, li_40, li_48, li_54, li_55, li_56, li_57, li_59, li_60, li_63, li_64, li_97, li_98, li_99, li_100, li_103, li_107, li_108, li_112, li_121, li_206, li_212, li_232, li_240, li_255, li_256, li_261, li_270, ng_1, ng_2, ng_3, ng_4, ng_9, ng_10, m1_1, nI_m1, m1_nI, if_true, if_false, nI_add, pk_mul, pk_sub, nI_div, nI_rem, nI_eq, nI_leI, nI_ltI, nI_clamp, ck_in, ck_nz, bind_sm, upM_n, upM_m, upM_s, if_pos, if_neg])
  refine ⟨e.2.2, ?_, h.frT l3, l3⟩
  simp only [li_0, li_1, li_2, li_3, li_4, li_5, li_6, li_7, li_8, li_9, li_10, li_11, li_12, li_14, li_15, li_16, li_18, li_20, li_22, li_23, li_24, li_29, li_30, li_31, li_32, li_33, li_40, li_48, li_54, li_55, li_56, li_57, li_59, li_60, li_63, li_64, li_97, li_98, li_99, li_100, li_103, li_107, li_108, li_112, li_121, li_206, li_212, li_232, li_240, li_255, li_256, li_261, li_270, ng_1, ng_2, ng_3, ng_4, ng_9, ng_10, m1_1, nI_m1, m1_nI, if_true, if_false, nI_add, pk_mul, pk_sub, nI_div, nI_rem, nI_eq, nI_leI, nI_ltI, nI_clamp, ck_in, ck_nz, bind_sm, upM_n, upM_m, upM_s, if_pos, if_neg, l1, l2]
theorem c_sort {α : AS} {M : Mem} {k : Nat} (ok : OKA α) (h : CI α M) (hk : k < nP (sA α)) : ∃ M', f_X5_sortBits (nI k) M = some (nI (sortV α k), M') ∧ CI α M' ∧ FrT M M' := by
  have ok2 := ok.s.1.2.1
  unfold f_X5_sortBits sortV
  obtain ⟨e, l1, l2, l3⟩ := loop_inv (B := fun s3 : Int32 × Int32 × Mem => f_X5_sortBits_4_4b (nI k) s3.1 s3.2.1 s3.2.2) (fun i q => q.1 = nI (bitsOf (fun v => hears α (setK (sA α) k v)) i) ∧ q.2.1 = nI i ∧ FrT M q.2.2)
    (fun q => q.1 = nI (bitsOf (fun v => hears α (setK (sA α) k v)) 3) ∧ FrT M q.2.2) 3 (s := (nI 0, nI 0, M))
    (by exact ⟨rfl, rfl, FrT.rf⟩)
    (by
      rintro i ⟨x, y, N⟩ hi ⟨hx, hy, c1⟩
      dsimp only at hx hy c1 ⊢
      subst hx hy
      have ci := h.frT c1
      obtain ⟨M1, a1, a2, a3⟩ := c_become ok.s ci.2.1
      have t2 : FrT N (upM M1 16 k (nI i)) := fun j hj => by rw [upM_n (by omega)]; exact a3.t1 j hj
      obtain ⟨r, M3, d1, d2, d3⟩ := c_comes ok (setK_ok (k := k) ok.s hi) (SR_setK (k := k) (v := i) a2) (ci.2.2.2.2.1.frT t2)
      have t3 : FrT M M3 := (c1.tr t2).tr d3.t2
      unfold f_X5_sortBits_4_4b f_X5_sortBits_43_4
      refine ⟨(nI (bitsOf (fun v => hears α (setK (sA α) k v)) (i + 1)), nI (i + 1), M3), ?_, rfl, rfl, t3⟩
      rcases d2 with ⟨rfl, d2⟩ | ⟨rfl, d2⟩
      · rw [bitsOf_t (P := fun v => hears α (setK (sA α) k v)) d2, ← nI_or2 (bitsOf_lt i) (by omega)]
        simp (disch := omega) only [li_0, li_1, li_2, li_3, li_4, li_5, li_6, li_7, li_8, li_9, li_10, li_11, li_12, li_14, li_15, li_16, li_18, li_20, li_22, li_23, li_24, li_29, li_30, li_31, li_32, li_33, li_40, li_48, li_54, li_55, li_56, li_57, li_59, li_60, li_63, li_64, li_97, li_98, li_99, li_100, li_103, li_107, li_108, li_112, li_121, li_206, li_212, li_232, li_240, li_255, li_256, li_261, li_270, ng_1, ng_2, ng_3, ng_4, ng_9, ng_10, m1_1, nI_m1, m1_nI, if_true, if_false, nI_add, pk_mul, pk_sub, nI_div, nI_rem, nI_eq, nI_leI, nI_ltI, nI_clamp, ck_in, ck_nz, bind_sm, upM_n, upM_m, upM_s, if_pos, if_neg, a1, d1]
      · rw [bitsOf_f (P := fun v => hears α (setK (sA α) k v)) d2]
        simp (disch := omega) only [li_0, li_1, li_2, li_3, li_4, li_5, li_6, li_7, li_8, li_9, li_10, li_11, li_12, li_14, li_15, li_16, li_18, li_20, li_22, li_23, li_24, li_29, li_30, li_31, li_32, li_33, li_40, li_48, li_54, li_55, li_56, li_57, li_59, li_60, li_63, li_64, li_97, li_98, li_99, li_100, li_103, li_107, li_108, li_112, li_121, li_206, li_212, li_232, li_240, li_255, li_256, li_261, li_270, ng_1, ng_2, ng_3, ng_4, ng_9, ng_10, m1_1, nI_m1, m1_nI, if_true, if_false, nI_add, pk_mul, pk_sub, nI_div, nI_rem, nI_eq, nI_leI, nI_ltI, nI_clamp, ck_in, ck_nz, bind_sm, upM_n, upM_m, upM_s, if_pos, if_neg, a1, d1])
    (by
      rintro ⟨x, y, N⟩ ⟨hx, hy, c1⟩
      dsimp only at hx hy c1 ⊢
      subst hy
      refine ⟨(x, nI 3, N), ?_, hx, c1⟩
      unfold f_X5_sortBits_4_4b
      simp (disch := omega) only [li_0, li_1, li_2, li_3, li_4, li_5, li_6, li_7, li_8, li_9, li_10, li_11, li_12, li_14, li_15, li_16, li_18, li_20, li_22, li_23, li_24, li_29, li_30, li_31, li_32, li_33, li_40, li_48, li_54, li_55, li_56, li_57, li_59, li_60, li_63, li_64, li_97, li_98, li_99, li_100, li_103, li_107, li_108, li_112, li_121, li_206, li_212, li_232, li_240, li_255, li_256, li_261, li_270, ng_1, ng_2, ng_3, ng_4, ng_9, ng_10, m1_1, nI_m1, m1_nI, if_true, if_false, nI_add, pk_mul, pk_sub, nI_div, nI_rem, nI_eq, nI_leI, nI_ltI, nI_clamp, ck_in, ck_nz, bind_sm, upM_n, upM_m, upM_s, if_pos, if_neg])
  refine ⟨e.2.2, ?_, h.frT l3, l3⟩
  simp only [li_0, li_1, li_2, li_3, li_4, li_5, li_6, li_7, li_8, li_9, li_10, li_11, li_12, li_14, li_15, li_16, li_18, li_20, li_22, li_23, li_24, li_29, li_30, li_31, li_32, li_33, li_40, li_48, li_54, li_55, li_56, li_57, li_59, li_60, li_63, li_64, li_97, li_98, li_99, li_100, li_103, li_107, li_108, li_112, li_121, li_206, li_212, li_232, li_240, li_255, li_256, li_261, li_270, ng_1, ng_2, ng_3, ng_4, ng_9, ng_10, m1_1, nI_m1, m1_nI, if_true, if_false, nI_add, pk_mul, pk_sub, nI_div, nI_rem, nI_eq, nI_leI, nI_ltI, nI_clamp, ck_in, ck_nz, bind_sm, upM_n, upM_m, upM_s, if_pos, if_neg, l1, l2]
theorem c_was_in {α : AS} {M : Mem} {k w : Nat} (ok : OKA α) (h : CI α M) (hk : k < nP (sA α)) (hw : w < 2) : ∃ M', f_X5_was (nI k) (nI w) M = some (nI (if w = 0 then whoseV α k else sortV α k), M') ∧ CI α M' ∧ Fr 0 49 M M' := by
  have ok2 := ok.s.1.2.1
  have e1 := c_hasP (i := k) h.2.1.1.2.1 (show nP (sA α) < 100 by omega) (show k < 100 by omega)
  unfold f_X5_was
  by_cases q : w = 0
  · obtain ⟨M', g1, g2, g3⟩ := c_whose ok h hk
    refine ⟨M', ?_, g2, g3.w⟩
    simp (disch := omega) only [li_0, li_1, li_2, li_3, li_4, li_5, li_6, li_7, li_8, li_9, li_10, li_11, li_12, li_14, li_15, li_16, li_18, li_20, li_22, li_23, li_24, li_29, li_30, li_31, li_32, li_33, li_40, li_48, li_54, li_55, li_56, li_57, li_59, li_60, li_63, li_64, li_97, li_98, li_99, li_100, li_103, li_107, li_108, li_112, li_121, li_206, li_212, li_232, li_240, li_255, li_256, li_261, li_270, ng_1, ng_2, ng_3, ng_4, ng_9, ng_10, m1_1, nI_m1, m1_nI, if_true, if_false, nI_add, pk_mul, pk_sub, nI_div, nI_rem, nI_eq, nI_leI, nI_ltI, nI_clamp, ck_in, ck_nz, bind_sm, upM_n, upM_m, upM_s, if_pos, if_neg, e1, below_in, g1]
  · obtain ⟨M', g1, g2, g3⟩ := c_sort ok h hk
    refine ⟨M', ?_, g2, g3.w⟩
    simp (disch := omega) only [li_0, li_1, li_2, li_3, li_4, li_5, li_6, li_7, li_8, li_9, li_10, li_11, li_12, li_14, li_15, li_16, li_18, li_20, li_22, li_23, li_24, li_29, li_30, li_31, li_32, li_33, li_40, li_48, li_54, li_55, li_56, li_57, li_59, li_60, li_63, li_64, li_97, li_98, li_99, li_100, li_103, li_107, li_108, li_112, li_121, li_206, li_212, li_232, li_240, li_255, li_256, li_261, li_270, ng_1, ng_2, ng_3, ng_4, ng_9, ng_10, m1_1, nI_m1, m1_nI, if_true, if_false, nI_add, pk_mul, pk_sub, nI_div, nI_rem, nI_eq, nI_leI, nI_ltI, nI_clamp, ck_in, ck_nz, bind_sm, upM_n, upM_m, upM_s, if_pos, if_neg, e1, below_in, g1]
theorem c_was_out {α : AS} {M : Mem} {x1 x2 : Int32} (ok : OKA α) (h : CI α M) (hx : ¬ (In x1 (nP (sA α)) ∧ In x2 2)) : f_X5_was x1 x2 M = some (m2, M) := by
  have ok2 := ok.s.1.2.1
  unfold f_X5_was
  by_cases q1 : In x1 (nP (sA α))
  · obtain ⟨k, hk, rfl⟩ := q1
    have e1 := c_hasP (i := k) h.2.1.1.2.1 (show nP (sA α) < 100 by omega) (show k < 100 by omega)
    have q2 : ¬ In x2 2 := fun r => hx ⟨⟨k, hk, rfl⟩, r⟩
    simp (disch := omega) only [li_0, li_1, li_2, li_3, li_4, li_5, li_6, li_7, li_8, li_9, li_10, li_11, li_12, li_14, li_15, li_16, li_18, li_20, li_22, li_23, li_24, li_29, li_30, li_31, li_32, li_33, li_40, li_48, li_54, li_55, li_56, li_57, li_59, li_60, li_63, li_64, li_97, li_98, li_99, li_100, li_103, li_107, li_108, li_112, li_121, li_206, li_212, li_232, li_240, li_255, li_256, li_261, li_270, ng_1, ng_2, ng_3, ng_4, ng_9, ng_10, m1_1, nI_m1, m1_nI, if_true, if_false, nI_add, pk_mul, pk_sub, nI_div, nI_rem, nI_eq, nI_leI, nI_ltI, nI_clamp, ck_in, ck_nz, bind_sm, upM_n, upM_m, upM_s, if_pos, if_neg, e1, below_out _ q2]
  · simp (disch := omega) only [li_0, li_1, li_2, li_3, li_4, li_5, li_6, li_7, li_8, li_9, li_10, li_11, li_12, li_14, li_15, li_16, li_18, li_20, li_22, li_23, li_24, li_29, li_30, li_31, li_32, li_33, li_40, li_48, li_54, li_55, li_56, li_57, li_59, li_60, li_63, li_64, li_97, li_98, li_99, li_100, li_103, li_107, li_108, li_112, li_121, li_206, li_212, li_232, li_240, li_255, li_256, li_261, li_270, ng_1, ng_2, ng_3, ng_4, ng_9, ng_10, m1_1, nI_m1, m1_nI, if_true, if_false, nI_add, pk_mul, pk_sub, nI_div, nI_rem, nI_eq, nI_leI, nI_ltI, nI_clamp, ck_in, ck_nz, bind_sm, upM_n, upM_m, upM_s, if_pos, if_neg, hasP_out h.2.1.1.2.1 (by omega) q1]
/-- the reference after lives in which only a person's place was written, and put back -/
theorem MJ.back3 {α : AS} {M N : Mem} (h : MJ α M) (c3 : ∀ k, (k < 59 ∨ k = 68) → N k = M k) : MJ α N :=
  ⟨h.1.fr (fun j _ _ => by rw [c3 49 (by omega)]) (fun k hk => c3 k (by omega)), h.2.fr (c3 49 (by omega)) (c3 56 (by omega)) (c3 57 (by omega))⟩
theorem MS_setO {σ : SS} {M : Mem} {k v : Nat} (h : MS σ M) : MS (setO σ k v) (upM M 57 (2 * k + 1) (nI v)) := by
  obtain ⟨⟨a1, a2⟩, a3, a4, a5, a6⟩ := h
  refine ⟨⟨?_, ?_⟩, fun a ha => ?_, fun a s ha hs => ?_, fun p hp => ?_, fun p hp => ?_⟩
  · rw [upM_n (by omega)]; exact a1
  · rw [upM_n (by omega)]; exact a2
  · rw [upM_n (by omega)]; exact a3 a ha
  · rw [upM_n (by omega)]; exact a4 a s ha hs
  · rw [upM_m (by omega)]; exact a5 p hp
  · show _ = nI (if p = k then v else ow σ p)
    by_cases q : p = k
    · subst q
      rw [upM_s, if_pos rfl]
    · rw [upM_m (by omega), if_neg q]
      exact a6 p hp
theorem MS_setK {σ : SS} {M : Mem} {k v : Nat} (h : MS σ M) : MS (setK σ k v) (upM M 57 (2 * k) (nI v)) := by
  obtain ⟨⟨a1, a2⟩, a3, a4, a5, a6⟩ := h
  refine ⟨⟨?_, ?_⟩, fun a ha => ?_, fun a s ha hs => ?_, fun p hp => ?_, fun p hp => ?_⟩
  · rw [upM_n (by omega)]; exact a1
  · rw [upM_n (by omega)]; exact a2
  · rw [upM_n (by omega)]; exact a3 a ha
  · rw [upM_n (by omega)]; exact a4 a s ha hs
  · show _ = nI (if p = k then v else ki σ p)
    by_cases q : p = k
    · subst q
      rw [upM_s, if_pos rfl]
    · rw [upM_m (by omega), if_neg q]
      exact a5 p hp
  · rw [upM_m (by omega)]; exact a6 p hp
theorem m_sortOf {α : AS} {M : Mem} {k : Nat} (ok : OKA α) (h : MJ α M) (hk : k < nP (sA α)) : ∃ M', f_X6_sortOf (nI k) M = some (nI (sortV α k), M') ∧ MJ α M' ∧ Fr 49 71 M M' := by
  have ok2 := ok.s.1.2.1
  unfold f_X6_sortOf sortV
  obtain ⟨e, l1, l2, l3, l4⟩ := loop_inv (B := fun s2 : Int32 × Int32 × Mem => f_X6_sortOf_14_14b (nI k) (M 57 (2 * k)) s2.1 s2.2.1 s2.2.2) (fun i q => q.1 = nI (bitsOf (fun v => hears α (setK (sA α) k v)) i) ∧ q.2.1 = nI i ∧ (∀ j, j ≠ 2 * k → q.2.2 57 j = M 57 j) ∧ ∀ k, k ≠ 57 → (k < 59 ∨ 68 ≤ k) → q.2.2 k = M k)
    (fun q => q.1 = nI (bitsOf (fun v => hears α (setK (sA α) k v)) 3) ∧ (∀ j, j ≠ 2 * k → q.2.2 57 j = M 57 j) ∧ ∀ k, k ≠ 57 → (k < 59 ∨ 68 ≤ k) → q.2.2 k = M k) 3 (s := (nI 0, nI 0, M))
    (by exact ⟨rfl, rfl, fun _ _ => rfl, fun _ _ _ => rfl⟩)
    (by
      rintro i ⟨x, y, N⟩ hi ⟨hx, hy, c1, c3⟩
      dsimp only at hx hy c1 c3 ⊢
      subst hx hy
      have eqU : ∀ j, upM N 57 (2 * k) (nI i) 57 j = upM M 57 (2 * k) (nI i) 57 j := fun j => by
        by_cases q : j = 2 * k
        · subst q; rw [upM_s, upM_s]
        · rw [upM_m q, upM_m q]; exact c1 j q
      have hS : MS (setK (sA α) k i) (upM N 57 (2 * k) (nI i)) := (MS_setK (k := k) (v := i) h.2).fr (by rw [upM_n (by omega), upM_n (by omega)]; exact c3 49 (by omega) (by omega)) (by rw [upM_n (by omega), upM_n (by omega)]; exact c3 56 (by omega) (by omega)) (funext eqU)
      have hH : MH (hlA α) 0 none (upM N 57 (2 * k) (nI i)) := h.1.2.2.1.fr (by rw [upM_n (by omega)]; exact c3 49 (by omega) (by omega)) (by rw [upM_n (by omega)]; exact c3 58 (by omega) (by omega))
      obtain ⟨N', d1, d2, d3⟩ := m_isHeard ok (setK_ok (k := k) ok.s hi) hS hH ok.h Eff_0 (by rw [upM_n (by omega), c3 49 (by omega) (by omega)]; exact h.1.2.2.2.1.1) (by rw [upM_n (by omega), c3 68 (by omega) (by omega)]; exact h.1.2.2.2.1.2)
      have keep : (∀ j, j ≠ 2 * k → N' 57 j = M 57 j) ∧ ∀ k, k ≠ 57 → (k < 59 ∨ 68 ≤ k) → N' k = M k := by
        refine ⟨fun j hj => ?_, fun k h1 h2 => ?_⟩
        · rw [d3 57 (by omega), upM_m hj]; exact c1 j hj
        · rw [d3 k h2, upM_n h1]; exact c3 k h1 h2
      unfold f_X6_sortOf_14_14b f_X6_sortOf_46_14
      refine ⟨(nI (bitsOf (fun v => hears α (setK (sA α) k v)) (i + 1)), nI (i + 1), N'), ?_, rfl, rfl, keep⟩
      by_cases q : hears α (setK (sA α) k i)
      · rw [bb_t q] at d1
        rw [bitsOf_t (P := fun v => hears α (setK (sA α) k v)) q, ← nI_or2 (bitsOf_lt i) (by omega)]
        simp (disch := omega) only [li_0, li_1, li_2, li_3, li_4, li_5, li_6, li_7, li_8, li_9, li_10, li_11, li_12, li_14, li_15, li_16, li_18, li_20, li_22, li_23, li_24, li_29, li_30, li_31, li_32, li_33, li_40, li_48, li_54, li_55, li_56, li_57, li_59, li_60, li_63, li_64, li_97, li_98, li_99, li_100, li_103, li_107, li_108, li_112, li_121, li_206, li_212, li_232, li_240, li_255, li_256, li_261, li_270, ng_1, ng_2, ng_3, ng_4, ng_9, ng_10, m1_1, nI_m1, m1_nI, if_true, if_false, nI_add, pk_mul, pk_sub, nI_div, nI_rem, nI_eq, nI_leI, nI_ltI, nI_clamp, ck_in, ck_nz, bind_sm, upM_n, upM_m, upM_s, if_pos, if_neg, d1]
      · rw [bb_f q] at d1
        rw [bitsOf_f (P := fun v => hears α (setK (sA α) k v)) q]
        simp (disch := omega) only [li_0, li_1, li_2, li_3, li_4, li_5, li_6, li_7, li_8, li_9, li_10, li_11, li_12, li_14, li_15, li_16, li_18, li_20, li_22, li_23, li_24, li_29, li_30, li_31, li_32, li_33, li_40, li_48, li_54, li_55, li_56, li_57, li_59, li_60, li_63, li_64, li_97, li_98, li_99, li_100, li_103, li_107, li_108, li_112, li_121, li_206, li_212, li_232, li_240, li_255, li_256, li_261, li_270, ng_1, ng_2, ng_3, ng_4, ng_9, ng_10, m1_1, nI_m1, m1_nI, if_true, if_false, nI_add, pk_mul, pk_sub, nI_div, nI_rem, nI_eq, nI_leI, nI_ltI, nI_clamp, ck_in, ck_nz, bind_sm, upM_n, upM_m, upM_s, if_pos, if_neg, d1]
        rw [or_0])
    (by
      rintro ⟨x, y, N⟩ ⟨hx, hy, c1, c3⟩
      dsimp only at hx hy c1 c3 ⊢
      subst hy
      refine ⟨(x, nI 3, N), ?_, hx, c1, c3⟩
      unfold f_X6_sortOf_14_14b
      simp (disch := omega) only [li_0, li_1, li_2, li_3, li_4, li_5, li_6, li_7, li_8, li_9, li_10, li_11, li_12, li_14, li_15, li_16, li_18, li_20, li_22, li_23, li_24, li_29, li_30, li_31, li_32, li_33, li_40, li_48, li_54, li_55, li_56, li_57, li_59, li_60, li_63, li_64, li_97, li_98, li_99, li_100, li_103, li_107, li_108, li_112, li_121, li_206, li_212, li_232, li_240, li_255, li_256, li_261, li_270, ng_1, ng_2, ng_3, ng_4, ng_9, ng_10, m1_1, nI_m1, m1_nI, if_true, if_false, nI_add, pk_mul, pk_sub, nI_div, nI_rem, nI_eq, nI_leI, nI_ltI, nI_clamp, ck_in, ck_nz, bind_sm, upM_n, upM_m, upM_s, if_pos, if_neg])
  have e57 : upM e.2.2 57 (2 * k) (M 57 (2 * k)) 57 = M 57 := by
    funext j
    by_cases q : j = 2 * k
    · subst q; rw [upM_s]
    · rw [upM_m q]; exact l3 j q
  refine ⟨upM e.2.2 57 (2 * k) (M 57 (2 * k)), ?_, h.back3 (fun j hj => ?_), fun j hj => ?_⟩
  · simp (disch := omega) only [li_0, li_1, li_2, li_3, li_4, li_5, li_6, li_7, li_8, li_9, li_10, li_11, li_12, li_14, li_15, li_16, li_18, li_20, li_22, li_23, li_24, li_29, li_30, li_31, li_32, li_33, li_40, li_48, li_54, li_55, li_56, li_57, li_59, li_60, li_63, li_64, li_97, li_98, li_99, li_100, li_103, li_107, li_108, li_112, li_121, li_206, li_212, li_232, li_240, li_255, li_256, li_261, li_270, ng_1, ng_2, ng_3, ng_4, ng_9, ng_10, m1_1, nI_m1, m1_nI, if_true, if_false, nI_add, pk_mul, pk_sub, nI_div, nI_rem, nI_eq, nI_leI, nI_ltI, nI_clamp, ck_in, ck_nz, bind_sm, upM_n, upM_m, upM_s, if_pos, if_neg, l1, l2]
  · by_cases q : j = 57
    · subst q; exact e57
    · rw [upM_n q]; exact l4 j q (by omega)
  · rw [upM_n (by omega)]; exact l4 j (by omega) (by omega)
