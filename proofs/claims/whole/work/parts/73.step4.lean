-- THE CALLS: hirings, what was heard
theorem OKA.hl {α : AS} {l : List (Nat × Nat × Nat)} (ok : OKA α) (h1 : l.length ≤ 8) (h2 : ∀ h ∈ l, h.1 < 30 ∧ h.2.1 < 8 ∧ h.2.2 < 8) : OKA (setH α l) := ⟨ok.1, ok.2.1, ⟨h1, h2⟩, ok.2.2.2⟩
theorem c_hir {α : AS} {M N : Mem} {l : List (Nat × Nat × Nat)} (h : CI α M) (ok : OKA (setH α l)) (hS : SR 5 (withH (sA α) l) N) (F : Fr 5 13 M N) : ∃ M', f_X5_beginAgain N = some M' ∧ CI (setH α l) M' ∧ Fr 0 49 M M' := by
  obtain ⟨M', d1, d2, d3⟩ := c_bag (α := setH α l) (M := N) ok (h.1.1.fr (F 1 (by omega)) (F 2 (by omega))) (h.1.2.fr (F 3 (by omega)) (F 4 (by omega))) hS (h.2.2.2.2.1.fr rfl (fun k _ _ => F k (by omega))) (h.2.2.2.2.2.1.fr rfl (fun k _ _ => F k (by omega))) (by rw [F 0 (by omega)]; exact h.2.2.2.2.2.2)
  exact ⟨M', d1, d2, fun k hk => by rw [d3 k (by omega) (by omega), F k (by omega)]⟩
theorem MI.hir {α : AS} {M N : Mem} {l : List (Nat × Nat × Nat)} (h : MI α M) (hH : MH l 0 none N) (c1 : ∀ j, j ≠ 11 → N 49 j = M 49 j) (c2 : ∀ k, k ≠ 49 → k ≠ 58 → N k = M k) : MI (setH α l) N := by
  obtain ⟨h1, h2, -, h4, h5, h6⟩ := h
  unfold MI
  rw [c2 55 (by omega) (by omega), c2 54 (by omega) (by omega), c2 68 (by omega) (by omega), c2 50 (by omega) (by omega), c2 51 (by omega) (by omega), c2 52 (by omega) (by omega), c1 26 (by omega), c1 4 (by omega)]
  exact ⟨h1, h2, hH, h4, h5, h6⟩
theorem may_in {d k a : Nat} (hd : d < 30) (hk : k < 8) (ha : a < 8) : f_X5_mayBeHired (nI d) (nI k) (nI a) = some (nI 1) := by
  unfold f_X5_mayBeHired
  simp (disch := omega) only [li_0, li_1, li_2, li_3, li_4, li_5, li_6, li_7, li_8, li_9, li_10, li_11, li_12, li_14, li_15, li_16, li_18, li_20, li_22, li_23, li_24, li_29, li_30, li_31, li_32, li_33, li_40, li_48, li_54, li_55, li_56, li_57, li_59, li_60, li_63, li_64, li_97, li_98, li_99, li_100, li_103, li_107, li_108, li_112, li_121, li_206, li_212, li_232, li_240, li_255, li_256, li_261, li_270, ng_1, ng_2, ng_3, ng_4, ng_9, ng_10, m1_1, nI_m1, m1_nI, if_true, if_false, nI_add, pk_mul, pk_sub, nI_div, nI_rem, nI_eq, nI_leI, nI_ltI, nI_clamp, ck_in, ck_nz, bind_sm, upM_n, upM_m, upM_s, if_pos, if_neg, below_in]
theorem may_out {x1 x2 x3 : Int32} (h : ¬ (In x1 30 ∧ In x2 8 ∧ In x3 8)) : f_X5_mayBeHired x1 x2 x3 = some (nI 0) := by
  unfold f_X5_mayBeHired
  by_cases r1 : In x1 30
  · by_cases r2 : In x2 8
    · have r3 : ¬ In x3 8 := fun r3 => h ⟨r1, r2, r3⟩
      obtain ⟨d, hd, rfl⟩ := r1
      obtain ⟨k, hk, rfl⟩ := r2
      simp (disch := omega) only [li_0, li_1, li_2, li_3, li_4, li_5, li_6, li_7, li_8, li_9, li_10, li_11, li_12, li_14, li_15, li_16, li_18, li_20, li_22, li_23, li_24, li_29, li_30, li_31, li_32, li_33, li_40, li_48, li_54, li_55, li_56, li_57, li_59, li_60, li_63, li_64, li_97, li_98, li_99, li_100, li_103, li_107, li_108, li_112, li_121, li_206, li_212, li_232, li_240, li_255, li_256, li_261, li_270, ng_1, ng_2, ng_3, ng_4, ng_9, ng_10, m1_1, nI_m1, m1_nI, if_true, if_false, nI_add, pk_mul, pk_sub, nI_div, nI_rem, nI_eq, nI_leI, nI_ltI, nI_clamp, ck_in, ck_nz, bind_sm, upM_n, upM_m, upM_s, if_pos, if_neg, below_in, below_out _ r3]
    · obtain ⟨d, hd, rfl⟩ := r1
      simp (disch := omega) only [li_0, li_1, li_2, li_3, li_4, li_5, li_6, li_7, li_8, li_9, li_10, li_11, li_12, li_14, li_15, li_16, li_18, li_20, li_22, li_23, li_24, li_29, li_30, li_31, li_32, li_33, li_40, li_48, li_54, li_55, li_56, li_57, li_59, li_60, li_63, li_64, li_97, li_98, li_99, li_100, li_103, li_107, li_108, li_112, li_121, li_206, li_212, li_232, li_240, li_255, li_256, li_261, li_270, ng_1, ng_2, ng_3, ng_4, ng_9, ng_10, m1_1, nI_m1, m1_nI, if_true, if_false, nI_add, pk_mul, pk_sub, nI_div, nI_rem, nI_eq, nI_leI, nI_ltI, nI_clamp, ck_in, ck_nz, bind_sm, upM_n, upM_m, upM_s, if_pos, if_neg, below_in, below_out _ r2]
  · simp (disch := omega) only [li_0, li_1, li_2, li_3, li_4, li_5, li_6, li_7, li_8, li_9, li_10, li_11, li_12, li_14, li_15, li_16, li_18, li_20, li_22, li_23, li_24, li_29, li_30, li_31, li_32, li_33, li_40, li_48, li_54, li_55, li_56, li_57, li_59, li_60, li_63, li_64, li_97, li_98, li_99, li_100, li_103, li_107, li_108, li_112, li_121, li_206, li_212, li_232, li_240, li_255, li_256, li_261, li_270, ng_1, ng_2, ng_3, ng_4, ng_9, ng_10, m1_1, nI_m1, m1_nI, if_true, if_false, nI_add, pk_mul, pk_sub, nI_div, nI_rem, nI_eq, nI_leI, nI_ltI, nI_clamp, ck_in, ck_nz, bind_sm, upM_n, upM_m, upM_s, if_pos, if_neg, below_out _ r1]
theorem m_hire_out {M : Mem} {x1 x2 x3 : Int32} (h : ¬ (In x1 30 ∧ In x2 8 ∧ In x3 8)) : f_X6_hire x1 x2 x3 M = some (m2, M) := by
  unfold f_X6_hire
  by_cases r1 : In x1 30
  · by_cases r2 : In x2 8
    · have r3 : ¬ In x3 8 := fun r3 => h ⟨r1, r2, r3⟩
      obtain ⟨d, hd, rfl⟩ := r1
      obtain ⟨k, hk, rfl⟩ := r2
      simp (disch := omega) only [li_0, li_1, li_2, li_3, li_4, li_5, li_6, li_7, li_8, li_9, li_10, li_11, li_12, li_14, li_15, li_16, li_18, li_20, li_22, li_23, li_24, li_29, li_30, li_31, li_32, li_33, li_40, li_48, li_54, li_55, li_56, li_57, li_59, li_60, li_63, li_64, li_97, li_98, li_99, li_100, li_103, li_107, li_108, li_112, li_121, li_206, li_212, li_232, li_240, li_255, li_256, li_261, li_270, ng_1, ng_2, ng_3, ng_4, ng_9, ng_10, m1_1, nI_m1, m1_nI, if_true, if_false, nI_add, pk_mul, pk_sub, nI_div, nI_rem, nI_eq, nI_leI, nI_ltI, nI_clamp, ck_in, ck_nz, bind_sm, upM_n, upM_m, upM_s, if_pos, if_neg, m_day_in, m_eight_in, m_eight_out r3]
    · obtain ⟨d, hd, rfl⟩ := r1
      simp (disch := omega) only [li_0, li_1, li_2, li_3, li_4, li_5, li_6, li_7, li_8, li_9, li_10, li_11, li_12, li_14, li_15, li_16, li_18, li_20, li_22, li_23, li_24, li_29, li_30, li_31, li_32, li_33, li_40, li_48, li_54, li_55, li_56, li_57, li_59, li_60, li_63, li_64, li_97, li_98, li_99, li_100, li_103, li_107, li_108, li_112, li_121, li_206, li_212, li_232, li_240, li_255, li_256, li_261, li_270, ng_1, ng_2, ng_3, ng_4, ng_9, ng_10, m1_1, nI_m1, m1_nI, if_true, if_false, nI_add, pk_mul, pk_sub, nI_div, nI_rem, nI_eq, nI_leI, nI_ltI, nI_clamp, ck_in, ck_nz, bind_sm, upM_n, upM_m, upM_s, if_pos, if_neg, m_day_in, m_eight_out r2]
  · simp (disch := omega) only [li_0, li_1, li_2, li_3, li_4, li_5, li_6, li_7, li_8, li_9, li_10, li_11, li_12, li_14, li_15, li_16, li_18, li_20, li_22, li_23, li_24, li_29, li_30, li_31, li_32, li_33, li_40, li_48, li_54, li_55, li_56, li_57, li_59, li_60, li_63, li_64, li_97, li_98, li_99, li_100, li_103, li_107, li_108, li_112, li_121, li_206, li_212, li_232, li_240, li_255, li_256, li_261, li_270, ng_1, ng_2, ng_3, ng_4, ng_9, ng_10, m1_1, nI_m1, m1_nI, if_true, if_false, nI_add, pk_mul, pk_sub, nI_div, nI_rem, nI_eq, nI_leI, nI_ltI, nI_clamp, ck_in, ck_nz, bind_sm, upM_n, upM_m, upM_s, if_pos, if_neg, m_day_out r1]
theorem m_hire_full {M : Mem} {d k a : Nat} (hd : d < 30) (hk : k < 8) (ha : a < 8) (h : M 49 11 = nI 8) : f_X6_hire (nI d) (nI k) (nI a) M = some (m4, M) := by
  unfold f_X6_hire
  simp (disch := omega) only [li_0, li_1, li_2, li_3, li_4, li_5, li_6, li_7, li_8, li_9, li_10, li_11, li_12, li_14, li_15, li_16, li_18, li_20, li_22, li_23, li_24, li_29, li_30, li_31, li_32, li_33, li_40, li_48, li_54, li_55, li_56, li_57, li_59, li_60, li_63, li_64, li_97, li_98, li_99, li_100, li_103, li_107, li_108, li_112, li_121, li_206, li_212, li_232, li_240, li_255, li_256, li_261, li_270, ng_1, ng_2, ng_3, ng_4, ng_9, ng_10, m1_1, nI_m1, m1_nI, if_true, if_false, nI_add, pk_mul, pk_sub, nI_div, nI_rem, nI_eq, nI_leI, nI_ltI, nI_clamp, ck_in, ck_nz, bind_sm, upM_n, upM_m, upM_s, if_pos, if_neg, m_day_in, m_eight_in, h]
theorem m_hire_in {M : Mem} {l : List (Nat × Nat × Nat)} {d k a : Nat} (hd : d < 30) (hk : k < 8) (ha : a < 8) (hH : MH l 0 none M) (h8 : l.length < 8) : ∃ M', f_X6_hire (nI d) (nI k) (nI a) M = some (nI (l.length + 1), M') ∧ MH (l ++ [(d, k, a)]) 0 none M' ∧ (∀ j, j ≠ 11 → M' 49 j = M 49 j) ∧ ∀ k, k ≠ 49 → k ≠ 58 → M' k = M k := by
  obtain ⟨M', a1, a2, a3, a4⟩ := m_puts (d := d) (p := k) (a := a) hH h8
  refine ⟨M', ?_, a2, a3, a4⟩
  have e := hH.1
  have e2 := a2.1
  rw [List.length_append, List.length_singleton] at e2
  unfold f_X6_hire
  simp (disch := omega) only [li_0, li_1, li_2, li_3, li_4, li_5, li_6, li_7, li_8, li_9, li_10, li_11, li_12, li_14, li_15, li_16, li_18, li_20, li_22, li_23, li_24, li_29, li_30, li_31, li_32, li_33, li_40, li_48, li_54, li_55, li_56, li_57, li_59, li_60, li_63, li_64, li_97, li_98, li_99, li_100, li_103, li_107, li_108, li_112, li_121, li_206, li_212, li_232, li_240, li_255, li_256, li_261, li_270, ng_1, ng_2, ng_3, ng_4, ng_9, ng_10, m1_1, nI_m1, m1_nI, if_true, if_false, nI_add, pk_mul, pk_sub, nI_div, nI_rem, nI_eq, nI_leI, nI_ltI, nI_clamp, ck_in, ck_nz, bind_sm, upM_n, upM_m, upM_s, if_pos, if_neg, m_day_in, m_eight_in, e, a1, e2]
theorem app_ok {l : List (Nat × Nat × Nat)} {d k a : Nat} (h : ∀ h ∈ l, h.1 < 30 ∧ h.2.1 < 8 ∧ h.2.2 < 8) (hd : d < 30) (hk : k < 8) (ha : a < 8) : ∀ h ∈ l ++ [(d, k, a)], h.1 < 30 ∧ h.2.1 < 8 ∧ h.2.2 < 8 := by
  intro x hx
  rcases List.mem_append.mp hx with q | q
  · exact h x q
  · rw [List.mem_singleton.mp q]; exact ⟨hd, hk, ha⟩
theorem s_hire {α : AS} (ok : OKA α) (x1 x2 x3 : Int32) : St α (f_X5_hire x1 x2 x3) (f_X6_hire x1 x2 x3) := by
  by_cases r : In x1 30 ∧ In x2 8 ∧ In x3 8
  · obtain ⟨⟨d, hd, rfl⟩, ⟨k, hk, rfl⟩, ⟨a, ha, rfl⟩⟩ := r
    have o1 := ok.2.2.1.1
    by_cases q : (hlA α).length < 8
    · have ok' : OKA (setH α (hlA α ++ [(d, k, a)])) := ok.hl (by rw [List.length_append, List.length_singleton]; omega) (app_ok ok.2.2.1.2 hd hk ha)
      refine ⟨nI ((hlA α).length + 1), setH α (hlA α ++ [(d, k, a)]), ok', fun M h => ?_, fun M h => ?_⟩
      · obtain ⟨N, a1, a2, a3⟩ := c_add (d := d) (k := k) (a := a) (σ := sA α) SI_5 (show (hlA α).length < 9 by omega) h.2.1
        obtain ⟨M', b1, b2, b3⟩ := c_hir (l := hlA α ++ [(d, k, a)]) h ok' a2 a3
        refine ⟨M', ?_, b2, b3⟩
        have e := h.hir.1
        have e2 := b2.hir.1
        have e3 : (hlA (setH α (hlA α ++ [(d, k, a)]))).length = (hlA α).length + 1 := List.length_append
        rw [e3] at e2
        unfold f_X5_hire
        simp (disch := omega) only [li_0, li_1, li_2, li_3, li_4, li_5, li_6, li_7, li_8, li_9, li_10, li_11, li_12, li_14, li_15, li_16, li_18, li_20, li_22, li_23, li_24, li_29, li_30, li_31, li_32, li_33, li_40, li_48, li_54, li_55, li_56, li_57, li_59, li_60, li_63, li_64, li_97, li_98, li_99, li_100, li_103, li_107, li_108, li_112, li_121, li_206, li_212, li_232, li_240, li_255, li_256, li_261, li_270, ng_1, ng_2, ng_3, ng_4, ng_9, ng_10, m1_1, nI_m1, m1_nI, if_true, if_false, nI_add, pk_mul, pk_sub, nI_div, nI_rem, nI_eq, nI_leI, nI_ltI, nI_clamp, ck_in, ck_nz, bind_sm, upM_n, upM_m, upM_s, if_pos, if_neg, may_in, e, a1, b1, e2]
      · obtain ⟨M', a1, a2, a3, a4⟩ := m_hire_in hd hk ha h.2.2.1 q
        exact ⟨M', a1, h.hir a2 a3 a4, fun k hk => a4 k (by omega) (by omega)⟩
    · have q8 : (hlA α).length = 8 := by omega
      refine St.same ok m4 (fun M h => ⟨M, ?_, h, Fr.rf⟩) (fun M h => ⟨M, ?_, h, Fr.rf⟩)
      · have e := h.hir.1
        rw [q8] at e
        unfold f_X5_hire
        simp (disch := omega) only [li_0, li_1, li_2, li_3, li_4, li_5, li_6, li_7, li_8, li_9, li_10, li_11, li_12, li_14, li_15, li_16, li_18, li_20, li_22, li_23, li_24, li_29, li_30, li_31, li_32, li_33, li_40, li_48, li_54, li_55, li_56, li_57, li_59, li_60, li_63, li_64, li_97, li_98, li_99, li_100, li_103, li_107, li_108, li_112, li_121, li_206, li_212, li_232, li_240, li_255, li_256, li_261, li_270, ng_1, ng_2, ng_3, ng_4, ng_9, ng_10, m1_1, nI_m1, m1_nI, if_true, if_false, nI_add, pk_mul, pk_sub, nI_div, nI_rem, nI_eq, nI_leI, nI_ltI, nI_clamp, ck_in, ck_nz, bind_sm, upM_n, upM_m, upM_s, if_pos, if_neg, may_in, e]
      · have e := h.2.2.1.1
        rw [q8] at e
        exact m_hire_full hd hk ha e
  · refine St.same ok m2 (fun M h => ⟨M, ?_, h, Fr.rf⟩) (fun M h => ⟨M, m_hire_out r, h, Fr.rf⟩)
    unfold f_X5_hire
    simp (disch := omega) only [li_0, li_1, li_2, li_3, li_4, li_5, li_6, li_7, li_8, li_9, li_10, li_11, li_12, li_14, li_15, li_16, li_18, li_20, li_22, li_23, li_24, li_29, li_30, li_31, li_32, li_33, li_40, li_48, li_54, li_55, li_56, li_57, li_59, li_60, li_63, li_64, li_97, li_98, li_99, li_100, li_103, li_107, li_108, li_112, li_121, li_206, li_212, li_232, li_240, li_255, li_256, li_261, li_270, ng_1, ng_2, ng_3, ng_4, ng_9, ng_10, m1_1, nI_m1, m1_nI, if_true, if_false, nI_add, pk_mul, pk_sub, nI_div, nI_rem, nI_eq, nI_leI, nI_ltI, nI_clamp, ck_in, ck_nz, bind_sm, upM_n, upM_m, upM_s, if_pos, if_neg, may_out r]
theorem s_back {α : AS} (ok : OKA α) : St α f_X5_back f_X6_back := by
  have o1 := ok.2.2.1.1
  by_cases q : (hlA α).length = 0
  · refine St.same ok m3 (fun M h => ⟨M, ?_, h, Fr.rf⟩) (fun M h => ⟨M, ?_, h, Fr.rf⟩)
    · have e := h.hir.1
      rw [q] at e
      unfold f_X5_back
      simp (disch := omega) only [li_0, li_1, li_2, li_3, li_4, li_5, li_6, li_7, li_8, li_9, li_10, li_11, li_12, li_14, li_15, li_16, li_18, li_20, li_22, li_23, li_24, li_29, li_30, li_31, li_32, li_33, li_40, li_48, li_54, li_55, li_56, li_57, li_59, li_60, li_63, li_64, li_97, li_98, li_99, li_100, li_103, li_107, li_108, li_112, li_121, li_206, li_212, li_232, li_240, li_255, li_256, li_261, li_270, ng_1, ng_2, ng_3, ng_4, ng_9, ng_10, m1_1, nI_m1, m1_nI, if_true, if_false, nI_add, pk_mul, pk_sub, nI_div, nI_rem, nI_eq, nI_leI, nI_ltI, nI_clamp, ck_in, ck_nz, bind_sm, upM_n, upM_m, upM_s, if_pos, if_neg, e]
    · have e := h.2.2.1.1
      rw [q] at e
      unfold f_X6_back
      simp (disch := omega) only [li_0, li_1, li_2, li_3, li_4, li_5, li_6, li_7, li_8, li_9, li_10, li_11, li_12, li_14, li_15, li_16, li_18, li_20, li_22, li_23, li_24, li_29, li_30, li_31, li_32, li_33, li_40, li_48, li_54, li_55, li_56, li_57, li_59, li_60, li_63, li_64, li_97, li_98, li_99, li_100, li_103, li_107, li_108, li_112, li_121, li_206, li_212, li_232, li_240, li_255, li_256, li_261, li_270, ng_1, ng_2, ng_3, ng_4, ng_9, ng_10, m1_1, nI_m1, m1_nI, if_true, if_false, nI_add, pk_mul, pk_sub, nI_div, nI_rem, nI_eq, nI_leI, nI_ltI, nI_clamp, ck_in, ck_nz, bind_sm, upM_n, upM_m, upM_s, if_pos, if_neg, e]
  · obtain ⟨n, hn⟩ : ∃ n, (hlA α).length = n + 1 := ⟨(hlA α).length - 1, by omega⟩
    have el : ((hlA α).eraseIdx n).length = n := by rw [List.length_eraseIdx_of_lt (by omega)]; omega
    have ok' : OKA (setH α ((hlA α).eraseIdx n)) := ok.hl (by rw [el]; omega) (fun h hh => ok.2.2.1.2 h (List.mem_of_mem_eraseIdx hh))
    refine ⟨nI n, setH α ((hlA α).eraseIdx n), ok', fun M h => ?_, fun M h => ⟨upM M 49 11 (nI n), ?_, h.hir ?_ (fun j hj => upM_m hj) (fun k h1 _ => upM_n h1), fun k hk => upM_n (by omega)⟩⟩
    · obtain ⟨N, a1, a2, a3⟩ := c_drop (k := n) (σ := sA α) SI_5 (show (hlA α).length ≤ 9 by omega) (show n < (hlA α).length by omega) h.2.1
      obtain ⟨M', b1, b2, b3⟩ := c_hir (l := (hlA α).eraseIdx n) h ok' a2 a3
      refine ⟨M', ?_, b2, b3⟩
      have e := h.hir.1
      rw [hn] at e
      have e2 := b2.hir.1
      have e3 : (hlA (setH α ((hlA α).eraseIdx n))).length = n := el
      rw [e3] at e2
      unfold f_X5_back
      simp (disch := omega) only [li_0, li_1, li_2, li_3, li_4, li_5, li_6, li_7, li_8, li_9, li_10, li_11, li_12, li_14, li_15, li_16, li_18, li_20, li_22, li_23, li_24, li_29, li_30, li_31, li_32, li_33, li_40, li_48, li_54, li_55, li_56, li_57, li_59, li_60, li_63, li_64, li_97, li_98, li_99, li_100, li_103, li_107, li_108, li_112, li_121, li_206, li_212, li_232, li_240, li_255, li_256, li_261, li_270, ng_1, ng_2, ng_3, ng_4, ng_9, ng_10, m1_1, nI_m1, m1_nI, if_true, if_false, nI_add, pk_mul, pk_sub, nI_div, nI_rem, nI_eq, nI_leI, nI_ltI, nI_clamp, ck_in, ck_nz, bind_sm, upM_n, upM_m, upM_s, if_pos, if_neg, e, nI_pred', Nat.add_sub_cancel, a1, b1, e2]
    · have e := h.2.2.1.1
      rw [hn] at e
      unfold f_X6_back
      simp (disch := omega) only [li_0, li_1, li_2, li_3, li_4, li_5, li_6, li_7, li_8, li_9, li_10, li_11, li_12, li_14, li_15, li_16, li_18, li_20, li_22, li_23, li_24, li_29, li_30, li_31, li_32, li_33, li_40, li_48, li_54, li_55, li_56, li_57, li_59, li_60, li_63, li_64, li_97, li_98, li_99, li_100, li_103, li_107, li_108, li_112, li_121, li_206, li_212, li_232, li_240, li_255, li_256, li_261, li_270, ng_1, ng_2, ng_3, ng_4, ng_9, ng_10, m1_1, nI_m1, m1_nI, if_true, if_false, nI_add, pk_mul, pk_sub, nI_div, nI_rem, nI_eq, nI_leI, nI_ltI, nI_clamp, ck_in, ck_nz, bind_sm, upM_n, upM_m, upM_s, if_pos, if_neg, e, nI_pred', Nat.add_sub_cancel]
    · obtain ⟨h1, h2, h3, h4⟩ := h.2.2.1
      refine ⟨by rw [upM_s, el], fun i x hi => ?_, by rw [upM_m (by omega)]; exact h3, ?_⟩
      · rw [upM_n (by omega)]
        rw [List.getElem?_eraseIdx] at hi
        split at hi
        · exact h2 i x hi
        · have := (List.getElem?_eq_some_iff.mp hi).1
          omega
      · show upM M 49 11 (nI n) 49 14 = m1
        rw [upM_m (by omega)]
        exact h4
theorem rf36 {s : Nat} (h : s < 4) : rf 36 s = 37 + 2 * s := by
  rcases (show s = 0 ∨ s = 1 ∨ s = 2 ∨ s = 3 by omega) with rfl | rfl | rfl | rfl <;> rfl
theorem rf37 {s : Nat} (h : s < 4) : rf (37 + 2 * s) 2 = 38 + 2 * s := by
  rcases (show s = 0 ∨ s = 1 ∨ s = 2 ∨ s = 3 by omega) with rfl | rfl | rfl | rfl <;> rfl
theorem m2_neg : (m2 < nI 0) = True := eq_true (by decide)
theorem m4_neg : (m4 < nI 0) = True := eq_true (by decide)
/-- the reference's sheets -/
def MSh (α : AS) (M : Mem) : Prop := ∀ s, s < 4 → M 50 s = (shA α s).1 ∧ M 51 s = nI (shA α s).2.1 ∧ ∀ i, i < (shA α s).2.1 → M 52 (60 * s + i) = (shA α s).2.2 i
theorem m_rd_bad {M : Mem} {s i : Nat} {r : Int32} (hs : s < 4) (hi : i < 20) (h51 : ∃ sz, M 51 s = nI sz ∧ 3 * i + 3 ≤ sz ∧ sz ≤ 60) (hr : (r < nI 0) = True) (hh : f_X6_hire (M 52 (60 * s + 3 * i)) (M 52 (60 * s + 3 * i + 1)) (M 52 (60 * s + 3 * i + 2)) M = some (r, M)) : loop (fun s3 : Int32 × Int32 × Mem => f_X6_read_29_29b (nI s) s3.1 s3.2.1 s3.2.2) (nI i, nI 1, M) = some (nI i, nI 0, M) := by
  obtain ⟨sz, e1, e2, e3⟩ := h51
  rw [loop_l (s' := (nI i, nI 0, M)), loop_r]
  · unfold f_X6_read_29_29b
    simp (disch := omega) only [li_0, li_1, li_2, li_3, li_4, li_5, li_6, li_7, li_8, li_9, li_10, li_11, li_12, li_14, li_15, li_16, li_18, li_20, li_22, li_23, li_24, li_29, li_30, li_31, li_32, li_33, li_40, li_48, li_54, li_55, li_56, li_57, li_59, li_60, li_63, li_64, li_97, li_98, li_99, li_100, li_103, li_107, li_108, li_112, li_121, li_206, li_212, li_232, li_240, li_255, li_256, li_261, li_270, ng_1, ng_2, ng_3, ng_4, ng_9, ng_10, m1_1, nI_m1, m1_nI, if_true, if_false, nI_add, pk_mul, pk_sub, nI_div, nI_rem, nI_eq, nI_leI, nI_ltI, nI_clamp, ck_in, ck_nz, bind_sm, upM_n, upM_m, upM_s, if_pos, if_neg]
  · unfold f_X6_read_29_29b f_X6_read_94_29 f_X6_read_105_29
    simp (disch := omega) only [li_0, li_1, li_2, li_3, li_4, li_5, li_6, li_7, li_8, li_9, li_10, li_11, li_12, li_14, li_15, li_16, li_18, li_20, li_22, li_23, li_24, li_29, li_30, li_31, li_32, li_33, li_40, li_48, li_54, li_55, li_56, li_57, li_59, li_60, li_63, li_64, li_97, li_98, li_99, li_100, li_103, li_107, li_108, li_112, li_121, li_206, li_212, li_232, li_240, li_255, li_256, li_261, li_270, ng_1, ng_2, ng_3, ng_4, ng_9, ng_10, m1_1, nI_m1, m1_nI, if_true, if_false, nI_add, pk_mul, pk_sub, nI_div, nI_rem, nI_eq, nI_leI, nI_ltI, nI_clamp, ck_in, ck_nz, bind_sm, upM_n, upM_m, upM_s, if_pos, if_neg, e1, hh, hr, Nat.add_zero]
theorem rd_loop {α : AS} {s : Nat} (ok : OKA α) (hs : s < 4) : ∀ m i (l : List (Nat × Nat × Nat)), i + m = 20 → l.length ≤ 8 → (∀ h ∈ l, h.1 < 30 ∧ h.2.1 < 8 ∧ h.2.2 < 8) → ∃ l' : List (Nat × Nat × Nat), l.length ≤ l'.length ∧ l'.length ≤ 8 ∧ (∀ h ∈ l', h.1 < 30 ∧ h.2.1 < 8 ∧ h.2.2 < 8) ∧
    (∀ (M : Mem) (x3 : Int32), SR 5 (withH (sA α) l) M → ShI α M → ∃ z M', loop (fun s5 : Int32 × Mem => f_X5_read_43_43b (37 + 2 * s) x3 s5.1 s5.2) (nI (3 * i), M) = some (.inl (z, M')) ∧ SR 5 (withH (sA α) l') M' ∧ Fr 5 13 M M') ∧
    ∀ (M : Mem), MH l 0 none M → MSh α M → ∃ z M', loop (fun s3 : Int32 × Int32 × Mem => f_X6_read_29_29b (nI s) s3.1 s3.2.1 s3.2.2) (nI i, nI 1, M) = some (nI (i + (l'.length - l.length)), z, M') ∧ MH l' 0 none M' ∧ (∀ j, j ≠ 11 → M' 49 j = M 49 j) ∧ ∀ k, k ≠ 49 → k ≠ 58 → M' k = M k := by
  have oS := (ok.2.2.2.2 s hs).2
  intro m
  induction m with
  | zero =>
    intro i l hi h8 hl
    refine ⟨l, Nat.le_refl _, h8, hl, fun M x3 hS hh => ⟨nI (3 * i), M, ?_, hS, Fr.rf⟩, fun M hH hh => ⟨nI 1, M, ?_, hH, fun _ _ => rfl, fun _ _ _ => rfl⟩⟩
    · have e1 := (hh s hs).2.1
      rw [loop_r]
      unfold f_X5_read_43_43b
      simp (disch := omega) only [li_0, li_1, li_2, li_3, li_4, li_5, li_6, li_7, li_8, li_9, li_10, li_11, li_12, li_14, li_15, li_16, li_18, li_20, li_22, li_23, li_24, li_29, li_30, li_31, li_32, li_33, li_40, li_48, li_54, li_55, li_56, li_57, li_59, li_60, li_63, li_64, li_97, li_98, li_99, li_100, li_103, li_107, li_108, li_112, li_121, li_206, li_212, li_232, li_240, li_255, li_256, li_261, li_270, ng_1, ng_2, ng_3, ng_4, ng_9, ng_10, m1_1, nI_m1, m1_nI, if_true, if_false, nI_add, pk_mul, pk_sub, nI_div, nI_rem, nI_eq, nI_leI, nI_ltI, nI_clamp, ck_in, ck_nz, bind_sm, upM_n, upM_m, upM_s, if_pos, if_neg, e1]
    · have e1 := (hh s hs).2.1
      rw [loop_r, Nat.sub_self, Nat.add_zero]
      unfold f_X6_read_29_29b
      simp (disch := omega) only [li_0, li_1, li_2, li_3, li_4, li_5, li_6, li_7, li_8, li_9, li_10, li_11, li_12, li_14, li_15, li_16, li_18, li_20, li_22, li_23, li_24, li_29, li_30, li_31, li_32, li_33, li_40, li_48, li_54, li_55, li_56, li_57, li_59, li_60, li_63, li_64, li_97, li_98, li_99, li_100, li_103, li_107, li_108, li_112, li_121, li_206, li_212, li_232, li_240, li_255, li_256, li_261, li_270, ng_1, ng_2, ng_3, ng_4, ng_9, ng_10, m1_1, nI_m1, m1_nI, if_true, if_false, nI_add, pk_mul, pk_sub, nI_div, nI_rem, nI_eq, nI_leI, nI_ltI, nI_clamp, ck_in, ck_nz, bind_sm, upM_n, upM_m, upM_s, if_pos, if_neg, e1]
  | succ m ih =>
    intro i l hi h8 hl
    by_cases q : 3 * i + 3 ≤ (shA α s).2.1
    · by_cases q8 : l.length < 8
      · by_cases r : In ((shA α s).2.2 (3 * i)) 30 ∧ In ((shA α s).2.2 (3 * i + 1)) 8 ∧ In ((shA α s).2.2 (3 * i + 2)) 8
        · obtain ⟨⟨d, hd, ed⟩, ⟨k, hk, ek⟩, ⟨a, ha, ea⟩⟩ := r
          obtain ⟨l', c1, c2, c3, c4, c5⟩ := ih (i + 1) (l ++ [(d, k, a)]) (by omega) (by rw [List.length_append, List.length_singleton]; omega) (app_ok hl hd hk ha)
          rw [List.length_append, List.length_singleton] at c1 c5
          refine ⟨l', by omega, c2, c3, fun M x3 hS hh => ?_, fun M hH hh => ?_⟩
          · obtain ⟨-, e1, e2⟩ := hh s hs
            have g0 := e2 (3 * i) (by omega)
            have g1 := e2 (3 * i + 1) (by omega)
            have g2 := e2 (3 * i + 2) (by omega)
            rw [ed] at g0
            rw [ek] at g1
            rw [ea] at g2
            have e6 : M 5 6 = nI l.length := hS.1.2.2
            obtain ⟨N, a1, a2, a3⟩ := c_add (d := d) (k := k) (a := a) (σ := withH (sA α) l) SI_5 (show l.length < 9 by omega) hS
            obtain ⟨z, M', b1, b2, b3⟩ := c4 N x3 a2 (fun s' hs' => by rw [a3 _ (by omega), a3 _ (by omega)]; exact hh s' hs')
            refine ⟨z, M', ?_, b2, fun k hk => by rw [b3 k (by omega), a3 k (by omega)]⟩
            rw [loop_l (s' := (nI (3 * (i + 1)), N)), b1]
            unfold f_X5_read_43_43b
            simp (disch := omega) only [li_0, li_1, li_2, li_3, li_4, li_5, li_6, li_7, li_8, li_9, li_10, li_11, li_12, li_14, li_15, li_16, li_18, li_20, li_22, li_23, li_24, li_29, li_30, li_31, li_32, li_33, li_40, li_48, li_54, li_55, li_56, li_57, li_59, li_60, li_63, li_64, li_97, li_98, li_99, li_100, li_103, li_107, li_108, li_112, li_121, li_206, li_212, li_232, li_240, li_255, li_256, li_261, li_270, ng_1, ng_2, ng_3, ng_4, ng_9, ng_10, m1_1, nI_m1, m1_nI, if_true, if_false, nI_add, pk_mul, pk_sub, nI_div, nI_rem, nI_eq, nI_leI, nI_ltI, nI_clamp, ck_in, ck_nz, bind_sm, upM_n, upM_m, upM_s, if_pos, if_neg, e1, e6, rf37, g0, g1, g2, may_in, a1]
            rfl
          · obtain ⟨-, e1, e2⟩ := hh s hs
            have g0 := e2 (3 * i) (by omega)
            have g1 := e2 (3 * i + 1) (by omega)
            have g2 := e2 (3 * i + 2) (by omega)
            rw [ed] at g0
            rw [ek, ← Nat.add_assoc] at g1
            rw [ea, ← Nat.add_assoc] at g2
            obtain ⟨N, a1, a2, a3, a4⟩ := m_hire_in hd hk ha hH q8
            obtain ⟨z, M', b1, b2, b3, b4⟩ := c5 N a2 (fun s' hs' => by rw [a4 _ (by omega) (by omega), a4 _ (by omega) (by omega), a4 _ (by omega) (by omega)]; exact hh s' hs')
            refine ⟨z, M', ?_, b2, fun j hj => by rw [b3 j hj, a3 j hj], fun k h1 h2 => by rw [b4 k h1 h2, a4 k h1 h2]⟩
            rw [loop_l (s' := (nI (i + 1), nI 1, N)), b1, show i + 1 + (l'.length - (l.length + 1)) = i + (l'.length - l.length) by omega]
            unfold f_X6_read_29_29b f_X6_read_94_29 f_X6_read_105_29
            simp (disch := omega) only [li_0, li_1, li_2, li_3, li_4, li_5, li_6, li_7, li_8, li_9, li_10, li_11, li_12, li_14, li_15, li_16, li_18, li_20, li_22, li_23, li_24, li_29, li_30, li_31, li_32, li_33, li_40, li_48, li_54, li_55, li_56, li_57, li_59, li_60, li_63, li_64, li_97, li_98, li_99, li_100, li_103, li_107, li_108, li_112, li_121, li_206, li_212, li_232, li_240, li_255, li_256, li_261, li_270, ng_1, ng_2, ng_3, ng_4, ng_9, ng_10, m1_1, nI_m1, m1_nI, if_true, if_false, nI_add, pk_mul, pk_sub, nI_div, nI_rem, nI_eq, nI_leI, nI_ltI, nI_clamp, ck_in, ck_nz, bind_sm, upM_n, upM_m, upM_s, if_pos, if_neg, e1, g0, g1, g2, a1]
        · refine ⟨l, Nat.le_refl _, h8, hl, fun M x3 hS hh => ⟨nI (3 * i), M, ?_, hS, Fr.rf⟩, fun M hH hh => ⟨nI 0, M, ?_, hH, fun _ _ => rfl, fun _ _ _ => rfl⟩⟩
          · obtain ⟨-, e1, e2⟩ := hh s hs
            have e6 : M 5 6 = nI l.length := hS.1.2.2
            have g0 := e2 (3 * i) (by omega)
            have g1 := e2 (3 * i + 1) (by omega)
            have g2 := e2 (3 * i + 2) (by omega)
            rw [loop_r]
            unfold f_X5_read_43_43b
            simp (disch := omega) only [li_0, li_1, li_2, li_3, li_4, li_5, li_6, li_7, li_8, li_9, li_10, li_11, li_12, li_14, li_15, li_16, li_18, li_20, li_22, li_23, li_24, li_29, li_30, li_31, li_32, li_33, li_40, li_48, li_54, li_55, li_56, li_57, li_59, li_60, li_63, li_64, li_97, li_98, li_99, li_100, li_103, li_107, li_108, li_112, li_121, li_206, li_212, li_232, li_240, li_255, li_256, li_261, li_270, ng_1, ng_2, ng_3, ng_4, ng_9, ng_10, m1_1, nI_m1, m1_nI, if_true, if_false, nI_add, pk_mul, pk_sub, nI_div, nI_rem, nI_eq, nI_leI, nI_ltI, nI_clamp, ck_in, ck_nz, bind_sm, upM_n, upM_m, upM_s, if_pos, if_neg, e1, e6, rf37, g0, g1, g2, may_out r]
          · obtain ⟨-, e1, e2⟩ := hh s hs
            have g0 := e2 (3 * i) (by omega)
            have g1 := e2 (3 * i + 1) (by omega)
            have g2 := e2 (3 * i + 2) (by omega)
            rw [← Nat.add_assoc] at g1 g2
            rw [Nat.sub_self, Nat.add_zero]
            exact m_rd_bad hs (by omega) ⟨_, e1, q, oS⟩ m2_neg (by rw [g0, g1, g2]; exact m_hire_out r)
      · have l8 : l.length = 8 := by omega
        refine ⟨l, Nat.le_refl _, h8, hl, fun M x3 hS hh => ⟨nI (3 * i), M, ?_, hS, Fr.rf⟩, fun M hH hh => ⟨nI 0, M, ?_, hH, fun _ _ => rfl, fun _ _ _ => rfl⟩⟩
        · obtain ⟨-, e1, e2⟩ := hh s hs
          have e6 : M 5 6 = nI l.length := hS.1.2.2
          rw [l8] at e6
          rw [loop_r]
          unfold f_X5_read_43_43b
          simp (disch := omega) only [li_0, li_1, li_2, li_3, li_4, li_5, li_6, li_7, li_8, li_9, li_10, li_11, li_12, li_14, li_15, li_16, li_18, li_20, li_22, li_23, li_24, li_29, li_30, li_31, li_32, li_33, li_40, li_48, li_54, li_55, li_56, li_57, li_59, li_60, li_63, li_64, li_97, li_98, li_99, li_100, li_103, li_107, li_108, li_112, li_121, li_206, li_212, li_232, li_240, li_255, li_256, li_261, li_270, ng_1, ng_2, ng_3, ng_4, ng_9, ng_10, m1_1, nI_m1, m1_nI, if_true, if_false, nI_add, pk_mul, pk_sub, nI_div, nI_rem, nI_eq, nI_leI, nI_ltI, nI_clamp, ck_in, ck_nz, bind_sm, upM_n, upM_m, upM_s, if_pos, if_neg, e1, e6]
        · obtain ⟨-, e1, e2⟩ := hh s hs
          have e6 := hH.1
          rw [l8] at e6
          rw [Nat.sub_self, Nat.add_zero]
          have g0 := e2 (3 * i) (by omega)
          have g1 := e2 (3 * i + 1) (by omega)
          have g2 := e2 (3 * i + 2) (by omega)
          rw [← Nat.add_assoc] at g1 g2
          by_cases r : In ((shA α s).2.2 (3 * i)) 30 ∧ In ((shA α s).2.2 (3 * i + 1)) 8 ∧ In ((shA α s).2.2 (3 * i + 2)) 8
          · obtain ⟨⟨d, hd, ed⟩, ⟨k, hk, ek⟩, ⟨a, ha, ea⟩⟩ := r
            exact m_rd_bad hs (by omega) ⟨_, e1, q, oS⟩ m4_neg (by rw [g0, g1, g2, ed, ek, ea]; exact m_hire_full hd hk ha e6)
          · exact m_rd_bad hs (by omega) ⟨_, e1, q, oS⟩ m2_neg (by rw [g0, g1, g2]; exact m_hire_out r)
    · refine ⟨l, Nat.le_refl _, h8, hl, fun M x3 hS hh => ⟨nI (3 * i), M, ?_, hS, Fr.rf⟩, fun M hH hh => ⟨nI 1, M, ?_, hH, fun _ _ => rfl, fun _ _ _ => rfl⟩⟩
      · have e1 := (hh s hs).2.1
        rw [loop_r]
        unfold f_X5_read_43_43b
        simp (disch := omega) only [li_0, li_1, li_2, li_3, li_4, li_5, li_6, li_7, li_8, li_9, li_10, li_11, li_12, li_14, li_15, li_16, li_18, li_20, li_22, li_23, li_24, li_29, li_30, li_31, li_32, li_33, li_40, li_48, li_54, li_55, li_56, li_57, li_59, li_60, li_63, li_64, li_97, li_98, li_99, li_100, li_103, li_107, li_108, li_112, li_121, li_206, li_212, li_232, li_240, li_255, li_256, li_261, li_270, ng_1, ng_2, ng_3, ng_4, ng_9, ng_10, m1_1, nI_m1, m1_nI, if_true, if_false, nI_add, pk_mul, pk_sub, nI_div, nI_rem, nI_eq, nI_leI, nI_ltI, nI_clamp, ck_in, ck_nz, bind_sm, upM_n, upM_m, upM_s, if_pos, if_neg, e1]
      · have e1 := (hh s hs).2.1
        rw [loop_r, Nat.sub_self, Nat.add_zero]
        unfold f_X6_read_29_29b
        simp (disch := omega) only [li_0, li_1, li_2, li_3, li_4, li_5, li_6, li_7, li_8, li_9, li_10, li_11, li_12, li_14, li_15, li_16, li_18, li_20, li_22, li_23, li_24, li_29, li_30, li_31, li_32, li_33, li_40, li_48, li_54, li_55, li_56, li_57, li_59, li_60, li_63, li_64, li_97, li_98, li_99, li_100, li_103, li_107, li_108, li_112, li_121, li_206, li_212, li_232, li_240, li_255, li_256, li_261, li_270, ng_1, ng_2, ng_3, ng_4, ng_9, ng_10, m1_1, nI_m1, m1_nI, if_true, if_false, nI_add, pk_mul, pk_sub, nI_div, nI_rem, nI_eq, nI_leI, nI_ltI, nI_clamp, ck_in, ck_nz, bind_sm, upM_n, upM_m, upM_s, if_pos, if_neg, e1]
