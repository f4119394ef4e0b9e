-- THE DAYS ASKED: at, drawer, astray, becomes
def atV (σ : SS) (d p w : Nat) : Int32 := if w < 5 then nI ((wk σ (d + 1)).2.1 p w) else if w = 5 then nI ((wk σ (d + 1)).2.2 p) else if w = 6 then oi (tk σ (wk σ (d + 1)) p) else oi (tkf σ (wk σ (d + 1)) p)
def drV (σ : SS) (d a w : Nat) : Int32 := if w < 5 then nI ((wk σ (d + 1)).1 a w) else nI (cnt (wk σ (d + 1)).2.2 a (nP σ))
theorem FrW {lo hi : Nat} {M M' : Mem} (h : Fr lo hi M M') (h2 : hi ≤ 49) : Fr 0 49 M M' := h.wide (by omega) h2
theorem c_at_in {α : AS} {M : Mem} {d p w : Nat} (ok : OKA α) (h : CI α M) (hd : d < 30) (hp : p < nP (sA α)) (hw : w < 8) : ∃ M', f_X5_at (nI d) (nI p) (nI w) M = some (atV (sA α) d p w, M') ∧ CI α M' ∧ Fr 0 49 M M' := by
  obtain ⟨M', g1, g2, g3, g4⟩ := c_stand ok h hd
  have oks := ok.s
  have ok1 := oks.1.1
  have ok2 := oks.1.2.1
  have okv := oks.wk (d + 1)
  have tkn := c_taken WI_21 oks okv g3.2.1 hp g2.1
  refine ⟨M', ?_, g3, FrW g4 (by omega)⟩
  unfold f_X5_at atV
  have e1 := c_hasP (i := p) h.2.1.1.2.1 (show nP (sA α) < 100 by omega) (show p < 100 by omega)
  simp (disch := omega) only [li_0, li_1, li_2, li_3, li_4, li_5, li_6, li_7, li_8, li_9, li_10, li_11, li_12, li_14, li_15, li_16, li_18, li_20, li_22, li_23, li_24, li_29, li_30, li_31, li_32, li_33, li_40, li_48, li_54, li_55, li_56, li_57, li_59, li_60, li_63, li_64, li_97, li_98, li_99, li_100, li_103, li_107, li_108, li_112, li_121, li_206, li_212, li_232, li_240, li_255, li_256, li_261, li_270, ng_1, ng_2, ng_3, ng_4, ng_9, ng_10, m1_1, nI_m1, m1_nI, if_true, if_false, nI_add, pk_mul, pk_sub, nI_div, nI_rem, nI_eq, nI_leI, nI_ltI, nI_clamp, ck_in, ck_nz, bind_sm, upM_n, upM_m, upM_s, if_pos, if_neg, below_in, e1, g1]
  by_cases q1 : w < 5
  · simp (disch := omega) only [li_0, li_1, li_2, li_3, li_4, li_5, li_6, li_7, li_8, li_9, li_10, li_11, li_12, li_14, li_15, li_16, li_18, li_20, li_22, li_23, li_24, li_29, li_30, li_31, li_32, li_33, li_40, li_48, li_54, li_55, li_56, li_57, li_59, li_60, li_63, li_64, li_97, li_98, li_99, li_100, li_103, li_107, li_108, li_112, li_121, li_206, li_212, li_232, li_240, li_255, li_256, li_261, li_270, ng_1, ng_2, ng_3, ng_4, ng_9, ng_10, m1_1, nI_m1, m1_nI, if_true, if_false, nI_add, pk_mul, pk_sub, nI_div, nI_rem, nI_eq, nI_leI, nI_ltI, nI_clamp, ck_in, ck_nz, bind_sm, upM_n, upM_m, upM_s, if_pos, if_neg, g2.1.2.1 p w hp q1]
  · by_cases q2 : w = 5
    · subst q2
      simp (disch := omega) only [li_0, li_1, li_2, li_3, li_4, li_5, li_6, li_7, li_8, li_9, li_10, li_11, li_12, li_14, li_15, li_16, li_18, li_20, li_22, li_23, li_24, li_29, li_30, li_31, li_32, li_33, li_40, li_48, li_54, li_55, li_56, li_57, li_59, li_60, li_63, li_64, li_97, li_98, li_99, li_100, li_103, li_107, li_108, li_112, li_121, li_206, li_212, li_232, li_240, li_255, li_256, li_261, li_270, ng_1, ng_2, ng_3, ng_4, ng_9, ng_10, m1_1, nI_m1, m1_nI, if_true, if_false, nI_add, pk_mul, pk_sub, nI_div, nI_rem, nI_eq, nI_leI, nI_ltI, nI_clamp, ck_in, ck_nz, bind_sm, upM_n, upM_m, upM_s, if_pos, if_neg, g2.1.2.2 p hp]
    · simp (disch := omega) only [li_0, li_1, li_2, li_3, li_4, li_5, li_6, li_7, li_8, li_9, li_10, li_11, li_12, li_14, li_15, li_16, li_18, li_20, li_22, li_23, li_24, li_29, li_30, li_31, li_32, li_33, li_40, li_48, li_54, li_55, li_56, li_57, li_59, li_60, li_63, li_64, li_97, li_98, li_99, li_100, li_103, li_107, li_108, li_112, li_121, li_206, li_212, li_232, li_240, li_255, li_256, li_261, li_270, ng_1, ng_2, ng_3, ng_4, ng_9, ng_10, m1_1, nI_m1, m1_nI, if_true, if_false, nI_add, pk_mul, pk_sub, nI_div, nI_rem, nI_eq, nI_leI, nI_ltI, nI_clamp, ck_in, ck_nz, bind_sm, upM_n, upM_m, upM_s, if_pos, if_neg, tkn]
      by_cases q3 : w = 6
      · simp (disch := omega) only [li_0, li_1, li_2, li_3, li_4, li_5, li_6, li_7, li_8, li_9, li_10, li_11, li_12, li_14, li_15, li_16, li_18, li_20, li_22, li_23, li_24, li_29, li_30, li_31, li_32, li_33, li_40, li_48, li_54, li_55, li_56, li_57, li_59, li_60, li_63, li_64, li_97, li_98, li_99, li_100, li_103, li_107, li_108, li_112, li_121, li_206, li_212, li_232, li_240, li_255, li_256, li_261, li_270, ng_1, ng_2, ng_3, ng_4, ng_9, ng_10, m1_1, nI_m1, m1_nI, if_true, if_false, nI_add, pk_mul, pk_sub, nI_div, nI_rem, nI_eq, nI_leI, nI_ltI, nI_clamp, ck_in, ck_nz, bind_sm, upM_n, upM_m, upM_s, if_pos, if_neg]
      · simp (disch := omega) only [li_0, li_1, li_2, li_3, li_4, li_5, li_6, li_7, li_8, li_9, li_10, li_11, li_12, li_14, li_15, li_16, li_18, li_20, li_22, li_23, li_24, li_29, li_30, li_31, li_32, li_33, li_40, li_48, li_54, li_55, li_56, li_57, li_59, li_60, li_63, li_64, li_97, li_98, li_99, li_100, li_103, li_107, li_108, li_112, li_121, li_206, li_212, li_232, li_240, li_255, li_256, li_261, li_270, ng_1, ng_2, ng_3, ng_4, ng_9, ng_10, m1_1, nI_m1, m1_nI, if_true, if_false, nI_add, pk_mul, pk_sub, nI_div, nI_rem, nI_eq, nI_leI, nI_ltI, nI_clamp, ck_in, ck_nz, bind_sm, upM_n, upM_m, upM_s, if_pos, if_neg]
        unfold tkf
        cases hm : tk (sA α) (wk (sA α) (d + 1)) p with
        | none => simp only [li_0, li_1, li_2, li_3, li_4, li_5, li_6, li_7, li_8, li_9, li_10, li_11, li_12, li_14, li_15, li_16, li_18, li_20, li_22, li_23, li_24, li_29, li_30, li_31, li_32, li_33, li_40, li_48, li_54, li_55, li_56, li_57, li_59, li_60, li_63, li_64, li_97, li_98, li_99, li_100, li_103, li_107, li_108, li_112, li_121, li_206, li_212, li_232, li_240, li_255, li_256, li_261, li_270, ng_1, ng_2, ng_3, ng_4, ng_9, ng_10, m1_1, nI_m1, m1_nI, if_true, if_false, nI_add, pk_mul, pk_sub, nI_div, nI_rem, nI_eq, nI_leI, nI_ltI, nI_clamp, ck_in, ck_nz, bind_sm, upM_n, upM_m, upM_s, if_pos, if_neg, oi_n, Option.map]
        | some b =>
          have hb := am_lt hm
          have ff := c_far' (a := b) WI_21 oks okv hp hb g2.1
          simp (disch := omega) only [li_0, li_1, li_2, li_3, li_4, li_5, li_6, li_7, li_8, li_9, li_10, li_11, li_12, li_14, li_15, li_16, li_18, li_20, li_22, li_23, li_24, li_29, li_30, li_31, li_32, li_33, li_40, li_48, li_54, li_55, li_56, li_57, li_59, li_60, li_63, li_64, li_97, li_98, li_99, li_100, li_103, li_107, li_108, li_112, li_121, li_206, li_212, li_232, li_240, li_255, li_256, li_261, li_270, ng_1, ng_2, ng_3, ng_4, ng_9, ng_10, m1_1, nI_m1, m1_nI, if_true, if_false, nI_add, pk_mul, pk_sub, nI_div, nI_rem, nI_eq, nI_leI, nI_ltI, nI_clamp, ck_in, ck_nz, bind_sm, upM_n, upM_m, upM_s, if_pos, if_neg, oi_s, ff, Option.map]
theorem c_at_out {α : AS} {M : Mem} {x1 x2 x3 : Int32} (ok : OKA α) (h : CI α M) (hx : ¬ (In x1 30 ∧ In x2 (nP (sA α)) ∧ In x3 8)) : f_X5_at x1 x2 x3 M = some (m2, M) := by
  have ok2 := ok.s.1.2.1
  unfold f_X5_at
  by_cases q1 : In x1 30
  · obtain ⟨d, hd, rfl⟩ := q1
    by_cases q2 : In x2 (nP (sA α))
    · obtain ⟨p, hp, rfl⟩ := q2
      have q3 : ¬ In x3 8 := fun r => hx ⟨⟨d, hd, rfl⟩, ⟨p, hp, rfl⟩, r⟩
      have e1 := c_hasP (i := p) h.2.1.1.2.1 (show nP (sA α) < 100 by omega) (show p < 100 by omega)
      simp (disch := omega) only [li_0, li_1, li_2, li_3, li_4, li_5, li_6, li_7, li_8, li_9, li_10, li_11, li_12, li_14, li_15, li_16, li_18, li_20, li_22, li_23, li_24, li_29, li_30, li_31, li_32, li_33, li_40, li_48, li_54, li_55, li_56, li_57, li_59, li_60, li_63, li_64, li_97, li_98, li_99, li_100, li_103, li_107, li_108, li_112, li_121, li_206, li_212, li_232, li_240, li_255, li_256, li_261, li_270, ng_1, ng_2, ng_3, ng_4, ng_9, ng_10, m1_1, nI_m1, m1_nI, if_true, if_false, nI_add, pk_mul, pk_sub, nI_div, nI_rem, nI_eq, nI_leI, nI_ltI, nI_clamp, ck_in, ck_nz, bind_sm, upM_n, upM_m, upM_s, if_pos, if_neg, below_in, e1, below_out _ q3]
    · simp (disch := omega) only [li_0, li_1, li_2, li_3, li_4, li_5, li_6, li_7, li_8, li_9, li_10, li_11, li_12, li_14, li_15, li_16, li_18, li_20, li_22, li_23, li_24, li_29, li_30, li_31, li_32, li_33, li_40, li_48, li_54, li_55, li_56, li_57, li_59, li_60, li_63, li_64, li_97, li_98, li_99, li_100, li_103, li_107, li_108, li_112, li_121, li_206, li_212, li_232, li_240, li_255, li_256, li_261, li_270, ng_1, ng_2, ng_3, ng_4, ng_9, ng_10, m1_1, nI_m1, m1_nI, if_true, if_false, nI_add, pk_mul, pk_sub, nI_div, nI_rem, nI_eq, nI_leI, nI_ltI, nI_clamp, ck_in, ck_nz, bind_sm, upM_n, upM_m, upM_s, if_pos, if_neg, below_in, hasP_out h.2.1.1.2.1 (by omega) q2]
  · simp (disch := omega) only [li_0, li_1, li_2, li_3, li_4, li_5, li_6, li_7, li_8, li_9, li_10, li_11, li_12, li_14, li_15, li_16, li_18, li_20, li_22, li_23, li_24, li_29, li_30, li_31, li_32, li_33, li_40, li_48, li_54, li_55, li_56, li_57, li_59, li_60, li_63, li_64, li_97, li_98, li_99, li_100, li_103, li_107, li_108, li_112, li_121, li_206, li_212, li_232, li_240, li_255, li_256, li_261, li_270, ng_1, ng_2, ng_3, ng_4, ng_9, ng_10, m1_1, nI_m1, m1_nI, if_true, if_false, nI_add, pk_mul, pk_sub, nI_div, nI_rem, nI_eq, nI_leI, nI_ltI, nI_clamp, ck_in, ck_nz, bind_sm, upM_n, upM_m, upM_s, if_pos, if_neg, below_out _ q1]
theorem m_day_in {d : Nat} (h : d < 30) : f_X6_isDay (nI d) = some (nI 1) := by
  unfold f_X6_isDay
  rw [show (0 : Int64) = (nI 0).toInt64 from rfl, show (29 : Int64) = (nI 29).toInt64 from rfl, m_in_in (by omega) (by omega)]
  rfl
theorem m_day_out {x : Int32} (h : ¬ In x 30) : f_X6_isDay x = some (nI 0) := by
  unfold f_X6_isDay
  rw [show (0 : Int64) = (nI 0).toInt64 from rfl, show (29 : Int64) = (nI 29).toInt64 from rfl, m_in_out (by omega) h]
  rfl
theorem m_at_in {α : AS} {M : Mem} {d p w : Nat} (ok : OKA α) (h : FI α M) (hd : d < 30) (hp : p < nP (sA α)) (hw : w < 8) : f_X6_atBy (nI d) (nI p) (nI w) M = some (atV (sA α) d p w) := by
  have ok2 := ok.s.1.2.1
  obtain ⟨c1, c2, c3⟩ := h.2.2.2.1 d hd
  obtain ⟨d1, d2, d3⟩ := c3 p hp
  unfold f_X6_atBy atV
  by_cases q1 : w < 5
  · have := c2 p w hp q1
    rw [show 40 * d + (5 * p + w) = 40 * d + 5 * p + w by omega] at this
    simp (disch := omega) only [li_0, li_1, li_2, li_3, li_4, li_5, li_6, li_7, li_8, li_9, li_10, li_11, li_12, li_14, li_15, li_16, li_18, li_20, li_22, li_23, li_24, li_29, li_30, li_31, li_32, li_33, li_40, li_48, li_54, li_55, li_56, li_57, li_59, li_60, li_63, li_64, li_97, li_98, li_99, li_100, li_103, li_107, li_108, li_112, li_121, li_206, li_212, li_232, li_240, li_255, li_256, li_261, li_270, ng_1, ng_2, ng_3, ng_4, ng_9, ng_10, m1_1, nI_m1, m1_nI, if_true, if_false, nI_add, pk_mul, pk_sub, nI_div, nI_rem, nI_eq, nI_leI, nI_ltI, nI_clamp, ck_in, ck_nz, bind_sm, upM_n, upM_m, upM_s, if_pos, if_neg, this]
  · by_cases q2 : w = 5
    · subst q2
      simp (disch := omega) only [li_0, li_1, li_2, li_3, li_4, li_5, li_6, li_7, li_8, li_9, li_10, li_11, li_12, li_14, li_15, li_16, li_18, li_20, li_22, li_23, li_24, li_29, li_30, li_31, li_32, li_33, li_40, li_48, li_54, li_55, li_56, li_57, li_59, li_60, li_63, li_64, li_97, li_98, li_99, li_100, li_103, li_107, li_108, li_112, li_121, li_206, li_212, li_232, li_240, li_255, li_256, li_261, li_270, ng_1, ng_2, ng_3, ng_4, ng_9, ng_10, m1_1, nI_m1, m1_nI, if_true, if_false, nI_add, pk_mul, pk_sub, nI_div, nI_rem, nI_eq, nI_leI, nI_ltI, nI_clamp, ck_in, ck_nz, bind_sm, upM_n, upM_m, upM_s, if_pos, if_neg, d1]
    · by_cases q3 : w = 6
      · subst q3
        simp (disch := omega) only [li_0, li_1, li_2, li_3, li_4, li_5, li_6, li_7, li_8, li_9, li_10, li_11, li_12, li_14, li_15, li_16, li_18, li_20, li_22, li_23, li_24, li_29, li_30, li_31, li_32, li_33, li_40, li_48, li_54, li_55, li_56, li_57, li_59, li_60, li_63, li_64, li_97, li_98, li_99, li_100, li_103, li_107, li_108, li_112, li_121, li_206, li_212, li_232, li_240, li_255, li_256, li_261, li_270, ng_1, ng_2, ng_3, ng_4, ng_9, ng_10, m1_1, nI_m1, m1_nI, if_true, if_false, nI_add, pk_mul, pk_sub, nI_div, nI_rem, nI_eq, nI_leI, nI_ltI, nI_clamp, ck_in, ck_nz, bind_sm, upM_n, upM_m, upM_s, if_pos, if_neg, d2]
      · simp (disch := omega) only [li_0, li_1, li_2, li_3, li_4, li_5, li_6, li_7, li_8, li_9, li_10, li_11, li_12, li_14, li_15, li_16, li_18, li_20, li_22, li_23, li_24, li_29, li_30, li_31, li_32, li_33, li_40, li_48, li_54, li_55, li_56, li_57, li_59, li_60, li_63, li_64, li_97, li_98, li_99, li_100, li_103, li_107, li_108, li_112, li_121, li_206, li_212, li_232, li_240, li_255, li_256, li_261, li_270, ng_1, ng_2, ng_3, ng_4, ng_9, ng_10, m1_1, nI_m1, m1_nI, if_true, if_false, nI_add, pk_mul, pk_sub, nI_div, nI_rem, nI_eq, nI_leI, nI_ltI, nI_clamp, ck_in, ck_nz, bind_sm, upM_n, upM_m, upM_s, if_pos, if_neg, d3]
theorem m_at {α : AS} {M : Mem} (ok : OKA α) (h : MI α M) : ∃ M', FI α M' ∧ Fr 49 71 M M' ∧ (∀ d p w, d < 30 → p < nP (sA α) → w < 8 → f_X6_at (nI d) (nI p) (nI w) M = some (atV (sA α) d p w, M')) ∧ ∀ x1 x2 x3, ¬ (In x1 30 ∧ In x2 (nP (sA α)) ∧ In x3 8) → f_X6_at x1 x2 x3 M = some (m2, M') := by
  obtain ⟨M', g1, g2, g3⟩ := m_find ok h
  have ok2 := ok.s.1.2.1
  have e9 := g2.2.1.1.2
  refine ⟨M', g2, g3, fun d p w hd hp hw => ?_, fun x1 x2 x3 hx => ?_⟩
  · have e1 := m_isP (i := p) e9 (show nP (sA α) < 100 by omega) (show p < 100 by omega)
    have e2 := m_in_in (j := w) (n := 7) (by omega) (by omega)
    unfold f_X6_at
    rw [show (0 : Int64) = (nI 0).toInt64 from rfl, show (7 : Int64) = (nI 7).toInt64 from rfl]
    simp (disch := omega) only [li_0, li_1, li_2, li_3, li_4, li_5, li_6, li_7, li_8, li_9, li_10, li_11, li_12, li_14, li_15, li_16, li_18, li_20, li_22, li_23, li_24, li_29, li_30, li_31, li_32, li_33, li_40, li_48, li_54, li_55, li_56, li_57, li_59, li_60, li_63, li_64, li_97, li_98, li_99, li_100, li_103, li_107, li_108, li_112, li_121, li_206, li_212, li_232, li_240, li_255, li_256, li_261, li_270, ng_1, ng_2, ng_3, ng_4, ng_9, ng_10, m1_1, nI_m1, m1_nI, if_true, if_false, nI_add, pk_mul, pk_sub, nI_div, nI_rem, nI_eq, nI_leI, nI_ltI, nI_clamp, ck_in, ck_nz, bind_sm, upM_n, upM_m, upM_s, if_pos, if_neg, g1, m_day_in, e1, e2, m_at_in ok g2 hd hp hw]
  · unfold f_X6_at
    rw [show (0 : Int64) = (nI 0).toInt64 from rfl, show (7 : Int64) = (nI 7).toInt64 from rfl]
    by_cases q1 : In x1 30
    · obtain ⟨d, hd, rfl⟩ := q1
      by_cases q2 : In x2 (nP (sA α))
      · obtain ⟨p, hp, rfl⟩ := q2
        have q3 : ¬ In x3 8 := fun r => hx ⟨⟨d, hd, rfl⟩, ⟨p, hp, rfl⟩, r⟩
        have e1 := m_isP (i := p) e9 (show nP (sA α) < 100 by omega) (show p < 100 by omega)
        simp (disch := omega) only [li_0, li_1, li_2, li_3, li_4, li_5, li_6, li_7, li_8, li_9, li_10, li_11, li_12, li_14, li_15, li_16, li_18, li_20, li_22, li_23, li_24, li_29, li_30, li_31, li_32, li_33, li_40, li_48, li_54, li_55, li_56, li_57, li_59, li_60, li_63, li_64, li_97, li_98, li_99, li_100, li_103, li_107, li_108, li_112, li_121, li_206, li_212, li_232, li_240, li_255, li_256, li_261, li_270, ng_1, ng_2, ng_3, ng_4, ng_9, ng_10, m1_1, nI_m1, m1_nI, if_true, if_false, nI_add, pk_mul, pk_sub, nI_div, nI_rem, nI_eq, nI_leI, nI_ltI, nI_clamp, ck_in, ck_nz, bind_sm, upM_n, upM_m, upM_s, if_pos, if_neg, g1, m_day_in, e1, m_in_out (n := 7) (by omega) q3]
      · simp (disch := omega) only [li_0, li_1, li_2, li_3, li_4, li_5, li_6, li_7, li_8, li_9, li_10, li_11, li_12, li_14, li_15, li_16, li_18, li_20, li_22, li_23, li_24, li_29, li_30, li_31, li_32, li_33, li_40, li_48, li_54, li_55, li_56, li_57, li_59, li_60, li_63, li_64, li_97, li_98, li_99, li_100, li_103, li_107, li_108, li_112, li_121, li_206, li_212, li_232, li_240, li_255, li_256, li_261, li_270, ng_1, ng_2, ng_3, ng_4, ng_9, ng_10, m1_1, nI_m1, m1_nI, if_true, if_false, nI_add, pk_mul, pk_sub, nI_div, nI_rem, nI_eq, nI_leI, nI_ltI, nI_clamp, ck_in, ck_nz, bind_sm, upM_n, upM_m, upM_s, if_pos, if_neg, g1, m_day_in, isP_out e9 (show nP (sA α) < 100 by omega) q2]
    · simp (disch := omega) only [li_0, li_1, li_2, li_3, li_4, li_5, li_6, li_7, li_8, li_9, li_10, li_11, li_12, li_14, li_15, li_16, li_18, li_20, li_22, li_23, li_24, li_29, li_30, li_31, li_32, li_33, li_40, li_48, li_54, li_55, li_56, li_57, li_59, li_60, li_63, li_64, li_97, li_98, li_99, li_100, li_103, li_107, li_108, li_112, li_121, li_206, li_212, li_232, li_240, li_255, li_256, li_261, li_270, ng_1, ng_2, ng_3, ng_4, ng_9, ng_10, m1_1, nI_m1, m1_nI, if_true, if_false, nI_add, pk_mul, pk_sub, nI_div, nI_rem, nI_eq, nI_leI, nI_ltI, nI_clamp, ck_in, ck_nz, bind_sm, upM_n, upM_m, upM_s, if_pos, if_neg, g1, m_day_out q1]
theorem c_dr_in {α : AS} {M : Mem} {d a w : Nat} (ok : OKA α) (h : CI α M) (hd : d < 30) (ha : a < nA (sA α)) (hw : w < 6) : ∃ M', f_X5_drawer (nI d) (nI a) (nI w) M = some (drV (sA α) d a w, M') ∧ CI α M' ∧ Fr 0 49 M M' := by
  obtain ⟨M', g1, g2, g3, g4⟩ := c_stand ok h hd
  have ok1 := ok.s.1.1
  refine ⟨M', ?_, g3, FrW g4 (by omega)⟩
  unfold f_X5_drawer drV
  have e1 := c_hasA (i := a) h.2.1.1.1 (show nA (sA α) < 100 by omega) (show a < 100 by omega)
  simp (disch := omega) only [li_0, li_1, li_2, li_3, li_4, li_5, li_6, li_7, li_8, li_9, li_10, li_11, li_12, li_14, li_15, li_16, li_18, li_20, li_22, li_23, li_24, li_29, li_30, li_31, li_32, li_33, li_40, li_48, li_54, li_55, li_56, li_57, li_59, li_60, li_63, li_64, li_97, li_98, li_99, li_100, li_103, li_107, li_108, li_112, li_121, li_206, li_212, li_232, li_240, li_255, li_256, li_261, li_270, ng_1, ng_2, ng_3, ng_4, ng_9, ng_10, m1_1, nI_m1, m1_nI, if_true, if_false, nI_add, pk_mul, pk_sub, nI_div, nI_rem, nI_eq, nI_leI, nI_ltI, nI_clamp, ck_in, ck_nz, bind_sm, upM_n, upM_m, upM_s, if_pos, if_neg, below_in, e1, g1]
  by_cases q1 : w < 5
  · simp (disch := omega) only [li_0, li_1, li_2, li_3, li_4, li_5, li_6, li_7, li_8, li_9, li_10, li_11, li_12, li_14, li_15, li_16, li_18, li_20, li_22, li_23, li_24, li_29, li_30, li_31, li_32, li_33, li_40, li_48, li_54, li_55, li_56, li_57, li_59, li_60, li_63, li_64, li_97, li_98, li_99, li_100, li_103, li_107, li_108, li_112, li_121, li_206, li_212, li_232, li_240, li_255, li_256, li_261, li_270, ng_1, ng_2, ng_3, ng_4, ng_9, ng_10, m1_1, nI_m1, m1_nI, if_true, if_false, nI_add, pk_mul, pk_sub, nI_div, nI_rem, nI_eq, nI_leI, nI_ltI, nI_clamp, ck_in, ck_nz, bind_sm, upM_n, upM_m, upM_s, if_pos, if_neg, g2.1.1 a w ha q1]
  · simp (disch := omega) only [li_0, li_1, li_2, li_3, li_4, li_5, li_6, li_7, li_8, li_9, li_10, li_11, li_12, li_14, li_15, li_16, li_18, li_20, li_22, li_23, li_24, li_29, li_30, li_31, li_32, li_33, li_40, li_48, li_54, li_55, li_56, li_57, li_59, li_60, li_63, li_64, li_97, li_98, li_99, li_100, li_103, li_107, li_108, li_112, li_121, li_206, li_212, li_232, li_240, li_255, li_256, li_261, li_270, ng_1, ng_2, ng_3, ng_4, ng_9, ng_10, m1_1, nI_m1, m1_nI, if_true, if_false, nI_add, pk_mul, pk_sub, nI_div, nI_rem, nI_eq, nI_leI, nI_ltI, nI_clamp, ck_in, ck_nz, bind_sm, upM_n, upM_m, upM_s, if_pos, if_neg, g2.2.2 (by omega) a (by omega)]
theorem c_dr_out {α : AS} {M : Mem} {x1 x2 x3 : Int32} (ok : OKA α) (h : CI α M) (hx : ¬ (In x1 30 ∧ In x2 (nA (sA α)) ∧ In x3 6)) : f_X5_drawer x1 x2 x3 M = some (m2, M) := by
  have ok1 := ok.s.1.1
  unfold f_X5_drawer
  by_cases q1 : In x1 30
  · obtain ⟨d, hd, rfl⟩ := q1
    by_cases q2 : In x2 (nA (sA α))
    · obtain ⟨p, hp, rfl⟩ := q2
      have q3 : ¬ In x3 6 := fun r => hx ⟨⟨d, hd, rfl⟩, ⟨p, hp, rfl⟩, r⟩
      have e1 := c_hasA (i := p) h.2.1.1.1 (show nA (sA α) < 100 by omega) (show p < 100 by omega)
      simp (disch := omega) only [li_0, li_1, li_2, li_3, li_4, li_5, li_6, li_7, li_8, li_9, li_10, li_11, li_12, li_14, li_15, li_16, li_18, li_20, li_22, li_23, li_24, li_29, li_30, li_31, li_32, li_33, li_40, li_48, li_54, li_55, li_56, li_57, li_59, li_60, li_63, li_64, li_97, li_98, li_99, li_100, li_103, li_107, li_108, li_112, li_121, li_206, li_212, li_232, li_240, li_255, li_256, li_261, li_270, ng_1, ng_2, ng_3, ng_4, ng_9, ng_10, m1_1, nI_m1, m1_nI, if_true, if_false, nI_add, pk_mul, pk_sub, nI_div, nI_rem, nI_eq, nI_leI, nI_ltI, nI_clamp, ck_in, ck_nz, bind_sm, upM_n, upM_m, upM_s, if_pos, if_neg, below_in, e1, below_out _ q3]
    · simp (disch := omega) only [li_0, li_1, li_2, li_3, li_4, li_5, li_6, li_7, li_8, li_9, li_10, li_11, li_12, li_14, li_15, li_16, li_18, li_20, li_22, li_23, li_24, li_29, li_30, li_31, li_32, li_33, li_40, li_48, li_54, li_55, li_56, li_57, li_59, li_60, li_63, li_64, li_97, li_98, li_99, li_100, li_103, li_107, li_108, li_112, li_121, li_206, li_212, li_232, li_240, li_255, li_256, li_261, li_270, ng_1, ng_2, ng_3, ng_4, ng_9, ng_10, m1_1, nI_m1, m1_nI, if_true, if_false, nI_add, pk_mul, pk_sub, nI_div, nI_rem, nI_eq, nI_leI, nI_ltI, nI_clamp, ck_in, ck_nz, bind_sm, upM_n, upM_m, upM_s, if_pos, if_neg, below_in, hasA_out h.2.1.1.1 (by omega) q2]
  · simp (disch := omega) only [li_0, li_1, li_2, li_3, li_4, li_5, li_6, li_7, li_8, li_9, li_10, li_11, li_12, li_14, li_15, li_16, li_18, li_20, li_22, li_23, li_24, li_29, li_30, li_31, li_32, li_33, li_40, li_48, li_54, li_55, li_56, li_57, li_59, li_60, li_63, li_64, li_97, li_98, li_99, li_100, li_103, li_107, li_108, li_112, li_121, li_206, li_212, li_232, li_240, li_255, li_256, li_261, li_270, ng_1, ng_2, ng_3, ng_4, ng_9, ng_10, m1_1, nI_m1, m1_nI, if_true, if_false, nI_add, pk_mul, pk_sub, nI_div, nI_rem, nI_eq, nI_leI, nI_ltI, nI_clamp, ck_in, ck_nz, bind_sm, upM_n, upM_m, upM_s, if_pos, if_neg, below_out _ q1]
theorem m_dr_in {α : AS} {M : Mem} {d a w : Nat} (ok : OKA α) (h : FI α M) (hd : d < 30) (ha : a < nA (sA α)) (hw : w < 6) : f_X6_drawerBy (nI d) (nI a) (nI w) M = some (drV (sA α) d a w) := by
  have ok1 := ok.s.1.1
  have ok2 := ok.s.1.2.1
  have okv := ok.s.wk (d + 1)
  obtain ⟨c1, c2, c3⟩ := h.2.2.2.1 d hd
  have e9 := h.2.1.1.2
  unfold f_X6_drawerBy drV
  by_cases q1 : w < 5
  · have := c1 a w ha q1
    rw [show 40 * d + (5 * a + w) = 40 * d + 5 * a + w by omega] at this
    simp (disch := omega) only [li_0, li_1, li_2, li_3, li_4, li_5, li_6, li_7, li_8, li_9, li_10, li_11, li_12, li_14, li_15, li_16, li_18, li_20, li_22, li_23, li_24, li_29, li_30, li_31, li_32, li_33, li_40, li_48, li_54, li_55, li_56, li_57, li_59, li_60, li_63, li_64, li_97, li_98, li_99, li_100, li_103, li_107, li_108, li_112, li_121, li_206, li_212, li_232, li_240, li_255, li_256, li_261, li_270, ng_1, ng_2, ng_3, ng_4, ng_9, ng_10, m1_1, nI_m1, m1_nI, if_true, if_false, nI_add, pk_mul, pk_sub, nI_div, nI_rem, nI_eq, nI_leI, nI_ltI, nI_clamp, ck_in, ck_nz, bind_sm, upM_n, upM_m, upM_s, if_pos, if_neg, this]
  · have lp : loop (fun s1 : Int32 × Int32 => f_X6_drawerBy_27_27b (nI d) (nI a) s1.1 s1.2 M) (nI 0, nI 0) = some (nI (cnt (wk (sA α) (d + 1)).2.2 a (nP (sA α))), nI (nP (sA α))) := by
      refine loop_for (B := fun s1 : Int32 × Int32 => f_X6_drawerBy_27_27b (nI d) (nI a) s1.1 s1.2 M) (fun i => (nI (cnt (wk (sA α) (d + 1)).2.2 a i), nI i)) (nP (sA α))
        (by
          intro i hi
          dsimp only
          have e := (c3 i hi).1
          have o := okv.2.2 i
          have l := cnt_le (we := (wk (sA α) (d + 1)).2.2) a i
          unfold f_X6_drawerBy_27_27b f_X6_drawerBy_59_27
          rw [cnt_s]
          by_cases q : (wk (sA α) (d + 1)).2.2 i = a
          · simp (disch := omega) only [li_0, li_1, li_2, li_3, li_4, li_5, li_6, li_7, li_8, li_9, li_10, li_11, li_12, li_14, li_15, li_16, li_18, li_20, li_22, li_23, li_24, li_29, li_30, li_31, li_32, li_33, li_40, li_48, li_54, li_55, li_56, li_57, li_59, li_60, li_63, li_64, li_97, li_98, li_99, li_100, li_103, li_107, li_108, li_112, li_121, li_206, li_212, li_232, li_240, li_255, li_256, li_261, li_270, ng_1, ng_2, ng_3, ng_4, ng_9, ng_10, m1_1, nI_m1, m1_nI, if_true, if_false, nI_add, pk_mul, pk_sub, nI_div, nI_rem, nI_eq, nI_leI, nI_ltI, nI_clamp, ck_in, ck_nz, bind_sm, upM_n, upM_m, upM_s, if_pos, if_neg, e9, e]
          · simp (disch := omega) only [li_0, li_1, li_2, li_3, li_4, li_5, li_6, li_7, li_8, li_9, li_10, li_11, li_12, li_14, li_15, li_16, li_18, li_20, li_22, li_23, li_24, li_29, li_30, li_31, li_32, li_33, li_40, li_48, li_54, li_55, li_56, li_57, li_59, li_60, li_63, li_64, li_97, li_98, li_99, li_100, li_103, li_107, li_108, li_112, li_121, li_206, li_212, li_232, li_240, li_255, li_256, li_261, li_270, ng_1, ng_2, ng_3, ng_4, ng_9, ng_10, m1_1, nI_m1, m1_nI, if_true, if_false, nI_add, pk_mul, pk_sub, nI_div, nI_rem, nI_eq, nI_leI, nI_ltI, nI_clamp, ck_in, ck_nz, bind_sm, upM_n, upM_m, upM_s, if_pos, if_neg, e9, e])
        (by
          dsimp only
          unfold f_X6_drawerBy_27_27b
          simp (disch := omega) only [li_0, li_1, li_2, li_3, li_4, li_5, li_6, li_7, li_8, li_9, li_10, li_11, li_12, li_14, li_15, li_16, li_18, li_20, li_22, li_23, li_24, li_29, li_30, li_31, li_32, li_33, li_40, li_48, li_54, li_55, li_56, li_57, li_59, li_60, li_63, li_64, li_97, li_98, li_99, li_100, li_103, li_107, li_108, li_112, li_121, li_206, li_212, li_232, li_240, li_255, li_256, li_261, li_270, ng_1, ng_2, ng_3, ng_4, ng_9, ng_10, m1_1, nI_m1, m1_nI, if_true, if_false, nI_add, pk_mul, pk_sub, nI_div, nI_rem, nI_eq, nI_leI, nI_ltI, nI_clamp, ck_in, ck_nz, bind_sm, upM_n, upM_m, upM_s, if_pos, if_neg, e9])
    simp (disch := omega) only [li_0, li_1, li_2, li_3, li_4, li_5, li_6, li_7, li_8, li_9, li_10, li_11, li_12, li_14, li_15, li_16, li_18, li_20, li_22, li_23, li_24, li_29, li_30, li_31, li_32, li_33, li_40, li_48, li_54, li_55, li_56, li_57, li_59, li_60, li_63, li_64, li_97, li_98, li_99, li_100, li_103, li_107, li_108, li_112, li_121, li_206, li_212, li_232, li_240, li_255, li_256, li_261, li_270, ng_1, ng_2, ng_3, ng_4, ng_9, ng_10, m1_1, nI_m1, m1_nI, if_true, if_false, nI_add, pk_mul, pk_sub, nI_div, nI_rem, nI_eq, nI_leI, nI_ltI, nI_clamp, ck_in, ck_nz, bind_sm, upM_n, upM_m, upM_s, if_pos, if_neg, lp]
theorem m_dr {α : AS} {M : Mem} (ok : OKA α) (h : MI α M) : ∃ M', FI α M' ∧ Fr 49 71 M M' ∧ (∀ d a w, d < 30 → a < nA (sA α) → w < 6 → f_X6_drawer (nI d) (nI a) (nI w) M = some (drV (sA α) d a w, M')) ∧ ∀ x1 x2 x3, ¬ (In x1 30 ∧ In x2 (nA (sA α)) ∧ In x3 6) → f_X6_drawer x1 x2 x3 M = some (m2, M') := by
  obtain ⟨M', g1, g2, g3⟩ := m_find ok h
  have ok1 := ok.s.1.1
  have e7 := g2.2.1.1.1
  refine ⟨M', g2, g3, fun d p w hd hp hw => ?_, fun x1 x2 x3 hx => ?_⟩
  · have e1 := m_isA (i := p) e7 (show nA (sA α) < 100 by omega) (show p < 100 by omega)
    have e2 := m_in_in (j := w) (n := 5) (by omega) (by omega)
    unfold f_X6_drawer
    rw [show (0 : Int64) = (nI 0).toInt64 from rfl, show (5 : Int64) = (nI 5).toInt64 from rfl]
    simp (disch := omega) only [li_0, li_1, li_2, li_3, li_4, li_5, li_6, li_7, li_8, li_9, li_10, li_11, li_12, li_14, li_15, li_16, li_18, li_20, li_22, li_23, li_24, li_29, li_30, li_31, li_32, li_33, li_40, li_48, li_54, li_55, li_56, li_57, li_59, li_60, li_63, li_64, li_97, li_98, li_99, li_100, li_103, li_107, li_108, li_112, li_121, li_206, li_212, li_232, li_240, li_255, li_256, li_261, li_270, ng_1, ng_2, ng_3, ng_4, ng_9, ng_10, m1_1, nI_m1, m1_nI, if_true, if_false, nI_add, pk_mul, pk_sub, nI_div, nI_rem, nI_eq, nI_leI, nI_ltI, nI_clamp, ck_in, ck_nz, bind_sm, upM_n, upM_m, upM_s, if_pos, if_neg, g1, m_day_in, e1, e2, m_dr_in ok g2 hd hp hw]
  · unfold f_X6_drawer
    rw [show (0 : Int64) = (nI 0).toInt64 from rfl, show (5 : Int64) = (nI 5).toInt64 from rfl]
    by_cases q1 : In x1 30
    · obtain ⟨d, hd, rfl⟩ := q1
      by_cases q2 : In x2 (nA (sA α))
      · obtain ⟨p, hp, rfl⟩ := q2
        have q3 : ¬ In x3 6 := fun r => hx ⟨⟨d, hd, rfl⟩, ⟨p, hp, rfl⟩, r⟩
        have e1 := m_isA (i := p) e7 (show nA (sA α) < 100 by omega) (show p < 100 by omega)
        simp (disch := omega) only [li_0, li_1, li_2, li_3, li_4, li_5, li_6, li_7, li_8, li_9, li_10, li_11, li_12, li_14, li_15, li_16, li_18, li_20, li_22, li_23, li_24, li_29, li_30, li_31, li_32, li_33, li_40, li_48, li_54, li_55, li_56, li_57, li_59, li_60, li_63, li_64, li_97, li_98, li_99, li_100, li_103, li_107, li_108, li_112, li_121, li_206, li_212, li_232, li_240, li_255, li_256, li_261, li_270, ng_1, ng_2, ng_3, ng_4, ng_9, ng_10, m1_1, nI_m1, m1_nI, if_true, if_false, nI_add, pk_mul, pk_sub, nI_div, nI_rem, nI_eq, nI_leI, nI_ltI, nI_clamp, ck_in, ck_nz, bind_sm, upM_n, upM_m, upM_s, if_pos, if_neg, g1, m_day_in, e1, m_in_out (n := 5) (by omega) q3]
      · simp (disch := omega) only [li_0, li_1, li_2, li_3, li_4, li_5, li_6, li_7, li_8, li_9, li_10, li_11, li_12, li_14, li_15, li_16, li_18, li_20, li_22, li_23, li_24, li_29, li_30, li_31, li_32, li_33, li_40, li_48, li_54, li_55, li_56, li_57, li_59, li_60, li_63, li_64, li_97, li_98, li_99, li_100, li_103, li_107, li_108, li_112, li_121, li_206, li_212, li_232, li_240, li_255, li_256, li_261, li_270, ng_1, ng_2, ng_3, ng_4, ng_9, ng_10, m1_1, nI_m1, m1_nI, if_true, if_false, nI_add, pk_mul, pk_sub, nI_div, nI_rem, nI_eq, nI_leI, nI_ltI, nI_clamp, ck_in, ck_nz, bind_sm, upM_n, upM_m, upM_s, if_pos, if_neg, g1, m_day_in, isA_out e7 (show nA (sA α) < 100 by omega) q2]
    · simp (disch := omega) only [li_0, li_1, li_2, li_3, li_4, li_5, li_6, li_7, li_8, li_9, li_10, li_11, li_12, li_14, li_15, li_16, li_18, li_20, li_22, li_23, li_24, li_29, li_30, li_31, li_32, li_33, li_40, li_48, li_54, li_55, li_56, li_57, li_59, li_60, li_63, li_64, li_97, li_98, li_99, li_100, li_103, li_107, li_108, li_112, li_121, li_206, li_212, li_232, li_240, li_255, li_256, li_261, li_270, ng_1, ng_2, ng_3, ng_4, ng_9, ng_10, m1_1, nI_m1, m1_nI, if_true, if_false, nI_add, pk_mul, pk_sub, nI_div, nI_rem, nI_eq, nI_leI, nI_ltI, nI_clamp, ck_in, ck_nz, bind_sm, upM_n, upM_m, upM_s, if_pos, if_neg, g1, m_day_out q1]
/-- astray -/
theorem c_as {α : AS} {M : Mem} (ok : OKA α) (h : CI α M) : ∃ M', f_X5_astray M = some (nI (abits (sA α)), M') ∧ CI α M' ∧ Fr 0 49 M M' := by
  obtain ⟨M', g1, g2, g3, g4⟩ := c_stand (d := 29) ok h (by omega)
  have := c_astray WI_21 ok.s (ok.s.wk 30) g3.2.1 g2.1
  refine ⟨M', ?_, g3, FrW g4 (by omega)⟩
  unfold f_X5_astray
  simp only [li_29, g1, bind_sm, this]
  rfl
/-- astray, as the reference finds it behind any life -/
theorem m_isAstray {σ : SS} {M : Mem} {p : Nat} (ok : OKS σ) (hS : MS σ M) (hL : LV' σ M) (hp : p < nP σ) : ∃ r : Int32, f_X6_isAstray (nI p) M = some r ∧ (r = nI 1 ∧ ast σ (wk σ 30) p ∨ r = nI 0 ∧ ¬ ast σ (wk σ 30) p) := by
  have ok2 := ok.1.2.1
  have ok1 := ok.1.1
  have o7 := ok.2.2.2.2.1 p
  obtain ⟨-, -, c3⟩ := hL.2.1 29 (by omega)
  obtain ⟨-, d2, -⟩ := c3 p hp
  have e6 := hS.2.2.2.2 p hp
  rw [show 8 * 29 + p = 232 + p by omega] at d2
  unfold f_X6_isAstray
  cases hm : tk σ (wk σ 30) p with
  | none =>
    rw [hm] at d2
    refine ⟨nI 0, ?_, Or.inr ⟨rfl, fun r => by obtain ⟨b, r1, -⟩ := r; rw [hm] at r1; cases r1⟩⟩
    simp (disch := omega) only [li_0, li_1, li_2, li_3, li_4, li_5, li_6, li_7, li_8, li_9, li_10, li_11, li_12, li_14, li_15, li_16, li_18, li_20, li_22, li_23, li_24, li_29, li_30, li_31, li_32, li_33, li_40, li_48, li_54, li_55, li_56, li_57, li_59, li_60, li_63, li_64, li_97, li_98, li_99, li_100, li_103, li_107, li_108, li_112, li_121, li_206, li_212, li_232, li_240, li_255, li_256, li_261, li_270, ng_1, ng_2, ng_3, ng_4, ng_9, ng_10, m1_1, nI_m1, m1_nI, if_true, if_false, nI_add, pk_mul, pk_sub, nI_div, nI_rem, nI_eq, nI_leI, nI_ltI, nI_clamp, ck_in, ck_nz, bind_sm, upM_n, upM_m, upM_s, if_pos, if_neg, d2, oi_n]
  | some b =>
    rw [hm] at d2
    have hb := am_lt hm
    by_cases q : b = ow σ p
    · refine ⟨nI 0, ?_, Or.inr ⟨rfl, fun r => by obtain ⟨b', r1, r2⟩ := r; rw [hm] at r1; cases r1; exact r2 q⟩⟩
      simp (disch := omega) only [li_0, li_1, li_2, li_3, li_4, li_5, li_6, li_7, li_8, li_9, li_10, li_11, li_12, li_14, li_15, li_16, li_18, li_20, li_22, li_23, li_24, li_29, li_30, li_31, li_32, li_33, li_40, li_48, li_54, li_55, li_56, li_57, li_59, li_60, li_63, li_64, li_97, li_98, li_99, li_100, li_103, li_107, li_108, li_112, li_121, li_206, li_212, li_232, li_240, li_255, li_256, li_261, li_270, ng_1, ng_2, ng_3, ng_4, ng_9, ng_10, m1_1, nI_m1, m1_nI, if_true, if_false, nI_add, pk_mul, pk_sub, nI_div, nI_rem, nI_eq, nI_leI, nI_ltI, nI_clamp, ck_in, ck_nz, bind_sm, upM_n, upM_m, upM_s, if_pos, if_neg, d2, oi_s, e6]
    · refine ⟨nI 1, ?_, Or.inl ⟨rfl, b, hm, q⟩⟩
      simp (disch := omega) only [li_0, li_1, li_2, li_3, li_4, li_5, li_6, li_7, li_8, li_9, li_10, li_11, li_12, li_14, li_15, li_16, li_18, li_20, li_22, li_23, li_24, li_29, li_30, li_31, li_32, li_33, li_40, li_48, li_54, li_55, li_56, li_57, li_59, li_60, li_63, li_64, li_97, li_98, li_99, li_100, li_103, li_107, li_108, li_112, li_121, li_206, li_212, li_232, li_240, li_255, li_256, li_261, li_270, ng_1, ng_2, ng_3, ng_4, ng_9, ng_10, m1_1, nI_m1, m1_nI, if_true, if_false, nI_add, pk_mul, pk_sub, nI_div, nI_rem, nI_eq, nI_leI, nI_ltI, nI_clamp, ck_in, ck_nz, bind_sm, upM_n, upM_m, upM_s, if_pos, if_neg, d2, oi_s, e6]
theorem or_0 (x : Int32) : x ||| nI 0 = x := by
  rw [← li_0]
  exact Int32.or_zero
theorem m_astrayNow {σ : SS} {M : Mem} (ok : OKS σ) (hS : MS σ M) (hL : LV' σ M) : f_X6_astrayNow M = some (nI (abits σ)) := by
  have ok2 := ok.1.2.1
  have e9 := hS.1.2
  unfold f_X6_astrayNow abits
  have lp : loop (fun s2 : Int32 × Int32 => f_X6_astrayNow_4_4b s2.1 s2.2 M) (nI 0, nI 0) = some (nI (bitsOf (ast σ (wk σ 30)) (nP σ)), nI (nP σ)) := by
    refine loop_for (B := fun s2 : Int32 × Int32 => f_X6_astrayNow_4_4b s2.1 s2.2 M) (fun i => (nI (bitsOf (ast σ (wk σ 30)) i), nI i)) (nP σ)
      (by
        intro i hi
        dsimp only
        unfold f_X6_astrayNow_4_4b f_X6_astrayNow_28_4
        obtain ⟨r, r1, ⟨rfl, r2⟩ | ⟨rfl, r2⟩⟩ := m_isAstray ok hS hL hi
        · rw [bitsOf_t r2]
          simp (disch := omega) only [li_0, li_1, li_2, li_3, li_4, li_5, li_6, li_7, li_8, li_9, li_10, li_11, li_12, li_14, li_15, li_16, li_18, li_20, li_22, li_23, li_24, li_29, li_30, li_31, li_32, li_33, li_40, li_48, li_54, li_55, li_56, li_57, li_59, li_60, li_63, li_64, li_97, li_98, li_99, li_100, li_103, li_107, li_108, li_112, li_121, li_206, li_212, li_232, li_240, li_255, li_256, li_261, li_270, ng_1, ng_2, ng_3, ng_4, ng_9, ng_10, m1_1, nI_m1, m1_nI, if_true, if_false, nI_add, pk_mul, pk_sub, nI_div, nI_rem, nI_eq, nI_leI, nI_ltI, nI_clamp, ck_in, ck_nz, bind_sm, upM_n, upM_m, upM_s, if_pos, if_neg, e9, r1]
          rw [nI_or2 (bitsOf_lt i) (by omega)]
        · rw [bitsOf_f r2]
          simp (disch := omega) only [li_0, li_1, li_2, li_3, li_4, li_5, li_6, li_7, li_8, li_9, li_10, li_11, li_12, li_14, li_15, li_16, li_18, li_20, li_22, li_23, li_24, li_29, li_30, li_31, li_32, li_33, li_40, li_48, li_54, li_55, li_56, li_57, li_59, li_60, li_63, li_64, li_97, li_98, li_99, li_100, li_103, li_107, li_108, li_112, li_121, li_206, li_212, li_232, li_240, li_255, li_256, li_261, li_270, ng_1, ng_2, ng_3, ng_4, ng_9, ng_10, m1_1, nI_m1, m1_nI, if_true, if_false, nI_add, pk_mul, pk_sub, nI_div, nI_rem, nI_eq, nI_leI, nI_ltI, nI_clamp, ck_in, ck_nz, bind_sm, upM_n, upM_m, upM_s, if_pos, if_neg, e9, r1]
          rw [or_0])
      (by
        dsimp only
        unfold f_X6_astrayNow_4_4b
        simp (disch := omega) only [li_0, li_1, li_2, li_3, li_4, li_5, li_6, li_7, li_8, li_9, li_10, li_11, li_12, li_14, li_15, li_16, li_18, li_20, li_22, li_23, li_24, li_29, li_30, li_31, li_32, li_33, li_40, li_48, li_54, li_55, li_56, li_57, li_59, li_60, li_63, li_64, li_97, li_98, li_99, li_100, li_103, li_107, li_108, li_112, li_121, li_206, li_212, li_232, li_240, li_255, li_256, li_261, li_270, ng_1, ng_2, ng_3, ng_4, ng_9, ng_10, m1_1, nI_m1, m1_nI, if_true, if_false, nI_add, pk_mul, pk_sub, nI_div, nI_rem, nI_eq, nI_leI, nI_ltI, nI_clamp, ck_in, ck_nz, bind_sm, upM_n, upM_m, upM_s, if_pos, if_neg, e9])
  simp only [li_0, li_1, li_2, li_3, li_4, li_5, li_6, li_7, li_8, li_9, li_10, li_11, li_12, li_14, li_15, li_16, li_18, li_20, li_22, li_23, li_24, li_29, li_30, li_31, li_32, li_33, li_40, li_48, li_54, li_55, li_56, li_57, li_59, li_60, li_63, li_64, li_97, li_98, li_99, li_100, li_103, li_107, li_108, li_112, li_121, li_206, li_212, li_232, li_240, li_255, li_256, li_261, li_270, ng_1, ng_2, ng_3, ng_4, ng_9, ng_10, m1_1, nI_m1, m1_nI, if_true, if_false, nI_add, pk_mul, pk_sub, nI_div, nI_rem, nI_eq, nI_leI, nI_ltI, nI_clamp, ck_in, ck_nz, bind_sm, upM_n, upM_m, upM_s, if_pos, if_neg, lp]
theorem m_as {α : AS} {M : Mem} (ok : OKA α) (h : MI α M) : ∃ M', f_X6_astray M = some (nI (abits (sA α)), M') ∧ FI α M' ∧ Fr 49 71 M M' := by
  obtain ⟨M', g1, g2, g3⟩ := m_find ok h
  refine ⟨M', ?_, g2, g3⟩
  unfold f_X6_astray
  simp only [g1, bind_sm, m_astrayNow ok.s g2.2.1 g2.2.2]
