-- THE CALLS that tell nothing new
theorem s_at {α : AS} (ok : OKA α) (x1 x2 x3 : Int32) : St α (f_X5_at x1 x2 x3) (f_X6_at x1 x2 x3) := by
  by_cases r : In x1 30 ∧ In x2 (nP (sA α)) ∧ In x3 8
  · obtain ⟨⟨d, hd, rfl⟩, ⟨p, hp, rfl⟩, ⟨w, hw, rfl⟩⟩ := r
    refine St.same ok _ (fun M h => c_at_in ok h hd hp hw) (fun M h => ?_)
    obtain ⟨M', a1, a2, a3, -⟩ := m_at ok h
    exact ⟨M', a3 d p w hd hp hw, a1.1, a2⟩
  · refine St.same ok m2 (fun M h => ⟨M, c_at_out ok h r, h, Fr.rf⟩) (fun M h => ?_)
    obtain ⟨M', a1, a2, -, a4⟩ := m_at ok h
    exact ⟨M', a4 x1 x2 x3 r, a1.1, a2⟩
theorem s_drawer {α : AS} (ok : OKA α) (x1 x2 x3 : Int32) : St α (f_X5_drawer x1 x2 x3) (f_X6_drawer x1 x2 x3) := by
  by_cases r : In x1 30 ∧ In x2 (nA (sA α)) ∧ In x3 6
  · obtain ⟨⟨d, hd, rfl⟩, ⟨p, hp, rfl⟩, ⟨w, hw, rfl⟩⟩ := r
    refine St.same ok _ (fun M h => c_dr_in ok h hd hp hw) (fun M h => ?_)
    obtain ⟨M', a1, a2, a3, -⟩ := m_dr ok h
    exact ⟨M', a3 d p w hd hp hw, a1.1, a2⟩
  · refine St.same ok m2 (fun M h => ⟨M, c_dr_out ok h r, h, Fr.rf⟩) (fun M h => ?_)
    obtain ⟨M', a1, a2, -, a4⟩ := m_dr ok h
    exact ⟨M', a4 x1 x2 x3 r, a1.1, a2⟩
theorem s_becomes {α : AS} (ok : OKA α) (x1 : Int32) : St α (f_X5_becomes x1) (f_X6_becomes x1) := by
  by_cases r : In x1 (nP (sA α))
  · obtain ⟨p, hp, rfl⟩ := r
    refine St.same ok _ (fun M h => c_be_in ok h hp) (fun M h => ?_)
    obtain ⟨M', a1, a2, a3, -⟩ := m_be ok h
    exact ⟨M', a3 p hp, a1.1, a2⟩
  · refine St.same ok m2 (fun M h => ⟨M, c_be_out ok h r, h, Fr.rf⟩) (fun M h => ?_)
    obtain ⟨M', a1, a2, -, a4⟩ := m_be ok h
    exact ⟨M', a4 x1 r, a1.1, a2⟩
theorem s_astray {α : AS} (ok : OKA α) : St α f_X5_astray f_X6_astray := by
  refine St.same ok _ (fun M h => c_as ok h) (fun M h => ?_)
  obtain ⟨M', a1, a2, a3⟩ := m_as ok h
  exact ⟨M', a1, a2.1, a3⟩
theorem s_crowd {α : AS} (ok : OKA α) : St α f_X5_crowd f_X6_crowd := by
  refine St.same ok _ (fun M h => c_crowd ok h) (fun M h => ?_)
  obtain ⟨M', a1, a2, a3⟩ := m_find ok h
  refine ⟨M', ?_, a2.1, a3⟩
  unfold f_X6_crowd
  rw [a1, bind_sm, m_crowd ok a2, bind_sm]
theorem s_dress {α : AS} (ok : OKA α) (x1 x2 x3 x4 : Int32) : St α (f_X5_dress x1 x2 x3 x4) (f_X6_dress x1 x2 x3 x4) := by
  by_cases r : In x1 (nP (sA α)) ∧ In x2 8 ∧ In x3 30 ∧ In x4 2
  · obtain ⟨⟨k, hk, rfl⟩, ⟨a, ha, rfl⟩, ⟨d, hd, rfl⟩, ⟨w, hw, rfl⟩⟩ := r
    refine St.same ok _ (fun M h => c_dress_in ok h hk ha hd hw) (fun M h => ?_)
    obtain ⟨M', a1, a2, a3⟩ := (m_dress ok h).1 k a d w hk ha hd hw
    exact ⟨M', a1, a2.1, a3⟩
  · refine St.same ok m2 (fun M h => ⟨M, c_dress_out ok h r, h, Fr.rf⟩) (fun M h => ?_)
    obtain ⟨M', a1, a2, a3⟩ := (m_dress ok h).2 x1 x2 x3 x4 r
    exact ⟨M', a1, a2.1, a3⟩
theorem s_home {α : AS} (ok : OKA α) (x1 : Int32) : St α (f_X5_home x1) (f_X6_home x1) := by
  by_cases r : In x1 (nP (sA α))
  · obtain ⟨k, hk, rfl⟩ := r
    refine St.same ok _ (fun M h => c_home_in ok h hk) (fun M h => ?_)
    obtain ⟨M', a1, a2, a3⟩ := (m_home ok h).1 k hk
    exact ⟨M', a1, a2.1, a3⟩
  · refine St.same ok m2 (fun M h => ⟨M, c_home_out ok h r, h, Fr.rf⟩) (fun M h => ?_)
    obtain ⟨M', a1, a2, a3⟩ := (m_home ok h).2 x1 r
    exact ⟨M', a1, a2.1, a3⟩
theorem s_tray {α : AS} (ok : OKA α) (x1 : Int32) : St α (f_X5_tray x1) (f_X6_tray x1) := by
  by_cases r : In x1 3
  · obtain ⟨w, hw, rfl⟩ := r
    refine St.same ok _ (fun M h => c_tray_in ok h hw) (fun M h => ?_)
    obtain ⟨M', a1, a2, a3⟩ := (m_tray ok h).1 w hw
    exact ⟨M', a1, a2.1, a3⟩
  · refine St.same ok m2 (fun M h => ⟨M, c_tray_out (α := α) r, h, Fr.rf⟩) (fun M h => ?_)
    obtain ⟨M', a1, a2, a3⟩ := (m_tray ok h).2 x1 r
    exact ⟨M', a1, a2.1, a3⟩
theorem s_refuse {α : AS} (ok : OKA α) (x1 : Int32) : St α (f_X5_refuse x1) (f_X6_refuse x1) := by
  by_cases r : x1 = m1 ∨ In x1 2
  · refine St.same ok _ (fun M h => c_ref_in ok h r) (fun M h => ?_)
    obtain ⟨M', a1, a2, a3⟩ := (m_refuse ok h).1 x1 r
    exact ⟨M', a1, a2.1, a3⟩
  · refine St.same ok m2 (fun M h => ⟨M, c_ref_out r, h, Fr.rf⟩) (fun M h => ?_)
    obtain ⟨M', a1, a2, a3⟩ := (m_refuse ok h).2 x1 r
    exact ⟨M', a1, a2.1, a3⟩
theorem s_never {α : AS} (ok : OKA α) : St α f_X5_never f_X6_never := by
  refine St.same ok _ (fun M h => c_never ok h) (fun M h => ?_)
  obtain ⟨M', a1, a2, a3⟩ := m_never ok h
  exact ⟨M', a1, a2.1, a3⟩
theorem s_was {α : AS} (ok : OKA α) (x1 x2 : Int32) : St α (f_X5_was x1 x2) (f_X6_was x1 x2) := by
  by_cases r : In x1 (nP (sA α)) ∧ In x2 2
  · obtain ⟨⟨k, hk, rfl⟩, ⟨w, hw, rfl⟩⟩ := r
    refine St.same ok _ (fun M h => c_was_in ok h hk hw) (fun M h => ?_)
    obtain ⟨M', a1, a2, a3⟩ := (m_was ok h).1 k w hk hw
    exact ⟨M', a1, a2.1, a3⟩
  · refine St.same ok m2 (fun M h => ⟨M, c_was_out ok h r, h, Fr.rf⟩) (fun M h => ?_)
    obtain ⟨M', a1, a2, a3⟩ := (m_was ok h).2 x1 x2 r
    exact ⟨M', a1, a2.1, a3⟩
theorem s_ask {α : AS} (ok : OKA α) (x1 : Int32) : St α (f_X5_ask x1) (f_X6_ask x1) := by
  by_cases r : In x1 (nP (sA α))
  · obtain ⟨k, hk, rfl⟩ := r
    refine St.same ok _ (fun M h => c_ask_in ok h hk) (fun M h => ?_)
    obtain ⟨M', a1, a2, a3⟩ := (m_ask ok h).1 k hk
    exact ⟨M', a1, a2.1, a3⟩
  · refine St.same ok m2 (fun M h => ⟨M, c_ask_out ok h r, h, Fr.rf⟩) (fun M h => ?_)
    obtain ⟨M', a1, a2, a3⟩ := (m_ask ok h).2 x1 r
    exact ⟨M', a1, a2.1, a3⟩
theorem s_custom {α : AS} (ok : OKA α) (x1 x2 x3 : Int32) : St α (f_X5_custom x1 x2 x3) (f_X6_custom x1 x2 x3) := by
  by_cases r : In x1 17 ∧ In x2 (nP (sA α)) ∧ In x3 2
  · obtain ⟨⟨x, hx, rfl⟩, ⟨k, hk, rfl⟩, ⟨w, hw, rfl⟩⟩ := r
    refine St.same ok _ (fun M h => c_custom_in ok h (by omega) hk hw) (fun M h => ?_)
    obtain ⟨M', a1, a2, a3⟩ := (m_custom ok h).1 x k w hx hk hw
    exact ⟨M', a1, a2.1, a3⟩
  · refine St.same ok cN2 (fun M h => ⟨M, c_custom_out ok h r, h, Fr.rf⟩) (fun M h => ?_)
    obtain ⟨M', a1, a2, a3⟩ := (m_custom ok h).2 x1 x2 x3 r
    exact ⟨M', a1, a2.1, a3⟩
theorem s_year {α : AS} (ok : OKA α) (x1 x2 x3 : Int32) : St α (f_X5_year x1 x2 x3) (f_X6_year x1 x2 x3) := by
  by_cases r : In x2 9 ∧ In x3 2
  · obtain ⟨⟨n, hn, rfl⟩, ⟨w, hw, rfl⟩⟩ := r
    refine St.same ok _ (fun M h => c_year_in ok h hn hw) (fun M h => ?_)
    obtain ⟨M', a1, a2, a3⟩ := (m_year ok h).1 x1 n w hn hw
    exact ⟨M', a1, a2.1, a3⟩
  · refine St.same ok m2 (fun M h => ⟨M, c_year_out r, h, Fr.rf⟩) (fun M h => ?_)
    obtain ⟨M', a1, a2, a3⟩ := (m_year ok h).2 x1 x2 x3 r
    exact ⟨M', a1, a2.1, a3⟩
def cntV (α : AS) (w : Nat) : Int32 := match w with
  | 0 => nI (nA (sA α))
  | 1 => nI (nP (sA α))
  | 2 => nI α.1.1
  | 3 => nI α.2.1.1
  | 4 => nI (hlA α).length
  | 5 => nI 0
  | 6 => nI (becM (sA α))
  | 7 => nI (heA α).length
  | _ => fdA α
noncomputable def countV (α : AS) (w : Nat) : Int32 := if w = 5 then nI (pcn (abits (sA α))) else cntV α w
theorem nine_cases {j : Nat} (h : j < 9) : j = 0 ∨ j = 1 ∨ j = 2 ∨ j = 3 ∨ j = 4 ∨ j = 5 ∨ j = 6 ∨ j = 7 ∨ j = 8 := by omega
theorem c_count_in {α : AS} {M : Mem} {w : Nat} (ok : OKA α) (h : CI α M) (hw : w < 9) : ∃ M', f_X5_count (nI w) M = some (countV α w, M') ∧ CI α M' ∧ Fr 0 49 M M' := by
  have e0 := h.2.1.1.1
  have e1 := h.2.1.1.2.1
  have e2 := h.1.1.2.2.1
  have e3 := h.1.2.2.2.1
  have e4 := h.hir.1
  have e7 := h.2.2.2.2.1.1
  have e8 := h.2.2.2.2.2.2
  unfold f_X5_count
  rcases nine_cases hw with rfl | rfl | rfl | rfl | rfl | rfl | rfl | rfl | rfl
  · refine ⟨M, ?_, h, Fr.rf⟩
    simp (disch := omega) only [li_0, li_1, li_2, li_3, li_4, li_5, li_6, li_7, li_8, li_9, li_10, li_11, li_12, li_14, li_15, li_16, li_18, li_20, li_22, li_23, li_24, li_29, li_30, li_31, li_32, li_33, li_40, li_48, li_54, li_55, li_56, li_57, li_59, li_60, li_63, li_64, li_97, li_98, li_99, li_100, li_103, li_107, li_108, li_112, li_121, li_206, li_212, li_232, li_240, li_255, li_256, li_261, li_270, ng_1, ng_2, ng_3, ng_4, ng_9, ng_10, m1_1, nI_m1, m1_nI, if_true, if_false, nI_add, pk_mul, pk_sub, nI_div, nI_rem, nI_eq, nI_leI, nI_ltI, nI_clamp, ck_in, ck_nz, bind_sm, upM_n, upM_m, upM_s, if_pos, if_neg, e0]
    rfl
  · refine ⟨M, ?_, h, Fr.rf⟩
    simp (disch := omega) only [li_0, li_1, li_2, li_3, li_4, li_5, li_6, li_7, li_8, li_9, li_10, li_11, li_12, li_14, li_15, li_16, li_18, li_20, li_22, li_23, li_24, li_29, li_30, li_31, li_32, li_33, li_40, li_48, li_54, li_55, li_56, li_57, li_59, li_60, li_63, li_64, li_97, li_98, li_99, li_100, li_103, li_107, li_108, li_112, li_121, li_206, li_212, li_232, li_240, li_255, li_256, li_261, li_270, ng_1, ng_2, ng_3, ng_4, ng_9, ng_10, m1_1, nI_m1, m1_nI, if_true, if_false, nI_add, pk_mul, pk_sub, nI_div, nI_rem, nI_eq, nI_leI, nI_ltI, nI_clamp, ck_in, ck_nz, bind_sm, upM_n, upM_m, upM_s, if_pos, if_neg, e1]
    rfl
  · refine ⟨M, ?_, h, Fr.rf⟩
    simp (disch := omega) only [li_0, li_1, li_2, li_3, li_4, li_5, li_6, li_7, li_8, li_9, li_10, li_11, li_12, li_14, li_15, li_16, li_18, li_20, li_22, li_23, li_24, li_29, li_30, li_31, li_32, li_33, li_40, li_48, li_54, li_55, li_56, li_57, li_59, li_60, li_63, li_64, li_97, li_98, li_99, li_100, li_103, li_107, li_108, li_112, li_121, li_206, li_212, li_232, li_240, li_255, li_256, li_261, li_270, ng_1, ng_2, ng_3, ng_4, ng_9, ng_10, m1_1, nI_m1, m1_nI, if_true, if_false, nI_add, pk_mul, pk_sub, nI_div, nI_rem, nI_eq, nI_leI, nI_ltI, nI_clamp, ck_in, ck_nz, bind_sm, upM_n, upM_m, upM_s, if_pos, if_neg, e2]
    rfl
  · refine ⟨M, ?_, h, Fr.rf⟩
    simp (disch := omega) only [li_0, li_1, li_2, li_3, li_4, li_5, li_6, li_7, li_8, li_9, li_10, li_11, li_12, li_14, li_15, li_16, li_18, li_20, li_22, li_23, li_24, li_29, li_30, li_31, li_32, li_33, li_40, li_48, li_54, li_55, li_56, li_57, li_59, li_60, li_63, li_64, li_97, li_98, li_99, li_100, li_103, li_107, li_108, li_112, li_121, li_206, li_212, li_232, li_240, li_255, li_256, li_261, li_270, ng_1, ng_2, ng_3, ng_4, ng_9, ng_10, m1_1, nI_m1, m1_nI, if_true, if_false, nI_add, pk_mul, pk_sub, nI_div, nI_rem, nI_eq, nI_leI, nI_ltI, nI_clamp, ck_in, ck_nz, bind_sm, upM_n, upM_m, upM_s, if_pos, if_neg, e3]
    rfl
  · refine ⟨M, ?_, h, Fr.rf⟩
    simp (disch := omega) only [li_0, li_1, li_2, li_3, li_4, li_5, li_6, li_7, li_8, li_9, li_10, li_11, li_12, li_14, li_15, li_16, li_18, li_20, li_22, li_23, li_24, li_29, li_30, li_31, li_32, li_33, li_40, li_48, li_54, li_55, li_56, li_57, li_59, li_60, li_63, li_64, li_97, li_98, li_99, li_100, li_103, li_107, li_108, li_112, li_121, li_206, li_212, li_232, li_240, li_255, li_256, li_261, li_270, ng_1, ng_2, ng_3, ng_4, ng_9, ng_10, m1_1, nI_m1, m1_nI, if_true, if_false, nI_add, pk_mul, pk_sub, nI_div, nI_rem, nI_eq, nI_leI, nI_ltI, nI_clamp, ck_in, ck_nz, bind_sm, upM_n, upM_m, upM_s, if_pos, if_neg, e4]
    rfl
  · obtain ⟨M', a1, a2, a3⟩ := c_as ok h
    refine ⟨M', ?_, a2, a3⟩
    simp (disch := omega) only [li_0, li_1, li_2, li_3, li_4, li_5, li_6, li_7, li_8, li_9, li_10, li_11, li_12, li_14, li_15, li_16, li_18, li_20, li_22, li_23, li_24, li_29, li_30, li_31, li_32, li_33, li_40, li_48, li_54, li_55, li_56, li_57, li_59, li_60, li_63, li_64, li_97, li_98, li_99, li_100, li_103, li_107, li_108, li_112, li_121, li_206, li_212, li_232, li_240, li_255, li_256, li_261, li_270, ng_1, ng_2, ng_3, ng_4, ng_9, ng_10, m1_1, nI_m1, m1_nI, if_true, if_false, nI_add, pk_mul, pk_sub, nI_div, nI_rem, nI_eq, nI_leI, nI_ltI, nI_clamp, ck_in, ck_nz, bind_sm, upM_n, upM_m, upM_s, if_pos, if_neg, a1, c_bitCount (abits_lt ok.s)]
    rfl
  · obtain ⟨M', a1, -, a2, a3⟩ := c_firstT ok h
    refine ⟨M', ?_, a2, a3⟩
    simp (disch := omega) only [li_0, li_1, li_2, li_3, li_4, li_5, li_6, li_7, li_8, li_9, li_10, li_11, li_12, li_14, li_15, li_16, li_18, li_20, li_22, li_23, li_24, li_29, li_30, li_31, li_32, li_33, li_40, li_48, li_54, li_55, li_56, li_57, li_59, li_60, li_63, li_64, li_97, li_98, li_99, li_100, li_103, li_107, li_108, li_112, li_121, li_206, li_212, li_232, li_240, li_255, li_256, li_261, li_270, ng_1, ng_2, ng_3, ng_4, ng_9, ng_10, m1_1, nI_m1, m1_nI, if_true, if_false, nI_add, pk_mul, pk_sub, nI_div, nI_rem, nI_eq, nI_leI, nI_ltI, nI_clamp, ck_in, ck_nz, bind_sm, upM_n, upM_m, upM_s, if_pos, if_neg, a1]
    rfl
  · refine ⟨M, ?_, h, Fr.rf⟩
    simp (disch := omega) only [li_0, li_1, li_2, li_3, li_4, li_5, li_6, li_7, li_8, li_9, li_10, li_11, li_12, li_14, li_15, li_16, li_18, li_20, li_22, li_23, li_24, li_29, li_30, li_31, li_32, li_33, li_40, li_48, li_54, li_55, li_56, li_57, li_59, li_60, li_63, li_64, li_97, li_98, li_99, li_100, li_103, li_107, li_108, li_112, li_121, li_206, li_212, li_232, li_240, li_255, li_256, li_261, li_270, ng_1, ng_2, ng_3, ng_4, ng_9, ng_10, m1_1, nI_m1, m1_nI, if_true, if_false, nI_add, pk_mul, pk_sub, nI_div, nI_rem, nI_eq, nI_leI, nI_ltI, nI_clamp, ck_in, ck_nz, bind_sm, upM_n, upM_m, upM_s, if_pos, if_neg, e7]
    rfl
  · refine ⟨M, ?_, h, Fr.rf⟩
    simp (disch := omega) only [li_0, li_1, li_2, li_3, li_4, li_5, li_6, li_7, li_8, li_9, li_10, li_11, li_12, li_14, li_15, li_16, li_18, li_20, li_22, li_23, li_24, li_29, li_30, li_31, li_32, li_33, li_40, li_48, li_54, li_55, li_56, li_57, li_59, li_60, li_63, li_64, li_97, li_98, li_99, li_100, li_103, li_107, li_108, li_112, li_121, li_206, li_212, li_232, li_240, li_255, li_256, li_261, li_270, ng_1, ng_2, ng_3, ng_4, ng_9, ng_10, m1_1, nI_m1, m1_nI, if_true, if_false, nI_add, pk_mul, pk_sub, nI_div, nI_rem, nI_eq, nI_leI, nI_ltI, nI_clamp, ck_in, ck_nz, bind_sm, upM_n, upM_m, upM_s, if_pos, if_neg, e8]
    rfl
theorem m_count_in {α : AS} {M : Mem} {w : Nat} (ok : OKA α) (h : MI α M) (hw : w < 9) : ∃ M', f_X6_count (nI w) M = some (countV α w, M') ∧ FI α M' ∧ Fr 49 71 M M' := by
  obtain ⟨M', a1, a2, a3⟩ := m_find ok h
  refine ⟨M', ?_, a2, a3⟩
  have e0 := a2.2.1.1.1
  have e1 := a2.2.1.1.2
  have e2 := a2.1.1.1
  have e3 := a2.1.2.1.1
  have e4 := a2.1.2.2.1.1
  have e7 := a2.1.2.2.2.1.1
  have e8 := a2.1.2.2.2.2.2
  have e5 := m_astrayNow ok.s a2.2.1 a2.2.2
  have e6 := m_becM ok.s a2.2.1 a2.2.2
  unfold f_X6_count
  rw [a1, bind_sm]
  rcases nine_cases hw with rfl | rfl | rfl | rfl | rfl | rfl | rfl | rfl | rfl
  · simp (disch := omega) only [li_0, li_1, li_2, li_3, li_4, li_5, li_6, li_7, li_8, li_9, li_10, li_11, li_12, li_14, li_15, li_16, li_18, li_20, li_22, li_23, li_24, li_29, li_30, li_31, li_32, li_33, li_40, li_48, li_54, li_55, li_56, li_57, li_59, li_60, li_63, li_64, li_97, li_98, li_99, li_100, li_103, li_107, li_108, li_112, li_121, li_206, li_212, li_232, li_240, li_255, li_256, li_261, li_270, ng_1, ng_2, ng_3, ng_4, ng_9, ng_10, m1_1, nI_m1, m1_nI, if_true, if_false, nI_add, pk_mul, pk_sub, nI_div, nI_rem, nI_eq, nI_leI, nI_ltI, nI_clamp, ck_in, ck_nz, bind_sm, upM_n, upM_m, upM_s, if_pos, if_neg, e0]
    rfl
  · simp (disch := omega) only [li_0, li_1, li_2, li_3, li_4, li_5, li_6, li_7, li_8, li_9, li_10, li_11, li_12, li_14, li_15, li_16, li_18, li_20, li_22, li_23, li_24, li_29, li_30, li_31, li_32, li_33, li_40, li_48, li_54, li_55, li_56, li_57, li_59, li_60, li_63, li_64, li_97, li_98, li_99, li_100, li_103, li_107, li_108, li_112, li_121, li_206, li_212, li_232, li_240, li_255, li_256, li_261, li_270, ng_1, ng_2, ng_3, ng_4, ng_9, ng_10, m1_1, nI_m1, m1_nI, if_true, if_false, nI_add, pk_mul, pk_sub, nI_div, nI_rem, nI_eq, nI_leI, nI_ltI, nI_clamp, ck_in, ck_nz, bind_sm, upM_n, upM_m, upM_s, if_pos, if_neg, e1]
    rfl
  · simp (disch := omega) only [li_0, li_1, li_2, li_3, li_4, li_5, li_6, li_7, li_8, li_9, li_10, li_11, li_12, li_14, li_15, li_16, li_18, li_20, li_22, li_23, li_24, li_29, li_30, li_31, li_32, li_33, li_40, li_48, li_54, li_55, li_56, li_57, li_59, li_60, li_63, li_64, li_97, li_98, li_99, li_100, li_103, li_107, li_108, li_112, li_121, li_206, li_212, li_232, li_240, li_255, li_256, li_261, li_270, ng_1, ng_2, ng_3, ng_4, ng_9, ng_10, m1_1, nI_m1, m1_nI, if_true, if_false, nI_add, pk_mul, pk_sub, nI_div, nI_rem, nI_eq, nI_leI, nI_ltI, nI_clamp, ck_in, ck_nz, bind_sm, upM_n, upM_m, upM_s, if_pos, if_neg, Nat.sub_self, e2]
    rfl
  · simp (disch := omega) only [li_0, li_1, li_2, li_3, li_4, li_5, li_6, li_7, li_8, li_9, li_10, li_11, li_12, li_14, li_15, li_16, li_18, li_20, li_22, li_23, li_24, li_29, li_30, li_31, li_32, li_33, li_40, li_48, li_54, li_55, li_56, li_57, li_59, li_60, li_63, li_64, li_97, li_98, li_99, li_100, li_103, li_107, li_108, li_112, li_121, li_206, li_212, li_232, li_240, li_255, li_256, li_261, li_270, ng_1, ng_2, ng_3, ng_4, ng_9, ng_10, m1_1, nI_m1, m1_nI, if_true, if_false, nI_add, pk_mul, pk_sub, nI_div, nI_rem, nI_eq, nI_leI, nI_ltI, nI_clamp, ck_in, ck_nz, bind_sm, upM_n, upM_m, upM_s, if_pos, if_neg, Nat.reduceSub, e3]
    rfl
  · simp (disch := omega) only [li_0, li_1, li_2, li_3, li_4, li_5, li_6, li_7, li_8, li_9, li_10, li_11, li_12, li_14, li_15, li_16, li_18, li_20, li_22, li_23, li_24, li_29, li_30, li_31, li_32, li_33, li_40, li_48, li_54, li_55, li_56, li_57, li_59, li_60, li_63, li_64, li_97, li_98, li_99, li_100, li_103, li_107, li_108, li_112, li_121, li_206, li_212, li_232, li_240, li_255, li_256, li_261, li_270, ng_1, ng_2, ng_3, ng_4, ng_9, ng_10, m1_1, nI_m1, m1_nI, if_true, if_false, nI_add, pk_mul, pk_sub, nI_div, nI_rem, nI_eq, nI_leI, nI_ltI, nI_clamp, ck_in, ck_nz, bind_sm, upM_n, upM_m, upM_s, if_pos, if_neg, e4]
    rfl
  · simp (disch := omega) only [li_0, li_1, li_2, li_3, li_4, li_5, li_6, li_7, li_8, li_9, li_10, li_11, li_12, li_14, li_15, li_16, li_18, li_20, li_22, li_23, li_24, li_29, li_30, li_31, li_32, li_33, li_40, li_48, li_54, li_55, li_56, li_57, li_59, li_60, li_63, li_64, li_97, li_98, li_99, li_100, li_103, li_107, li_108, li_112, li_121, li_206, li_212, li_232, li_240, li_255, li_256, li_261, li_270, ng_1, ng_2, ng_3, ng_4, ng_9, ng_10, m1_1, nI_m1, m1_nI, if_true, if_false, nI_add, pk_mul, pk_sub, nI_div, nI_rem, nI_eq, nI_leI, nI_ltI, nI_clamp, ck_in, ck_nz, bind_sm, upM_n, upM_m, upM_s, if_pos, if_neg, e5, m_ones (abits_lt ok.s)]
    rfl
  · simp (disch := omega) only [li_0, li_1, li_2, li_3, li_4, li_5, li_6, li_7, li_8, li_9, li_10, li_11, li_12, li_14, li_15, li_16, li_18, li_20, li_22, li_23, li_24, li_29, li_30, li_31, li_32, li_33, li_40, li_48, li_54, li_55, li_56, li_57, li_59, li_60, li_63, li_64, li_97, li_98, li_99, li_100, li_103, li_107, li_108, li_112, li_121, li_206, li_212, li_232, li_240, li_255, li_256, li_261, li_270, ng_1, ng_2, ng_3, ng_4, ng_9, ng_10, m1_1, nI_m1, m1_nI, if_true, if_false, nI_add, pk_mul, pk_sub, nI_div, nI_rem, nI_eq, nI_leI, nI_ltI, nI_clamp, ck_in, ck_nz, bind_sm, upM_n, upM_m, upM_s, if_pos, if_neg, e6]
    rfl
  · simp (disch := omega) only [li_0, li_1, li_2, li_3, li_4, li_5, li_6, li_7, li_8, li_9, li_10, li_11, li_12, li_14, li_15, li_16, li_18, li_20, li_22, li_23, li_24, li_29, li_30, li_31, li_32, li_33, li_40, li_48, li_54, li_55, li_56, li_57, li_59, li_60, li_63, li_64, li_97, li_98, li_99, li_100, li_103, li_107, li_108, li_112, li_121, li_206, li_212, li_232, li_240, li_255, li_256, li_261, li_270, ng_1, ng_2, ng_3, ng_4, ng_9, ng_10, m1_1, nI_m1, m1_nI, if_true, if_false, nI_add, pk_mul, pk_sub, nI_div, nI_rem, nI_eq, nI_leI, nI_ltI, nI_clamp, ck_in, ck_nz, bind_sm, upM_n, upM_m, upM_s, if_pos, if_neg, e7]
    rfl
  · simp (disch := omega) only [li_0, li_1, li_2, li_3, li_4, li_5, li_6, li_7, li_8, li_9, li_10, li_11, li_12, li_14, li_15, li_16, li_18, li_20, li_22, li_23, li_24, li_29, li_30, li_31, li_32, li_33, li_40, li_48, li_54, li_55, li_56, li_57, li_59, li_60, li_63, li_64, li_97, li_98, li_99, li_100, li_103, li_107, li_108, li_112, li_121, li_206, li_212, li_232, li_240, li_255, li_256, li_261, li_270, ng_1, ng_2, ng_3, ng_4, ng_9, ng_10, m1_1, nI_m1, m1_nI, if_true, if_false, nI_add, pk_mul, pk_sub, nI_div, nI_rem, nI_eq, nI_leI, nI_ltI, nI_clamp, ck_in, ck_nz, bind_sm, upM_n, upM_m, upM_s, if_pos, if_neg, e8]
    rfl
theorem out_ne {x : Int32} {n j : Nat} (h : ¬ In x n) (hj : j < n) : (x = nI j) = False := eq_false fun e => h ⟨j, hj, e⟩
theorem s_count {α : AS} (ok : OKA α) (x1 : Int32) : St α (f_X5_count x1) (f_X6_count x1) := by
  by_cases r : In x1 9
  · obtain ⟨w, hw, rfl⟩ := r
    refine St.same ok (countV α w) (fun M h => c_count_in ok h hw) (fun M h => ?_)
    obtain ⟨M', a1, a2, a3⟩ := m_count_in ok h hw
    exact ⟨M', a1, a2.1, a3⟩
  · have n0 := out_ne (j := 0) r (by omega)
    have n1 := out_ne (j := 1) r (by omega)
    have n2 := out_ne (j := 2) r (by omega)
    have n3 := out_ne (j := 3) r (by omega)
    have n4 := out_ne (j := 4) r (by omega)
    have n5 := out_ne (j := 5) r (by omega)
    have n6 := out_ne (j := 6) r (by omega)
    have n7 := out_ne (j := 7) r (by omega)
    have n8 := out_ne (j := 8) r (by omega)
    refine St.same ok m2 (fun M h => ⟨M, ?_, h, Fr.rf⟩) (fun M h => ?_)
    · unfold f_X5_count
      simp only [li_0, li_1, li_2, li_3, li_4, li_5, li_6, li_7, li_8, n0, n1, n2, n3, n4, n5, n6, n7, n8, if_false, ng_2]
    · obtain ⟨M', a1, a2, a3⟩ := m_find ok h
      refine ⟨M', ?_, a2.1, a3⟩
      unfold f_X6_count
      rw [a1, bind_sm]
      simp only [li_0, li_1, li_2, li_3, li_4, li_5, li_6, li_7, li_8, n0, n1, n2, n3, n4, n5, n6, n7, n8, if_false, ng_2]
