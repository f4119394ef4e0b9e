-- THE CALLS: wipe, undo, fault, accent, person
theorem MI.cut0 {α : AS} {M : Mem} {n : Nat} (h : MI α M) (hn : n ≤ α.1.1) : MI (setT0 α n α.1.2) (upM M 55 0 (nI n)) := by
  refine h.text (β := setT0 α n α.1.2) rfl ⟨upM_s, fun i hi => ?_⟩ ⟨?_, fun i hi => ?_⟩ (fun k h1 h2 => by rw [upM_n h2])
  · have hi : i < n := hi
    rw [upM_n (by omega)]; exact h.1.2 i (by omega)
  · rw [upM_m (by omega)]; exact h.2.1.1
  · rw [upM_n (by omega)]; exact h.2.1.2 i hi
theorem MI.cut1 {α : AS} {M : Mem} {n : Nat} (h : MI α M) (hn : n ≤ α.2.1.1) : MI (setT1 α n α.2.1.2) (upM M 55 1 (nI n)) := by
  refine h.text (β := setT1 α n α.2.1.2) rfl ⟨?_, fun i hi => ?_⟩ ⟨upM_s, fun i hi => ?_⟩ (fun k h1 h2 => by rw [upM_n h2])
  · rw [upM_m (by omega)]; exact h.1.1
  · rw [upM_n (by omega)]; exact h.1.2 i hi
  · have hi : i < n := hi
    rw [upM_n (by omega)]; exact h.2.1.2 i (by omega)
theorem c_cut0 {α : AS} {M : Mem} {n : Nat} (ok : OKA α) (h : CI α M) (hn : n ≤ α.1.1) : ∃ M', f_X5_tellAgain (upM M 1 4 (nI n)) = some M' ∧ CI (setT0 α n α.1.2) M' ∧ Fr 0 49 M M' := by
  have o1 := ok.1.1
  exact c_text0 h (ok.t0 (by omega) ok.1.2) (h.1.1.cut hn (fun j hj => upM_m hj) upM_s (upM_n (by omega))) (fun k h1 h2 => upM_n h1)
theorem c_cut1 {α : AS} {M : Mem} {n : Nat} (ok : OKA α) (h : CI α M) (hn : n ≤ α.2.1.1) : ∃ M', f_X5_tellAgain (upM M 3 4 (nI n)) = some M' ∧ CI (setT1 α n α.2.1.2) M' ∧ Fr 0 49 M M' := by
  have o1 := ok.2.1.1
  exact c_text1 h (ok.t1 (by omega) ok.2.1.2) (h.1.2.cut hn (fun j hj => upM_m hj) upM_s (upM_n (by omega))) (fun k h1 h2 => upM_n h1)
theorem s_wipe {α : AS} (ok : OKA α) (x1 : Int32) : St α (f_X5_wipe x1) (f_X6_wipe x1) := by
  obtain ⟨⟨o1, o2⟩, ⟨o3, o4⟩, o5⟩ := id ok
  by_cases r1 : In x1 2
  · obtain ⟨j, hj, rfl⟩ := r1
    rcases two_cases hj with rfl | rfl
    · refine ⟨nI α.1.1, setT0 α 0 α.1.2, ok.t0 (by omega) o2, fun M h => ?_, fun M h => ⟨upM M 55 0 (nI 0), ?_, h.cut0 (by omega), fun k hk => by rw [upM_n (by omega)]⟩⟩
      · have e4 := h.1.1.2.2.1
        obtain ⟨M', d1, d2, d3⟩ := c_cut0 (n := 0) ok h (by omega)
        refine ⟨M', ?_, d2, d3⟩
        unfold f_X5_wipe f_X5_textOf
        simp (disch := omega) only [li_0, li_1, li_2, li_3, li_4, li_5, li_6, li_7, li_8, li_9, li_10, li_11, li_12, li_14, li_15, li_16, li_18, li_20, li_22, li_23, li_24, li_29, li_30, li_31, li_32, li_33, li_40, li_48, li_54, li_55, li_56, li_57, li_59, li_60, li_63, li_64, li_97, li_98, li_99, li_100, li_103, li_107, li_108, li_112, li_121, li_206, li_212, li_232, li_240, li_255, li_256, li_261, li_270, ng_1, ng_2, ng_3, ng_4, ng_9, ng_10, m1_1, nI_m1, m1_nI, if_true, if_false, nI_add, pk_mul, pk_sub, nI_div, nI_rem, nI_eq, nI_leI, nI_ltI, nI_clamp, ck_in, ck_nz, bind_sm, upM_n, upM_m, upM_s, if_pos, if_neg, below_in, e4, d1]
      · have e4 := h.1.1
        unfold f_X6_wipe
        simp (disch := omega) only [li_0, li_1, li_2, li_3, li_4, li_5, li_6, li_7, li_8, li_9, li_10, li_11, li_12, li_14, li_15, li_16, li_18, li_20, li_22, li_23, li_24, li_29, li_30, li_31, li_32, li_33, li_40, li_48, li_54, li_55, li_56, li_57, li_59, li_60, li_63, li_64, li_97, li_98, li_99, li_100, li_103, li_107, li_108, li_112, li_121, li_206, li_212, li_232, li_240, li_255, li_256, li_261, li_270, ng_1, ng_2, ng_3, ng_4, ng_9, ng_10, m1_1, nI_m1, m1_nI, if_true, if_false, nI_add, pk_mul, pk_sub, nI_div, nI_rem, nI_eq, nI_leI, nI_ltI, nI_clamp, ck_in, ck_nz, bind_sm, upM_n, upM_m, upM_s, if_pos, if_neg, m_two_in, e4]
    · refine ⟨nI α.2.1.1, setT1 α 0 α.2.1.2, ok.t1 (by omega) o4, fun M h => ?_, fun M h => ⟨upM M 55 1 (nI 0), ?_, h.cut1 (by omega), fun k hk => by rw [upM_n (by omega)]⟩⟩
      · have e4 := h.1.2.2.2.1
        obtain ⟨M', d1, d2, d3⟩ := c_cut1 (n := 0) ok h (by omega)
        refine ⟨M', ?_, d2, d3⟩
        unfold f_X5_wipe f_X5_textOf
        simp (disch := omega) only [li_0, li_1, li_2, li_3, li_4, li_5, li_6, li_7, li_8, li_9, li_10, li_11, li_12, li_14, li_15, li_16, li_18, li_20, li_22, li_23, li_24, li_29, li_30, li_31, li_32, li_33, li_40, li_48, li_54, li_55, li_56, li_57, li_59, li_60, li_63, li_64, li_97, li_98, li_99, li_100, li_103, li_107, li_108, li_112, li_121, li_206, li_212, li_232, li_240, li_255, li_256, li_261, li_270, ng_1, ng_2, ng_3, ng_4, ng_9, ng_10, m1_1, nI_m1, m1_nI, if_true, if_false, nI_add, pk_mul, pk_sub, nI_div, nI_rem, nI_eq, nI_leI, nI_ltI, nI_clamp, ck_in, ck_nz, bind_sm, upM_n, upM_m, upM_s, if_pos, if_neg, below_in, e4, d1]
      · have e4 := h.2.1.1
        unfold f_X6_wipe
        simp (disch := omega) only [li_0, li_1, li_2, li_3, li_4, li_5, li_6, li_7, li_8, li_9, li_10, li_11, li_12, li_14, li_15, li_16, li_18, li_20, li_22, li_23, li_24, li_29, li_30, li_31, li_32, li_33, li_40, li_48, li_54, li_55, li_56, li_57, li_59, li_60, li_63, li_64, li_97, li_98, li_99, li_100, li_103, li_107, li_108, li_112, li_121, li_206, li_212, li_232, li_240, li_255, li_256, li_261, li_270, ng_1, ng_2, ng_3, ng_4, ng_9, ng_10, m1_1, nI_m1, m1_nI, if_true, if_false, nI_add, pk_mul, pk_sub, nI_div, nI_rem, nI_eq, nI_leI, nI_ltI, nI_clamp, ck_in, ck_nz, bind_sm, upM_n, upM_m, upM_s, if_pos, if_neg, m_two_in, e4]
  · refine St.same ok m2 (fun M h => ⟨M, ?_, h, Fr.rf⟩) (fun M h => ⟨M, ?_, h, Fr.rf⟩)
    · unfold f_X5_wipe
      simp (disch := omega) only [li_0, li_1, li_2, li_3, li_4, li_5, li_6, li_7, li_8, li_9, li_10, li_11, li_12, li_14, li_15, li_16, li_18, li_20, li_22, li_23, li_24, li_29, li_30, li_31, li_32, li_33, li_40, li_48, li_54, li_55, li_56, li_57, li_59, li_60, li_63, li_64, li_97, li_98, li_99, li_100, li_103, li_107, li_108, li_112, li_121, li_206, li_212, li_232, li_240, li_255, li_256, li_261, li_270, ng_1, ng_2, ng_3, ng_4, ng_9, ng_10, m1_1, nI_m1, m1_nI, if_true, if_false, nI_add, pk_mul, pk_sub, nI_div, nI_rem, nI_eq, nI_leI, nI_ltI, nI_clamp, ck_in, ck_nz, bind_sm, upM_n, upM_m, upM_s, if_pos, if_neg, below_out _ r1]
    · unfold f_X6_wipe
      simp (disch := omega) only [li_0, li_1, li_2, li_3, li_4, li_5, li_6, li_7, li_8, li_9, li_10, li_11, li_12, li_14, li_15, li_16, li_18, li_20, li_22, li_23, li_24, li_29, li_30, li_31, li_32, li_33, li_40, li_48, li_54, li_55, li_56, li_57, li_59, li_60, li_63, li_64, li_97, li_98, li_99, li_100, li_103, li_107, li_108, li_112, li_121, li_206, li_212, li_232, li_240, li_255, li_256, li_261, li_270, ng_1, ng_2, ng_3, ng_4, ng_9, ng_10, m1_1, nI_m1, m1_nI, if_true, if_false, nI_add, pk_mul, pk_sub, nI_div, nI_rem, nI_eq, nI_leI, nI_ltI, nI_clamp, ck_in, ck_nz, bind_sm, upM_n, upM_m, upM_s, if_pos, if_neg, m_two_out r1]
theorem s_undo {α : AS} (ok : OKA α) (x1 : Int32) : St α (f_X5_undo x1) (f_X6_undo x1) := by
  obtain ⟨⟨o1, o2⟩, ⟨o3, o4⟩, o5⟩ := id ok
  by_cases r1 : In x1 2
  · obtain ⟨j, hj, rfl⟩ := r1
    rcases two_cases hj with rfl | rfl
    · by_cases q : α.1.1 = 0
      · refine St.same ok m3 (fun M h => ⟨M, ?_, h, Fr.rf⟩) (fun M h => ⟨M, ?_, h, Fr.rf⟩)
        · have e4 := h.1.1.2.2.1
          rw [q] at e4
          unfold f_X5_undo f_X5_textOf
          simp (disch := omega) only [li_0, li_1, li_2, li_3, li_4, li_5, li_6, li_7, li_8, li_9, li_10, li_11, li_12, li_14, li_15, li_16, li_18, li_20, li_22, li_23, li_24, li_29, li_30, li_31, li_32, li_33, li_40, li_48, li_54, li_55, li_56, li_57, li_59, li_60, li_63, li_64, li_97, li_98, li_99, li_100, li_103, li_107, li_108, li_112, li_121, li_206, li_212, li_232, li_240, li_255, li_256, li_261, li_270, ng_1, ng_2, ng_3, ng_4, ng_9, ng_10, m1_1, nI_m1, m1_nI, if_true, if_false, nI_add, pk_mul, pk_sub, nI_div, nI_rem, nI_eq, nI_leI, nI_ltI, nI_clamp, ck_in, ck_nz, bind_sm, upM_n, upM_m, upM_s, if_pos, if_neg, below_in, e4]
        · have e4 := h.1.1
          rw [q] at e4
          unfold f_X6_undo
          simp (disch := omega) only [li_0, li_1, li_2, li_3, li_4, li_5, li_6, li_7, li_8, li_9, li_10, li_11, li_12, li_14, li_15, li_16, li_18, li_20, li_22, li_23, li_24, li_29, li_30, li_31, li_32, li_33, li_40, li_48, li_54, li_55, li_56, li_57, li_59, li_60, li_63, li_64, li_97, li_98, li_99, li_100, li_103, li_107, li_108, li_112, li_121, li_206, li_212, li_232, li_240, li_255, li_256, li_261, li_270, ng_1, ng_2, ng_3, ng_4, ng_9, ng_10, m1_1, nI_m1, m1_nI, if_true, if_false, nI_add, pk_mul, pk_sub, nI_div, nI_rem, nI_eq, nI_leI, nI_ltI, nI_clamp, ck_in, ck_nz, bind_sm, upM_n, upM_m, upM_s, if_pos, if_neg, m_two_in, e4]
      · obtain ⟨n, hn⟩ : ∃ n, α.1.1 = n + 1 := ⟨α.1.1 - 1, by omega⟩
        refine ⟨nI n, setT0 α n α.1.2, ok.t0 (by omega) o2, fun M h => ?_, fun M h => ⟨upM M 55 0 (nI n), ?_, h.cut0 (by omega), fun k hk => by rw [upM_n (by omega)]⟩⟩
        · have e4 := h.1.1.2.2.1
          rw [hn] at e4
          obtain ⟨M', d1, d2, d3⟩ := c_cut0 (n := n) ok h (by omega)
          refine ⟨M', ?_, d2, d3⟩
          have e5 := d2.1.1.2.2.1
          unfold f_X5_undo f_X5_textOf
          simp (disch := omega) only [li_0, li_1, li_2, li_3, li_4, li_5, li_6, li_7, li_8, li_9, li_10, li_11, li_12, li_14, li_15, li_16, li_18, li_20, li_22, li_23, li_24, li_29, li_30, li_31, li_32, li_33, li_40, li_48, li_54, li_55, li_56, li_57, li_59, li_60, li_63, li_64, li_97, li_98, li_99, li_100, li_103, li_107, li_108, li_112, li_121, li_206, li_212, li_232, li_240, li_255, li_256, li_261, li_270, ng_1, ng_2, ng_3, ng_4, ng_9, ng_10, m1_1, nI_m1, m1_nI, if_true, if_false, nI_add, pk_mul, pk_sub, nI_div, nI_rem, nI_eq, nI_leI, nI_ltI, nI_clamp, ck_in, ck_nz, bind_sm, upM_n, upM_m, upM_s, if_pos, if_neg, below_in, e4, nI_pred', Nat.add_sub_cancel, d1, e5]
        · have e4 := h.1.1
          rw [hn] at e4
          unfold f_X6_undo
          simp (disch := omega) only [li_0, li_1, li_2, li_3, li_4, li_5, li_6, li_7, li_8, li_9, li_10, li_11, li_12, li_14, li_15, li_16, li_18, li_20, li_22, li_23, li_24, li_29, li_30, li_31, li_32, li_33, li_40, li_48, li_54, li_55, li_56, li_57, li_59, li_60, li_63, li_64, li_97, li_98, li_99, li_100, li_103, li_107, li_108, li_112, li_121, li_206, li_212, li_232, li_240, li_255, li_256, li_261, li_270, ng_1, ng_2, ng_3, ng_4, ng_9, ng_10, m1_1, nI_m1, m1_nI, if_true, if_false, nI_add, pk_mul, pk_sub, nI_div, nI_rem, nI_eq, nI_leI, nI_ltI, nI_clamp, ck_in, ck_nz, bind_sm, upM_n, upM_m, upM_s, if_pos, if_neg, m_two_in, e4, nI_pred', Nat.add_sub_cancel]
    · by_cases q : α.2.1.1 = 0
      · refine St.same ok m3 (fun M h => ⟨M, ?_, h, Fr.rf⟩) (fun M h => ⟨M, ?_, h, Fr.rf⟩)
        · have e4 := h.1.2.2.2.1
          rw [q] at e4
          unfold f_X5_undo f_X5_textOf
          simp (disch := omega) only [li_0, li_1, li_2, li_3, li_4, li_5, li_6, li_7, li_8, li_9, li_10, li_11, li_12, li_14, li_15, li_16, li_18, li_20, li_22, li_23, li_24, li_29, li_30, li_31, li_32, li_33, li_40, li_48, li_54, li_55, li_56, li_57, li_59, li_60, li_63, li_64, li_97, li_98, li_99, li_100, li_103, li_107, li_108, li_112, li_121, li_206, li_212, li_232, li_240, li_255, li_256, li_261, li_270, ng_1, ng_2, ng_3, ng_4, ng_9, ng_10, m1_1, nI_m1, m1_nI, if_true, if_false, nI_add, pk_mul, pk_sub, nI_div, nI_rem, nI_eq, nI_leI, nI_ltI, nI_clamp, ck_in, ck_nz, bind_sm, upM_n, upM_m, upM_s, if_pos, if_neg, below_in, e4]
        · have e4 := h.2.1.1
          rw [q] at e4
          unfold f_X6_undo
          simp (disch := omega) only [li_0, li_1, li_2, li_3, li_4, li_5, li_6, li_7, li_8, li_9, li_10, li_11, li_12, li_14, li_15, li_16, li_18, li_20, li_22, li_23, li_24, li_29, li_30, li_31, li_32, li_33, li_40, li_48, li_54, li_55, li_56, li_57, li_59, li_60, li_63, li_64, li_97, li_98, li_99, li_100, li_103, li_107, li_108, li_112, li_121, li_206, li_212, li_232, li_240, li_255, li_256, li_261, li_270, ng_1, ng_2, ng_3, ng_4, ng_9, ng_10, m1_1, nI_m1, m1_nI, if_true, if_false, nI_add, pk_mul, pk_sub, nI_div, nI_rem, nI_eq, nI_leI, nI_ltI, nI_clamp, ck_in, ck_nz, bind_sm, upM_n, upM_m, upM_s, if_pos, if_neg, m_two_in, e4]
      · obtain ⟨n, hn⟩ : ∃ n, α.2.1.1 = n + 1 := ⟨α.2.1.1 - 1, by omega⟩
        refine ⟨nI n, setT1 α n α.2.1.2, ok.t1 (by omega) o4, fun M h => ?_, fun M h => ⟨upM M 55 1 (nI n), ?_, h.cut1 (by omega), fun k hk => by rw [upM_n (by omega)]⟩⟩
        · have e4 := h.1.2.2.2.1
          rw [hn] at e4
          obtain ⟨M', d1, d2, d3⟩ := c_cut1 (n := n) ok h (by omega)
          refine ⟨M', ?_, d2, d3⟩
          have e5 := d2.1.2.2.2.1
          unfold f_X5_undo f_X5_textOf
          simp (disch := omega) only [li_0, li_1, li_2, li_3, li_4, li_5, li_6, li_7, li_8, li_9, li_10, li_11, li_12, li_14, li_15, li_16, li_18, li_20, li_22, li_23, li_24, li_29, li_30, li_31, li_32, li_33, li_40, li_48, li_54, li_55, li_56, li_57, li_59, li_60, li_63, li_64, li_97, li_98, li_99, li_100, li_103, li_107, li_108, li_112, li_121, li_206, li_212, li_232, li_240, li_255, li_256, li_261, li_270, ng_1, ng_2, ng_3, ng_4, ng_9, ng_10, m1_1, nI_m1, m1_nI, if_true, if_false, nI_add, pk_mul, pk_sub, nI_div, nI_rem, nI_eq, nI_leI, nI_ltI, nI_clamp, ck_in, ck_nz, bind_sm, upM_n, upM_m, upM_s, if_pos, if_neg, below_in, e4, nI_pred', Nat.add_sub_cancel, d1, e5]
        · have e4 := h.2.1.1
          rw [hn] at e4
          unfold f_X6_undo
          simp (disch := omega) only [li_0, li_1, li_2, li_3, li_4, li_5, li_6, li_7, li_8, li_9, li_10, li_11, li_12, li_14, li_15, li_16, li_18, li_20, li_22, li_23, li_24, li_29, li_30, li_31, li_32, li_33, li_40, li_48, li_54, li_55, li_56, li_57, li_59, li_60, li_63, li_64, li_97, li_98, li_99, li_100, li_103, li_107, li_108, li_112, li_121, li_206, li_212, li_232, li_240, li_255, li_256, li_261, li_270, ng_1, ng_2, ng_3, ng_4, ng_9, ng_10, m1_1, nI_m1, m1_nI, if_true, if_false, nI_add, pk_mul, pk_sub, nI_div, nI_rem, nI_eq, nI_leI, nI_ltI, nI_clamp, ck_in, ck_nz, bind_sm, upM_n, upM_m, upM_s, if_pos, if_neg, m_two_in, e4, nI_pred', Nat.add_sub_cancel]
  · refine St.same ok m2 (fun M h => ⟨M, ?_, h, Fr.rf⟩) (fun M h => ⟨M, ?_, h, Fr.rf⟩)
    · unfold f_X5_undo
      simp (disch := omega) only [li_0, li_1, li_2, li_3, li_4, li_5, li_6, li_7, li_8, li_9, li_10, li_11, li_12, li_14, li_15, li_16, li_18, li_20, li_22, li_23, li_24, li_29, li_30, li_31, li_32, li_33, li_40, li_48, li_54, li_55, li_56, li_57, li_59, li_60, li_63, li_64, li_97, li_98, li_99, li_100, li_103, li_107, li_108, li_112, li_121, li_206, li_212, li_232, li_240, li_255, li_256, li_261, li_270, ng_1, ng_2, ng_3, ng_4, ng_9, ng_10, m1_1, nI_m1, m1_nI, if_true, if_false, nI_add, pk_mul, pk_sub, nI_div, nI_rem, nI_eq, nI_leI, nI_ltI, nI_clamp, ck_in, ck_nz, bind_sm, upM_n, upM_m, upM_s, if_pos, if_neg, below_out _ r1]
    · unfold f_X6_undo
      simp (disch := omega) only [li_0, li_1, li_2, li_3, li_4, li_5, li_6, li_7, li_8, li_9, li_10, li_11, li_12, li_14, li_15, li_16, li_18, li_20, li_22, li_23, li_24, li_29, li_30, li_31, li_32, li_33, li_40, li_48, li_54, li_55, li_56, li_57, li_59, li_60, li_63, li_64, li_97, li_98, li_99, li_100, li_103, li_107, li_108, li_112, li_121, li_206, li_212, li_232, li_240, li_255, li_256, li_261, li_270, ng_1, ng_2, ng_3, ng_4, ng_9, ng_10, m1_1, nI_m1, m1_nI, if_true, if_false, nI_add, pk_mul, pk_sub, nI_div, nI_rem, nI_eq, nI_leI, nI_ltI, nI_clamp, ck_in, ck_nz, bind_sm, upM_n, upM_m, upM_s, if_pos, if_neg, m_two_out r1]
/-- an answer that changes nothing -/
abbrev pu {V : Type} (f : Mem → Option V) : Mem → Option (V × Mem) := fun M => Option.bind (f M) (fun r => some (r, M))
theorem MI.rdP {α : AS} {M : Mem} (ok : OKA α) (h : MI α M) : ∃ M', f_X6_readsPeople M = some (oi (FV 72 1 55 α.2.1.1 α.2.1.2), M') ∧ MI α M' ∧ M' 49 9 = nI (nP (sA α)) ∧ (∀ p, p < nP (sA α) → M' 57 (2 * p) = nI (ki (sA α) p)) ∧ (∀ p, p < nP (sA α) → M' 57 (2 * p + 1) = nI (ow (sA α) p)) ∧ Fr 49 71 M M' := by
  obtain ⟨M2, b1, b2, b3, b4, b5, b6⟩ := m_readsP (M := M) (n := α.2.1.1) (b := α.2.1.2) h.2.1.1 h.2.1.2 ok.2.1.1 ok.2.1.2
  exact ⟨M2, b1, h.fr (fun j _ h9 => b3 j h9) (fun k hk => b6 k (by omega)), b2, b4, b5, fun k hk => b6 k (by omega)⟩
theorem s_fault {α : AS} (ok : OKA α) (x1 : Int32) : St α (pu (f_X5_fault x1)) (f_X6_fault x1) := by
  by_cases r1 : In x1 2
  · obtain ⟨j, hj, rfl⟩ := r1
    rcases two_cases hj with rfl | rfl
    · refine St.same ok (oi (FV 71 5 57 α.1.1 α.1.2)) (fun M h => ⟨M, ?_, h, Fr.rf⟩) (fun M h => ?_)
      · have cf := c_fault (t := 1) (sid := 71) (L := 55) (Or.inl ⟨rfl, rfl, rfl, rfl, rfl⟩) h.1.1 ok.1.1 ok.1.2
        unfold pu f_X5_fault f_X5_textOf
        simp (disch := omega) only [li_0, li_1, li_2, li_3, li_4, li_5, li_6, li_7, li_8, li_9, li_10, li_11, li_12, li_14, li_15, li_16, li_18, li_20, li_22, li_23, li_24, li_29, li_30, li_31, li_32, li_33, li_40, li_48, li_54, li_55, li_56, li_57, li_59, li_60, li_63, li_64, li_97, li_98, li_99, li_100, li_103, li_107, li_108, li_112, li_121, li_206, li_212, li_232, li_240, li_255, li_256, li_261, li_270, ng_1, ng_2, ng_3, ng_4, ng_9, ng_10, m1_1, nI_m1, m1_nI, if_true, if_false, nI_add, pk_mul, pk_sub, nI_div, nI_rem, nI_eq, nI_leI, nI_ltI, nI_clamp, ck_in, ck_nz, bind_sm, upM_n, upM_m, upM_s, if_pos, if_neg, below_in, cf]
      · obtain ⟨M1, M2, a1, a2, a3, a4, a5, a6, a7, -⟩ := m_reads ok h
        refine ⟨M1, ?_, a3, fun k hk => a6 k (by omega)⟩
        unfold f_X6_fault f_X6_readsText
        simp (disch := omega) only [li_0, li_1, li_2, li_3, li_4, li_5, li_6, li_7, li_8, li_9, li_10, li_11, li_12, li_14, li_15, li_16, li_18, li_20, li_22, li_23, li_24, li_29, li_30, li_31, li_32, li_33, li_40, li_48, li_54, li_55, li_56, li_57, li_59, li_60, li_63, li_64, li_97, li_98, li_99, li_100, li_103, li_107, li_108, li_112, li_121, li_206, li_212, li_232, li_240, li_255, li_256, li_261, li_270, ng_1, ng_2, ng_3, ng_4, ng_9, ng_10, m1_1, nI_m1, m1_nI, if_true, if_false, nI_add, pk_mul, pk_sub, nI_div, nI_rem, nI_eq, nI_leI, nI_ltI, nI_clamp, ck_in, ck_nz, bind_sm, upM_n, upM_m, upM_s, if_pos, if_neg, m_two_in, a1]
    · refine St.same ok (oi (FV 72 1 55 α.2.1.1 α.2.1.2)) (fun M h => ⟨M, ?_, h, Fr.rf⟩) (fun M h => ?_)
      · have cf := c_fault (t := 3) (sid := 72) (L := 23) (Or.inr ⟨rfl, rfl, rfl, rfl, rfl⟩) h.1.2 ok.2.1.1 ok.2.1.2
        unfold pu f_X5_fault f_X5_textOf
        simp (disch := omega) only [li_0, li_1, li_2, li_3, li_4, li_5, li_6, li_7, li_8, li_9, li_10, li_11, li_12, li_14, li_15, li_16, li_18, li_20, li_22, li_23, li_24, li_29, li_30, li_31, li_32, li_33, li_40, li_48, li_54, li_55, li_56, li_57, li_59, li_60, li_63, li_64, li_97, li_98, li_99, li_100, li_103, li_107, li_108, li_112, li_121, li_206, li_212, li_232, li_240, li_255, li_256, li_261, li_270, ng_1, ng_2, ng_3, ng_4, ng_9, ng_10, m1_1, nI_m1, m1_nI, if_true, if_false, nI_add, pk_mul, pk_sub, nI_div, nI_rem, nI_eq, nI_leI, nI_ltI, nI_clamp, ck_in, ck_nz, bind_sm, upM_n, upM_m, upM_s, if_pos, if_neg, below_in, cf]
      · obtain ⟨M2, b1, b2, -, -, -, b3⟩ := h.rdP ok
        refine ⟨M2, ?_, b2, b3⟩
        unfold f_X6_fault f_X6_readsText
        simp (disch := omega) only [li_0, li_1, li_2, li_3, li_4, li_5, li_6, li_7, li_8, li_9, li_10, li_11, li_12, li_14, li_15, li_16, li_18, li_20, li_22, li_23, li_24, li_29, li_30, li_31, li_32, li_33, li_40, li_48, li_54, li_55, li_56, li_57, li_59, li_60, li_63, li_64, li_97, li_98, li_99, li_100, li_103, li_107, li_108, li_112, li_121, li_206, li_212, li_232, li_240, li_255, li_256, li_261, li_270, ng_1, ng_2, ng_3, ng_4, ng_9, ng_10, m1_1, nI_m1, m1_nI, if_true, if_false, nI_add, pk_mul, pk_sub, nI_div, nI_rem, nI_eq, nI_leI, nI_ltI, nI_clamp, ck_in, ck_nz, bind_sm, upM_n, upM_m, upM_s, if_pos, if_neg, m_two_in, b1]
  · refine St.same ok m2 (fun M h => ⟨M, ?_, h, Fr.rf⟩) (fun M h => ⟨M, ?_, h, Fr.rf⟩)
    · unfold pu f_X5_fault
      simp (disch := omega) only [li_0, li_1, li_2, li_3, li_4, li_5, li_6, li_7, li_8, li_9, li_10, li_11, li_12, li_14, li_15, li_16, li_18, li_20, li_22, li_23, li_24, li_29, li_30, li_31, li_32, li_33, li_40, li_48, li_54, li_55, li_56, li_57, li_59, li_60, li_63, li_64, li_97, li_98, li_99, li_100, li_103, li_107, li_108, li_112, li_121, li_206, li_212, li_232, li_240, li_255, li_256, li_261, li_270, ng_1, ng_2, ng_3, ng_4, ng_9, ng_10, m1_1, nI_m1, m1_nI, if_true, if_false, nI_add, pk_mul, pk_sub, nI_div, nI_rem, nI_eq, nI_leI, nI_ltI, nI_clamp, ck_in, ck_nz, bind_sm, upM_n, upM_m, upM_s, if_pos, if_neg, below_out _ r1]
    · unfold f_X6_fault
      simp (disch := omega) only [li_0, li_1, li_2, li_3, li_4, li_5, li_6, li_7, li_8, li_9, li_10, li_11, li_12, li_14, li_15, li_16, li_18, li_20, li_22, li_23, li_24, li_29, li_30, li_31, li_32, li_33, li_40, li_48, li_54, li_55, li_56, li_57, li_59, li_60, li_63, li_64, li_97, li_98, li_99, li_100, li_103, li_107, li_108, li_112, li_121, li_206, li_212, li_232, li_240, li_255, li_256, li_261, li_270, ng_1, ng_2, ng_3, ng_4, ng_9, ng_10, m1_1, nI_m1, m1_nI, if_true, if_false, nI_add, pk_mul, pk_sub, nI_div, nI_rem, nI_eq, nI_leI, nI_ltI, nI_clamp, ck_in, ck_nz, bind_sm, upM_n, upM_m, upM_s, if_pos, if_neg, m_two_out r1]
def accV (α : AS) (a w : Nat) : Int32 := if w = 0 then nI (so (sA α) a) else nI (mk0 (sA α) a (w - 1))
theorem c_acc_in {α : AS} {M : Mem} {a w : Nat} (ok : OKA α) (h : CI α M) (ha : a < nA (sA α)) (hw : w < 6) : f_X5_accent (nI a) (nI w) M = some (accV α a w) := by
  have ok1 := ok.s.1.1
  have e1 := c_hasA (i := a) h.2.1.1.1 (show nA (sA α) < 100 by omega) (show a < 100 by omega)
  have s1 := h.2.1.2.1 a ha
  unfold f_X5_accent accV
  by_cases q : w = 0
  · simp (disch := omega) only [li_0, li_1, li_2, li_3, li_4, li_5, li_6, li_7, li_8, li_9, li_10, li_11, li_12, li_14, li_15, li_16, li_18, li_20, li_22, li_23, li_24, li_29, li_30, li_31, li_32, li_33, li_40, li_48, li_54, li_55, li_56, li_57, li_59, li_60, li_63, li_64, li_97, li_98, li_99, li_100, li_103, li_107, li_108, li_112, li_121, li_206, li_212, li_232, li_240, li_255, li_256, li_261, li_270, ng_1, ng_2, ng_3, ng_4, ng_9, ng_10, m1_1, nI_m1, m1_nI, if_true, if_false, nI_add, pk_mul, pk_sub, nI_div, nI_rem, nI_eq, nI_leI, nI_ltI, nI_clamp, ck_in, ck_nz, bind_sm, upM_n, upM_m, upM_s, if_pos, if_neg, e1, below_in, s1]
  · have s2 := h.2.1.2.2.1 a (w - 1) ha (by omega)
    have e2 : a * 5 + w - 1 = a * 5 + (w - 1) := by omega
    simp (disch := omega) only [li_0, li_1, li_2, li_3, li_4, li_5, li_6, li_7, li_8, li_9, li_10, li_11, li_12, li_14, li_15, li_16, li_18, li_20, li_22, li_23, li_24, li_29, li_30, li_31, li_32, li_33, li_40, li_48, li_54, li_55, li_56, li_57, li_59, li_60, li_63, li_64, li_97, li_98, li_99, li_100, li_103, li_107, li_108, li_112, li_121, li_206, li_212, li_232, li_240, li_255, li_256, li_261, li_270, ng_1, ng_2, ng_3, ng_4, ng_9, ng_10, m1_1, nI_m1, m1_nI, if_true, if_false, nI_add, pk_mul, pk_sub, nI_div, nI_rem, nI_eq, nI_leI, nI_ltI, nI_clamp, ck_in, ck_nz, bind_sm, upM_n, upM_m, upM_s, if_pos, if_neg, e1, below_in, e2, s2]
theorem s_accent {α : AS} (ok : OKA α) (x1 x2 : Int32) : St α (pu (f_X5_accent x1 x2)) (f_X6_accent x1 x2) := by
  have ok1 := ok.s.1.1
  have mm : ∀ M, MI α M → ∃ M1, f_X6_readsAccents M = some (oi (FV 71 5 57 α.1.1 α.1.2), M1) ∧ MI α M1 ∧ Fr 49 71 M M1 ∧ M1 49 7 = nI (nA (sA α)) ∧ (∀ a, a < nA (sA α) → M1 56 (6 * a) = nI (so (sA α) a)) ∧ ∀ a s, a < nA (sA α) → s < 5 → M1 56 (6 * a + 1 + s) = nI (mk0 (sA α) a s) := fun M h => by
    obtain ⟨M1, M2, a1, a2, a3, a4, a5, a6, a7, a8⟩ := m_reads ok h
    exact ⟨M1, a1, a3, fun k hk => a6 k (by omega), a8⟩
  by_cases r1 : In x1 (nA (sA α))
  · obtain ⟨a, ha, rfl⟩ := r1
    by_cases r2 : In x2 6
    · obtain ⟨w, hw, rfl⟩ := r2
      refine St.same ok (accV α a w) (fun M h => ⟨M, ?_, h, Fr.rf⟩) (fun M h => ?_)
      · unfold pu
        rw [c_acc_in ok h ha hw, bind_sm]
      · obtain ⟨M1, a1, a2, a3, a4, a5, a6⟩ := mm M h
        refine ⟨M1, ?_, a2, a3⟩
        have e1 := m_isA (i := a) a4 (show nA (sA α) < 100 by omega) (show a < 100 by omega)
        have iv := (m_in_0 (x := nI w) (n := 5) (z := 5) rfl (by omega)).1 w (by omega) rfl
        unfold f_X6_accent accV
        by_cases q : w = 0
        · have := a5 a ha
          simp (disch := omega) only [li_0, li_1, li_2, li_3, li_4, li_5, li_6, li_7, li_8, li_9, li_10, li_11, li_12, li_14, li_15, li_16, li_18, li_20, li_22, li_23, li_24, li_29, li_30, li_31, li_32, li_33, li_40, li_48, li_54, li_55, li_56, li_57, li_59, li_60, li_63, li_64, li_97, li_98, li_99, li_100, li_103, li_107, li_108, li_112, li_121, li_206, li_212, li_232, li_240, li_255, li_256, li_261, li_270, ng_1, ng_2, ng_3, ng_4, ng_9, ng_10, m1_1, nI_m1, m1_nI, if_true, if_false, nI_add, pk_mul, pk_sub, nI_div, nI_rem, nI_eq, nI_leI, nI_ltI, nI_clamp, ck_in, ck_nz, bind_sm, upM_n, upM_m, upM_s, if_pos, if_neg, a1, e1, iv]
          rw [q, Nat.add_zero, this]
        · have := a6 a (w - 1) ha (by omega)
          rw [show 6 * a + 1 + (w - 1) = 6 * a + w by omega] at this
          simp (disch := omega) only [li_0, li_1, li_2, li_3, li_4, li_5, li_6, li_7, li_8, li_9, li_10, li_11, li_12, li_14, li_15, li_16, li_18, li_20, li_22, li_23, li_24, li_29, li_30, li_31, li_32, li_33, li_40, li_48, li_54, li_55, li_56, li_57, li_59, li_60, li_63, li_64, li_97, li_98, li_99, li_100, li_103, li_107, li_108, li_112, li_121, li_206, li_212, li_232, li_240, li_255, li_256, li_261, li_270, ng_1, ng_2, ng_3, ng_4, ng_9, ng_10, m1_1, nI_m1, m1_nI, if_true, if_false, nI_add, pk_mul, pk_sub, nI_div, nI_rem, nI_eq, nI_leI, nI_ltI, nI_clamp, ck_in, ck_nz, bind_sm, upM_n, upM_m, upM_s, if_pos, if_neg, a1, e1, iv, this]
    · refine St.same ok m2 (fun M h => ⟨M, ?_, h, Fr.rf⟩) (fun M h => ?_)
      · have e1 := c_hasA (i := a) h.2.1.1.1 (show nA (sA α) < 100 by omega) (show a < 100 by omega)
        unfold pu f_X5_accent
        simp (disch := omega) only [li_0, li_1, li_2, li_3, li_4, li_5, li_6, li_7, li_8, li_9, li_10, li_11, li_12, li_14, li_15, li_16, li_18, li_20, li_22, li_23, li_24, li_29, li_30, li_31, li_32, li_33, li_40, li_48, li_54, li_55, li_56, li_57, li_59, li_60, li_63, li_64, li_97, li_98, li_99, li_100, li_103, li_107, li_108, li_112, li_121, li_206, li_212, li_232, li_240, li_255, li_256, li_261, li_270, ng_1, ng_2, ng_3, ng_4, ng_9, ng_10, m1_1, nI_m1, m1_nI, if_true, if_false, nI_add, pk_mul, pk_sub, nI_div, nI_rem, nI_eq, nI_leI, nI_ltI, nI_clamp, ck_in, ck_nz, bind_sm, upM_n, upM_m, upM_s, if_pos, if_neg, e1, below_out _ r2]
      · obtain ⟨M1, a1, a2, a3, a4, a5, a6⟩ := mm M h
        have e1 := m_isA (i := a) a4 (show nA (sA α) < 100 by omega) (show a < 100 by omega)
        refine ⟨M1, ?_, a2, a3⟩
        have iv := (m_in_0 (x := x2) (n := 5) (z := 5) rfl (by omega)).2 r2
        unfold f_X6_accent
        simp (disch := omega) only [li_0, li_1, li_2, li_3, li_4, li_5, li_6, li_7, li_8, li_9, li_10, li_11, li_12, li_14, li_15, li_16, li_18, li_20, li_22, li_23, li_24, li_29, li_30, li_31, li_32, li_33, li_40, li_48, li_54, li_55, li_56, li_57, li_59, li_60, li_63, li_64, li_97, li_98, li_99, li_100, li_103, li_107, li_108, li_112, li_121, li_206, li_212, li_232, li_240, li_255, li_256, li_261, li_270, ng_1, ng_2, ng_3, ng_4, ng_9, ng_10, m1_1, nI_m1, m1_nI, if_true, if_false, nI_add, pk_mul, pk_sub, nI_div, nI_rem, nI_eq, nI_leI, nI_ltI, nI_clamp, ck_in, ck_nz, bind_sm, upM_n, upM_m, upM_s, if_pos, if_neg, a1, e1, iv]
  · refine St.same ok m2 (fun M h => ⟨M, ?_, h, Fr.rf⟩) (fun M h => ?_)
    · unfold pu f_X5_accent
      simp (disch := omega) only [li_0, li_1, li_2, li_3, li_4, li_5, li_6, li_7, li_8, li_9, li_10, li_11, li_12, li_14, li_15, li_16, li_18, li_20, li_22, li_23, li_24, li_29, li_30, li_31, li_32, li_33, li_40, li_48, li_54, li_55, li_56, li_57, li_59, li_60, li_63, li_64, li_97, li_98, li_99, li_100, li_103, li_107, li_108, li_112, li_121, li_206, li_212, li_232, li_240, li_255, li_256, li_261, li_270, ng_1, ng_2, ng_3, ng_4, ng_9, ng_10, m1_1, nI_m1, m1_nI, if_true, if_false, nI_add, pk_mul, pk_sub, nI_div, nI_rem, nI_eq, nI_leI, nI_ltI, nI_clamp, ck_in, ck_nz, bind_sm, upM_n, upM_m, upM_s, if_pos, if_neg, hasA_out h.2.1.1.1 (by omega) r1]
    · obtain ⟨M1, a1, a2, a3, a4, a5, a6⟩ := mm M h
      refine ⟨M1, ?_, a2, a3⟩
      unfold f_X6_accent
      simp (disch := omega) only [li_0, li_1, li_2, li_3, li_4, li_5, li_6, li_7, li_8, li_9, li_10, li_11, li_12, li_14, li_15, li_16, li_18, li_20, li_22, li_23, li_24, li_29, li_30, li_31, li_32, li_33, li_40, li_48, li_54, li_55, li_56, li_57, li_59, li_60, li_63, li_64, li_97, li_98, li_99, li_100, li_103, li_107, li_108, li_112, li_121, li_206, li_212, li_232, li_240, li_255, li_256, li_261, li_270, ng_1, ng_2, ng_3, ng_4, ng_9, ng_10, m1_1, nI_m1, m1_nI, if_true, if_false, nI_add, pk_mul, pk_sub, nI_div, nI_rem, nI_eq, nI_leI, nI_ltI, nI_clamp, ck_in, ck_nz, bind_sm, upM_n, upM_m, upM_s, if_pos, if_neg, a1, isA_out a4 (show nA (sA α) < 100 by omega) r1]
def perV (α : AS) (p w : Nat) : Int32 := if w = 0 then nI (ki (sA α) p) else nI (ow (sA α) p)
theorem c_per_in {α : AS} {M : Mem} {p w : Nat} (ok : OKA α) (h : CI α M) (hp : p < nP (sA α)) (hw : w < 2) : f_X5_person (nI p) (nI w) M = some (perV α p w) := by
  have ok1 := ok.s.1.2.1
  have e1 := c_hasP (i := p) h.2.1.1.2.1 (show nP (sA α) < 100 by omega) (show p < 100 by omega)
  have s1 := h.2.1.2.2.2.1 p hp
  have s2 := h.2.1.2.2.2.2.1 p hp
  unfold f_X5_person perV
  by_cases q : w = 0
  · simp (disch := omega) only [li_0, li_1, li_2, li_3, li_4, li_5, li_6, li_7, li_8, li_9, li_10, li_11, li_12, li_14, li_15, li_16, li_18, li_20, li_22, li_23, li_24, li_29, li_30, li_31, li_32, li_33, li_40, li_48, li_54, li_55, li_56, li_57, li_59, li_60, li_63, li_64, li_97, li_98, li_99, li_100, li_103, li_107, li_108, li_112, li_121, li_206, li_212, li_232, li_240, li_255, li_256, li_261, li_270, ng_1, ng_2, ng_3, ng_4, ng_9, ng_10, m1_1, nI_m1, m1_nI, if_true, if_false, nI_add, pk_mul, pk_sub, nI_div, nI_rem, nI_eq, nI_leI, nI_ltI, nI_clamp, ck_in, ck_nz, bind_sm, upM_n, upM_m, upM_s, if_pos, if_neg, e1, below_in, s1]
  · simp (disch := omega) only [li_0, li_1, li_2, li_3, li_4, li_5, li_6, li_7, li_8, li_9, li_10, li_11, li_12, li_14, li_15, li_16, li_18, li_20, li_22, li_23, li_24, li_29, li_30, li_31, li_32, li_33, li_40, li_48, li_54, li_55, li_56, li_57, li_59, li_60, li_63, li_64, li_97, li_98, li_99, li_100, li_103, li_107, li_108, li_112, li_121, li_206, li_212, li_232, li_240, li_255, li_256, li_261, li_270, ng_1, ng_2, ng_3, ng_4, ng_9, ng_10, m1_1, nI_m1, m1_nI, if_true, if_false, nI_add, pk_mul, pk_sub, nI_div, nI_rem, nI_eq, nI_leI, nI_ltI, nI_clamp, ck_in, ck_nz, bind_sm, upM_n, upM_m, upM_s, if_pos, if_neg, e1, below_in, s2]
theorem s_person {α : AS} (ok : OKA α) (x1 x2 : Int32) : St α (pu (f_X5_person x1 x2)) (f_X6_person x1 x2) := by
  have ok1 := ok.s.1.2.1
  by_cases r1 : In x1 (nP (sA α))
  · obtain ⟨p, hp, rfl⟩ := r1
    by_cases r2 : In x2 2
    · obtain ⟨w, hw, rfl⟩ := r2
      refine St.same ok (perV α p w) (fun M h => ⟨M, ?_, h, Fr.rf⟩) (fun M h => ?_)
      · unfold pu
        rw [c_per_in ok h hp hw, bind_sm]
      · obtain ⟨M1, a1, a2, a4, a5, a6, a3⟩ := h.rdP ok
        refine ⟨M1, ?_, a2, a3⟩
        have e1 := m_isP (i := p) a4 (show nP (sA α) < 100 by omega) (show p < 100 by omega)
        unfold f_X6_person perV
        by_cases q : w = 0
        · have := a5 p hp
          simp (disch := omega) only [li_0, li_1, li_2, li_3, li_4, li_5, li_6, li_7, li_8, li_9, li_10, li_11, li_12, li_14, li_15, li_16, li_18, li_20, li_22, li_23, li_24, li_29, li_30, li_31, li_32, li_33, li_40, li_48, li_54, li_55, li_56, li_57, li_59, li_60, li_63, li_64, li_97, li_98, li_99, li_100, li_103, li_107, li_108, li_112, li_121, li_206, li_212, li_232, li_240, li_255, li_256, li_261, li_270, ng_1, ng_2, ng_3, ng_4, ng_9, ng_10, m1_1, nI_m1, m1_nI, if_true, if_false, nI_add, pk_mul, pk_sub, nI_div, nI_rem, nI_eq, nI_leI, nI_ltI, nI_clamp, ck_in, ck_nz, bind_sm, upM_n, upM_m, upM_s, if_pos, if_neg, a1, e1, m_two_in]
          rw [q, Nat.add_zero, this]
        · have := a6 p hp
          have : w = 1 := by omega
          subst this
          simp (disch := omega) only [li_0, li_1, li_2, li_3, li_4, li_5, li_6, li_7, li_8, li_9, li_10, li_11, li_12, li_14, li_15, li_16, li_18, li_20, li_22, li_23, li_24, li_29, li_30, li_31, li_32, li_33, li_40, li_48, li_54, li_55, li_56, li_57, li_59, li_60, li_63, li_64, li_97, li_98, li_99, li_100, li_103, li_107, li_108, li_112, li_121, li_206, li_212, li_232, li_240, li_255, li_256, li_261, li_270, ng_1, ng_2, ng_3, ng_4, ng_9, ng_10, m1_1, nI_m1, m1_nI, if_true, if_false, nI_add, pk_mul, pk_sub, nI_div, nI_rem, nI_eq, nI_leI, nI_ltI, nI_clamp, ck_in, ck_nz, bind_sm, upM_n, upM_m, upM_s, if_pos, if_neg, a1, e1, m_two_in, a6 p hp]
    · refine St.same ok m2 (fun M h => ⟨M, ?_, h, Fr.rf⟩) (fun M h => ?_)
      · have e1 := c_hasP (i := p) h.2.1.1.2.1 (show nP (sA α) < 100 by omega) (show p < 100 by omega)
        unfold pu f_X5_person
        simp (disch := omega) only [li_0, li_1, li_2, li_3, li_4, li_5, li_6, li_7, li_8, li_9, li_10, li_11, li_12, li_14, li_15, li_16, li_18, li_20, li_22, li_23, li_24, li_29, li_30, li_31, li_32, li_33, li_40, li_48, li_54, li_55, li_56, li_57, li_59, li_60, li_63, li_64, li_97, li_98, li_99, li_100, li_103, li_107, li_108, li_112, li_121, li_206, li_212, li_232, li_240, li_255, li_256, li_261, li_270, ng_1, ng_2, ng_3, ng_4, ng_9, ng_10, m1_1, nI_m1, m1_nI, if_true, if_false, nI_add, pk_mul, pk_sub, nI_div, nI_rem, nI_eq, nI_leI, nI_ltI, nI_clamp, ck_in, ck_nz, bind_sm, upM_n, upM_m, upM_s, if_pos, if_neg, e1, below_out _ r2]
      · obtain ⟨M1, a1, a2, a4, a5, a6, a3⟩ := h.rdP ok
        have e1 := m_isP (i := p) a4 (show nP (sA α) < 100 by omega) (show p < 100 by omega)
        refine ⟨M1, ?_, a2, a3⟩
        unfold f_X6_person
        simp (disch := omega) only [li_0, li_1, li_2, li_3, li_4, li_5, li_6, li_7, li_8, li_9, li_10, li_11, li_12, li_14, li_15, li_16, li_18, li_20, li_22, li_23, li_24, li_29, li_30, li_31, li_32, li_33, li_40, li_48, li_54, li_55, li_56, li_57, li_59, li_60, li_63, li_64, li_97, li_98, li_99, li_100, li_103, li_107, li_108, li_112, li_121, li_206, li_212, li_232, li_240, li_255, li_256, li_261, li_270, ng_1, ng_2, ng_3, ng_4, ng_9, ng_10, m1_1, nI_m1, m1_nI, if_true, if_false, nI_add, pk_mul, pk_sub, nI_div, nI_rem, nI_eq, nI_leI, nI_ltI, nI_clamp, ck_in, ck_nz, bind_sm, upM_n, upM_m, upM_s, if_pos, if_neg, a1, e1, m_two_out r2]
  · refine St.same ok m2 (fun M h => ⟨M, ?_, h, Fr.rf⟩) (fun M h => ?_)
    · unfold pu f_X5_person
      simp (disch := omega) only [li_0, li_1, li_2, li_3, li_4, li_5, li_6, li_7, li_8, li_9, li_10, li_11, li_12, li_14, li_15, li_16, li_18, li_20, li_22, li_23, li_24, li_29, li_30, li_31, li_32, li_33, li_40, li_48, li_54, li_55, li_56, li_57, li_59, li_60, li_63, li_64, li_97, li_98, li_99, li_100, li_103, li_107, li_108, li_112, li_121, li_206, li_212, li_232, li_240, li_255, li_256, li_261, li_270, ng_1, ng_2, ng_3, ng_4, ng_9, ng_10, m1_1, nI_m1, m1_nI, if_true, if_false, nI_add, pk_mul, pk_sub, nI_div, nI_rem, nI_eq, nI_leI, nI_ltI, nI_clamp, ck_in, ck_nz, bind_sm, upM_n, upM_m, upM_s, if_pos, if_neg, hasP_out h.2.1.1.2.1 (by omega) r1]
    · obtain ⟨M1, a1, a2, a4, a5, a6, a3⟩ := h.rdP ok
      refine ⟨M1, ?_, a2, a3⟩
      unfold f_X6_person
      simp (disch := omega) only [li_0, li_1, li_2, li_3, li_4, li_5, li_6, li_7, li_8, li_9, li_10, li_11, li_12, li_14, li_15, li_16, li_18, li_20, li_22, li_23, li_24, li_29, li_30, li_31, li_32, li_33, li_40, li_48, li_54, li_55, li_56, li_57, li_59, li_60, li_63, li_64, li_97, li_98, li_99, li_100, li_103, li_107, li_108, li_112, li_121, li_206, li_212, li_232, li_240, li_255, li_256, li_261, li_270, ng_1, ng_2, ng_3, ng_4, ng_9, ng_10, m1_1, nI_m1, m1_nI, if_true, if_false, nI_add, pk_mul, pk_sub, nI_div, nI_rem, nI_eq, nI_leI, nI_ltI, nI_clamp, ck_in, ck_nz, bind_sm, upM_n, upM_m, upM_s, if_pos, if_neg, a1, isP_out a4 (show nP (sA α) < 100 by omega) r1]
