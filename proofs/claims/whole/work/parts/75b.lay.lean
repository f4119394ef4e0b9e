-- THE CALLS: lay, get
theorem lay_f {α : AS} {M : Mem} {s f w : Nat} {x3 x4 : Int32} (hs : s < 4) (hf : f < 3) (hw : w = 1 ∨ w = 2 ∨ w = 3) (a1 : f_X2_whatIsWrong (37 + 2 * s) (nI f) x3 M = some (nI w)) : f_X5_lay (nI s) (nI f) x3 x4 M = some (m10 - nI w, upM M 0 13 (nI w)) := by
  have R := rf36 hs
  unfold f_X5_lay f_X5_finding
  simp (disch := omega) only [li_0, li_1, li_2, li_3, li_4, li_5, li_6, li_7, li_8, li_9, li_10, li_11, li_12, li_14, li_15, li_16, li_18, li_20, li_22, li_23, li_24, li_29, li_30, li_31, li_32, li_33, li_40, li_48, li_54, li_55, li_56, li_57, li_59, li_60, li_63, li_64, li_97, li_98, li_99, li_100, li_103, li_107, li_108, li_112, li_121, li_206, li_212, li_232, li_240, li_255, li_256, li_261, li_270, ng_1, ng_2, ng_3, ng_4, ng_9, ng_10, m1_1, nI_m1, m1_nI, if_true, if_false, nI_add, pk_mul, pk_sub, nI_div, nI_rem, nI_eq, nI_leI, nI_ltI, nI_clamp, ck_in, ck_nz, bind_sm, upM_n, upM_m, upM_s, if_pos, if_neg, below_in, R, a1]
theorem lay_g {M N : Mem} {s f w : Nat} {x3 x4 : Int32} (hs : s < 4) (hf : f < 3) (hw : w = 1 ∨ w = 2 ∨ w = 3) (a2 : f_X6_lacks (nI s) (nI f) x3 M = some (m10 - nI w, N)) : f_X6_lay (nI s) (nI f) x3 x4 M = some (m10 - nI w, N) := by
  have iv := (m_in_0 (x := nI f) (n := 2) (z := 2) rfl (by omega)).1 f (by omega) rfl
  have w0 : ¬ (m10 - nI w = 0) := by rcases hw with rfl | rfl | rfl <;> decide
  unfold f_X6_lay
  rw [m_sheet_in hs, bind_sm, if_neg (c := nI 1 = 0) (by decide), iv, bind_sm, if_neg (c := nI 1 = 0) (by decide), a2, bind_sm, if_neg w0]
theorem get_f {α : AS} {M : Mem} {s f w : Nat} {x3 : Int32} (hs : s < 4) (hf : f < 3) (hw : w = 1 ∨ w = 2 ∨ w = 3) (a1 : f_X2_whatIsWrong (37 + 2 * s) (nI f) x3 M = some (nI w)) : f_X5_get (nI s) (nI f) x3 M = some (-2147483648, upM M 0 13 (nI w)) := by
  have R := rf36 hs
  unfold f_X5_get
  simp (disch := omega) only [li_0, li_1, li_2, li_3, li_4, li_5, li_6, li_7, li_8, li_9, li_10, li_11, li_12, li_14, li_15, li_16, li_18, li_20, li_22, li_23, li_24, li_29, li_30, li_31, li_32, li_33, li_40, li_48, li_54, li_55, li_56, li_57, li_59, li_60, li_63, li_64, li_97, li_98, li_99, li_100, li_103, li_107, li_108, li_112, li_121, li_206, li_212, li_232, li_240, li_255, li_256, li_261, li_270, ng_1, ng_2, ng_3, ng_4, ng_9, ng_10, m1_1, nI_m1, m1_nI, if_true, if_false, nI_add, pk_mul, pk_sub, nI_div, nI_rem, nI_eq, nI_leI, nI_ltI, nI_clamp, ck_in, ck_nz, bind_sm, upM_n, upM_m, upM_s, if_pos, if_neg, below_in, R, a1]
theorem get_g {M N : Mem} {s f w : Nat} {x3 : Int32} (hs : s < 4) (hf : f < 3) (hw : w = 1 ∨ w = 2 ∨ w = 3) (a2 : f_X6_lacks (nI s) (nI f) x3 M = some (m10 - nI w, N)) : f_X6_get (nI s) (nI f) x3 M = some (-2147483648, N) := by
  have iv := (m_in_0 (x := nI f) (n := 2) (z := 2) rfl (by omega)).1 f (by omega) rfl
  have w0 : ¬ (m10 - nI w = 0) := by rcases hw with rfl | rfl | rfl <;> decide
  unfold f_X6_get
  rw [m_sheet_in hs, bind_sm, if_neg (c := nI 1 = 0) (by decide), iv, bind_sm, if_neg (c := nI 1 = 0) (by decide), a2, bind_sm, if_neg w0]
theorem s_lay {α : AS} (ok : OKA α) (x1 x2 x3 x4 : Int32) : St α (f_X5_lay x1 x2 x3 x4) (f_X6_lay x1 x2 x3 x4) := by
  by_cases r1 : In x1 4
  · obtain ⟨s, hs, rfl⟩ := r1
    have R := rf36 hs
    have o := (ok.2.2.2.2 s hs).2
    by_cases r2 : In x2 3
    · obtain ⟨f, hf, rfl⟩ := r2
      have iv := (m_in_0 (x := nI f) (n := 2) (z := 2) rfl (by omega)).1 f (by omega) rfl
      rcases wrong ok hs hf x3 with ⟨w, hw, a1, a2⟩ | ⟨i, hi, rfl, q, a1, a2⟩
      · refine St.find ok (m10 - nI w) w (fun M h => ?_) (fun M h => ⟨M, h, Fr.rf, ?_⟩)
        · exact lay_f (α := α) hs hf hw (a1 M h)
        · exact lay_g hs hf hw (a2 M h)
      · refine ⟨nI 1, setS α (updS (shA α) s ((shA α s).1, (shA α s).2.1, updI (shA α s).2.2 i (cutV f x4))), ok.sh (Or.inr ⟨f, hf, q⟩) o, fun M h => ⟨upM M (38 + 2 * s) i (cutV f x4), ?_, h.sh hs ?_ ?_ (fun j hj => ?_) (fun k h1 h2 => upM_n h2), fun k hk => upM_n (by omega)⟩, fun M h => ⟨upM M 52 (60 * s + i) (cutV f x4), ?_, h.sh ok hs ?_ ?_ (fun j hj => ?_) (fun j hj => by rw [upM_n (by omega)]) (fun j hj => by rw [upM_n (by omega)]) (fun j hj => upM_m (by omega)) (fun k h1 h2 h3 h4 => upM_n h3), fun k hk => upM_n (by omega)⟩⟩
        · obtain ⟨e0, e1, -⟩ := h.2.2.2.2.2.1 s hs
          rw [q] at e0
          unfold f_X5_lay
          simp (disch := omega) only [li_0, li_1, li_2, li_3, li_4, li_5, li_6, li_7, li_8, li_9, li_10, li_11, li_12, li_14, li_15, li_16, li_18, li_20, li_22, li_23, li_24, li_29, li_30, li_31, li_32, li_33, li_40, li_48, li_54, li_55, li_56, li_57, li_59, li_60, li_63, li_64, li_97, li_98, li_99, li_100, li_103, li_107, li_108, li_112, li_121, li_206, li_212, li_232, li_240, li_255, li_256, li_261, li_270, ng_1, ng_2, ng_3, ng_4, ng_9, ng_10, m1_1, nI_m1, m1_nI, if_true, if_false, nI_add, pk_mul, pk_sub, nI_div, nI_rem, nI_eq, nI_leI, nI_ltI, nI_clamp, ck_in, ck_nz, bind_sm, upM_n, upM_m, upM_s, if_pos, if_neg, below_in, R, a1 M h, c_put hs hf e0 e1 hi o]
        · rw [upM_n (by omega)]; exact (h.2.2.2.2.2.1 s hs).1
        · rw [upM_n (by omega)]; exact (h.2.2.2.2.2.1 s hs).2.1
        · show _ = if j = i then cutV f x4 else (shA α s).2.2 j
          by_cases e : j = i
          · rw [e, upM_s, if_pos rfl]
          · rw [upM_m e, if_neg e]; exact (h.2.2.2.2.2.1 s hs).2.2 j hj
        · unfold f_X6_lay
          simp (disch := omega) only [li_0, li_1, li_2, li_3, li_4, li_5, li_6, li_7, li_8, li_9, li_10, li_11, li_12, li_14, li_15, li_16, li_18, li_20, li_22, li_23, li_24, li_29, li_30, li_31, li_32, li_33, li_40, li_48, li_54, li_55, li_56, li_57, li_59, li_60, li_63, li_64, li_97, li_98, li_99, li_100, li_103, li_107, li_108, li_112, li_121, li_206, li_212, li_232, li_240, li_255, li_256, li_261, li_270, ng_1, ng_2, ng_3, ng_4, ng_9, ng_10, m1_1, nI_m1, m1_nI, if_true, if_false, nI_add, pk_mul, pk_sub, nI_div, nI_rem, nI_eq, nI_leI, nI_ltI, nI_clamp, ck_in, ck_nz, bind_sm, upM_n, upM_m, upM_s, if_pos, if_neg, m_sheet_in, iv, a2 M h, m_cut]
        · rw [upM_n (by omega)]; exact (h.2.2.2.2.1 s hs).1
        · rw [upM_n (by omega)]; exact (h.2.2.2.2.1 s hs).2.1
        · show _ = if j = i then cutV f x4 else (shA α s).2.2 j
          by_cases e : j = i
          · rw [e, upM_s, if_pos rfl]
          · rw [upM_m (by omega), if_neg e]; exact (h.2.2.2.2.1 s hs).2.2 j hj
    · have iv := (m_in_0 (x := x2) (n := 2) (z := 2) rfl (by omega)).2 r2
      refine St.same ok m2 (fun M h => ⟨M, ?_, h, Fr.rf⟩) (fun M h => ⟨M, ?_, h, Fr.rf⟩)
      · unfold f_X5_lay
        simp (disch := omega) only [li_0, li_1, li_2, li_3, li_4, li_5, li_6, li_7, li_8, li_9, li_10, li_11, li_12, li_14, li_15, li_16, li_18, li_20, li_22, li_23, li_24, li_29, li_30, li_31, li_32, li_33, li_40, li_48, li_54, li_55, li_56, li_57, li_59, li_60, li_63, li_64, li_97, li_98, li_99, li_100, li_103, li_107, li_108, li_112, li_121, li_206, li_212, li_232, li_240, li_255, li_256, li_261, li_270, ng_1, ng_2, ng_3, ng_4, ng_9, ng_10, m1_1, nI_m1, m1_nI, if_true, if_false, nI_add, pk_mul, pk_sub, nI_div, nI_rem, nI_eq, nI_leI, nI_ltI, nI_clamp, ck_in, ck_nz, bind_sm, upM_n, upM_m, upM_s, if_pos, if_neg, below_in, below_out _ r2]
      · unfold f_X6_lay
        simp (disch := omega) only [li_0, li_1, li_2, li_3, li_4, li_5, li_6, li_7, li_8, li_9, li_10, li_11, li_12, li_14, li_15, li_16, li_18, li_20, li_22, li_23, li_24, li_29, li_30, li_31, li_32, li_33, li_40, li_48, li_54, li_55, li_56, li_57, li_59, li_60, li_63, li_64, li_97, li_98, li_99, li_100, li_103, li_107, li_108, li_112, li_121, li_206, li_212, li_232, li_240, li_255, li_256, li_261, li_270, ng_1, ng_2, ng_3, ng_4, ng_9, ng_10, m1_1, nI_m1, m1_nI, if_true, if_false, nI_add, pk_mul, pk_sub, nI_div, nI_rem, nI_eq, nI_leI, nI_ltI, nI_clamp, ck_in, ck_nz, bind_sm, upM_n, upM_m, upM_s, if_pos, if_neg, m_sheet_in, iv]
  · refine St.same ok m2 (fun M h => ⟨M, ?_, h, Fr.rf⟩) (fun M h => ⟨M, ?_, h, Fr.rf⟩)
    · unfold f_X5_lay
      simp (disch := omega) only [li_0, li_1, li_2, li_3, li_4, li_5, li_6, li_7, li_8, li_9, li_10, li_11, li_12, li_14, li_15, li_16, li_18, li_20, li_22, li_23, li_24, li_29, li_30, li_31, li_32, li_33, li_40, li_48, li_54, li_55, li_56, li_57, li_59, li_60, li_63, li_64, li_97, li_98, li_99, li_100, li_103, li_107, li_108, li_112, li_121, li_206, li_212, li_232, li_240, li_255, li_256, li_261, li_270, ng_1, ng_2, ng_3, ng_4, ng_9, ng_10, m1_1, nI_m1, m1_nI, if_true, if_false, nI_add, pk_mul, pk_sub, nI_div, nI_rem, nI_eq, nI_leI, nI_ltI, nI_clamp, ck_in, ck_nz, bind_sm, upM_n, upM_m, upM_s, if_pos, if_neg, below_out _ r1]
    · unfold f_X6_lay
      simp (disch := omega) only [li_0, li_1, li_2, li_3, li_4, li_5, li_6, li_7, li_8, li_9, li_10, li_11, li_12, li_14, li_15, li_16, li_18, li_20, li_22, li_23, li_24, li_29, li_30, li_31, li_32, li_33, li_40, li_48, li_54, li_55, li_56, li_57, li_59, li_60, li_63, li_64, li_97, li_98, li_99, li_100, li_103, li_107, li_108, li_112, li_121, li_206, li_212, li_232, li_240, li_255, li_256, li_261, li_270, ng_1, ng_2, ng_3, ng_4, ng_9, ng_10, m1_1, nI_m1, m1_nI, if_true, if_false, nI_add, pk_mul, pk_sub, nI_div, nI_rem, nI_eq, nI_leI, nI_ltI, nI_clamp, ck_in, ck_nz, bind_sm, upM_n, upM_m, upM_s, if_pos, if_neg, m_sheet_out r1]
theorem s_get {α : AS} (ok : OKA α) (x1 x2 x3 : Int32) : St α (f_X5_get x1 x2 x3) (f_X6_get x1 x2 x3) := by
  by_cases r1 : In x1 4
  · obtain ⟨s, hs, rfl⟩ := r1
    have R := rf36 hs
    have R2 := rf37 hs
    have o := (ok.2.2.2.2 s hs).2
    by_cases r2 : In x2 3
    · obtain ⟨f, hf, rfl⟩ := r2
      have iv := (m_in_0 (x := nI f) (n := 2) (z := 2) rfl (by omega)).1 f (by omega) rfl
      rcases wrong ok hs hf x3 with ⟨w, hw, a1, a2⟩ | ⟨i, hi, rfl, q, a1, a2⟩
      · refine St.find ok (-2147483648 : Int32) w (fun M h => ?_) (fun M h => ⟨M, h, Fr.rf, ?_⟩)
        · exact get_f (α := α) hs hf hw (a1 M h)
        · exact get_g hs hf hw (a2 M h)
      · refine St.same ok ((shA α s).2.2 i) (fun M h => ⟨M, ?_, h, Fr.rf⟩) (fun M h => ⟨M, ?_, h, Fr.rf⟩)
        · have e := (h.2.2.2.2.2.1 s hs).2.2 i hi
          unfold f_X5_get
          simp (disch := omega) only [li_0, li_1, li_2, li_3, li_4, li_5, li_6, li_7, li_8, li_9, li_10, li_11, li_12, li_14, li_15, li_16, li_18, li_20, li_22, li_23, li_24, li_29, li_30, li_31, li_32, li_33, li_40, li_48, li_54, li_55, li_56, li_57, li_59, li_60, li_63, li_64, li_97, li_98, li_99, li_100, li_103, li_107, li_108, li_112, li_121, li_206, li_212, li_232, li_240, li_255, li_256, li_261, li_270, ng_1, ng_2, ng_3, ng_4, ng_9, ng_10, m1_1, nI_m1, m1_nI, if_true, if_false, nI_add, pk_mul, pk_sub, nI_div, nI_rem, nI_eq, nI_leI, nI_ltI, nI_clamp, ck_in, ck_nz, bind_sm, upM_n, upM_m, upM_s, if_pos, if_neg, below_in, R, R2, a1 M h, e]
        · have e := (h.2.2.2.2.1 s hs).2.2 i hi
          unfold f_X6_get
          simp (disch := omega) only [li_0, li_1, li_2, li_3, li_4, li_5, li_6, li_7, li_8, li_9, li_10, li_11, li_12, li_14, li_15, li_16, li_18, li_20, li_22, li_23, li_24, li_29, li_30, li_31, li_32, li_33, li_40, li_48, li_54, li_55, li_56, li_57, li_59, li_60, li_63, li_64, li_97, li_98, li_99, li_100, li_103, li_107, li_108, li_112, li_121, li_206, li_212, li_232, li_240, li_255, li_256, li_261, li_270, ng_1, ng_2, ng_3, ng_4, ng_9, ng_10, m1_1, nI_m1, m1_nI, if_true, if_false, nI_add, pk_mul, pk_sub, nI_div, nI_rem, nI_eq, nI_leI, nI_ltI, nI_clamp, ck_in, ck_nz, bind_sm, upM_n, upM_m, upM_s, if_pos, if_neg, m_sheet_in, iv, a2 M h, e]
    · have iv := (m_in_0 (x := x2) (n := 2) (z := 2) rfl (by omega)).2 r2
      refine St.same ok (-2147483648 : Int32) (fun M h => ⟨M, ?_, h, Fr.rf⟩) (fun M h => ⟨M, ?_, h, Fr.rf⟩)
      · unfold f_X5_get
        simp (disch := omega) only [li_0, li_1, li_2, li_3, li_4, li_5, li_6, li_7, li_8, li_9, li_10, li_11, li_12, li_14, li_15, li_16, li_18, li_20, li_22, li_23, li_24, li_29, li_30, li_31, li_32, li_33, li_40, li_48, li_54, li_55, li_56, li_57, li_59, li_60, li_63, li_64, li_97, li_98, li_99, li_100, li_103, li_107, li_108, li_112, li_121, li_206, li_212, li_232, li_240, li_255, li_256, li_261, li_270, ng_1, ng_2, ng_3, ng_4, ng_9, ng_10, m1_1, nI_m1, m1_nI, if_true, if_false, nI_add, pk_mul, pk_sub, nI_div, nI_rem, nI_eq, nI_leI, nI_ltI, nI_clamp, ck_in, ck_nz, bind_sm, upM_n, upM_m, upM_s, if_pos, if_neg, below_in, below_out _ r2]
      · unfold f_X6_get
        simp (disch := omega) only [li_0, li_1, li_2, li_3, li_4, li_5, li_6, li_7, li_8, li_9, li_10, li_11, li_12, li_14, li_15, li_16, li_18, li_20, li_22, li_23, li_24, li_29, li_30, li_31, li_32, li_33, li_40, li_48, li_54, li_55, li_56, li_57, li_59, li_60, li_63, li_64, li_97, li_98, li_99, li_100, li_103, li_107, li_108, li_112, li_121, li_206, li_212, li_232, li_240, li_255, li_256, li_261, li_270, ng_1, ng_2, ng_3, ng_4, ng_9, ng_10, m1_1, nI_m1, m1_nI, if_true, if_false, nI_add, pk_mul, pk_sub, nI_div, nI_rem, nI_eq, nI_leI, nI_ltI, nI_clamp, ck_in, ck_nz, bind_sm, upM_n, upM_m, upM_s, if_pos, if_neg, m_sheet_in, iv]
  · refine St.same ok (-2147483648 : Int32) (fun M h => ⟨M, ?_, h, Fr.rf⟩) (fun M h => ⟨M, ?_, h, Fr.rf⟩)
    · unfold f_X5_get
      simp (disch := omega) only [li_0, li_1, li_2, li_3, li_4, li_5, li_6, li_7, li_8, li_9, li_10, li_11, li_12, li_14, li_15, li_16, li_18, li_20, li_22, li_23, li_24, li_29, li_30, li_31, li_32, li_33, li_40, li_48, li_54, li_55, li_56, li_57, li_59, li_60, li_63, li_64, li_97, li_98, li_99, li_100, li_103, li_107, li_108, li_112, li_121, li_206, li_212, li_232, li_240, li_255, li_256, li_261, li_270, ng_1, ng_2, ng_3, ng_4, ng_9, ng_10, m1_1, nI_m1, m1_nI, if_true, if_false, nI_add, pk_mul, pk_sub, nI_div, nI_rem, nI_eq, nI_leI, nI_ltI, nI_clamp, ck_in, ck_nz, bind_sm, upM_n, upM_m, upM_s, if_pos, if_neg, below_out _ r1]
    · unfold f_X6_get
      simp (disch := omega) only [li_0, li_1, li_2, li_3, li_4, li_5, li_6, li_7, li_8, li_9, li_10, li_11, li_12, li_14, li_15, li_16, li_18, li_20, li_22, li_23, li_24, li_29, li_30, li_31, li_32, li_33, li_40, li_48, li_54, li_55, li_56, li_57, li_59, li_60, li_63, li_64, li_97, li_98, li_99, li_100, li_103, li_107, li_108, li_112, li_121, li_206, li_212, li_232, li_240, li_255, li_256, li_261, li_270, ng_1, ng_2, ng_3, ng_4, ng_9, ng_10, m1_1, nI_m1, m1_nI, if_true, if_false, nI_add, pk_mul, pk_sub, nI_div, nI_rem, nI_eq, nI_leI, nI_ltI, nI_clamp, ck_in, ck_nz, bind_sm, upM_n, upM_m, upM_s, if_pos, if_neg, m_sheet_out r1]
