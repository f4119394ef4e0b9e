-- THE CALLS: lay, get
theorem lay_f {α : AS} {M : Mem} {s f w : Nat} {x3 x4 : Int32} (hs : s < 4) (hf : f < 3) (hw : w = 1 ∨ w = 2 ∨ w = 3) (a1 : f_X2_whatIsWrong (37 + 2 * s) (nI f) x3 M = some (nI w)) : f_X5_lay (nI s) (nI f) x3 x4 M = some (m10 - nI w, upM M 0 13 (nI w)) := by
  have R := rf36 hs
  unfold f_X5_lay f_X5_finding
  simp (disch := omega) only [li_0, li_1, li_2, li_3, li_4, li_5, li_6, li_7, li_8, li_9, li_10, li_11, li_12, li_14, li_15, li_16, li_18, li_20, li_22, li_23, li_24, li_29, li_30, li_31, li_32, li_33, li_40, li_48, li_54, li_55, li_56, li_57, li_59, li_60, li_63, li_64, li_97, li_98, li_99, li_100, li_103, li_107, li_108, li_112, li_121, li_206, li_212, li_232, li_240, li_255, li_256, li_261, li_270, ng_1, ng_2, ng_3, ng_4, ng_9, ng_10, m1_1, nI_m1, m1_nI, if_true, if_false, nI_add, pk_mul, pk_sub, nI_div, nI_rem, nI_eq, nI_leI, nI_ltI, nI_clamp, ck_in, ck_nz, bind_sm, upM_n, upM_m, upM_s, if_pos, if_neg, below_in, R, a1]
