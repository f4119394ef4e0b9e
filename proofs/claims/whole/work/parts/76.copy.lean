-- THE CALLS: copy, write
theorem sub_lt {z a n : Nat} (hz : z ≤ 60) (ha : a < 2147483648) (hn : n < 2147483648) : (nI z - nI a < nI n) = (z < a + n) := by
  have e : (nI z - nI a).toInt = (z : Int) - a := by
    rw [Int32.toInt_sub, nI_toInt (by omega), nI_toInt ha, Int.bmod_def]
    split <;> omega
  rw [Int32.lt_iff_toInt_lt, e, nI_toInt hn]
  exact propext ⟨fun h => by omega, fun h => by omega⟩
theorem has {M : Mem} {c z : Nat} {x n : Int32} (h1 : M c 1 = nI z) (hz : z ≤ 60) : (f_X2_hasItems c x n M = some (nI 1) ∧ ∃ a k, x = nI a ∧ n = nI k ∧ a + k ≤ z) ∨ (f_X2_hasItems c x n M = some (nI 0) ∧ ¬ ∃ a k, a < 2147483648 ∧ k < 2147483648 ∧ x = nI a ∧ n = nI k ∧ a + k ≤ z) := by
  unfold f_X2_hasItems
  by_cases nx : x < 0
  · refine Or.inr ⟨by rw [if_pos nx]; rfl, ?_⟩
    rintro ⟨a, k, ha, hk, rfl, rfl, -⟩
    rw [li_0, nI_ltI ha (by omega)] at nx
    omega
  · by_cases nn : n < 0
    · refine Or.inr ⟨by rw [if_neg nx, if_pos nn]; rfl, ?_⟩
      rintro ⟨a, k, ha, hk, rfl, rfl, -⟩
      rw [li_0, nI_ltI hk (by omega)] at nn
      omega
    · obtain ⟨a, ha, rfl⟩ := nI_of nx
      obtain ⟨k, hk, rfl⟩ := nI_of nn
      rw [if_neg nx, if_neg nn, h1]
      have sl := sub_lt hz ha hk
      by_cases q : z < a + k
      · refine Or.inr ⟨by rw [if_pos (sl.mpr q)]; rfl, ?_⟩
        rintro ⟨a', k', ha', hk', e1, e2, e3⟩
        have e1 := (nI_eq ha ha').mp e1
        have e2 := (nI_eq hk hk').mp e2
        omega
      · exact Or.inl ⟨by rw [if_neg (fun z => q (sl.mp z))]; rfl, a, k, rfl, rfl, by omega⟩
theorem nZ_lt {a b : Nat} (ha : a < 2 ^ 62) (hb : b < 2 ^ 62) : (nZ a < nZ b) = (a < b) := by
  rw [Int64.lt_iff_toInt_lt, nZ_toInt (by omega), nZ_toInt (by omega)]
  exact propext ⟨fun h => by omega, fun h => by omega⟩
theorem nZ_le {a b : Nat} (ha : a < 2 ^ 62) (hb : b < 2 ^ 62) : (nZ a ≤ nZ b) = (a ≤ b) := by
  rw [Int64.le_iff_toInt_le, nZ_toInt (by omega), nZ_toInt (by omega)]
  exact propext ⟨fun h => by omega, fun h => by omega⟩
theorem cmp_gt {x y : Int64} : (nI 0 < lg_cmp x y) = (y < x) := propext (lg_cmp_gt x y)
theorem cmp_le {x y : Int64} : (lg_cmp x y ≤ nI 0) = (x ≤ y) := propext (lg_cmp_le x y)
theorem m_copy1 {M : Mem} {s a n : Nat} {x3 x4 : Int32} (hs : s < 4) (hn : a + n ≤ 60) : loop (fun s5 : Int32 × Mem => f_X6_copy_120_120b (nI s) (nI a) x3 x4 (nI n) s5.1 s5.2) (nI 0, M) = some (nI n, filM M 53 0 n (fun j => M 52 (60 * s + a + j))) := by
  have := loop_for (B := fun s5 : Int32 × Mem => f_X6_copy_120_120b (nI s) (nI a) x3 x4 (nI n) s5.1 s5.2) (fun j => (nI j, filM M 53 0 j (fun j => M 52 (60 * s + a + j)))) n (e := (nI n, filM M 53 0 n (fun j => M 52 (60 * s + a + j))))
    (by
      intro j hj
      dsimp only
      unfold f_X6_copy_120_120b
      have e : filM M 53 0 j (fun j => M 52 (60 * s + a + j)) 52 = M 52 := filM_n (by omega)
      simp (disch := omega) only [li_0, li_1, li_2, li_3, li_4, li_5, li_6, li_7, li_8, li_9, li_10, li_11, li_12, li_14, li_15, li_16, li_18, li_20, li_22, li_23, li_24, li_29, li_30, li_31, li_32, li_33, li_40, li_48, li_54, li_55, li_56, li_57, li_59, li_60, li_63, li_64, li_97, li_98, li_99, li_100, li_103, li_107, li_108, li_112, li_121, li_206, li_212, li_232, li_240, li_255, li_256, li_261, li_270, ng_1, ng_2, ng_3, ng_4, ng_9, ng_10, m1_1, nI_m1, m1_nI, if_true, if_false, nI_add, pk_mul, pk_sub, nI_div, nI_rem, nI_eq, nI_leI, nI_ltI, nI_clamp, ck_in, ck_nz, bind_sm, upM_n, upM_m, upM_s, if_pos, if_neg, e]
      rw [← filM_up0])
    (by
      dsimp only
      unfold f_X6_copy_120_120b
      simp (disch := omega) only [li_0, li_1, li_2, li_3, li_4, li_5, li_6, li_7, li_8, li_9, li_10, li_11, li_12, li_14, li_15, li_16, li_18, li_20, li_22, li_23, li_24, li_29, li_30, li_31, li_32, li_33, li_40, li_48, li_54, li_55, li_56, li_57, li_59, li_60, li_63, li_64, li_97, li_98, li_99, li_100, li_103, li_107, li_108, li_112, li_121, li_206, li_212, li_232, li_240, li_255, li_256, li_261, li_270, ng_1, ng_2, ng_3, ng_4, ng_9, ng_10, m1_1, nI_m1, m1_nI, if_true, if_false, nI_add, pk_mul, pk_sub, nI_div, nI_rem, nI_eq, nI_leI, nI_ltI, nI_clamp, ck_in, ck_nz, bind_sm, upM_n, upM_m, upM_s, if_pos, if_neg])
  rw [filM_0] at this
  exact this
theorem m_copy2 {M : Mem} {t b n : Nat} (ht : t < 4) (hn : b + n ≤ 60) : loop (fun s7 : Int32 × Mem => f_X6_copy_157_157b (nI t) (nI b) (nI n) s7.1 s7.2) (nI 0, M) = some (nI n, filM M 52 (60 * t + b) n (fun j => M 53 j)) := by
  have := loop_for (B := fun s7 : Int32 × Mem => f_X6_copy_157_157b (nI t) (nI b) (nI n) s7.1 s7.2) (fun j => (nI j, filM M 52 (60 * t + b) j (fun j => M 53 j))) n (e := (nI n, filM M 52 (60 * t + b) n (fun j => M 53 j)))
    (by
      intro j hj
      dsimp only
      unfold f_X6_copy_157_157b
      have e : filM M 52 (60 * t + b) j (fun j => M 53 j) 53 = M 53 := filM_n (by omega)
      simp (disch := omega) only [li_0, li_1, li_2, li_3, li_4, li_5, li_6, li_7, li_8, li_9, li_10, li_11, li_12, li_14, li_15, li_16, li_18, li_20, li_22, li_23, li_24, li_29, li_30, li_31, li_32, li_33, li_40, li_48, li_54, li_55, li_56, li_57, li_59, li_60, li_63, li_64, li_97, li_98, li_99, li_100, li_103, li_107, li_108, li_112, li_121, li_206, li_212, li_232, li_240, li_255, li_256, li_261, li_270, ng_1, ng_2, ng_3, ng_4, ng_9, ng_10, m1_1, nI_m1, m1_nI, if_true, if_false, nI_add, pk_mul, pk_sub, nI_div, nI_rem, nI_eq, nI_leI, nI_ltI, nI_clamp, ck_in, ck_nz, bind_sm, upM_n, upM_m, upM_s, if_pos, if_neg, e]
      rw [← filM_up])
    (by
      dsimp only
      unfold f_X6_copy_157_157b
      simp (disch := omega) only [li_0, li_1, li_2, li_3, li_4, li_5, li_6, li_7, li_8, li_9, li_10, li_11, li_12, li_14, li_15, li_16, li_18, li_20, li_22, li_23, li_24, li_29, li_30, li_31, li_32, li_33, li_40, li_48, li_54, li_55, li_56, li_57, li_59, li_60, li_63, li_64, li_97, li_98, li_99, li_100, li_103, li_107, li_108, li_112, li_121, li_206, li_212, li_232, li_240, li_255, li_256, li_261, li_270, ng_1, ng_2, ng_3, ng_4, ng_9, ng_10, m1_1, nI_m1, m1_nI, if_true, if_false, nI_add, pk_mul, pk_sub, nI_div, nI_rem, nI_eq, nI_leI, nI_ltI, nI_clamp, ck_in, ck_nz, bind_sm, upM_n, upM_m, upM_s, if_pos, if_neg])
  rw [filM_0] at this
  exact this
theorem cpb_in {a b n : Nat} (h1 : a + n ≤ 60) (h2 : b + n ≤ 60) : cpb (nI a) (nI b) (nI n) 60 60 = true := by
  unfold cpb
  refine decide_eq_true ?_
  rw [li_0, nI_ltI (by omega) (by omega), nI_ltI (by omega) (by omega), nI_ltI (by omega) (by omega), nI_clamp (by omega), nI_clamp (by omega), nI_clamp (by omega)]
  omega
theorem ck_t {A : Type} {b : Bool} {t : Option A} (h : b = true) : ck b t = t := by rw [h]; rfl
theorem s_copy {α : AS} (ok : OKA α) (x1 x2 x3 x4 x5 : Int32) : St α (f_X5_copy x1 x2 x3 x4 x5) (f_X6_copy x1 x2 x3 x4 x5) := by
  by_cases r1 : In x1 4
  · obtain ⟨s, hs, rfl⟩ := r1
    have R := rf36 hs
    have o := (ok.2.2.2.2 s hs).2
    by_cases r3 : In x3 4
    · obtain ⟨t, ht, rfl⟩ := r3
      have Rt := rf36 ht
      have ot := (ok.2.2.2.2 t ht).2
      rcases ok.form hs with q | ⟨f, hf, q⟩
      · refine St.find ok (m10 - nI 1) 1 (fun M h => ?_) (fun M h => ⟨M, h, Fr.rf, ?_⟩)
        · have e0 := (h.2.2.2.2.2.1 s hs).1
          rw [q] at e0
          unfold f_X5_copy f_X5_copy_53 f_X5_finding
          simp (disch := omega) only [li_0, li_1, li_2, li_3, li_4, li_5, li_6, li_7, li_8, li_9, li_10, li_11, li_12, li_14, li_15, li_16, li_18, li_20, li_22, li_23, li_24, li_29, li_30, li_31, li_32, li_33, li_40, li_48, li_54, li_55, li_56, li_57, li_59, li_60, li_63, li_64, li_97, li_98, li_99, li_100, li_103, li_107, li_108, li_112, li_121, li_206, li_212, li_232, li_240, li_255, li_256, li_261, li_270, ng_1, ng_2, ng_3, ng_4, ng_9, ng_10, m1_1, nI_m1, m1_nI, if_true, if_false, nI_add, pk_mul, pk_sub, nI_div, nI_rem, nI_eq, nI_leI, nI_ltI, nI_clamp, ck_in, ck_nz, bind_sm, upM_n, upM_m, upM_s, if_pos, if_neg, below_in, R, e0, eq_self]
        · have e0 := (h.2.2.2.2.1 s hs).1
          rw [q] at e0
          unfold f_X6_copy f_X6_copy_35 f_X6_finds
          simp (disch := omega) only [li_0, li_1, li_2, li_3, li_4, li_5, li_6, li_7, li_8, li_9, li_10, li_11, li_12, li_14, li_15, li_16, li_18, li_20, li_22, li_23, li_24, li_29, li_30, li_31, li_32, li_33, li_40, li_48, li_54, li_55, li_56, li_57, li_59, li_60, li_63, li_64, li_97, li_98, li_99, li_100, li_103, li_107, li_108, li_112, li_121, li_206, li_212, li_232, li_240, li_255, li_256, li_261, li_270, ng_1, ng_2, ng_3, ng_4, ng_9, ng_10, m1_1, nI_m1, m1_nI, if_true, if_false, nI_add, pk_mul, pk_sub, nI_div, nI_rem, nI_eq, nI_leI, nI_ltI, nI_clamp, ck_in, ck_nz, bind_sm, upM_n, upM_m, upM_s, if_pos, if_neg, m_sheet_in, e0, m1_ng]
      · rcases ok.form ht with qt | ⟨g, hg, qt⟩
        · refine St.find ok (m10 - nI 1) 1 (fun M h => ?_) (fun M h => ⟨M, h, Fr.rf, ?_⟩)
          · have e0 := (h.2.2.2.2.2.1 s hs).1
            have et := (h.2.2.2.2.2.1 t ht).1
            rw [q] at e0
            rw [qt] at et
            unfold f_X5_copy f_X5_copy_53 f_X5_finding
            simp (disch := omega) only [li_0, li_1, li_2, li_3, li_4, li_5, li_6, li_7, li_8, li_9, li_10, li_11, li_12, li_14, li_15, li_16, li_18, li_20, li_22, li_23, li_24, li_29, li_30, li_31, li_32, li_33, li_40, li_48, li_54, li_55, li_56, li_57, li_59, li_60, li_63, li_64, li_97, li_98, li_99, li_100, li_103, li_107, li_108, li_112, li_121, li_206, li_212, li_232, li_240, li_255, li_256, li_261, li_270, ng_1, ng_2, ng_3, ng_4, ng_9, ng_10, m1_1, nI_m1, m1_nI, if_true, if_false, nI_add, pk_mul, pk_sub, nI_div, nI_rem, nI_eq, nI_leI, nI_ltI, nI_clamp, ck_in, ck_nz, bind_sm, upM_n, upM_m, upM_s, if_pos, if_neg, below_in, R, Rt, e0, et, eq_self]
          · have e0 := (h.2.2.2.2.1 s hs).1
            have et := (h.2.2.2.2.1 t ht).1
            rw [q] at e0
            rw [qt] at et
            unfold f_X6_copy f_X6_copy_35 f_X6_finds
            simp (disch := omega) only [li_0, li_1, li_2, li_3, li_4, li_5, li_6, li_7, li_8, li_9, li_10, li_11, li_12, li_14, li_15, li_16, li_18, li_20, li_22, li_23, li_24, li_29, li_30, li_31, li_32, li_33, li_40, li_48, li_54, li_55, li_56, li_57, li_59, li_60, li_63, li_64, li_97, li_98, li_99, li_100, li_103, li_107, li_108, li_112, li_121, li_206, li_212, li_232, li_240, li_255, li_256, li_261, li_270, ng_1, ng_2, ng_3, ng_4, ng_9, ng_10, m1_1, nI_m1, m1_nI, if_true, if_false, nI_add, pk_mul, pk_sub, nI_div, nI_rem, nI_eq, nI_leI, nI_ltI, nI_clamp, ck_in, ck_nz, bind_sm, upM_n, upM_m, upM_s, if_pos, if_neg, m_sheet_in, e0, et, m1_nn]
        · by_cases fg : f = g
          · subst fg
            by_cases P : ∃ a b n : Nat, x2 = nI a ∧ x4 = nI b ∧ x5 = nI n ∧ a + n ≤ (shA α s).2.1 ∧ b + n ≤ (shA α t).2.1
            · obtain ⟨a, b, n, rfl, rfl, rfl, p1, p2⟩ := P
              refine ⟨nI 1, setS α (updS (shA α) t ((shA α t).1, (shA α t).2.1, fun j => if b ≤ j ∧ j < b + n then (shA α s).2.2 (a + (j - b)) else (shA α t).2.2 j)), ok.sh (Or.inr ⟨f, hg, qt⟩) ot, fun M h => ⟨cpM M (38 + 2 * s) a (38 + 2 * t) b n, ?_, h.sh ht ?_ ?_ (fun j hj => ?_) (fun k h1 h2 => cpM_n h2), fun k hk => cpM_n (by omega)⟩, fun M h => ⟨filM (filM M 53 0 n (fun j => M 52 (60 * s + a + j))) 52 (60 * t + b) n (fun j => filM M 53 0 n (fun j => M 52 (60 * s + a + j)) 53 j), ?_, h.sh ok ht ?_ ?_ (fun j hj => ?_) (fun j hj => by rw [filM_n (by omega), filM_n (by omega)]) (fun j hj => by rw [filM_n (by omega), filM_n (by omega)]) (fun j hj => by rw [filM_out (by omega), filM_n (by omega)]) (fun k h1 h2 h3 h4 => by rw [filM_n h3, filM_n h4]), fun k hk => by rw [filM_n (by omega), filM_n (by omega)]⟩⟩
              · obtain ⟨e0, e1, -⟩ := h.2.2.2.2.2.1 s hs
                obtain ⟨t0, t1, -⟩ := h.2.2.2.2.2.1 t ht
                rw [q] at e0
                rw [qt] at t0
                have i1 : f_X2_hasItems (37 + 2 * s) (nI a) (nI n) M = some (nI 1) := by
                  rcases has (x := nI a) (n := nI n) e1 o with i | i
                  · exact i.1
                  · exact absurd ⟨a, n, by omega, by omega, rfl, rfl, p1⟩ i.2
                have i2 : f_X2_hasItems (37 + 2 * t) (nI b) (nI n) M = some (nI 1) := by
                  rcases has (x := nI b) (n := nI n) t1 ot with i | i
                  · exact i.1
                  · exact absurd ⟨b, n, by omega, by omega, rfl, rfl, p2⟩ i.2
                have cb := cpb_in (a := a) (b := b) (n := n) (by omega) (by omega)
                unfold f_X5_copy
                simp (disch := omega) only [li_0, li_1, li_2, li_3, li_4, li_5, li_6, li_7, li_8, li_9, li_10, li_11, li_12, li_14, li_15, li_16, li_18, li_20, li_22, li_23, li_24, li_29, li_30, li_31, li_32, li_33, li_40, li_48, li_54, li_55, li_56, li_57, li_59, li_60, li_63, li_64, li_97, li_98, li_99, li_100, li_103, li_107, li_108, li_112, li_121, li_206, li_212, li_232, li_240, li_255, li_256, li_261, li_270, ng_1, ng_2, ng_3, ng_4, ng_9, ng_10, m1_1, nI_m1, m1_nI, if_true, if_false, nI_add, pk_mul, pk_sub, nI_div, nI_rem, nI_eq, nI_leI, nI_ltI, nI_clamp, ck_in, ck_nz, bind_sm, upM_n, upM_m, upM_s, if_pos, if_neg, below_in, R, Rt, e0, t0, i1, i2, ck_t cb, rf37]
              · rw [cpM_n (by omega)]; exact (h.2.2.2.2.2.1 t ht).1
              · rw [cpM_n (by omega)]; exact (h.2.2.2.2.2.1 t ht).2.1
              · have hj : j < (shA α t).2.1 := hj
                show cpM M (38 + 2 * s) a (38 + 2 * t) b n (38 + 2 * t) j = if b ≤ j ∧ j < b + n then (shA α s).2.2 (a + (j - b)) else (shA α t).2.2 j
                unfold cpM va_cpy
                rw [if_pos rfl]
                by_cases w : b ≤ j ∧ j < b + n
                · rw [if_pos w, if_pos w]
                  exact (h.2.2.2.2.2.1 s hs).2.2 _ (by omega)
                · rw [if_neg w, if_neg w]
                  exact (h.2.2.2.2.2.1 t ht).2.2 j hj
              · obtain ⟨e0, e1, -⟩ := h.2.2.2.2.1 s hs
                obtain ⟨t0, t1, -⟩ := h.2.2.2.2.1 t ht
                rw [q] at e0
                rw [qt] at t0
                have l1 := m_copy1 (M := M) (x3 := nI t) (x4 := nI b) hs (show a + n ≤ 60 by omega)
                have l2 := m_copy2 (M := filM M 53 0 n (fun j => M 52 (60 * s + a + j))) ht (show b + n ≤ 60 by omega)
                unfold f_X6_copy
                simp (disch := omega) only [li_0, li_1, li_2, li_3, li_4, li_5, li_6, li_7, li_8, li_9, li_10, li_11, li_12, li_14, li_15, li_16, li_18, li_20, li_22, li_23, li_24, li_29, li_30, li_31, li_32, li_33, li_40, li_48, li_54, li_55, li_56, li_57, li_59, li_60, li_63, li_64, li_97, li_98, li_99, li_100, li_103, li_107, li_108, li_112, li_121, li_206, li_212, li_232, li_240, li_255, li_256, li_261, li_270, ng_1, ng_2, ng_3, ng_4, ng_9, ng_10, m1_1, nI_m1, m1_nI, if_true, if_false, nI_add, pk_mul, pk_sub, nI_div, nI_rem, nI_eq, nI_leI, nI_ltI, nI_clamp, ck_in, ck_nz, bind_sm, upM_n, upM_m, upM_s, if_pos, if_neg, m_sheet_in, e0, t0, e1, t1, nI_64, nZ_add, cmp_gt, cmp_le, nZ_lt, nZ_le, l1, l2]
              · rw [filM_n (by omega), filM_n (by omega)]; exact (h.2.2.2.2.1 t ht).1
              · rw [filM_n (by omega), filM_n (by omega)]; exact (h.2.2.2.2.1 t ht).2.1
              · have hj : j < (shA α t).2.1 := hj
                show _ = if b ≤ j ∧ j < b + n then (shA α s).2.2 (a + (j - b)) else (shA α t).2.2 j
                by_cases w : b ≤ j ∧ j < b + n
                · rw [if_pos w, filM_in (by omega) (by omega), filM_in (by omega) (by omega)]
                  have := (h.2.2.2.2.1 s hs).2.2 (a + (j - b)) (by omega)
                  rw [show 60 * s + a + (60 * t + j - (60 * t + b) - 0) = 60 * s + (a + (j - b)) by omega]
                  exact this
                · rw [if_neg w, filM_out (by omega), filM_n (by omega)]
                  exact (h.2.2.2.2.1 t ht).2.2 j hj
            · refine St.find ok (m10 - nI 2) 2 (fun M h => ?_) (fun M h => ⟨M, h, Fr.rf, ?_⟩)
              · obtain ⟨e0, e1, -⟩ := h.2.2.2.2.2.1 s hs
                obtain ⟨t0, t1, -⟩ := h.2.2.2.2.2.1 t ht
                rw [q] at e0
                rw [qt] at t0
                unfold f_X5_copy f_X5_copy_101 f_X5_finding
                rcases has (x := x2) (n := x5) e1 o with ⟨i, a, n, w1, w2, w3⟩ | i
                · rcases has (x := x4) (n := x5) t1 ot with ⟨i2, b, n', w4, w5, w6⟩ | i2
                  · exfalso
                    refine P ⟨a, b, n, w1, w4, w2, w3, ?_⟩
                    have := (nI_eq (a := n) (b := n') (by omega) (by omega)).mp (by rw [← w2, w5])
                    omega
                  · simp (disch := omega) only [li_0, li_1, li_2, li_3, li_4, li_5, li_6, li_7, li_8, li_9, li_10, li_11, li_12, li_14, li_15, li_16, li_18, li_20, li_22, li_23, li_24, li_29, li_30, li_31, li_32, li_33, li_40, li_48, li_54, li_55, li_56, li_57, li_59, li_60, li_63, li_64, li_97, li_98, li_99, li_100, li_103, li_107, li_108, li_112, li_121, li_206, li_212, li_232, li_240, li_255, li_256, li_261, li_270, ng_1, ng_2, ng_3, ng_4, ng_9, ng_10, m1_1, nI_m1, m1_nI, if_true, if_false, nI_add, pk_mul, pk_sub, nI_div, nI_rem, nI_eq, nI_leI, nI_ltI, nI_clamp, ck_in, ck_nz, bind_sm, upM_n, upM_m, upM_s, if_pos, if_neg, below_in, R, Rt, e0, t0, i, i2.1]
                · simp (disch := omega) only [li_0, li_1, li_2, li_3, li_4, li_5, li_6, li_7, li_8, li_9, li_10, li_11, li_12, li_14, li_15, li_16, li_18, li_20, li_22, li_23, li_24, li_29, li_30, li_31, li_32, li_33, li_40, li_48, li_54, li_55, li_56, li_57, li_59, li_60, li_63, li_64, li_97, li_98, li_99, li_100, li_103, li_107, li_108, li_112, li_121, li_206, li_212, li_232, li_240, li_255, li_256, li_261, li_270, ng_1, ng_2, ng_3, ng_4, ng_9, ng_10, m1_1, nI_m1, m1_nI, if_true, if_false, nI_add, pk_mul, pk_sub, nI_div, nI_rem, nI_eq, nI_leI, nI_ltI, nI_clamp, ck_in, ck_nz, bind_sm, upM_n, upM_m, upM_s, if_pos, if_neg, below_in, R, Rt, e0, t0, i.1]
              · obtain ⟨e0, e1, -⟩ := h.2.2.2.2.1 s hs
                obtain ⟨t0, t1, -⟩ := h.2.2.2.2.1 t ht
                rw [q] at e0
                rw [qt] at t0
                unfold f_X6_copy f_X6_copy_111 f_X6_finds
                by_cases n2 : x2 < 0
                · have n2 : (x2 < nI 0) = True := eq_true n2
                  simp (disch := omega) only [li_0, li_1, li_2, li_3, li_4, li_5, li_6, li_7, li_8, li_9, li_10, li_11, li_12, li_14, li_15, li_16, li_18, li_20, li_22, li_23, li_24, li_29, li_30, li_31, li_32, li_33, li_40, li_48, li_54, li_55, li_56, li_57, li_59, li_60, li_63, li_64, li_97, li_98, li_99, li_100, li_103, li_107, li_108, li_112, li_121, li_206, li_212, li_232, li_240, li_255, li_256, li_261, li_270, ng_1, ng_2, ng_3, ng_4, ng_9, ng_10, m1_1, nI_m1, m1_nI, if_true, if_false, nI_add, pk_mul, pk_sub, nI_div, nI_rem, nI_eq, nI_leI, nI_ltI, nI_clamp, ck_in, ck_nz, bind_sm, upM_n, upM_m, upM_s, if_pos, if_neg, m_sheet_in, e0, t0, n2]
                · obtain ⟨a, ha, rfl⟩ := nI_of n2
                  by_cases n4 : x4 < 0
                  · have n4 : (x4 < nI 0) = True := eq_true n4
                    simp (disch := omega) only [li_0, li_1, li_2, li_3, li_4, li_5, li_6, li_7, li_8, li_9, li_10, li_11, li_12, li_14, li_15, li_16, li_18, li_20, li_22, li_23, li_24, li_29, li_30, li_31, li_32, li_33, li_40, li_48, li_54, li_55, li_56, li_57, li_59, li_60, li_63, li_64, li_97, li_98, li_99, li_100, li_103, li_107, li_108, li_112, li_121, li_206, li_212, li_232, li_240, li_255, li_256, li_261, li_270, ng_1, ng_2, ng_3, ng_4, ng_9, ng_10, m1_1, nI_m1, m1_nI, if_true, if_false, nI_add, pk_mul, pk_sub, nI_div, nI_rem, nI_eq, nI_leI, nI_ltI, nI_clamp, ck_in, ck_nz, bind_sm, upM_n, upM_m, upM_s, if_pos, if_neg, m_sheet_in, e0, t0, n4]
                  · obtain ⟨b, hb, rfl⟩ := nI_of n4
                    by_cases n5 : x5 < 0
                    · have n5 : (x5 < nI 0) = True := eq_true n5
                      simp (disch := omega) only [li_0, li_1, li_2, li_3, li_4, li_5, li_6, li_7, li_8, li_9, li_10, li_11, li_12, li_14, li_15, li_16, li_18, li_20, li_22, li_23, li_24, li_29, li_30, li_31, li_32, li_33, li_40, li_48, li_54, li_55, li_56, li_57, li_59, li_60, li_63, li_64, li_97, li_98, li_99, li_100, li_103, li_107, li_108, li_112, li_121, li_206, li_212, li_232, li_240, li_255, li_256, li_261, li_270, ng_1, ng_2, ng_3, ng_4, ng_9, ng_10, m1_1, nI_m1, m1_nI, if_true, if_false, nI_add, pk_mul, pk_sub, nI_div, nI_rem, nI_eq, nI_leI, nI_ltI, nI_clamp, ck_in, ck_nz, bind_sm, upM_n, upM_m, upM_s, if_pos, if_neg, m_sheet_in, e0, t0, n5]
                    · obtain ⟨n, hn, rfl⟩ := nI_of n5
                      by_cases w1 : a + n ≤ (shA α s).2.1
                      · by_cases w2 : b + n ≤ (shA α t).2.1
                        · exact absurd ⟨a, b, n, rfl, rfl, rfl, w1, w2⟩ P
                        · simp (disch := omega) only [li_0, li_1, li_2, li_3, li_4, li_5, li_6, li_7, li_8, li_9, li_10, li_11, li_12, li_14, li_15, li_16, li_18, li_20, li_22, li_23, li_24, li_29, li_30, li_31, li_32, li_33, li_40, li_48, li_54, li_55, li_56, li_57, li_59, li_60, li_63, li_64, li_97, li_98, li_99, li_100, li_103, li_107, li_108, li_112, li_121, li_206, li_212, li_232, li_240, li_255, li_256, li_261, li_270, ng_1, ng_2, ng_3, ng_4, ng_9, ng_10, m1_1, nI_m1, m1_nI, if_true, if_false, nI_add, pk_mul, pk_sub, nI_div, nI_rem, nI_eq, nI_leI, nI_ltI, nI_clamp, ck_in, ck_nz, bind_sm, upM_n, upM_m, upM_s, if_pos, if_neg, m_sheet_in, e0, t0, e1, t1, nI_64, nZ_add, cmp_gt, cmp_le, nZ_lt, nZ_le]
                      · simp (disch := omega) only [li_0, li_1, li_2, li_3, li_4, li_5, li_6, li_7, li_8, li_9, li_10, li_11, li_12, li_14, li_15, li_16, li_18, li_20, li_22, li_23, li_24, li_29, li_30, li_31, li_32, li_33, li_40, li_48, li_54, li_55, li_56, li_57, li_59, li_60, li_63, li_64, li_97, li_98, li_99, li_100, li_103, li_107, li_108, li_112, li_121, li_206, li_212, li_232, li_240, li_255, li_256, li_261, li_270, ng_1, ng_2, ng_3, ng_4, ng_9, ng_10, m1_1, nI_m1, m1_nI, if_true, if_false, nI_add, pk_mul, pk_sub, nI_div, nI_rem, nI_eq, nI_leI, nI_ltI, nI_clamp, ck_in, ck_nz, bind_sm, upM_n, upM_m, upM_s, if_pos, if_neg, m_sheet_in, e0, t0, e1, t1, nI_64, nZ_add, cmp_gt, cmp_le, nZ_lt, nZ_le]
          · refine St.find ok (m10 - nI 4) 4 (fun M h => ?_) (fun M h => ⟨M, h, Fr.rf, ?_⟩)
            · have e0 := (h.2.2.2.2.2.1 s hs).1
              have et := (h.2.2.2.2.2.1 t ht).1
              rw [q] at e0
              rw [qt] at et
              unfold f_X5_copy f_X5_finding
              simp (disch := omega) only [li_0, li_1, li_2, li_3, li_4, li_5, li_6, li_7, li_8, li_9, li_10, li_11, li_12, li_14, li_15, li_16, li_18, li_20, li_22, li_23, li_24, li_29, li_30, li_31, li_32, li_33, li_40, li_48, li_54, li_55, li_56, li_57, li_59, li_60, li_63, li_64, li_97, li_98, li_99, li_100, li_103, li_107, li_108, li_112, li_121, li_206, li_212, li_232, li_240, li_255, li_256, li_261, li_270, ng_1, ng_2, ng_3, ng_4, ng_9, ng_10, m1_1, nI_m1, m1_nI, if_true, if_false, nI_add, pk_mul, pk_sub, nI_div, nI_rem, nI_eq, nI_leI, nI_ltI, nI_clamp, ck_in, ck_nz, bind_sm, upM_n, upM_m, upM_s, if_pos, if_neg, below_in, R, Rt, e0, et]
            · have e0 := (h.2.2.2.2.1 s hs).1
              have et := (h.2.2.2.2.1 t ht).1
              rw [q] at e0
              rw [qt] at et
              unfold f_X6_copy f_X6_finds
              simp (disch := omega) only [li_0, li_1, li_2, li_3, li_4, li_5, li_6, li_7, li_8, li_9, li_10, li_11, li_12, li_14, li_15, li_16, li_18, li_20, li_22, li_23, li_24, li_29, li_30, li_31, li_32, li_33, li_40, li_48, li_54, li_55, li_56, li_57, li_59, li_60, li_63, li_64, li_97, li_98, li_99, li_100, li_103, li_107, li_108, li_112, li_121, li_206, li_212, li_232, li_240, li_255, li_256, li_261, li_270, ng_1, ng_2, ng_3, ng_4, ng_9, ng_10, m1_1, nI_m1, m1_nI, if_true, if_false, nI_add, pk_mul, pk_sub, nI_div, nI_rem, nI_eq, nI_leI, nI_ltI, nI_clamp, ck_in, ck_nz, bind_sm, upM_n, upM_m, upM_s, if_pos, if_neg, m_sheet_in, e0, et]
    · refine St.same ok m2 (fun M h => ⟨M, ?_, h, Fr.rf⟩) (fun M h => ⟨M, ?_, h, Fr.rf⟩)
      · unfold f_X5_copy
        simp (disch := omega) only [li_0, li_1, li_2, li_3, li_4, li_5, li_6, li_7, li_8, li_9, li_10, li_11, li_12, li_14, li_15, li_16, li_18, li_20, li_22, li_23, li_24, li_29, li_30, li_31, li_32, li_33, li_40, li_48, li_54, li_55, li_56, li_57, li_59, li_60, li_63, li_64, li_97, li_98, li_99, li_100, li_103, li_107, li_108, li_112, li_121, li_206, li_212, li_232, li_240, li_255, li_256, li_261, li_270, ng_1, ng_2, ng_3, ng_4, ng_9, ng_10, m1_1, nI_m1, m1_nI, if_true, if_false, nI_add, pk_mul, pk_sub, nI_div, nI_rem, nI_eq, nI_leI, nI_ltI, nI_clamp, ck_in, ck_nz, bind_sm, upM_n, upM_m, upM_s, if_pos, if_neg, below_in, below_out _ r3]
      · unfold f_X6_copy
        simp (disch := omega) only [li_0, li_1, li_2, li_3, li_4, li_5, li_6, li_7, li_8, li_9, li_10, li_11, li_12, li_14, li_15, li_16, li_18, li_20, li_22, li_23, li_24, li_29, li_30, li_31, li_32, li_33, li_40, li_48, li_54, li_55, li_56, li_57, li_59, li_60, li_63, li_64, li_97, li_98, li_99, li_100, li_103, li_107, li_108, li_112, li_121, li_206, li_212, li_232, li_240, li_255, li_256, li_261, li_270, ng_1, ng_2, ng_3, ng_4, ng_9, ng_10, m1_1, nI_m1, m1_nI, if_true, if_false, nI_add, pk_mul, pk_sub, nI_div, nI_rem, nI_eq, nI_leI, nI_ltI, nI_clamp, ck_in, ck_nz, bind_sm, upM_n, upM_m, upM_s, if_pos, if_neg, m_sheet_in, m_sheet_out r3]
  · refine St.same ok m2 (fun M h => ⟨M, ?_, h, Fr.rf⟩) (fun M h => ⟨M, ?_, h, Fr.rf⟩)
    · unfold f_X5_copy
      simp (disch := omega) only [li_0, li_1, li_2, li_3, li_4, li_5, li_6, li_7, li_8, li_9, li_10, li_11, li_12, li_14, li_15, li_16, li_18, li_20, li_22, li_23, li_24, li_29, li_30, li_31, li_32, li_33, li_40, li_48, li_54, li_55, li_56, li_57, li_59, li_60, li_63, li_64, li_97, li_98, li_99, li_100, li_103, li_107, li_108, li_112, li_121, li_206, li_212, li_232, li_240, li_255, li_256, li_261, li_270, ng_1, ng_2, ng_3, ng_4, ng_9, ng_10, m1_1, nI_m1, m1_nI, if_true, if_false, nI_add, pk_mul, pk_sub, nI_div, nI_rem, nI_eq, nI_leI, nI_ltI, nI_clamp, ck_in, ck_nz, bind_sm, upM_n, upM_m, upM_s, if_pos, if_neg, below_out _ r1]
    · unfold f_X6_copy
      simp (disch := omega) only [li_0, li_1, li_2, li_3, li_4, li_5, li_6, li_7, li_8, li_9, li_10, li_11, li_12, li_14, li_15, li_16, li_18, li_20, li_22, li_23, li_24, li_29, li_30, li_31, li_32, li_33, li_40, li_48, li_54, li_55, li_56, li_57, li_59, li_60, li_63, li_64, li_97, li_98, li_99, li_100, li_103, li_107, li_108, li_112, li_121, li_206, li_212, li_232, li_240, li_255, li_256, li_261, li_270, ng_1, ng_2, ng_3, ng_4, ng_9, ng_10, m1_1, nI_m1, m1_nI, if_true, if_false, nI_add, pk_mul, pk_sub, nI_div, nI_rem, nI_eq, nI_leI, nI_ltI, nI_clamp, ck_in, ck_nz, bind_sm, upM_n, upM_m, upM_s, if_pos, if_neg, m_sheet_out r1]
/-- the sheet with the first i items written -/
def wrS (α : AS) (s f p i : Nat) : SV := ((shA α s).1, (shA α s).2.1, fun j => if j < i then cutV f (oi (tk (sA α) (wk (sA α) (j + 1)) p)) else (shA α s).2.2 j)
theorem updS_2 {g : Nat → SV} {s : Nat} {v w : SV} : updS (updS g s v) s w = updS g s w := by
  funext t
  by_cases q : t = s
  · rw [q, updS_s, updS_s]
  · rw [updS_n q, updS_n q, updS_n q]
theorem s_write {α : AS} (ok : OKA α) (x1 x2 : Int32) : St α (f_X5_write x1 x2) (f_X6_write x1 x2) := by
  have okp := ok.s.1.2.1
  by_cases r1 : In x1 (nP (sA α))
  · obtain ⟨p, hp, rfl⟩ := r1
    by_cases r2 : In x2 4
    · obtain ⟨s, hs, rfl⟩ := r2
      have R := rf36 hs
      have o := (ok.2.2.2.2 s hs).2
      rcases ok.form hs with q | ⟨f, hf, q⟩
      · refine St.find ok (m10 - nI 1) 1 (fun M h => ?_) (fun M h => ?_)
        · have e0 := (h.2.2.2.2.2.1 s hs).1
          rw [q] at e0
          have e1 := c_hasP (i := p) h.2.1.1.2.1 (show nP (sA α) < 100 by omega) (show p < 100 by omega)
          unfold f_X5_write f_X5_finding
          simp (disch := omega) only [li_0, li_1, li_2, li_3, li_4, li_5, li_6, li_7, li_8, li_9, li_10, li_11, li_12, li_14, li_15, li_16, li_18, li_20, li_22, li_23, li_24, li_29, li_30, li_31, li_32, li_33, li_40, li_48, li_54, li_55, li_56, li_57, li_59, li_60, li_63, li_64, li_97, li_98, li_99, li_100, li_103, li_107, li_108, li_112, li_121, li_206, li_212, li_232, li_240, li_255, li_256, li_261, li_270, ng_1, ng_2, ng_3, ng_4, ng_9, ng_10, m1_1, nI_m1, m1_nI, if_true, if_false, nI_add, pk_mul, pk_sub, nI_div, nI_rem, nI_eq, nI_leI, nI_ltI, nI_clamp, ck_in, ck_nz, bind_sm, upM_n, upM_m, upM_s, if_pos, if_neg, e1, below_in, R, e0, eq_self]
        · obtain ⟨M1, a1, a2, a3⟩ := m_find ok h
          refine ⟨M1, a2.1, a3, ?_⟩
          have e0 := (a2.1.2.2.2.2.1 s hs).1
          rw [q] at e0
          have e1 := m_isP (i := p) a2.2.1.1.2 (show nP (sA α) < 100 by omega) (show p < 100 by omega)
          unfold f_X6_write f_X6_finds
          simp (disch := omega) only [li_0, li_1, li_2, li_3, li_4, li_5, li_6, li_7, li_8, li_9, li_10, li_11, li_12, li_14, li_15, li_16, li_18, li_20, li_22, li_23, li_24, li_29, li_30, li_31, li_32, li_33, li_40, li_48, li_54, li_55, li_56, li_57, li_59, li_60, li_63, li_64, li_97, li_98, li_99, li_100, li_103, li_107, li_108, li_112, li_121, li_206, li_212, li_232, li_240, li_255, li_256, li_261, li_270, ng_1, ng_2, ng_3, ng_4, ng_9, ng_10, m1_1, nI_m1, m1_nI, if_true, if_false, nI_add, pk_mul, pk_sub, nI_div, nI_rem, nI_eq, nI_leI, nI_ltI, nI_clamp, ck_in, ck_nz, bind_sm, upM_n, upM_m, upM_s, if_pos, if_neg, a1, e1, m_sheet_in, e0, m1_nn]
      · obtain ⟨n, hn⟩ : ∃ n, n = min (shA α s).2.1 30 := ⟨_, rfl⟩
        have ok' : ∀ i, OKA (setS α (updS (shA α) s (wrS α s f p i))) := fun i => ok.sh (Or.inr ⟨f, hf, q⟩) o
        refine ⟨nI n, setS α (updS (shA α) s (wrS α s f p n)), ok' n, fun M h => ?_, fun M h => ?_⟩
        · have e0 := (h.2.2.2.2.2.1 s hs).1
          rw [q] at e0
          have e1 := c_hasP (i := p) h.2.1.1.2.1 (show nP (sA α) < 100 by omega) (show p < 100 by omega)
          obtain ⟨e, l1, l2, l3, l4⟩ := loop_inv (B := fun s7 : Int32 × Int32 × Mem => f_X5_write_49_49b (nI p) (37 + 2 * s) s7.1 s7.2.1 s7.2.2) (fun i st => st.1 = nI i ∧ st.2.1 = nI i ∧ CI (setS α (updS (shA α) s (wrS α s f p i))) st.2.2 ∧ Fr 0 49 M st.2.2) (fun e => e.1 = nI n ∧ CI (setS α (updS (shA α) s (wrS α s f p n))) e.2.2 ∧ Fr 0 49 M e.2.2) n (s := (nI 0, nI 0, M)) ⟨rfl, rfl, h.sh hs (h.2.2.2.2.2.1 s hs).1 (h.2.2.2.2.2.1 s hs).2.1 (fun i hi => (h.2.2.2.2.2.1 s hs).2.2 i hi) (fun _ _ _ => rfl), Fr.rf⟩
            (by
              rintro i ⟨y1, y2, N⟩ hi ⟨g1, g2, g3, g4⟩
              dsimp only at g1 g2 g3 g4 ⊢
              subst g1 g2
              have d1 : N (37 + 2 * s) 1 = nI (shA α s).2.1 := by
                have := (g3.2.2.2.2.2.1 s hs).2.1
                have e9 : shA (setS α (updS (shA α) s (wrS α s f p i))) s = wrS α s f p i := updS_s
                rw [e9] at this
                exact this
              obtain ⟨N1, b1, b2, b3, b4⟩ := c_stand (d := i) (ok' i) g3 (by omega)
              have b2 : WD 21 (sA α) (i + 1) N1 := b2
              have b5 := c_taken (p := p) WI_21 ok.s (ok.s.wk (i + 1)) b3.2.1 hp b2.1
              obtain ⟨u0, u1, u2⟩ := b3.2.2.2.2.2.1 s hs
              have e9 : shA (setS α (updS (shA α) s (wrS α s f p i))) s = wrS α s f p i := updS_s
              rw [e9] at u0 u1 u2
              have u0 : N1 (37 + 2 * s) 0 = nI f := u0.trans q
              have u1 : N1 (37 + 2 * s) 1 = nI (shA α s).2.1 := u1
              have b6 := c_put (v := oi (tk (sA α) (wk (sA α) (i + 1)) p)) hs hf u0 u1 (show i < (shA α s).2.1 by omega) o
              refine ⟨(nI (i + 1), nI (i + 1), upM N1 (38 + 2 * s) i (cutV f (oi (tk (sA α) (wk (sA α) (i + 1)) p)))), ?_, rfl, rfl, ?_, fun k hk => ?_⟩
              · unfold f_X5_write_49_49b
                simp (disch := omega) only [li_0, li_1, li_2, li_3, li_4, li_5, li_6, li_7, li_8, li_9, li_10, li_11, li_12, li_14, li_15, li_16, li_18, li_20, li_22, li_23, li_24, li_29, li_30, li_31, li_32, li_33, li_40, li_48, li_54, li_55, li_56, li_57, li_59, li_60, li_63, li_64, li_97, li_98, li_99, li_100, li_103, li_107, li_108, li_112, li_121, li_206, li_212, li_232, li_240, li_255, li_256, li_261, li_270, ng_1, ng_2, ng_3, ng_4, ng_9, ng_10, m1_1, nI_m1, m1_nI, if_true, if_false, nI_add, pk_mul, pk_sub, nI_div, nI_rem, nI_eq, nI_leI, nI_ltI, nI_clamp, ck_in, ck_nz, bind_sm, upM_n, upM_m, upM_s, if_pos, if_neg, d1, b1, b5, b6]
              · have := b3.sh (N := upM N1 (38 + 2 * s) i (cutV f (oi (tk (sA α) (wk (sA α) (i + 1)) p)))) (v := wrS α s f p (i + 1)) hs (by rw [upM_n (by omega), u0]; exact q.symm) (by rw [upM_n (by omega), u1]; rfl) (fun j hj => ?_) (fun k h1 h2 => upM_n h2)
                · rw [show shA (setS α (updS (shA α) s (wrS α s f p i))) = updS (shA α) s (wrS α s f p i) from rfl, updS_2] at this
                  exact this
                · show upM N1 (38 + 2 * s) i _ (38 + 2 * s) j = if j < i + 1 then cutV f (oi (tk (sA α) (wk (sA α) (j + 1)) p)) else (shA α s).2.2 j
                  by_cases w : j = i
                  · rw [w, upM_s, if_pos (by omega)]
                  · rw [upM_m w, u2 j hj]
                    show (if j < i then _ else _) = _
                    by_cases w2 : j < i
                    · rw [if_pos w2, if_pos (by omega)]
                    · rw [if_neg w2, if_neg (by omega)]
              · dsimp only
                rw [upM_n (by omega), b4 k (by omega)]
                exact g4 k hk)
            (by
              rintro ⟨y1, y2, N⟩ ⟨g1, g2, g3, g4⟩
              dsimp only at g1 g2 g3 g4 ⊢
              subst g1 g2
              have d1 : N (37 + 2 * s) 1 = nI (shA α s).2.1 := by
                have := (g3.2.2.2.2.2.1 s hs).2.1
                have e9 : shA (setS α (updS (shA α) s (wrS α s f p n))) s = wrS α s f p n := updS_s
                rw [e9] at this
                exact this
              refine ⟨(nI n, nI n, N), ?_, rfl, g3, g4⟩
              unfold f_X5_write_49_49b
              by_cases w : 30 ≤ n
              · simp (disch := omega) only [li_0, li_1, li_2, li_3, li_4, li_5, li_6, li_7, li_8, li_9, li_10, li_11, li_12, li_14, li_15, li_16, li_18, li_20, li_22, li_23, li_24, li_29, li_30, li_31, li_32, li_33, li_40, li_48, li_54, li_55, li_56, li_57, li_59, li_60, li_63, li_64, li_97, li_98, li_99, li_100, li_103, li_107, li_108, li_112, li_121, li_206, li_212, li_232, li_240, li_255, li_256, li_261, li_270, ng_1, ng_2, ng_3, ng_4, ng_9, ng_10, m1_1, nI_m1, m1_nI, if_true, if_false, nI_add, pk_mul, pk_sub, nI_div, nI_rem, nI_eq, nI_leI, nI_ltI, nI_clamp, ck_in, ck_nz, bind_sm, upM_n, upM_m, upM_s, if_pos, if_neg, d1]
              · simp (disch := omega) only [li_0, li_1, li_2, li_3, li_4, li_5, li_6, li_7, li_8, li_9, li_10, li_11, li_12, li_14, li_15, li_16, li_18, li_20, li_22, li_23, li_24, li_29, li_30, li_31, li_32, li_33, li_40, li_48, li_54, li_55, li_56, li_57, li_59, li_60, li_63, li_64, li_97, li_98, li_99, li_100, li_103, li_107, li_108, li_112, li_121, li_206, li_212, li_232, li_240, li_255, li_256, li_261, li_270, ng_1, ng_2, ng_3, ng_4, ng_9, ng_10, m1_1, nI_m1, m1_nI, if_true, if_false, nI_add, pk_mul, pk_sub, nI_div, nI_rem, nI_eq, nI_leI, nI_ltI, nI_clamp, ck_in, ck_nz, bind_sm, upM_n, upM_m, upM_s, if_pos, if_neg, d1])
          refine ⟨e.2.2, ?_, l3, l4⟩
          unfold f_X5_write
          simp (disch := omega) only [li_0, li_1, li_2, li_3, li_4, li_5, li_6, li_7, li_8, li_9, li_10, li_11, li_12, li_14, li_15, li_16, li_18, li_20, li_22, li_23, li_24, li_29, li_30, li_31, li_32, li_33, li_40, li_48, li_54, li_55, li_56, li_57, li_59, li_60, li_63, li_64, li_97, li_98, li_99, li_100, li_103, li_107, li_108, li_112, li_121, li_206, li_212, li_232, li_240, li_255, li_256, li_261, li_270, ng_1, ng_2, ng_3, ng_4, ng_9, ng_10, m1_1, nI_m1, m1_nI, if_true, if_false, nI_add, pk_mul, pk_sub, nI_div, nI_rem, nI_eq, nI_leI, nI_ltI, nI_clamp, ck_in, ck_nz, bind_sm, upM_n, upM_m, upM_s, if_pos, if_neg, e1, below_in, R, e0, l1, l2]
        · obtain ⟨M1, a1, a2, a3⟩ := m_find ok h
          obtain ⟨e0, e2, e3⟩ := a2.1.2.2.2.2.1 s hs
          rw [q] at e0
          have e1 := m_isP (i := p) a2.2.1.1.2 (show nP (sA α) < 100 by omega) (show p < 100 by omega)
          have le : f_X6_lesser (nI (shA α s).2.1) (nI 30) = some (nI n) := by
            unfold f_X6_lesser
            by_cases w : (shA α s).2.1 < 30
            · rw [show n = (shA α s).2.1 by omega]
              simp (disch := omega) only [li_0, li_1, li_2, li_3, li_4, li_5, li_6, li_7, li_8, li_9, li_10, li_11, li_12, li_14, li_15, li_16, li_18, li_20, li_22, li_23, li_24, li_29, li_30, li_31, li_32, li_33, li_40, li_48, li_54, li_55, li_56, li_57, li_59, li_60, li_63, li_64, li_97, li_98, li_99, li_100, li_103, li_107, li_108, li_112, li_121, li_206, li_212, li_232, li_240, li_255, li_256, li_261, li_270, ng_1, ng_2, ng_3, ng_4, ng_9, ng_10, m1_1, nI_m1, m1_nI, if_true, if_false, nI_add, pk_mul, pk_sub, nI_div, nI_rem, nI_eq, nI_leI, nI_ltI, nI_clamp, ck_in, ck_nz, bind_sm, upM_n, upM_m, upM_s, if_pos, if_neg]
            · rw [show n = 30 by omega]
              simp (disch := omega) only [li_0, li_1, li_2, li_3, li_4, li_5, li_6, li_7, li_8, li_9, li_10, li_11, li_12, li_14, li_15, li_16, li_18, li_20, li_22, li_23, li_24, li_29, li_30, li_31, li_32, li_33, li_40, li_48, li_54, li_55, li_56, li_57, li_59, li_60, li_63, li_64, li_97, li_98, li_99, li_100, li_103, li_107, li_108, li_112, li_121, li_206, li_212, li_232, li_240, li_255, li_256, li_261, li_270, ng_1, ng_2, ng_3, ng_4, ng_9, ng_10, m1_1, nI_m1, m1_nI, if_true, if_false, nI_add, pk_mul, pk_sub, nI_div, nI_rem, nI_eq, nI_leI, nI_ltI, nI_clamp, ck_in, ck_nz, bind_sm, upM_n, upM_m, upM_s, if_pos, if_neg]
          have lp : loop (fun s6 : Int32 × Mem => f_X6_write_52_52b (nI p) (nI s) (nI n) s6.1 s6.2) (nI 0, M1) = some (nI n, filM M1 52 (60 * s) n (fun j => cutV f (M1 65 (8 * j + p)))) := by
            have := loop_for (B := fun s6 : Int32 × Mem => f_X6_write_52_52b (nI p) (nI s) (nI n) s6.1 s6.2) (fun j => (nI j, filM M1 52 (60 * s) j (fun j => cutV f (M1 65 (8 * j + p))))) n (e := (nI n, filM M1 52 (60 * s) n (fun j => cutV f (M1 65 (8 * j + p)))))
              (by
                intro j hj
                dsimp only
                unfold f_X6_write_52_52b
                have g0 : filM M1 52 (60 * s) j (fun j => cutV f (M1 65 (8 * j + p))) 50 = M1 50 := filM_n (by omega)
                have g1 : filM M1 52 (60 * s) j (fun j => cutV f (M1 65 (8 * j + p))) 65 = M1 65 := filM_n (by omega)
                simp (disch := omega) only [li_0, li_1, li_2, li_3, li_4, li_5, li_6, li_7, li_8, li_9, li_10, li_11, li_12, li_14, li_15, li_16, li_18, li_20, li_22, li_23, li_24, li_29, li_30, li_31, li_32, li_33, li_40, li_48, li_54, li_55, li_56, li_57, li_59, li_60, li_63, li_64, li_97, li_98, li_99, li_100, li_103, li_107, li_108, li_112, li_121, li_206, li_212, li_232, li_240, li_255, li_256, li_261, li_270, ng_1, ng_2, ng_3, ng_4, ng_9, ng_10, m1_1, nI_m1, m1_nI, if_true, if_false, nI_add, pk_mul, pk_sub, nI_div, nI_rem, nI_eq, nI_leI, nI_ltI, nI_clamp, ck_in, ck_nz, bind_sm, upM_n, upM_m, upM_s, if_pos, if_neg, g0, g1, e0, m_cut]
                rw [← filM_up])
              (by
                dsimp only
                unfold f_X6_write_52_52b
                simp (disch := omega) only [li_0, li_1, li_2, li_3, li_4, li_5, li_6, li_7, li_8, li_9, li_10, li_11, li_12, li_14, li_15, li_16, li_18, li_20, li_22, li_23, li_24, li_29, li_30, li_31, li_32, li_33, li_40, li_48, li_54, li_55, li_56, li_57, li_59, li_60, li_63, li_64, li_97, li_98, li_99, li_100, li_103, li_107, li_108, li_112, li_121, li_206, li_212, li_232, li_240, li_255, li_256, li_261, li_270, ng_1, ng_2, ng_3, ng_4, ng_9, ng_10, m1_1, nI_m1, m1_nI, if_true, if_false, nI_add, pk_mul, pk_sub, nI_div, nI_rem, nI_eq, nI_leI, nI_ltI, nI_clamp, ck_in, ck_nz, bind_sm, upM_n, upM_m, upM_s, if_pos, if_neg])
            rw [filM_0] at this
            exact this
          refine ⟨filM M1 52 (60 * s) n (fun j => cutV f (M1 65 (8 * j + p))), ?_, a2.1.sh ok hs ?_ ?_ (fun j hj => ?_) (fun j hj => by rw [filM_n (by omega)]) (fun j hj => by rw [filM_n (by omega)]) (fun j hj => by rw [filM_out (by omega)]) (fun k h1 h2 h3 h4 => by rw [filM_n h3]), fun k hk => by rw [filM_n (by omega)]; exact a3 k hk⟩
          · unfold f_X6_write
            simp (disch := omega) only [li_0, li_1, li_2, li_3, li_4, li_5, li_6, li_7, li_8, li_9, li_10, li_11, li_12, li_14, li_15, li_16, li_18, li_20, li_22, li_23, li_24, li_29, li_30, li_31, li_32, li_33, li_40, li_48, li_54, li_55, li_56, li_57, li_59, li_60, li_63, li_64, li_97, li_98, li_99, li_100, li_103, li_107, li_108, li_112, li_121, li_206, li_212, li_232, li_240, li_255, li_256, li_261, li_270, ng_1, ng_2, ng_3, ng_4, ng_9, ng_10, m1_1, nI_m1, m1_nI, if_true, if_false, nI_add, pk_mul, pk_sub, nI_div, nI_rem, nI_eq, nI_leI, nI_ltI, nI_clamp, ck_in, ck_nz, bind_sm, upM_n, upM_m, upM_s, if_pos, if_neg, a1, e1, m_sheet_in, e0, e2, le, lp]
          · rw [filM_n (by omega), e0]; exact q.symm
          · rw [filM_n (by omega), e2]; rfl
          · have hj : j < (shA α s).2.1 := hj
            show _ = if j < n then cutV f (oi (tk (sA α) (wk (sA α) (j + 1)) p)) else (shA α s).2.2 j
            by_cases w : j < n
            · rw [if_pos w, filM_in (by omega) (by omega)]
              have d := ((a2.2.2.2.1 j (by omega)).2.2 p hp).2.1
              rw [show 60 * s + j - 60 * s = j by omega, d]
            · rw [if_neg w, filM_out (by omega)]
              exact e3 j hj
    · refine St.same ok m2 (fun M h => ⟨M, ?_, h, Fr.rf⟩) (fun M h => ?_)
      · have e1 := c_hasP (i := p) h.2.1.1.2.1 (show nP (sA α) < 100 by omega) (show p < 100 by omega)
        unfold f_X5_write
        simp (disch := omega) only [li_0, li_1, li_2, li_3, li_4, li_5, li_6, li_7, li_8, li_9, li_10, li_11, li_12, li_14, li_15, li_16, li_18, li_20, li_22, li_23, li_24, li_29, li_30, li_31, li_32, li_33, li_40, li_48, li_54, li_55, li_56, li_57, li_59, li_60, li_63, li_64, li_97, li_98, li_99, li_100, li_103, li_107, li_108, li_112, li_121, li_206, li_212, li_232, li_240, li_255, li_256, li_261, li_270, ng_1, ng_2, ng_3, ng_4, ng_9, ng_10, m1_1, nI_m1, m1_nI, if_true, if_false, nI_add, pk_mul, pk_sub, nI_div, nI_rem, nI_eq, nI_leI, nI_ltI, nI_clamp, ck_in, ck_nz, bind_sm, upM_n, upM_m, upM_s, if_pos, if_neg, e1, below_out _ r2]
      · obtain ⟨M1, a1, a2, a3⟩ := m_find ok h
        refine ⟨M1, ?_, a2.1, a3⟩
        have e1 := m_isP (i := p) a2.2.1.1.2 (show nP (sA α) < 100 by omega) (show p < 100 by omega)
        unfold f_X6_write
        simp (disch := omega) only [li_0, li_1, li_2, li_3, li_4, li_5, li_6, li_7, li_8, li_9, li_10, li_11, li_12, li_14, li_15, li_16, li_18, li_20, li_22, li_23, li_24, li_29, li_30, li_31, li_32, li_33, li_40, li_48, li_54, li_55, li_56, li_57, li_59, li_60, li_63, li_64, li_97, li_98, li_99, li_100, li_103, li_107, li_108, li_112, li_121, li_206, li_212, li_232, li_240, li_255, li_256, li_261, li_270, ng_1, ng_2, ng_3, ng_4, ng_9, ng_10, m1_1, nI_m1, m1_nI, if_true, if_false, nI_add, pk_mul, pk_sub, nI_div, nI_rem, nI_eq, nI_leI, nI_ltI, nI_clamp, ck_in, ck_nz, bind_sm, upM_n, upM_m, upM_s, if_pos, if_neg, a1, e1, m_sheet_out r2]
  · refine St.same ok m2 (fun M h => ⟨M, ?_, h, Fr.rf⟩) (fun M h => ?_)
    · unfold f_X5_write
      simp (disch := omega) only [li_0, li_1, li_2, li_3, li_4, li_5, li_6, li_7, li_8, li_9, li_10, li_11, li_12, li_14, li_15, li_16, li_18, li_20, li_22, li_23, li_24, li_29, li_30, li_31, li_32, li_33, li_40, li_48, li_54, li_55, li_56, li_57, li_59, li_60, li_63, li_64, li_97, li_98, li_99, li_100, li_103, li_107, li_108, li_112, li_121, li_206, li_212, li_232, li_240, li_255, li_256, li_261, li_270, ng_1, ng_2, ng_3, ng_4, ng_9, ng_10, m1_1, nI_m1, m1_nI, if_true, if_false, nI_add, pk_mul, pk_sub, nI_div, nI_rem, nI_eq, nI_leI, nI_ltI, nI_clamp, ck_in, ck_nz, bind_sm, upM_n, upM_m, upM_s, if_pos, if_neg, hasP_out h.2.1.1.2.1 (by omega) r1]
    · obtain ⟨M1, a1, a2, a3⟩ := m_find ok h
      refine ⟨M1, ?_, a2.1, a3⟩
      unfold f_X6_write
      simp (disch := omega) only [li_0, li_1, li_2, li_3, li_4, li_5, li_6, li_7, li_8, li_9, li_10, li_11, li_12, li_14, li_15, li_16, li_18, li_20, li_22, li_23, li_24, li_29, li_30, li_31, li_32, li_33, li_40, li_48, li_54, li_55, li_56, li_57, li_59, li_60, li_63, li_64, li_97, li_98, li_99, li_100, li_103, li_107, li_108, li_112, li_121, li_206, li_212, li_232, li_240, li_255, li_256, li_261, li_270, ng_1, ng_2, ng_3, ng_4, ng_9, ng_10, m1_1, nI_m1, m1_nI, if_true, if_false, nI_add, pk_mul, pk_sub, nI_div, nI_rem, nI_eq, nI_leI, nI_ltI, nI_clamp, ck_in, ck_nz, bind_sm, upM_n, upM_m, upM_s, if_pos, if_neg, a1, isP_out a2.2.1.1.2 (show nP (sA α) < 100 by omega) r1]
