-- THE CALLS: sheets
abbrev SV : Type := Int32 × Nat × (Nat → Int32)
def updS (g : Nat → SV) (s : Nat) (v : SV) : Nat → SV := fun t => if t = s then v else g t
theorem updS_s {g : Nat → SV} {s : Nat} {v : SV} : updS g s v s = v := if_pos rfl
theorem updS_n {g : Nat → SV} {s t : Nat} {v : SV} (h : t ≠ s) : updS g s v t = g t := if_neg h
theorem OKA.sh {α : AS} {s : Nat} {v : SV} (ok : OKA α) (h1 : v.1 = m1 ∨ ∃ f, f < 3 ∧ v.1 = nI f) (h2 : v.2.1 ≤ 60) : OKA (setS α (updS (shA α) s v)) := by
  refine ⟨ok.1, ok.2.1, ok.2.2.1, ok.2.2.2.1, fun t ht => ?_⟩
  show ((updS (shA α) s v t).1 = m1 ∨ ∃ f, f < 3 ∧ (updS (shA α) s v t).1 = nI f) ∧ (updS (shA α) s v t).2.1 ≤ 60
  by_cases q : t = s
  · rw [q, updS_s]; exact ⟨h1, h2⟩
  · rw [updS_n q]; exact ok.2.2.2.2 t ht
theorem CI.sh {α : AS} {M N : Mem} {s : Nat} {v : SV} (h : CI α M) (hs : s < 4) (h1 : N (37 + 2 * s) 0 = v.1) (h2 : N (37 + 2 * s) 1 = nI v.2.1) (h3 : ∀ i, i < v.2.1 → N (38 + 2 * s) i = v.2.2 i) (F : ∀ k, k ≠ 37 + 2 * s → k ≠ 38 + 2 * s → N k = M k) : CI (setS α (updS (shA α) s v)) N := by
  obtain ⟨⟨g1, g2⟩, g3, ⟨n, g4, g5⟩, g6, g7, g8, g9⟩ := h
  refine ⟨⟨g1.fr (F 1 (by omega) (by omega)) (F 2 (by omega) (by omega)), g2.fr (F 3 (by omega) (by omega)) (F 4 (by omega) (by omega))⟩, g3.fr (fun k _ _ => F k (by omega) (by omega)), ⟨n, g4, g5.fr (fun k _ _ => F k (by omega) (by omega))⟩, ?_, g7.fr rfl (fun k _ _ => F k (by omega) (by omega)), ?_, by rw [F 0 (by omega) (by omega)]; exact g9⟩
  · unfold StI at g6 ⊢
    rw [F 0 (by omega) (by omega), F 45 (by omega) (by omega)]
    exact g6
  · intro t ht
    show N (37 + 2 * t) 0 = (updS (shA α) s v t).1 ∧ N (37 + 2 * t) 1 = nI (updS (shA α) s v t).2.1 ∧ ∀ i, i < (updS (shA α) s v t).2.1 → N (38 + 2 * t) i = (updS (shA α) s v t).2.2 i
    by_cases q : t = s
    · rw [q, updS_s]; exact ⟨h1, h2, h3⟩
    · rw [updS_n q, F _ (by omega) (by omega), F _ (by omega) (by omega)]; exact g8 t ht
theorem MI.sh {α : AS} {M N : Mem} {s : Nat} {v : SV} (h : MI α M) (ok : OKA α) (hs : s < 4) (h1 : N 50 s = v.1) (h2 : N 51 s = nI v.2.1) (h3 : ∀ i, i < v.2.1 → N 52 (60 * s + i) = v.2.2 i) (c0 : ∀ j, j ≠ s → N 50 j = M 50 j) (c1 : ∀ j, j ≠ s → N 51 j = M 51 j) (c2 : ∀ j, (j < 60 * s ∨ 60 * s + 60 ≤ j) → N 52 j = M 52 j) (F : ∀ k, k ≠ 50 → k ≠ 51 → k ≠ 52 → k ≠ 53 → N k = M k) : MI (setS α (updS (shA α) s v)) N := by
  obtain ⟨g1, g2, g3, g4, g5, g6⟩ := h
  have g5' : ∀ t, t < 4 → N 50 t = (updS (shA α) s v t).1 ∧ N 51 t = nI (updS (shA α) s v t).2.1 ∧ ∀ i, i < (updS (shA α) s v t).2.1 → N 52 (60 * t + i) = (updS (shA α) s v t).2.2 i := by
    intro t ht
    by_cases q : t = s
    · rw [q, updS_s]; exact ⟨h1, h2, h3⟩
    · obtain ⟨a1, a2, a3⟩ := g5 t ht
      have o := (ok.2.2.2.2 t ht).2
      rw [updS_n q, c0 t q, c1 t q]
      refine ⟨a1, a2, fun i hi => ?_⟩
      rw [c2 _ (by omega)]
      exact a3 i hi
  unfold MI
  rw [F 55 (by omega) (by omega) (by omega) (by omega), F 54 (by omega) (by omega) (by omega) (by omega), F 68 (by omega) (by omega) (by omega) (by omega), F 49 (by omega) (by omega) (by omega) (by omega)]
  exact ⟨g1, g2, g3.fr (F 49 (by omega) (by omega) (by omega) (by omega)) (F 58 (by omega) (by omega) (by omega) (by omega)), g4, g5', g6⟩
theorem c_renew {M : Mem} {s f n : Nat} (hs : s < 4) : f_X2_renew (37 + 2 * s) (nI f) (nI n) M = some (filM (upM (upM M (37 + 2 * s) 0 (nI f)) (37 + 2 * s) 1 (nI n)) (38 + 2 * s) 0 60 (fun _ => nI 0)) := by
  unfold f_X2_renew
  have := loop_for (B := fun s1 : Int32 × Mem => f_X2_renew_12_12b (37 + 2 * s) s1.1 s1.2) (fun j => (nI j, filM (upM (upM M (37 + 2 * s) 0 (nI f)) (37 + 2 * s) 1 (nI n)) (38 + 2 * s) 0 j (fun _ => nI 0))) 60 (e := (nI 60, filM (upM (upM M (37 + 2 * s) 0 (nI f)) (37 + 2 * s) 1 (nI n)) (38 + 2 * s) 0 60 (fun _ => nI 0)))
    (by
      intro j hj
      dsimp only
      unfold f_X2_renew_12_12b
      simp (disch := omega) only [li_0, li_1, li_2, li_3, li_4, li_5, li_6, li_7, li_8, li_9, li_10, li_11, li_12, li_14, li_15, li_16, li_18, li_20, li_22, li_23, li_24, li_29, li_30, li_31, li_32, li_33, li_40, li_48, li_54, li_55, li_56, li_57, li_59, li_60, li_63, li_64, li_97, li_98, li_99, li_100, li_103, li_107, li_108, li_112, li_121, li_206, li_212, li_232, li_240, li_255, li_256, li_261, li_270, ng_1, ng_2, ng_3, ng_4, ng_9, ng_10, m1_1, nI_m1, m1_nI, if_true, if_false, nI_add, pk_mul, pk_sub, nI_div, nI_rem, nI_eq, nI_leI, nI_ltI, nI_clamp, ck_in, ck_nz, bind_sm, upM_n, upM_m, upM_s, if_pos, if_neg, rf37]
      rw [← filM_up0])
    (by
      dsimp only
      unfold f_X2_renew_12_12b
      simp (disch := omega) only [li_0, li_1, li_2, li_3, li_4, li_5, li_6, li_7, li_8, li_9, li_10, li_11, li_12, li_14, li_15, li_16, li_18, li_20, li_22, li_23, li_24, li_29, li_30, li_31, li_32, li_33, li_40, li_48, li_54, li_55, li_56, li_57, li_59, li_60, li_63, li_64, li_97, li_98, li_99, li_100, li_103, li_107, li_108, li_112, li_121, li_206, li_212, li_232, li_240, li_255, li_256, li_261, li_270, ng_1, ng_2, ng_3, ng_4, ng_9, ng_10, m1_1, nI_m1, m1_nI, if_true, if_false, nI_add, pk_mul, pk_sub, nI_div, nI_rem, nI_eq, nI_leI, nI_ltI, nI_clamp, ck_in, ck_nz, bind_sm, upM_n, upM_m, upM_s, if_pos, if_neg])
  rw [filM_0] at this
  simp only [li_0, this, bind_sm]
theorem m_sheetL {M : Mem} {s n : Nat} (hs : s < 4) (hn : n ≤ 60) : loop (fun s3 : Int32 × Mem => f_X6_sheet_55_55b (nI s) (nI n) s3.1 s3.2) (nI 0, M) = some (nI n, filM M 52 (60 * s) n (fun _ => nI 0)) := by
  have := loop_for (B := fun s3 : Int32 × Mem => f_X6_sheet_55_55b (nI s) (nI n) s3.1 s3.2) (fun j => (nI j, filM M 52 (60 * s) j (fun _ => nI 0))) n (e := (nI n, filM M 52 (60 * s) n (fun _ => nI 0)))
    (by
      intro j hj
      dsimp only
      unfold f_X6_sheet_55_55b
      simp (disch := omega) only [li_0, li_1, li_2, li_3, li_4, li_5, li_6, li_7, li_8, li_9, li_10, li_11, li_12, li_14, li_15, li_16, li_18, li_20, li_22, li_23, li_24, li_29, li_30, li_31, li_32, li_33, li_40, li_48, li_54, li_55, li_56, li_57, li_59, li_60, li_63, li_64, li_97, li_98, li_99, li_100, li_103, li_107, li_108, li_112, li_121, li_206, li_212, li_232, li_240, li_255, li_256, li_261, li_270, ng_1, ng_2, ng_3, ng_4, ng_9, ng_10, m1_1, nI_m1, m1_nI, if_true, if_false, nI_add, pk_mul, pk_sub, nI_div, nI_rem, nI_eq, nI_leI, nI_ltI, nI_clamp, ck_in, ck_nz, bind_sm, upM_n, upM_m, upM_s, if_pos, if_neg]
      rw [← filM_up])
    (by
      dsimp only
      unfold f_X6_sheet_55_55b
      simp (disch := omega) only [li_0, li_1, li_2, li_3, li_4, li_5, li_6, li_7, li_8, li_9, li_10, li_11, li_12, li_14, li_15, li_16, li_18, li_20, li_22, li_23, li_24, li_29, li_30, li_31, li_32, li_33, li_40, li_48, li_54, li_55, li_56, li_57, li_59, li_60, li_63, li_64, li_97, li_98, li_99, li_100, li_103, li_107, li_108, li_112, li_121, li_206, li_212, li_232, li_240, li_255, li_256, li_261, li_270, ng_1, ng_2, ng_3, ng_4, ng_9, ng_10, m1_1, nI_m1, m1_nI, if_true, if_false, nI_add, pk_mul, pk_sub, nI_div, nI_rem, nI_eq, nI_leI, nI_ltI, nI_clamp, ck_in, ck_nz, bind_sm, upM_n, upM_m, upM_s, if_pos, if_neg])
  rw [filM_0] at this
  exact this
theorem s_sheet {α : AS} (ok : OKA α) (x1 x2 x3 : Int32) : St α (f_X5_sheet x1 x2 x3) (f_X6_sheet x1 x2 x3) := by
  by_cases r1 : In x1 4
  · obtain ⟨s, hs, rfl⟩ := r1
    have R := rf36 hs
    by_cases r2 : In x2 3
    · obtain ⟨f, hf, rfl⟩ := r2
      have iv := (m_in_0 (x := nI f) (n := 2) (z := 2) rfl (by omega)).1 f (by omega) rfl
      by_cases r3 : In x3 61
      · obtain ⟨n, hn, rfl⟩ := r3
        refine ⟨nI n, setS α (updS (shA α) s (nI f, n, fun _ => nI 0)), ok.sh (Or.inr ⟨f, hf, rfl⟩) (show n ≤ 60 by omega), fun M h => ⟨filM (upM (upM M (37 + 2 * s) 0 (nI f)) (37 + 2 * s) 1 (nI n)) (38 + 2 * s) 0 60 (fun _ => nI 0), ?_, h.sh hs ?_ ?_ (fun i hi => ?_) (fun k h1 h2 => by rw [filM_n h2, upM_n h1, upM_n h1]), fun k hk => by rw [filM_n (by omega), upM_n (by omega), upM_n (by omega)]⟩, fun M h => ⟨filM (upM (upM M 50 s (nI f)) 51 s (nI n)) 52 (60 * s) n (fun _ => nI 0), ?_, h.sh ok hs ?_ ?_ (fun i hi => ?_) (fun j hj => ?_) (fun j hj => ?_) (fun j hj => ?_) (fun k h1 h2 h3 h4 => by rw [filM_n h3, upM_n h2, upM_n h1]), fun k hk => by rw [filM_n (by omega), upM_n (by omega), upM_n (by omega)]⟩⟩
        · unfold f_X5_sheet
          simp (disch := omega) only [li_0, li_1, li_2, li_3, li_4, li_5, li_6, li_7, li_8, li_9, li_10, li_11, li_12, li_14, li_15, li_16, li_18, li_20, li_22, li_23, li_24, li_29, li_30, li_31, li_32, li_33, li_40, li_48, li_54, li_55, li_56, li_57, li_59, li_60, li_63, li_64, li_97, li_98, li_99, li_100, li_103, li_107, li_108, li_112, li_121, li_206, li_212, li_232, li_240, li_255, li_256, li_261, li_270, ng_1, ng_2, ng_3, ng_4, ng_9, ng_10, m1_1, nI_m1, m1_nI, if_true, if_false, nI_add, pk_mul, pk_sub, nI_div, nI_rem, nI_eq, nI_leI, nI_ltI, nI_clamp, ck_in, ck_nz, bind_sm, upM_n, upM_m, upM_s, if_pos, if_neg, below_in, R, c_renew hs]
        · rw [filM_n (by omega), upM_m (by omega), upM_s]
        · rw [filM_n (by omega), upM_s]
        · have hi : i < n := hi
          rw [filM_in (by omega) (by omega)]
        · unfold f_X6_sheet
          simp (disch := omega) only [li_0, li_1, li_2, li_3, li_4, li_5, li_6, li_7, li_8, li_9, li_10, li_11, li_12, li_14, li_15, li_16, li_18, li_20, li_22, li_23, li_24, li_29, li_30, li_31, li_32, li_33, li_40, li_48, li_54, li_55, li_56, li_57, li_59, li_60, li_63, li_64, li_97, li_98, li_99, li_100, li_103, li_107, li_108, li_112, li_121, li_206, li_212, li_232, li_240, li_255, li_256, li_261, li_270, ng_1, ng_2, ng_3, ng_4, ng_9, ng_10, m1_1, nI_m1, m1_nI, if_true, if_false, nI_add, pk_mul, pk_sub, nI_div, nI_rem, nI_eq, nI_leI, nI_ltI, nI_clamp, ck_in, ck_nz, bind_sm, upM_n, upM_m, upM_s, if_pos, if_neg, m_sheet_in, iv, m_sheetL hs (show n ≤ 60 by omega)]
        · rw [filM_n (by omega), upM_n (by omega), upM_s]
        · rw [filM_n (by omega), upM_s]
        · have hi : i < n := hi
          rw [filM_in (by omega) (by omega)]
        · rw [filM_n (by omega), upM_n (by omega), upM_m hj]
        · rw [filM_n (by omega), upM_m hj, upM_n (by omega)]
        · rw [filM_out (by omega), upM_n (by omega), upM_n (by omega)]
      · by_cases r4 : x3 ≤ nI 60
        · have r5 : (nI 0 ≤ x3) = False := by
            refine eq_false fun r5 => r3 ?_
            have h0 : ¬ x3 < 0 := by
              rw [Int32.lt_iff_toInt_lt]
              rw [Int32.le_iff_toInt_le] at r5
              have : (nI 0).toInt = 0 := by decide
              have : (0 : Int32).toInt = 0 := by decide
              omega
            obtain ⟨i, hi, rfl⟩ := nI_of h0
            exact ⟨i, by have := (nI_leI hi (by omega)).mp r4; omega, rfl⟩
          have r4 : (x3 ≤ nI 60) = True := eq_true r4
          refine St.find ok (m10 - nI 5) 5 (fun M h => ?_) (fun M h => ⟨M, h, Fr.rf, ?_⟩)
          · unfold f_X5_sheet f_X5_finding
            simp (disch := omega) only [li_0, li_1, li_2, li_3, li_4, li_5, li_6, li_7, li_8, li_9, li_10, li_11, li_12, li_14, li_15, li_16, li_18, li_20, li_22, li_23, li_24, li_29, li_30, li_31, li_32, li_33, li_40, li_48, li_54, li_55, li_56, li_57, li_59, li_60, li_63, li_64, li_97, li_98, li_99, li_100, li_103, li_107, li_108, li_112, li_121, li_206, li_212, li_232, li_240, li_255, li_256, li_261, li_270, ng_1, ng_2, ng_3, ng_4, ng_9, ng_10, m1_1, nI_m1, m1_nI, if_true, if_false, nI_add, pk_mul, pk_sub, nI_div, nI_rem, nI_eq, nI_leI, nI_ltI, nI_clamp, ck_in, ck_nz, bind_sm, upM_n, upM_m, upM_s, if_pos, if_neg, below_in, r4, r5]
          · unfold f_X6_sheet f_X6_finds
            simp (disch := omega) only [li_0, li_1, li_2, li_3, li_4, li_5, li_6, li_7, li_8, li_9, li_10, li_11, li_12, li_14, li_15, li_16, li_18, li_20, li_22, li_23, li_24, li_29, li_30, li_31, li_32, li_33, li_40, li_48, li_54, li_55, li_56, li_57, li_59, li_60, li_63, li_64, li_97, li_98, li_99, li_100, li_103, li_107, li_108, li_112, li_121, li_206, li_212, li_232, li_240, li_255, li_256, li_261, li_270, ng_1, ng_2, ng_3, ng_4, ng_9, ng_10, m1_1, nI_m1, m1_nI, if_true, if_false, nI_add, pk_mul, pk_sub, nI_div, nI_rem, nI_eq, nI_leI, nI_ltI, nI_clamp, ck_in, ck_nz, bind_sm, upM_n, upM_m, upM_s, if_pos, if_neg, m_sheet_in, iv, r4, r5]
        · have r4 : (x3 ≤ nI 60) = False := eq_false r4
          refine St.same ok m2 (fun M h => ⟨M, ?_, h, Fr.rf⟩) (fun M h => ⟨M, ?_, h, Fr.rf⟩)
          · unfold f_X5_sheet
            simp (disch := omega) only [li_0, li_1, li_2, li_3, li_4, li_5, li_6, li_7, li_8, li_9, li_10, li_11, li_12, li_14, li_15, li_16, li_18, li_20, li_22, li_23, li_24, li_29, li_30, li_31, li_32, li_33, li_40, li_48, li_54, li_55, li_56, li_57, li_59, li_60, li_63, li_64, li_97, li_98, li_99, li_100, li_103, li_107, li_108, li_112, li_121, li_206, li_212, li_232, li_240, li_255, li_256, li_261, li_270, ng_1, ng_2, ng_3, ng_4, ng_9, ng_10, m1_1, nI_m1, m1_nI, if_true, if_false, nI_add, pk_mul, pk_sub, nI_div, nI_rem, nI_eq, nI_leI, nI_ltI, nI_clamp, ck_in, ck_nz, bind_sm, upM_n, upM_m, upM_s, if_pos, if_neg, below_in, r4]
          · unfold f_X6_sheet
            simp (disch := omega) only [li_0, li_1, li_2, li_3, li_4, li_5, li_6, li_7, li_8, li_9, li_10, li_11, li_12, li_14, li_15, li_16, li_18, li_20, li_22, li_23, li_24, li_29, li_30, li_31, li_32, li_33, li_40, li_48, li_54, li_55, li_56, li_57, li_59, li_60, li_63, li_64, li_97, li_98, li_99, li_100, li_103, li_107, li_108, li_112, li_121, li_206, li_212, li_232, li_240, li_255, li_256, li_261, li_270, ng_1, ng_2, ng_3, ng_4, ng_9, ng_10, m1_1, nI_m1, m1_nI, if_true, if_false, nI_add, pk_mul, pk_sub, nI_div, nI_rem, nI_eq, nI_leI, nI_ltI, nI_clamp, ck_in, ck_nz, bind_sm, upM_n, upM_m, upM_s, if_pos, if_neg, m_sheet_in, iv, r4]
    · have iv := (m_in_0 (x := x2) (n := 2) (z := 2) rfl (by omega)).2 r2
      refine St.same ok m2 (fun M h => ⟨M, ?_, h, Fr.rf⟩) (fun M h => ⟨M, ?_, h, Fr.rf⟩)
      · unfold f_X5_sheet
        simp (disch := omega) only [li_0, li_1, li_2, li_3, li_4, li_5, li_6, li_7, li_8, li_9, li_10, li_11, li_12, li_14, li_15, li_16, li_18, li_20, li_22, li_23, li_24, li_29, li_30, li_31, li_32, li_33, li_40, li_48, li_54, li_55, li_56, li_57, li_59, li_60, li_63, li_64, li_97, li_98, li_99, li_100, li_103, li_107, li_108, li_112, li_121, li_206, li_212, li_232, li_240, li_255, li_256, li_261, li_270, ng_1, ng_2, ng_3, ng_4, ng_9, ng_10, m1_1, nI_m1, m1_nI, if_true, if_false, nI_add, pk_mul, pk_sub, nI_div, nI_rem, nI_eq, nI_leI, nI_ltI, nI_clamp, ck_in, ck_nz, bind_sm, upM_n, upM_m, upM_s, if_pos, if_neg, below_in, below_out _ r2]
      · unfold f_X6_sheet
        simp (disch := omega) only [li_0, li_1, li_2, li_3, li_4, li_5, li_6, li_7, li_8, li_9, li_10, li_11, li_12, li_14, li_15, li_16, li_18, li_20, li_22, li_23, li_24, li_29, li_30, li_31, li_32, li_33, li_40, li_48, li_54, li_55, li_56, li_57, li_59, li_60, li_63, li_64, li_97, li_98, li_99, li_100, li_103, li_107, li_108, li_112, li_121, li_206, li_212, li_232, li_240, li_255, li_256, li_261, li_270, ng_1, ng_2, ng_3, ng_4, ng_9, ng_10, m1_1, nI_m1, m1_nI, if_true, if_false, nI_add, pk_mul, pk_sub, nI_div, nI_rem, nI_eq, nI_leI, nI_ltI, nI_clamp, ck_in, ck_nz, bind_sm, upM_n, upM_m, upM_s, if_pos, if_neg, m_sheet_in, iv]
  · refine St.same ok m2 (fun M h => ⟨M, ?_, h, Fr.rf⟩) (fun M h => ⟨M, ?_, h, Fr.rf⟩)
    · unfold f_X5_sheet
      simp (disch := omega) only [li_0, li_1, li_2, li_3, li_4, li_5, li_6, li_7, li_8, li_9, li_10, li_11, li_12, li_14, li_15, li_16, li_18, li_20, li_22, li_23, li_24, li_29, li_30, li_31, li_32, li_33, li_40, li_48, li_54, li_55, li_56, li_57, li_59, li_60, li_63, li_64, li_97, li_98, li_99, li_100, li_103, li_107, li_108, li_112, li_121, li_206, li_212, li_232, li_240, li_255, li_256, li_261, li_270, ng_1, ng_2, ng_3, ng_4, ng_9, ng_10, m1_1, nI_m1, m1_nI, if_true, if_false, nI_add, pk_mul, pk_sub, nI_div, nI_rem, nI_eq, nI_leI, nI_ltI, nI_clamp, ck_in, ck_nz, bind_sm, upM_n, upM_m, upM_s, if_pos, if_neg, below_out _ r1]
    · unfold f_X6_sheet
      simp (disch := omega) only [li_0, li_1, li_2, li_3, li_4, li_5, li_6, li_7, li_8, li_9, li_10, li_11, li_12, li_14, li_15, li_16, li_18, li_20, li_22, li_23, li_24, li_29, li_30, li_31, li_32, li_33, li_40, li_48, li_54, li_55, li_56, li_57, li_59, li_60, li_63, li_64, li_97, li_98, li_99, li_100, li_103, li_107, li_108, li_112, li_121, li_206, li_212, li_232, li_240, li_255, li_256, li_261, li_270, ng_1, ng_2, ng_3, ng_4, ng_9, ng_10, m1_1, nI_m1, m1_nI, if_true, if_false, nI_add, pk_mul, pk_sub, nI_div, nI_rem, nI_eq, nI_leI, nI_ltI, nI_clamp, ck_in, ck_nz, bind_sm, upM_n, upM_m, upM_s, if_pos, if_neg, m_sheet_out r1]
theorem s_lose {α : AS} (ok : OKA α) (x1 : Int32) : St α (f_X5_lose x1) (f_X6_lose x1) := by
  by_cases r1 : In x1 4
  · obtain ⟨s, hs, rfl⟩ := r1
    have R := rf36 hs
    rcases ok.form hs with q | ⟨f, hf, q⟩
    · refine St.find ok (m10 - nI 1) 1 (fun M h => ?_) (fun M h => ⟨M, h, Fr.rf, ?_⟩)
      · have e0 := (h.2.2.2.2.2.1 s hs).1
        rw [q] at e0
        unfold f_X5_lose f_X5_finding
        simp (disch := omega) only [li_0, li_1, li_2, li_3, li_4, li_5, li_6, li_7, li_8, li_9, li_10, li_11, li_12, li_14, li_15, li_16, li_18, li_20, li_22, li_23, li_24, li_29, li_30, li_31, li_32, li_33, li_40, li_48, li_54, li_55, li_56, li_57, li_59, li_60, li_63, li_64, li_97, li_98, li_99, li_100, li_103, li_107, li_108, li_112, li_121, li_206, li_212, li_232, li_240, li_255, li_256, li_261, li_270, ng_1, ng_2, ng_3, ng_4, ng_9, ng_10, m1_1, nI_m1, m1_nI, if_true, if_false, nI_add, pk_mul, pk_sub, nI_div, nI_rem, nI_eq, nI_leI, nI_ltI, nI_clamp, ck_in, ck_nz, bind_sm, upM_n, upM_m, upM_s, if_pos, if_neg, below_in, R, e0, eq_self]
      · have e0 := (h.2.2.2.2.1 s hs).1
        rw [q] at e0
        unfold f_X6_lose f_X6_finds
        simp (disch := omega) only [li_0, li_1, li_2, li_3, li_4, li_5, li_6, li_7, li_8, li_9, li_10, li_11, li_12, li_14, li_15, li_16, li_18, li_20, li_22, li_23, li_24, li_29, li_30, li_31, li_32, li_33, li_40, li_48, li_54, li_55, li_56, li_57, li_59, li_60, li_63, li_64, li_97, li_98, li_99, li_100, li_103, li_107, li_108, li_112, li_121, li_206, li_212, li_232, li_240, li_255, li_256, li_261, li_270, ng_1, ng_2, ng_3, ng_4, ng_9, ng_10, m1_1, nI_m1, m1_nI, if_true, if_false, nI_add, pk_mul, pk_sub, nI_div, nI_rem, nI_eq, nI_leI, nI_ltI, nI_clamp, ck_in, ck_nz, bind_sm, upM_n, upM_m, upM_s, if_pos, if_neg, m_sheet_in, e0, m1_nn]
    · refine ⟨nI (shA α s).2.1, setS α (updS (shA α) s (m1, (shA α s).2)), ok.sh (Or.inl rfl) (ok.2.2.2.2 s hs).2, fun M h => ⟨upM M (37 + 2 * s) 0 m1, ?_, h.sh hs upM_s ?_ (fun i hi => ?_) (fun k h1 h2 => upM_n h1), fun k hk => upM_n (by omega)⟩, fun M h => ⟨upM M 50 s m1, ?_, h.sh ok hs upM_s ?_ (fun i hi => ?_) (fun j hj => upM_m hj) (fun j hj => by rw [upM_n (by omega)]) (fun j hj => by rw [upM_n (by omega)]) (fun k h1 h2 h3 h4 => upM_n h1), fun k hk => upM_n (by omega)⟩⟩
      · obtain ⟨e0, e1, -⟩ := h.2.2.2.2.2.1 s hs
        rw [q] at e0
        unfold f_X5_lose
        simp (disch := omega) only [li_0, li_1, li_2, li_3, li_4, li_5, li_6, li_7, li_8, li_9, li_10, li_11, li_12, li_14, li_15, li_16, li_18, li_20, li_22, li_23, li_24, li_29, li_30, li_31, li_32, li_33, li_40, li_48, li_54, li_55, li_56, li_57, li_59, li_60, li_63, li_64, li_97, li_98, li_99, li_100, li_103, li_107, li_108, li_112, li_121, li_206, li_212, li_232, li_240, li_255, li_256, li_261, li_270, ng_1, ng_2, ng_3, ng_4, ng_9, ng_10, m1_1, nI_m1, m1_nI, if_true, if_false, nI_add, pk_mul, pk_sub, nI_div, nI_rem, nI_eq, nI_leI, nI_ltI, nI_clamp, ck_in, ck_nz, bind_sm, upM_n, upM_m, upM_s, if_pos, if_neg, below_in, R, e0, e1]
      · rw [upM_m (by omega)]; exact (h.2.2.2.2.2.1 s hs).2.1
      · rw [upM_n (by omega)]; exact (h.2.2.2.2.2.1 s hs).2.2 i hi
      · obtain ⟨e0, e1, -⟩ := h.2.2.2.2.1 s hs
        rw [q] at e0
        unfold f_X6_lose
        simp (disch := omega) only [li_0, li_1, li_2, li_3, li_4, li_5, li_6, li_7, li_8, li_9, li_10, li_11, li_12, li_14, li_15, li_16, li_18, li_20, li_22, li_23, li_24, li_29, li_30, li_31, li_32, li_33, li_40, li_48, li_54, li_55, li_56, li_57, li_59, li_60, li_63, li_64, li_97, li_98, li_99, li_100, li_103, li_107, li_108, li_112, li_121, li_206, li_212, li_232, li_240, li_255, li_256, li_261, li_270, ng_1, ng_2, ng_3, ng_4, ng_9, ng_10, m1_1, nI_m1, m1_nI, if_true, if_false, nI_add, pk_mul, pk_sub, nI_div, nI_rem, nI_eq, nI_leI, nI_ltI, nI_clamp, ck_in, ck_nz, bind_sm, upM_n, upM_m, upM_s, if_pos, if_neg, m_sheet_in, e0, e1]
      · rw [upM_n (by omega)]; exact (h.2.2.2.2.1 s hs).2.1
      · rw [upM_n (by omega)]; exact (h.2.2.2.2.1 s hs).2.2 i hi
  · refine St.same ok m2 (fun M h => ⟨M, ?_, h, Fr.rf⟩) (fun M h => ⟨M, ?_, h, Fr.rf⟩)
    · unfold f_X5_lose
      simp (disch := omega) only [li_0, li_1, li_2, li_3, li_4, li_5, li_6, li_7, li_8, li_9, li_10, li_11, li_12, li_14, li_15, li_16, li_18, li_20, li_22, li_23, li_24, li_29, li_30, li_31, li_32, li_33, li_40, li_48, li_54, li_55, li_56, li_57, li_59, li_60, li_63, li_64, li_97, li_98, li_99, li_100, li_103, li_107, li_108, li_112, li_121, li_206, li_212, li_232, li_240, li_255, li_256, li_261, li_270, ng_1, ng_2, ng_3, ng_4, ng_9, ng_10, m1_1, nI_m1, m1_nI, if_true, if_false, nI_add, pk_mul, pk_sub, nI_div, nI_rem, nI_eq, nI_leI, nI_ltI, nI_clamp, ck_in, ck_nz, bind_sm, upM_n, upM_m, upM_s, if_pos, if_neg, below_out _ r1]
    · unfold f_X6_lose
      simp (disch := omega) only [li_0, li_1, li_2, li_3, li_4, li_5, li_6, li_7, li_8, li_9, li_10, li_11, li_12, li_14, li_15, li_16, li_18, li_20, li_22, li_23, li_24, li_29, li_30, li_31, li_32, li_33, li_40, li_48, li_54, li_55, li_56, li_57, li_59, li_60, li_63, li_64, li_97, li_98, li_99, li_100, li_103, li_107, li_108, li_112, li_121, li_206, li_212, li_232, li_240, li_255, li_256, li_261, li_270, ng_1, ng_2, ng_3, ng_4, ng_9, ng_10, m1_1, nI_m1, m1_nI, if_true, if_false, nI_add, pk_mul, pk_sub, nI_div, nI_rem, nI_eq, nI_leI, nI_ltI, nI_clamp, ck_in, ck_nz, bind_sm, upM_n, upM_m, upM_s, if_pos, if_neg, m_sheet_out r1]
theorem m_inN {x : Int32} {n : Nat} (hn : n < 100) : (∀ j, j < n → x = nI j → f_X6_in x.toInt64 (0 : Int64) (nI n - nI 1).toInt64 = some (nI 1)) ∧ (¬ In x n → f_X6_in x.toInt64 (0 : Int64) (nI n - nI 1).toInt64 = some (nI 0)) := by
  cases n with
  | zero =>
    refine ⟨fun j hj => absurd hj (by omega), fun _ => ?_⟩
    rw [show (0 : Int64) = (nI 0).toInt64 from rfl, show nI 0 - nI 1 = m1 from rfl, m_in, if_neg]
    rintro ⟨r1, r2⟩
    rw [Int32.le_iff_toInt_le] at r1 r2
    have : m1.toInt = -1 := by decide
    have : (nI 0).toInt = 0 := by decide
    omega
  | succ n =>
    rw [nI_pred', show (0 : Int64) = (nI 0).toInt64 from rfl]
    exact ⟨fun j hj e => by rw [e]; exact m_in_in (by omega) (by omega), fun h => m_in_out (by omega) h⟩
/-- what is wrong with an item, or nothing -/
theorem wrong {α : AS} {s f : Nat} (ok : OKA α) (hs : s < 4) (hf : f < 3) (x : Int32) : (∃ w, (w = 1 ∨ w = 2 ∨ w = 3) ∧ (∀ M, CI α M → f_X2_whatIsWrong (37 + 2 * s) (nI f) x M = some (nI w)) ∧ ∀ M, MI α M → f_X6_lacks (nI s) (nI f) x M = some (m10 - nI w, upM M 49 4 (nI w))) ∨ ∃ i, i < (shA α s).2.1 ∧ x = nI i ∧ (shA α s).1 = nI f ∧ (∀ M, CI α M → f_X2_whatIsWrong (37 + 2 * s) (nI f) x M = some (nI 0)) ∧ ∀ M, MI α M → f_X6_lacks (nI s) (nI f) x M = some (nI 0, M) := by
  have o := (ok.2.2.2.2 s hs).2
  rcases ok.form hs with q | ⟨g, hg, q⟩
  · refine Or.inl ⟨1, by omega, fun M h => ?_, fun M h => ?_⟩
    · have e0 := (h.2.2.2.2.2.1 s hs).1
      rw [q] at e0
      unfold f_X2_whatIsWrong
      simp (disch := omega) only [li_0, li_1, li_2, li_3, li_4, li_5, li_6, li_7, li_8, li_9, li_10, li_11, li_12, li_14, li_15, li_16, li_18, li_20, li_22, li_23, li_24, li_29, li_30, li_31, li_32, li_33, li_40, li_48, li_54, li_55, li_56, li_57, li_59, li_60, li_63, li_64, li_97, li_98, li_99, li_100, li_103, li_107, li_108, li_112, li_121, li_206, li_212, li_232, li_240, li_255, li_256, li_261, li_270, ng_1, ng_2, ng_3, ng_4, ng_9, ng_10, m1_1, nI_m1, m1_nI, if_true, if_false, nI_add, pk_mul, pk_sub, nI_div, nI_rem, nI_eq, nI_leI, nI_ltI, nI_clamp, ck_in, ck_nz, bind_sm, upM_n, upM_m, upM_s, if_pos, if_neg, e0, eq_self]
    · have e0 := (h.2.2.2.2.1 s hs).1
      rw [q] at e0
      unfold f_X6_lacks f_X6_finds
      simp (disch := omega) only [li_0, li_1, li_2, li_3, li_4, li_5, li_6, li_7, li_8, li_9, li_10, li_11, li_12, li_14, li_15, li_16, li_18, li_20, li_22, li_23, li_24, li_29, li_30, li_31, li_32, li_33, li_40, li_48, li_54, li_55, li_56, li_57, li_59, li_60, li_63, li_64, li_97, li_98, li_99, li_100, li_103, li_107, li_108, li_112, li_121, li_206, li_212, li_232, li_240, li_255, li_256, li_261, li_270, ng_1, ng_2, ng_3, ng_4, ng_9, ng_10, m1_1, nI_m1, m1_nI, if_true, if_false, nI_add, pk_mul, pk_sub, nI_div, nI_rem, nI_eq, nI_leI, nI_ltI, nI_clamp, ck_in, ck_nz, bind_sm, upM_n, upM_m, upM_s, if_pos, if_neg, e0, m1_nn]
  · by_cases gf : g = f
    · subst gf
      by_cases r : In x (shA α s).2.1
      · obtain ⟨i, hi, rfl⟩ := r
        refine Or.inr ⟨i, hi, rfl, q, fun M h => ?_, fun M h => ?_⟩
        · obtain ⟨e0, e1, -⟩ := h.2.2.2.2.2.1 s hs
          rw [q] at e0
          have bi := below_in hi (show (shA α s).2.1 < 2147483648 by omega)
          unfold f_X2_whatIsWrong
          simp (disch := omega) only [li_0, li_1, li_2, li_3, li_4, li_5, li_6, li_7, li_8, li_9, li_10, li_11, li_12, li_14, li_15, li_16, li_18, li_20, li_22, li_23, li_24, li_29, li_30, li_31, li_32, li_33, li_40, li_48, li_54, li_55, li_56, li_57, li_59, li_60, li_63, li_64, li_97, li_98, li_99, li_100, li_103, li_107, li_108, li_112, li_121, li_206, li_212, li_232, li_240, li_255, li_256, li_261, li_270, ng_1, ng_2, ng_3, ng_4, ng_9, ng_10, m1_1, nI_m1, m1_nI, if_true, if_false, nI_add, pk_mul, pk_sub, nI_div, nI_rem, nI_eq, nI_leI, nI_ltI, nI_clamp, ck_in, ck_nz, bind_sm, upM_n, upM_m, upM_s, if_pos, if_neg, e0, e1, bi]
        · obtain ⟨e0, e1, -⟩ := h.2.2.2.2.1 s hs
          rw [q] at e0
          have iv := (m_in_0 (x := nI i) (n := (shA α s).2.1 - 1) (z := (nI ((shA α s).2.1 - 1)).toInt64) rfl (by omega)).1 i (by omega) rfl
          unfold f_X6_lacks
          simp (disch := omega) only [li_0, li_1, li_2, li_3, li_4, li_5, li_6, li_7, li_8, li_9, li_10, li_11, li_12, li_14, li_15, li_16, li_18, li_20, li_22, li_23, li_24, li_29, li_30, li_31, li_32, li_33, li_40, li_48, li_54, li_55, li_56, li_57, li_59, li_60, li_63, li_64, li_97, li_98, li_99, li_100, li_103, li_107, li_108, li_112, li_121, li_206, li_212, li_232, li_240, li_255, li_256, li_261, li_270, ng_1, ng_2, ng_3, ng_4, ng_9, ng_10, m1_1, nI_m1, m1_nI, if_true, if_false, nI_add, pk_mul, pk_sub, nI_div, nI_rem, nI_eq, nI_leI, nI_ltI, nI_clamp, ck_in, ck_nz, bind_sm, upM_n, upM_m, upM_s, if_pos, if_neg, e0, e1, iv]
      · refine Or.inl ⟨2, by omega, fun M h => ?_, fun M h => ?_⟩
        · obtain ⟨e0, e1, -⟩ := h.2.2.2.2.2.1 s hs
          rw [q] at e0
          unfold f_X2_whatIsWrong
          simp (disch := omega) only [li_0, li_1, li_2, li_3, li_4, li_5, li_6, li_7, li_8, li_9, li_10, li_11, li_12, li_14, li_15, li_16, li_18, li_20, li_22, li_23, li_24, li_29, li_30, li_31, li_32, li_33, li_40, li_48, li_54, li_55, li_56, li_57, li_59, li_60, li_63, li_64, li_97, li_98, li_99, li_100, li_103, li_107, li_108, li_112, li_121, li_206, li_212, li_232, li_240, li_255, li_256, li_261, li_270, ng_1, ng_2, ng_3, ng_4, ng_9, ng_10, m1_1, nI_m1, m1_nI, if_true, if_false, nI_add, pk_mul, pk_sub, nI_div, nI_rem, nI_eq, nI_leI, nI_ltI, nI_clamp, ck_in, ck_nz, bind_sm, upM_n, upM_m, upM_s, if_pos, if_neg, e0, e1, below_out _ r]
        · obtain ⟨e0, e1, -⟩ := h.2.2.2.2.1 s hs
          rw [q] at e0
          have iv := (m_inN (x := x) (n := (shA α s).2.1) (by omega)).2 r
          unfold f_X6_lacks f_X6_finds
          simp (disch := omega) only [li_0, li_1, li_2, li_3, li_4, li_5, li_6, li_7, li_8, li_9, li_10, li_11, li_12, li_14, li_15, li_16, li_18, li_20, li_22, li_23, li_24, li_29, li_30, li_31, li_32, li_33, li_40, li_48, li_54, li_55, li_56, li_57, li_59, li_60, li_63, li_64, li_97, li_98, li_99, li_100, li_103, li_107, li_108, li_112, li_121, li_206, li_212, li_232, li_240, li_255, li_256, li_261, li_270, ng_1, ng_2, ng_3, ng_4, ng_9, ng_10, m1_1, nI_m1, m1_nI, if_true, if_false, nI_add, pk_mul, pk_sub, nI_div, nI_rem, nI_eq, nI_leI, nI_ltI, nI_clamp, ck_in, ck_nz, bind_sm, upM_n, upM_m, upM_s, if_pos, if_neg, e0, e1, iv]
    · refine Or.inl ⟨3, by omega, fun M h => ?_, fun M h => ?_⟩
      · have e0 := (h.2.2.2.2.2.1 s hs).1
        rw [q] at e0
        unfold f_X2_whatIsWrong
        simp (disch := omega) only [li_0, li_1, li_2, li_3, li_4, li_5, li_6, li_7, li_8, li_9, li_10, li_11, li_12, li_14, li_15, li_16, li_18, li_20, li_22, li_23, li_24, li_29, li_30, li_31, li_32, li_33, li_40, li_48, li_54, li_55, li_56, li_57, li_59, li_60, li_63, li_64, li_97, li_98, li_99, li_100, li_103, li_107, li_108, li_112, li_121, li_206, li_212, li_232, li_240, li_255, li_256, li_261, li_270, ng_1, ng_2, ng_3, ng_4, ng_9, ng_10, m1_1, nI_m1, m1_nI, if_true, if_false, nI_add, pk_mul, pk_sub, nI_div, nI_rem, nI_eq, nI_leI, nI_ltI, nI_clamp, ck_in, ck_nz, bind_sm, upM_n, upM_m, upM_s, if_pos, if_neg, e0]
      · have e0 := (h.2.2.2.2.1 s hs).1
        rw [q] at e0
        unfold f_X6_lacks f_X6_finds
        simp (disch := omega) only [li_0, li_1, li_2, li_3, li_4, li_5, li_6, li_7, li_8, li_9, li_10, li_11, li_12, li_14, li_15, li_16, li_18, li_20, li_22, li_23, li_24, li_29, li_30, li_31, li_32, li_33, li_40, li_48, li_54, li_55, li_56, li_57, li_59, li_60, li_63, li_64, li_97, li_98, li_99, li_100, li_103, li_107, li_108, li_112, li_121, li_206, li_212, li_232, li_240, li_255, li_256, li_261, li_270, ng_1, ng_2, ng_3, ng_4, ng_9, ng_10, m1_1, nI_m1, m1_nI, if_true, if_false, nI_add, pk_mul, pk_sub, nI_div, nI_rem, nI_eq, nI_leI, nI_ltI, nI_clamp, ck_in, ck_nz, bind_sm, upM_n, upM_m, upM_s, if_pos, if_neg, e0]
def cutV (f : Nat) (v : Int32) : Int32 := if f = 0 then toB v else if f = 1 then toS v else v
theorem m_cut {f : Nat} {v : Int32} (hf : f < 3) : f_X6_cut (nI f) v = some (cutV f v) := by
  unfold f_X6_cut cutV
  rcases (show f = 0 ∨ f = 1 ∨ f = 2 by omega) with rfl | rfl | rfl <;> rfl
theorem c_put {M : Mem} {s f i n : Nat} {v : Int32} (hs : s < 4) (hf : f < 3) (e0 : M (37 + 2 * s) 0 = nI f) (e1 : M (37 + 2 * s) 1 = nI n) (hi : i < n) (hn : n ≤ 60) : f_X2_put (37 + 2 * s) (nI i) v M = some (upM M (38 + 2 * s) i (cutV f v)) := by
  have bi := below_in hi (show n < 2147483648 by omega)
  unfold f_X2_put cutV
  rcases (show f = 0 ∨ f = 1 ∨ f = 2 by omega) with rfl | rfl | rfl
  · simp (disch := omega) only [li_0, li_1, li_2, li_3, li_4, li_5, li_6, li_7, li_8, li_9, li_10, li_11, li_12, li_14, li_15, li_16, li_18, li_20, li_22, li_23, li_24, li_29, li_30, li_31, li_32, li_33, li_40, li_48, li_54, li_55, li_56, li_57, li_59, li_60, li_63, li_64, li_97, li_98, li_99, li_100, li_103, li_107, li_108, li_112, li_121, li_206, li_212, li_232, li_240, li_255, li_256, li_261, li_270, ng_1, ng_2, ng_3, ng_4, ng_9, ng_10, m1_1, nI_m1, m1_nI, if_true, if_false, nI_add, pk_mul, pk_sub, nI_div, nI_rem, nI_eq, nI_leI, nI_ltI, nI_clamp, ck_in, ck_nz, bind_sm, upM_n, upM_m, upM_s, if_pos, if_neg, e0, e1, bi, rf37]
  · simp (disch := omega) only [li_0, li_1, li_2, li_3, li_4, li_5, li_6, li_7, li_8, li_9, li_10, li_11, li_12, li_14, li_15, li_16, li_18, li_20, li_22, li_23, li_24, li_29, li_30, li_31, li_32, li_33, li_40, li_48, li_54, li_55, li_56, li_57, li_59, li_60, li_63, li_64, li_97, li_98, li_99, li_100, li_103, li_107, li_108, li_112, li_121, li_206, li_212, li_232, li_240, li_255, li_256, li_261, li_270, ng_1, ng_2, ng_3, ng_4, ng_9, ng_10, m1_1, nI_m1, m1_nI, if_true, if_false, nI_add, pk_mul, pk_sub, nI_div, nI_rem, nI_eq, nI_leI, nI_ltI, nI_clamp, ck_in, ck_nz, bind_sm, upM_n, upM_m, upM_s, if_pos, if_neg, e0, e1, bi, rf37]
  · simp (disch := omega) only [li_0, li_1, li_2, li_3, li_4, li_5, li_6, li_7, li_8, li_9, li_10, li_11, li_12, li_14, li_15, li_16, li_18, li_20, li_22, li_23, li_24, li_29, li_30, li_31, li_32, li_33, li_40, li_48, li_54, li_55, li_56, li_57, li_59, li_60, li_63, li_64, li_97, li_98, li_99, li_100, li_103, li_107, li_108, li_112, li_121, li_206, li_212, li_232, li_240, li_255, li_256, li_261, li_270, ng_1, ng_2, ng_3, ng_4, ng_9, ng_10, m1_1, nI_m1, m1_nI, if_true, if_false, nI_add, pk_mul, pk_sub, nI_div, nI_rem, nI_eq, nI_leI, nI_ltI, nI_clamp, ck_in, ck_nz, bind_sm, upM_n, upM_m, upM_s, if_pos, if_neg, e0, e1, bi, rf37]
def updI (g : Nat → Int32) (i : Nat) (x : Int32) : Nat → Int32 := fun j => if j = i then x else g j
