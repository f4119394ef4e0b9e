-- THE CALLS: read, hear, forget, findings
theorem OKA.fd {α : AS} {x : Int32} (ok : OKA α) : OKA (setF α x) := ⟨ok.1, ok.2.1, ok.2.2.1, ok.2.2.2.1, ok.2.2.2.2⟩
theorem CI.fd {α : AS} {M : Mem} {x : Int32} (h : CI α M) : CI (setF α x) (upM M 0 13 x) := by
  obtain ⟨⟨h1, h2⟩, h3, ⟨n, h4, h5⟩, h6, h7, h8, h9⟩ := h
  refine ⟨⟨h1.fr (upM_n (by omega)) (upM_n (by omega)), h2.fr (upM_n (by omega)) (upM_n (by omega))⟩, h3.fr (fun k _ _ => upM_n (by omega)), ⟨n, h4, h5.fr (fun k _ _ => upM_n (by omega))⟩, ?_, h7.fr rfl (fun k _ _ => upM_n (by omega)), h8.fr rfl (fun k _ _ => upM_n (by omega)), upM_s⟩
  unfold StI at h6 ⊢
  rw [upM_m (by omega), upM_n (by omega)]
  exact h6
theorem MI.fd {α : AS} {M : Mem} {x : Int32} (h : MI α M) : MI (setF α x) (upM M 49 4 x) := by
  obtain ⟨h1, h2, h3, h4, h5, h6⟩ := h
  unfold MI MH
  unfold MH at h3
  rw [upM_s, upM_m (b := 11) (by omega), upM_m (b := 13) (by omega), upM_m (b := 26) (by omega), upM_n (a := 55) (by omega), upM_n (a := 54) (by omega), upM_n (a := 58) (by omega), upM_n (a := 68) (by omega), upM_n (a := 50) (by omega), upM_n (a := 51) (by omega), upM_n (a := 52) (by omega)]
  refine ⟨h1, h2, ⟨h3.1, h3.2.1, h3.2.2.1, ?_⟩, h4, h5, rfl⟩
  show upM M 49 4 x 49 14 = m1
  rw [upM_m (by omega)]
  exact h3.2.2.2
theorem St.find {V : Type} {α : AS} {c m : Mem → Option (V × Mem)} (ok : OKA α) (r : V) (k : Nat) (h1 : ∀ M, CI α M → c M = some (r, upM M 0 13 (nI k))) (h2 : ∀ M, MI α M → ∃ M1, MI α M1 ∧ Fr 49 71 M M1 ∧ m M = some (r, upM M1 49 4 (nI k))) : St α c m := by
  refine ⟨r, setF α (nI k), ok.fd, fun M h => ⟨_, h1 M h, h.fd, fun k hk => upM_n (by omega)⟩, fun M h => ?_⟩
  obtain ⟨M1, a1, a2, a3⟩ := h2 M h
  exact ⟨_, a3, a1.fd, fun k hk => by rw [upM_n (by omega)]; exact a2 k hk⟩
theorem m1_nn : (nI 0 ≤ m1) = False := eq_false (by decide)
theorem m1_ng : (m1 < nI 0) = True := eq_true (by decide)
theorem m_sheet_in {d : Nat} (h : d < 4) : f_X6_isSheet (nI d) = some (nI 1) := by
  unfold f_X6_isSheet
  rw [(m_in_0 (x := nI d) (n := 3) (z := 3) rfl (by omega)).1 d (by omega) rfl, bind_sm]
  rfl
theorem m_sheet_out {x : Int32} (h : ¬ In x 4) : f_X6_isSheet x = some (nI 0) := by
  unfold f_X6_isSheet
  rw [(m_in_0 (x := x) (n := 3) (z := 3) rfl (by omega)).2 h, bind_sm]
  rfl
theorem eo_l {S R T : Type} {f : S → Option T} {g : R → Option T} {s : S} : eo f g (.inl s) = f s := rfl
/-- a sheet is lost, or of a form -/
theorem OKA.form {α : AS} {s : Nat} (ok : OKA α) (hs : s < 4) : (shA α s).1 = m1 ∨ ∃ f, f < 3 ∧ (shA α s).1 = nI f := (ok.2.2.2.2 s hs).1
theorem s_read {α : AS} (ok : OKA α) (x1 : Int32) : St α (f_X5_read x1) (f_X6_read x1) := by
  by_cases r1 : In x1 4
  · obtain ⟨s, hs, rfl⟩ := r1
    have R := rf36 hs
    rcases ok.form hs with q | ⟨f, hf, q⟩
    · refine St.find ok (m10 - nI 1) 1 (fun M h => ?_) (fun M h => ⟨M, h, Fr.rf, ?_⟩)
      · have e0 := (h.2.2.2.2.2.1 s hs).1
        rw [q] at e0
        unfold f_X5_read f_X5_finding
        simp (disch := omega) only [li_0, li_1, li_2, li_3, li_4, li_5, li_6, li_7, li_8, li_9, li_10, li_11, li_12, li_14, li_15, li_16, li_18, li_20, li_22, li_23, li_24, li_29, li_30, li_31, li_32, li_33, li_40, li_48, li_54, li_55, li_56, li_57, li_59, li_60, li_63, li_64, li_97, li_98, li_99, li_100, li_103, li_107, li_108, li_112, li_121, li_206, li_212, li_232, li_240, li_255, li_256, li_261, li_270, ng_1, ng_2, ng_3, ng_4, ng_9, ng_10, m1_1, nI_m1, m1_nI, if_true, if_false, nI_add, pk_mul, pk_sub, nI_div, nI_rem, nI_eq, nI_leI, nI_ltI, nI_clamp, ck_in, ck_nz, bind_sm, upM_n, upM_m, upM_s, if_pos, if_neg, below_in, R, e0, eq_self]
      · have e0 := (h.2.2.2.2.1 s hs).1
        rw [q] at e0
        unfold f_X6_read f_X6_finds
        simp (disch := omega) only [li_0, li_1, li_2, li_3, li_4, li_5, li_6, li_7, li_8, li_9, li_10, li_11, li_12, li_14, li_15, li_16, li_18, li_20, li_22, li_23, li_24, li_29, li_30, li_31, li_32, li_33, li_40, li_48, li_54, li_55, li_56, li_57, li_59, li_60, li_63, li_64, li_97, li_98, li_99, li_100, li_103, li_107, li_108, li_112, li_121, li_206, li_212, li_232, li_240, li_255, li_256, li_261, li_270, ng_1, ng_2, ng_3, ng_4, ng_9, ng_10, m1_1, nI_m1, m1_nI, if_true, if_false, nI_add, pk_mul, pk_sub, nI_div, nI_rem, nI_eq, nI_leI, nI_ltI, nI_clamp, ck_in, ck_nz, bind_sm, upM_n, upM_m, upM_s, if_pos, if_neg, m_sheet_in, e0, m1_nn]
    · obtain ⟨l', c1, c2, c3, c4, c5⟩ := rd_loop ok hs 20 0 (hlA α) (by omega) ok.2.2.1.1 ok.2.2.1.2
      have ok' : OKA (setH α l') := ok.hl c2 c3
      refine ⟨nI (l'.length - (hlA α).length), setH α l', ok', fun M h => ?_, fun M h => ?_⟩
      · have e0 := (h.2.2.2.2.2.1 s hs).1
        rw [q] at e0
        have e6 := h.hir.1
        obtain ⟨z, N, a1, a2, a3⟩ := c4 M (nI (hlA α).length) h.2.1 h.2.2.2.2.2.1
        obtain ⟨M', b1, b2, b3⟩ := c_hir h ok' a2 a3
        refine ⟨M', ?_, b2, b3⟩
        have e7 : M' 5 6 = nI l'.length := b2.hir.1
        rw [Nat.mul_zero] at a1
        unfold f_X5_read f_X5_read_138
        simp (disch := omega) only [li_0, li_1, li_2, li_3, li_4, li_5, li_6, li_7, li_8, li_9, li_10, li_11, li_12, li_14, li_15, li_16, li_18, li_20, li_22, li_23, li_24, li_29, li_30, li_31, li_32, li_33, li_40, li_48, li_54, li_55, li_56, li_57, li_59, li_60, li_63, li_64, li_97, li_98, li_99, li_100, li_103, li_107, li_108, li_112, li_121, li_206, li_212, li_232, li_240, li_255, li_256, li_261, li_270, ng_1, ng_2, ng_3, ng_4, ng_9, ng_10, m1_1, nI_m1, m1_nI, if_true, if_false, nI_add, pk_mul, pk_sub, nI_div, nI_rem, nI_eq, nI_leI, nI_ltI, nI_clamp, ck_in, ck_nz, bind_sm, upM_n, upM_m, upM_s, if_pos, if_neg, below_in, R, e0, e6, a1, eo_l, b1, e7]
      · have e0 := (h.2.2.2.2.1 s hs).1
        rw [q] at e0
        obtain ⟨z, N, a1, a2, a3, a4⟩ := c5 M h.2.2.1 h.2.2.2.2.1
        rw [Nat.zero_add] at a1
        refine ⟨N, ?_, h.hir a2 a3 a4, fun k hk => a4 k (by omega) (by omega)⟩
        unfold f_X6_read
        simp (disch := omega) only [li_0, li_1, li_2, li_3, li_4, li_5, li_6, li_7, li_8, li_9, li_10, li_11, li_12, li_14, li_15, li_16, li_18, li_20, li_22, li_23, li_24, li_29, li_30, li_31, li_32, li_33, li_40, li_48, li_54, li_55, li_56, li_57, li_59, li_60, li_63, li_64, li_97, li_98, li_99, li_100, li_103, li_107, li_108, li_112, li_121, li_206, li_212, li_232, li_240, li_255, li_256, li_261, li_270, ng_1, ng_2, ng_3, ng_4, ng_9, ng_10, m1_1, nI_m1, m1_nI, if_true, if_false, nI_add, pk_mul, pk_sub, nI_div, nI_rem, nI_eq, nI_leI, nI_ltI, nI_clamp, ck_in, ck_nz, bind_sm, upM_n, upM_m, upM_s, if_pos, if_neg, m_sheet_in, e0, a1]
  · refine St.same ok m2 (fun M h => ⟨M, ?_, h, Fr.rf⟩) (fun M h => ⟨M, ?_, h, Fr.rf⟩)
    · unfold f_X5_read
      simp (disch := omega) only [li_0, li_1, li_2, li_3, li_4, li_5, li_6, li_7, li_8, li_9, li_10, li_11, li_12, li_14, li_15, li_16, li_18, li_20, li_22, li_23, li_24, li_29, li_30, li_31, li_32, li_33, li_40, li_48, li_54, li_55, li_56, li_57, li_59, li_60, li_63, li_64, li_97, li_98, li_99, li_100, li_103, li_107, li_108, li_112, li_121, li_206, li_212, li_232, li_240, li_255, li_256, li_261, li_270, ng_1, ng_2, ng_3, ng_4, ng_9, ng_10, m1_1, nI_m1, m1_nI, if_true, if_false, nI_add, pk_mul, pk_sub, nI_div, nI_rem, nI_eq, nI_leI, nI_ltI, nI_clamp, ck_in, ck_nz, bind_sm, upM_n, upM_m, upM_s, if_pos, if_neg, below_out _ r1]
    · unfold f_X6_read
      simp (disch := omega) only [li_0, li_1, li_2, li_3, li_4, li_5, li_6, li_7, li_8, li_9, li_10, li_11, li_12, li_14, li_15, li_16, li_18, li_20, li_22, li_23, li_24, li_29, li_30, li_31, li_32, li_33, li_40, li_48, li_54, li_55, li_56, li_57, li_59, li_60, li_63, li_64, li_97, li_98, li_99, li_100, li_103, li_107, li_108, li_112, li_121, li_206, li_212, li_232, li_240, li_255, li_256, li_261, li_270, ng_1, ng_2, ng_3, ng_4, ng_9, ng_10, m1_1, nI_m1, m1_nI, if_true, if_false, nI_add, pk_mul, pk_sub, nI_div, nI_rem, nI_eq, nI_leI, nI_ltI, nI_clamp, ck_in, ck_nz, bind_sm, upM_n, upM_m, upM_s, if_pos, if_neg, m_sheet_out r1]
theorem CI.he {α : AS} {M N : Mem} {l : List (Nat × Nat × Nat × Nat)} (h : CI α M) (hH : HeI (setE α l) N) (F : Fr 31 36 M N) : CI (setE α l) N := by
  obtain ⟨⟨h1, h2⟩, h3, ⟨n, h4, h5⟩, h6, h7, h8, h9⟩ := h
  refine ⟨⟨h1.fr (F 1 (by omega)) (F 2 (by omega)), h2.fr (F 3 (by omega)) (F 4 (by omega))⟩, h3.fr (fun k _ _ => F k (by omega)), ⟨n, h4, h5.fr (fun k _ _ => F k (by omega))⟩, ?_, hH, h8.fr rfl (fun k _ _ => F k (by omega)), by rw [F 0 (by omega)]; exact h9⟩
  unfold StI at h6 ⊢
  rw [F 0 (by omega), F 45 (by omega)]
  exact h6
theorem MI.he {α : AS} {M N : Mem} {l : List (Nat × Nat × Nat × Nat)} (h : MI α M) (h4 : N 49 26 = nI l.length ∧ ∀ (i : Nat) (h : Nat × Nat × Nat × Nat), l[i]? = some h → N 68 (4 * i) = nI h.1 ∧ N 68 (4 * i + 1) = nI h.2.1 ∧ N 68 (4 * i + 2) = nI h.2.2.1 ∧ N 68 (4 * i + 3) = nI h.2.2.2) (c1 : ∀ j, j ≠ 26 → N 49 j = M 49 j) (c2 : ∀ k, k ≠ 49 → k ≠ 68 → N k = M k) : MI (setE α l) N := by
  obtain ⟨h1, h2, h3, -, h5, h6⟩ := h
  unfold MI MH
  unfold MH at h3
  rw [c1 4 (by omega), c1 11 (by omega), c1 13 (by omega), c2 55 (by omega) (by omega), c2 54 (by omega) (by omega), c2 58 (by omega) (by omega), c2 50 (by omega) (by omega), c2 51 (by omega) (by omega), c2 52 (by omega) (by omega)]
  refine ⟨h1, h2, ⟨h3.1, h3.2.1, h3.2.2.1, ?_⟩, h4, h5, h6⟩
  show N 49 14 = m1
  rw [c1 14 (by omega)]
  exact h3.2.2.2
theorem OKA.he {α : AS} {l : List (Nat × Nat × Nat × Nat)} (ok : OKA α) (h1 : l.length ≤ 8) (h2 : ∀ h ∈ l, h.1 < 30 ∧ h.2.1 < 8 ∧ h.2.2.1 < 5 ∧ h.2.2.2 < 10) : OKA (setE α l) := ⟨ok.1, ok.2.1, ok.2.2.1, ⟨h1, h2⟩, ok.2.2.2.2⟩
theorem s_forget {α : AS} (ok : OKA α) : St α f_X5_forget f_X6_forget := by
  refine ⟨nI (heA α).length, setE α [], ok.he (by decide) (fun h hh => by cases hh), fun M h => ⟨upM M 31 0 (nI 0), ?_, h.he ⟨upM_s, fun i x hi => by have hi : ([] : List (Nat × Nat × Nat × Nat))[i]? = some x := hi; simp at hi⟩ (fun k hk => upM_n (by omega)), fun k hk => upM_n (by omega)⟩, fun M h => ⟨upM M 49 26 (nI 0), ?_, h.he ⟨upM_s, fun i x hi => by simp at hi⟩ (fun j hj => upM_m hj) (fun k h1 _ => upM_n h1), fun k hk => upM_n (by omega)⟩⟩
  · have e := h.2.2.2.2.1.1
    unfold f_X5_forget
    rw [e]
    rfl
  · have e := h.2.2.2.1.1
    unfold f_X6_forget
    rw [e]
    rfl
theorem app_get {A : Type} {l : List A} {x h : A} {i : Nat} (hi : (l ++ [x])[i]? = some h) : (i < l.length ∧ l[i]? = some h) ∨ (i = l.length ∧ h = x) := by
  by_cases q : i < l.length
  · rw [List.getElem?_append_left q] at hi
    exact Or.inl ⟨q, hi⟩
  · rw [List.getElem?_append_right (by omega)] at hi
    have := (List.getElem?_eq_some_iff.mp hi).1
    rw [List.length_singleton] at this
    have e : i - l.length = 0 := by omega
    rw [e] at hi
    simp at hi
    exact Or.inr ⟨by omega, hi.symm⟩
theorem s_hear {α : AS} (ok : OKA α) (x1 x2 x3 x4 : Int32) : St α (f_X5_hear x1 x2 x3 x4) (f_X6_hear x1 x2 x3 x4) := by
  have o1 := ok.2.2.2.1.1
  by_cases r1 : In x1 30
  · obtain ⟨d, hd, rfl⟩ := r1
    by_cases r2 : In x2 8
    · obtain ⟨k, hk, rfl⟩ := r2
      by_cases r3 : In x3 5
      · obtain ⟨s, hs, rfl⟩ := r3
        have is := (m_in_0 (x := nI s) (n := 4) (z := 4) rfl (by omega)).1 s (by omega) rfl
        by_cases r4 : In x4 10
        · obtain ⟨v, hv, rfl⟩ := r4
          have iv := (m_in_0 (x := nI v) (n := 9) (z := 9) rfl (by omega)).1 v (by omega) rfl
          by_cases q : (heA α).length < 8
          · refine ⟨nI ((heA α).length + 1), setE α (heA α ++ [(d, k, s, v)]), ok.he (by rw [List.length_append, List.length_singleton]; omega) (fun x hx => ?_), fun M h => ⟨upM (upM (upM (upM (upM M 32 (heA α).length (nI d)) 33 (heA α).length (nI k)) 34 (heA α).length (nI s)) 35 (heA α).length (nI v)) 31 0 (nI ((heA α).length + 1)), ?_, h.he ⟨?_, fun i x hi => ?_⟩ (fun k hk => by rw [upM_n (by omega), upM_n (by omega), upM_n (by omega), upM_n (by omega), upM_n (by omega)]), fun k hk => by rw [upM_n (by omega), upM_n (by omega), upM_n (by omega), upM_n (by omega), upM_n (by omega)]⟩, fun M h => ⟨upM (upM (upM (upM (upM M 68 (4 * (heA α).length) (nI d)) 68 (4 * (heA α).length + 1) (nI k)) 68 (4 * (heA α).length + 2) (nI s)) 68 (4 * (heA α).length + 3) (nI v)) 49 26 (nI ((heA α).length + 1)), ?_, h.he ⟨?_, fun i x hi => ?_⟩ (fun j hj => by rw [upM_m hj, upM_n (by omega), upM_n (by omega), upM_n (by omega), upM_n (by omega)]) (fun k h1 h2 => by rw [upM_n h1, upM_n h2, upM_n h2, upM_n h2, upM_n h2]), fun k hk => by rw [upM_n (by omega), upM_n (by omega), upM_n (by omega), upM_n (by omega), upM_n (by omega)]⟩⟩
            · rcases List.mem_append.mp hx with q2 | q2
              · exact ok.2.2.2.1.2 x q2
              · rw [List.mem_singleton.mp q2]; exact ⟨hd, hk, hs, hv⟩
            · have e := h.2.2.2.2.1.1
              unfold f_X5_hear f_X0_add
              simp (disch := omega) only [li_0, li_1, li_2, li_3, li_4, li_5, li_6, li_7, li_8, li_9, li_10, li_11, li_12, li_14, li_15, li_16, li_18, li_20, li_22, li_23, li_24, li_29, li_30, li_31, li_32, li_33, li_40, li_48, li_54, li_55, li_56, li_57, li_59, li_60, li_63, li_64, li_97, li_98, li_99, li_100, li_103, li_107, li_108, li_112, li_121, li_206, li_212, li_232, li_240, li_255, li_256, li_261, li_270, ng_1, ng_2, ng_3, ng_4, ng_9, ng_10, m1_1, nI_m1, m1_nI, if_true, if_false, nI_add, pk_mul, pk_sub, nI_div, nI_rem, nI_eq, nI_leI, nI_ltI, nI_clamp, ck_in, ck_nz, bind_sm, upM_n, upM_m, upM_s, if_pos, if_neg, rf_1_0, rf_1_1, rf_3_0, rf_3_1, rf_5_1, rf_5_2, rf_5_4, rf_5_5, rf_5_7, rf_5_8, rf_5_9, rf_13_1, rf_13_2, rf_13_4, rf_13_5, rf_13_7, rf_13_8, rf_13_9, rf_21_0, rf_21_2, rf_21_3, rf_21_4, rf_21_5, rf_26_0, rf_26_2, rf_26_3, rf_26_4, rf_26_5, rf_31_1, rf_31_2, rf_31_3, rf_31_4, rf_37_2, rf_39_2, rf_41_2, rf_43_2, below_in, e]
            · show upM _ 31 0 _ 31 0 = nI (heA α ++ [(d, k, s, v)]).length
              rw [upM_s, List.length_append, List.length_singleton]
            · have hi : (heA α ++ [(d, k, s, v)])[i]? = some x := hi
              rcases app_get hi with ⟨g1, g2⟩ | ⟨g1, g2⟩
              · have := h.2.2.2.2.1.2 i x g2
                simp (disch := omega) only [upM_n, upM_m]
                exact this
              · subst g1 g2
                simp (disch := omega) only [upM_n, upM_s]
                exact ⟨trivial, trivial, trivial, trivial⟩
            · have e := h.2.2.2.1.1
              unfold f_X6_hear
              simp (disch := omega) only [li_0, li_1, li_2, li_3, li_4, li_5, li_6, li_7, li_8, li_9, li_10, li_11, li_12, li_14, li_15, li_16, li_18, li_20, li_22, li_23, li_24, li_29, li_30, li_31, li_32, li_33, li_40, li_48, li_54, li_55, li_56, li_57, li_59, li_60, li_63, li_64, li_97, li_98, li_99, li_100, li_103, li_107, li_108, li_112, li_121, li_206, li_212, li_232, li_240, li_255, li_256, li_261, li_270, ng_1, ng_2, ng_3, ng_4, ng_9, ng_10, m1_1, nI_m1, m1_nI, if_true, if_false, nI_add, pk_mul, pk_sub, nI_div, nI_rem, nI_eq, nI_leI, nI_ltI, nI_clamp, ck_in, ck_nz, bind_sm, upM_n, upM_m, upM_s, if_pos, if_neg, m_day_in, m_eight_in, is, iv, e]
            · show upM _ 49 26 _ 49 26 = nI (heA α ++ [(d, k, s, v)]).length
              rw [upM_s, List.length_append, List.length_singleton]
            · have hi : (heA α ++ [(d, k, s, v)])[i]? = some x := hi
              rcases app_get hi with ⟨g1, g2⟩ | ⟨g1, g2⟩
              · have := h.2.2.2.1.2 i x g2
                simp (disch := omega) only [upM_n, upM_m]
                exact this
              · subst g1 g2
                simp (disch := omega) only [upM_n, upM_m, upM_s]
                exact ⟨trivial, trivial, trivial, trivial⟩
          · have q8 : (heA α).length = 8 := by omega
            refine St.same ok m4 (fun M h => ⟨M, ?_, h, Fr.rf⟩) (fun M h => ⟨M, ?_, h, Fr.rf⟩)
            · have e := h.2.2.2.2.1.1
              rw [q8] at e
              have bo : f_X5_isBelow (nI 8) (nI 8) = some (nI 0) := by decide
              unfold f_X5_hear f_X0_add
              simp (disch := omega) only [li_0, li_1, li_2, li_3, li_4, li_5, li_6, li_7, li_8, li_9, li_10, li_11, li_12, li_14, li_15, li_16, li_18, li_20, li_22, li_23, li_24, li_29, li_30, li_31, li_32, li_33, li_40, li_48, li_54, li_55, li_56, li_57, li_59, li_60, li_63, li_64, li_97, li_98, li_99, li_100, li_103, li_107, li_108, li_112, li_121, li_206, li_212, li_232, li_240, li_255, li_256, li_261, li_270, ng_1, ng_2, ng_3, ng_4, ng_9, ng_10, m1_1, nI_m1, m1_nI, if_true, if_false, nI_add, pk_mul, pk_sub, nI_div, nI_rem, nI_eq, nI_leI, nI_ltI, nI_clamp, ck_in, ck_nz, bind_sm, upM_n, upM_m, upM_s, if_pos, if_neg, below_in, e, bo]
            · have e := h.2.2.2.1.1
              rw [q8] at e
              unfold f_X6_hear
              simp (disch := omega) only [li_0, li_1, li_2, li_3, li_4, li_5, li_6, li_7, li_8, li_9, li_10, li_11, li_12, li_14, li_15, li_16, li_18, li_20, li_22, li_23, li_24, li_29, li_30, li_31, li_32, li_33, li_40, li_48, li_54, li_55, li_56, li_57, li_59, li_60, li_63, li_64, li_97, li_98, li_99, li_100, li_103, li_107, li_108, li_112, li_121, li_206, li_212, li_232, li_240, li_255, li_256, li_261, li_270, ng_1, ng_2, ng_3, ng_4, ng_9, ng_10, m1_1, nI_m1, m1_nI, if_true, if_false, nI_add, pk_mul, pk_sub, nI_div, nI_rem, nI_eq, nI_leI, nI_ltI, nI_clamp, ck_in, ck_nz, bind_sm, upM_n, upM_m, upM_s, if_pos, if_neg, m_day_in, m_eight_in, is, iv, e]
        · have iv := (m_in_0 (x := x4) (n := 9) (z := 9) rfl (by omega)).2 r4
          refine St.same ok m2 (fun M h => ⟨M, ?_, h, Fr.rf⟩) (fun M h => ⟨M, ?_, h, Fr.rf⟩)
          · unfold f_X5_hear
            simp (disch := omega) only [li_0, li_1, li_2, li_3, li_4, li_5, li_6, li_7, li_8, li_9, li_10, li_11, li_12, li_14, li_15, li_16, li_18, li_20, li_22, li_23, li_24, li_29, li_30, li_31, li_32, li_33, li_40, li_48, li_54, li_55, li_56, li_57, li_59, li_60, li_63, li_64, li_97, li_98, li_99, li_100, li_103, li_107, li_108, li_112, li_121, li_206, li_212, li_232, li_240, li_255, li_256, li_261, li_270, ng_1, ng_2, ng_3, ng_4, ng_9, ng_10, m1_1, nI_m1, m1_nI, if_true, if_false, nI_add, pk_mul, pk_sub, nI_div, nI_rem, nI_eq, nI_leI, nI_ltI, nI_clamp, ck_in, ck_nz, bind_sm, upM_n, upM_m, upM_s, if_pos, if_neg, below_in, below_out _ r4]
          · unfold f_X6_hear
            simp (disch := omega) only [li_0, li_1, li_2, li_3, li_4, li_5, li_6, li_7, li_8, li_9, li_10, li_11, li_12, li_14, li_15, li_16, li_18, li_20, li_22, li_23, li_24, li_29, li_30, li_31, li_32, li_33, li_40, li_48, li_54, li_55, li_56, li_57, li_59, li_60, li_63, li_64, li_97, li_98, li_99, li_100, li_103, li_107, li_108, li_112, li_121, li_206, li_212, li_232, li_240, li_255, li_256, li_261, li_270, ng_1, ng_2, ng_3, ng_4, ng_9, ng_10, m1_1, nI_m1, m1_nI, if_true, if_false, nI_add, pk_mul, pk_sub, nI_div, nI_rem, nI_eq, nI_leI, nI_ltI, nI_clamp, ck_in, ck_nz, bind_sm, upM_n, upM_m, upM_s, if_pos, if_neg, m_day_in, m_eight_in, is, iv]
      · have is := (m_in_0 (x := x3) (n := 4) (z := 4) rfl (by omega)).2 r3
        refine St.same ok m2 (fun M h => ⟨M, ?_, h, Fr.rf⟩) (fun M h => ⟨M, ?_, h, Fr.rf⟩)
        · unfold f_X5_hear
          simp (disch := omega) only [li_0, li_1, li_2, li_3, li_4, li_5, li_6, li_7, li_8, li_9, li_10, li_11, li_12, li_14, li_15, li_16, li_18, li_20, li_22, li_23, li_24, li_29, li_30, li_31, li_32, li_33, li_40, li_48, li_54, li_55, li_56, li_57, li_59, li_60, li_63, li_64, li_97, li_98, li_99, li_100, li_103, li_107, li_108, li_112, li_121, li_206, li_212, li_232, li_240, li_255, li_256, li_261, li_270, ng_1, ng_2, ng_3, ng_4, ng_9, ng_10, m1_1, nI_m1, m1_nI, if_true, if_false, nI_add, pk_mul, pk_sub, nI_div, nI_rem, nI_eq, nI_leI, nI_ltI, nI_clamp, ck_in, ck_nz, bind_sm, upM_n, upM_m, upM_s, if_pos, if_neg, below_in, below_out _ r3]
        · unfold f_X6_hear
          simp (disch := omega) only [li_0, li_1, li_2, li_3, li_4, li_5, li_6, li_7, li_8, li_9, li_10, li_11, li_12, li_14, li_15, li_16, li_18, li_20, li_22, li_23, li_24, li_29, li_30, li_31, li_32, li_33, li_40, li_48, li_54, li_55, li_56, li_57, li_59, li_60, li_63, li_64, li_97, li_98, li_99, li_100, li_103, li_107, li_108, li_112, li_121, li_206, li_212, li_232, li_240, li_255, li_256, li_261, li_270, ng_1, ng_2, ng_3, ng_4, ng_9, ng_10, m1_1, nI_m1, m1_nI, if_true, if_false, nI_add, pk_mul, pk_sub, nI_div, nI_rem, nI_eq, nI_leI, nI_ltI, nI_clamp, ck_in, ck_nz, bind_sm, upM_n, upM_m, upM_s, if_pos, if_neg, m_day_in, m_eight_in, is]
    · refine St.same ok m2 (fun M h => ⟨M, ?_, h, Fr.rf⟩) (fun M h => ⟨M, ?_, h, Fr.rf⟩)
      · unfold f_X5_hear
        simp (disch := omega) only [li_0, li_1, li_2, li_3, li_4, li_5, li_6, li_7, li_8, li_9, li_10, li_11, li_12, li_14, li_15, li_16, li_18, li_20, li_22, li_23, li_24, li_29, li_30, li_31, li_32, li_33, li_40, li_48, li_54, li_55, li_56, li_57, li_59, li_60, li_63, li_64, li_97, li_98, li_99, li_100, li_103, li_107, li_108, li_112, li_121, li_206, li_212, li_232, li_240, li_255, li_256, li_261, li_270, ng_1, ng_2, ng_3, ng_4, ng_9, ng_10, m1_1, nI_m1, m1_nI, if_true, if_false, nI_add, pk_mul, pk_sub, nI_div, nI_rem, nI_eq, nI_leI, nI_ltI, nI_clamp, ck_in, ck_nz, bind_sm, upM_n, upM_m, upM_s, if_pos, if_neg, below_in, below_out _ r2]
      · unfold f_X6_hear
        simp (disch := omega) only [li_0, li_1, li_2, li_3, li_4, li_5, li_6, li_7, li_8, li_9, li_10, li_11, li_12, li_14, li_15, li_16, li_18, li_20, li_22, li_23, li_24, li_29, li_30, li_31, li_32, li_33, li_40, li_48, li_54, li_55, li_56, li_57, li_59, li_60, li_63, li_64, li_97, li_98, li_99, li_100, li_103, li_107, li_108, li_112, li_121, li_206, li_212, li_232, li_240, li_255, li_256, li_261, li_270, ng_1, ng_2, ng_3, ng_4, ng_9, ng_10, m1_1, nI_m1, m1_nI, if_true, if_false, nI_add, pk_mul, pk_sub, nI_div, nI_rem, nI_eq, nI_leI, nI_ltI, nI_clamp, ck_in, ck_nz, bind_sm, upM_n, upM_m, upM_s, if_pos, if_neg, m_day_in, m_eight_out r2]
  · refine St.same ok m2 (fun M h => ⟨M, ?_, h, Fr.rf⟩) (fun M h => ⟨M, ?_, h, Fr.rf⟩)
    · unfold f_X5_hear
      simp (disch := omega) only [li_0, li_1, li_2, li_3, li_4, li_5, li_6, li_7, li_8, li_9, li_10, li_11, li_12, li_14, li_15, li_16, li_18, li_20, li_22, li_23, li_24, li_29, li_30, li_31, li_32, li_33, li_40, li_48, li_54, li_55, li_56, li_57, li_59, li_60, li_63, li_64, li_97, li_98, li_99, li_100, li_103, li_107, li_108, li_112, li_121, li_206, li_212, li_232, li_240, li_255, li_256, li_261, li_270, ng_1, ng_2, ng_3, ng_4, ng_9, ng_10, m1_1, nI_m1, m1_nI, if_true, if_false, nI_add, pk_mul, pk_sub, nI_div, nI_rem, nI_eq, nI_leI, nI_ltI, nI_clamp, ck_in, ck_nz, bind_sm, upM_n, upM_m, upM_s, if_pos, if_neg, below_out _ r1]
    · unfold f_X6_hear
      simp (disch := omega) only [li_0, li_1, li_2, li_3, li_4, li_5, li_6, li_7, li_8, li_9, li_10, li_11, li_12, li_14, li_15, li_16, li_18, li_20, li_22, li_23, li_24, li_29, li_30, li_31, li_32, li_33, li_40, li_48, li_54, li_55, li_56, li_57, li_59, li_60, li_63, li_64, li_97, li_98, li_99, li_100, li_103, li_107, li_108, li_112, li_121, li_206, li_212, li_232, li_240, li_255, li_256, li_261, li_270, ng_1, ng_2, ng_3, ng_4, ng_9, ng_10, m1_1, nI_m1, m1_nI, if_true, if_false, nI_add, pk_mul, pk_sub, nI_div, nI_rem, nI_eq, nI_leI, nI_ltI, nI_clamp, ck_in, ck_nz, bind_sm, upM_n, upM_m, upM_s, if_pos, if_neg, m_day_out r1]
