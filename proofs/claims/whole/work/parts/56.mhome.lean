-- PLANS: home, as the reference finds it
/-- the reference after a life in which only the odd hiring's places were written -/
theorem MJ.back {α : AS} {M N : Mem} (h : MJ α M) (c1 : ∀ j, j ≠ 14 → j ≠ 15 → j ≠ 16 → N 49 j = M 49 j) (c2 : N 49 14 = m1) (c3 : ∀ k, k ≠ 49 → (k < 59 ∨ 68 ≤ k) → N k = M k) : MJ α N := by
  refine ⟨?_, ?_⟩
  · obtain ⟨h1, h2, h3, h4, h5, h6⟩ := h.1
    unfold MI
    rw [c3 50 (by omega) (by omega), c3 51 (by omega) (by omega), c3 52 (by omega) (by omega), c3 54 (by omega) (by omega), c3 55 (by omega) (by omega), c3 68 (by omega) (by omega), c1 26 (by omega) (by omega) (by omega), c1 4 (by omega) (by omega) (by omega)]
    refine ⟨h1, h2, ?_, h4, h5, h6⟩
    obtain ⟨g1, g2, g3, -⟩ := h3
    unfold MH
    rw [c3 58 (by omega) (by omega), c1 11 (by omega) (by omega) (by omega), c1 13 (by omega) (by omega) (by omega)]
    exact ⟨g1, g2, g3, c2⟩
  · have := h.2
    unfold MS at this ⊢
    rw [c1 7 (by omega) (by omega) (by omega), c1 9 (by omega) (by omega) (by omega), c3 56 (by omega) (by omega), c3 57 (by omega) (by omega)]
    exact this
theorem m_homeOf {α : AS} {M : Mem} {k : Nat} (ok : OKA α) (h : MJ α M) (hk : k < nP (sA α)) : ∃ M', f_X6_homeOf (nI k) M = some (oi (homeV α k), M') ∧ MJ α M' ∧ Fr 49 71 M M' := by
  have oks := ok.s
  have ok1 := oks.1.1
  have ok2 := oks.1.2.1
  have o7 := oks.2.2.2.2.1 k
  have e57 := h.2.2.2.2.2 k hk
  unfold f_X6_homeOf homeV
  obtain ⟨e, l1, l2, l3, l4⟩ := loop_inv (B := fun s2 : Int32 × Int32 × Mem => f_X6_homeOf_26_26b (nI k) (nI (ow (sA α) k)) s2.1 s2.2.1 s2.2.2) (fun i q => q.1 = oi (lastD (hmP α k) i) ∧ q.2.1 = nI i ∧ (∀ j, j ≠ 14 → j ≠ 15 → j ≠ 16 → q.2.2 49 j = M 49 j) ∧ (q.2.2 49 15 = nI k ∧ q.2.2 49 16 = nI (ow (sA α) k)) ∧ ∀ k, k ≠ 49 → (k < 59 ∨ 68 ≤ k) → q.2.2 k = M k)
    (fun q => q.1 = oi (lastD (hmP α k) 30) ∧ (∀ j, j ≠ 14 → j ≠ 15 → j ≠ 16 → q.2.2 49 j = M 49 j) ∧ ∀ k, k ≠ 49 → (k < 59 ∨ 68 ≤ k) → q.2.2 k = M k) 30 (s := (m1, nI 0, upM (upM M 49 15 (nI k)) 49 16 (nI (ow (sA α) k))))
    (by
      refine ⟨rfl, rfl, fun j h1 h2 h3 => ?_, ⟨?_, ?_⟩, fun j h1 h2 => ?_⟩
      · dsimp only; rw [upM_m (by omega), upM_m (by omega)]
      · dsimp only; rw [upM_m (by omega), upM_s]
      · dsimp only; rw [upM_s]
      · dsimp only; rw [upM_n h1, upM_n h1])
    (by
      rintro i ⟨x, y, N⟩ hi ⟨hx, hy, c1, c2, c3⟩
      dsimp only at hx hy c1 c2 c3 ⊢
      subst hx hy
      have hS : MS (sA α) (upM N 49 14 (nI i)) := by
        have := h.2
        unfold MS at this ⊢
        rw [upM_m (by omega), upM_m (by omega), upM_n (by omega), upM_n (by omega), c1 7 (by omega) (by omega) (by omega), c1 9 (by omega) (by omega) (by omega), c3 56 (by omega) (by omega), c3 57 (by omega) (by omega)]
        exact this
      have hH : MH (hlA α) 0 (some (i, k, ow (sA α) k)) (upM N 49 14 (nI i)) := by
        obtain ⟨g1, g2, g3, -⟩ := h.1.2.2.1
        refine ⟨?_, fun j h hj => ?_, ?_, ?_, ?_, ?_⟩
        · rw [upM_m (by omega), c1 11 (by omega) (by omega) (by omega)]; exact g1
        · rw [upM_n (by omega), c3 58 (by omega) (by omega)]; exact g2 j h hj
        · rw [upM_m (by omega), c1 13 (by omega) (by omega) (by omega)]; exact g3
        · exact upM_s
        · rw [upM_m (by omega)]; exact c2.1
        · rw [upM_m (by omega)]; exact c2.2
      obtain ⟨N', d1, d2, d3⟩ := m_more ok hi hk o7 hS hH
      obtain ⟨-, -, t3⟩ := d2.2.1 29 (by omega)
      obtain ⟨-, t4, -⟩ := t3 k hk
      rw [show 8 * 29 + k = 232 + k by omega] at t4
      have keep : (∀ j, j ≠ 14 → j ≠ 15 → j ≠ 16 → N' 49 j = M 49 j) ∧ (N' 49 15 = nI k ∧ N' 49 16 = nI (ow (sA α) k)) ∧ ∀ k, k ≠ 49 → (k < 59 ∨ 68 ≤ k) → N' k = M k := by
        refine ⟨fun j h1 h2 h3 => ?_, ⟨?_, ?_⟩, fun j h1 h2 => ?_⟩
        · rw [d3 49 (by omega), upM_m h1]; exact c1 j h1 h2 h3
        · rw [d3 49 (by omega), upM_m (by omega)]; exact c2.1
        · rw [d3 49 (by omega), upM_m (by omega)]; exact c2.2
        · rw [d3 j h2, upM_n h1]; exact c3 j h1 h2
      unfold f_X6_homeOf_26_26b f_X6_homeOf_63_26
      rw [lastD_s]
      by_cases q : hmP α k i = true
      · rw [if_pos q]
        have q := of_decide_eq_true q
        have t5 : N' 65 (232 + k) = nI (ow (sA α) k) := by rw [t4]; exact congrArg oi q
        refine ⟨(nI i, nI (i + 1), N'), ?_, rfl, rfl, keep⟩
        simp (disch := omega) only [li_0, li_1, li_2, li_3, li_4, li_5, li_6, li_7, li_8, li_9, li_10, li_11, li_12, li_14, li_15, li_16, li_18, li_20, li_22, li_23, li_24, li_29, li_30, li_31, li_32, li_33, li_40, li_48, li_54, li_55, li_56, li_57, li_59, li_60, li_63, li_64, li_97, li_98, li_99, li_100, li_103, li_107, li_108, li_112, li_121, li_206, li_212, li_232, li_240, li_255, li_256, li_261, li_270, ng_1, ng_2, ng_3, ng_4, ng_9, ng_10, m1_1, nI_m1, m1_nI, if_true, if_false, nI_add, pk_mul, pk_sub, nI_div, nI_rem, nI_eq, nI_leI, nI_ltI, nI_clamp, ck_in, ck_nz, bind_sm, upM_n, upM_m, upM_s, if_pos, if_neg, d1, t5]
      · rw [if_neg q]
        have q : ¬ _ := of_decide_eq_false (Bool.not_eq_true _ ▸ q)
        have ne : ¬ N' 65 (232 + k) = nI (ow (sA α) k) := fun r => q (by
          have := oi_eq (i := ow (sA α) k) (o := tk (more α i k (ow (sA α) k)) (wk (more α i k (ow (sA α) k)) 30) k) (by omega) (fun t ht => by
            have : t < nA (sA α) := am_lt ht
            omega)
          rw [← this, ← r]
          exact t4)
        refine ⟨(oi (lastD (hmP α k) i), nI (i + 1), N'), ?_, rfl, rfl, keep⟩
        simp (disch := omega) only [li_0, li_1, li_2, li_3, li_4, li_5, li_6, li_7, li_8, li_9, li_10, li_11, li_12, li_14, li_15, li_16, li_18, li_20, li_22, li_23, li_24, li_29, li_30, li_31, li_32, li_33, li_40, li_48, li_54, li_55, li_56, li_57, li_59, li_60, li_63, li_64, li_97, li_98, li_99, li_100, li_103, li_107, li_108, li_112, li_121, li_206, li_212, li_232, li_240, li_255, li_256, li_261, li_270, ng_1, ng_2, ng_3, ng_4, ng_9, ng_10, m1_1, nI_m1, m1_nI, if_true, if_false, nI_add, pk_mul, pk_sub, nI_div, nI_rem, nI_eq, nI_leI, nI_ltI, nI_clamp, ck_in, ck_nz, bind_sm, upM_n, upM_m, upM_s, if_pos, if_neg, d1, if_neg ne])
    (by
      rintro ⟨x, y, N⟩ ⟨hx, hy, c1, c2, c3⟩
      dsimp only at hx hy c1 c2 c3 ⊢
      subst hy
      refine ⟨(x, nI 30, N), ?_, hx, c1, c3⟩
      unfold f_X6_homeOf_26_26b
      simp (disch := omega) only [li_0, li_1, li_2, li_3, li_4, li_5, li_6, li_7, li_8, li_9, li_10, li_11, li_12, li_14, li_15, li_16, li_18, li_20, li_22, li_23, li_24, li_29, li_30, li_31, li_32, li_33, li_40, li_48, li_54, li_55, li_56, li_57, li_59, li_60, li_63, li_64, li_97, li_98, li_99, li_100, li_103, li_107, li_108, li_112, li_121, li_206, li_212, li_232, li_240, li_255, li_256, li_261, li_270, ng_1, ng_2, ng_3, ng_4, ng_9, ng_10, m1_1, nI_m1, m1_nI, if_true, if_false, nI_add, pk_mul, pk_sub, nI_div, nI_rem, nI_eq, nI_leI, nI_ltI, nI_clamp, ck_in, ck_nz, bind_sm, upM_n, upM_m, upM_s, if_pos, if_neg])
  refine ⟨upM e.2.2 49 14 m1, ?_, h.back (fun j h1 h2 h3 => by rw [upM_m h1]; exact l3 j h1 h2 h3) upM_s (fun k h1 h2 => by rw [upM_n h1]; exact l4 k h1 h2), fun k hk => by rw [upM_n (by omega), l4 k (by omega) (by omega)]⟩
  simp (disch := omega) only [li_0, li_1, li_2, li_3, li_4, li_5, li_6, li_7, li_8, li_9, li_10, li_11, li_12, li_14, li_15, li_16, li_18, li_20, li_22, li_23, li_24, li_29, li_30, li_31, li_32, li_33, li_40, li_48, li_54, li_55, li_56, li_57, li_59, li_60, li_63, li_64, li_97, li_98, li_99, li_100, li_103, li_107, li_108, li_112, li_121, li_206, li_212, li_232, li_240, li_255, li_256, li_261, li_270, ng_1, ng_2, ng_3, ng_4, ng_9, ng_10, m1_1, nI_m1, m1_nI, if_true, if_false, nI_add, pk_mul, pk_sub, nI_div, nI_rem, nI_eq, nI_leI, nI_ltI, nI_clamp, ck_in, ck_nz, bind_sm, upM_n, upM_m, upM_s, if_pos, if_neg, e57, l1, l2]
theorem m_home {α : AS} {M : Mem} (ok : OKA α) (h : MI α M) : (∀ k, k < nP (sA α) → ∃ M', f_X6_home (nI k) M = some (oi (homeV α k), M') ∧ MJ α M' ∧ Fr 49 71 M M') ∧ ∀ x, ¬ In x (nP (sA α)) → ∃ M', f_X6_home x M = some (m2, M') ∧ MJ α M' ∧ Fr 49 71 M M' := by
  obtain ⟨M', g1, g2, g3⟩ := m_find ok h
  have ok2 := ok.s.1.2.1
  have e9 := g2.2.1.1.2
  refine ⟨fun k hk => ?_, fun x hx => ?_⟩
  · have e1 := m_isP (i := k) e9 (show nP (sA α) < 100 by omega) (show k < 100 by omega)
    obtain ⟨M2, d1, d2, d3⟩ := m_homeOf ok g2.j hk
    refine ⟨M2, ?_, d2, g3.tr d3⟩
    unfold f_X6_home
    simp (disch := omega) only [li_0, li_1, li_2, li_3, li_4, li_5, li_6, li_7, li_8, li_9, li_10, li_11, li_12, li_14, li_15, li_16, li_18, li_20, li_22, li_23, li_24, li_29, li_30, li_31, li_32, li_33, li_40, li_48, li_54, li_55, li_56, li_57, li_59, li_60, li_63, li_64, li_97, li_98, li_99, li_100, li_103, li_107, li_108, li_112, li_121, li_206, li_212, li_232, li_240, li_255, li_256, li_261, li_270, ng_1, ng_2, ng_3, ng_4, ng_9, ng_10, m1_1, nI_m1, m1_nI, if_true, if_false, nI_add, pk_mul, pk_sub, nI_div, nI_rem, nI_eq, nI_leI, nI_ltI, nI_clamp, ck_in, ck_nz, bind_sm, upM_n, upM_m, upM_s, if_pos, if_neg, g1, e1, d1]
  · refine ⟨M', ?_, g2.j, g3⟩
    unfold f_X6_home
    simp (disch := omega) only [li_0, li_1, li_2, li_3, li_4, li_5, li_6, li_7, li_8, li_9, li_10, li_11, li_12, li_14, li_15, li_16, li_18, li_20, li_22, li_23, li_24, li_29, li_30, li_31, li_32, li_33, li_40, li_48, li_54, li_55, li_56, li_57, li_59, li_60, li_63, li_64, li_97, li_98, li_99, li_100, li_103, li_107, li_108, li_112, li_121, li_206, li_212, li_232, li_240, li_255, li_256, li_261, li_270, ng_1, ng_2, ng_3, ng_4, ng_9, ng_10, m1_1, nI_m1, m1_nI, if_true, if_false, nI_add, pk_mul, pk_sub, nI_div, nI_rem, nI_eq, nI_leI, nI_ltI, nI_clamp, ck_in, ck_nz, bind_sm, upM_n, upM_m, upM_s, if_pos, if_neg, g1, isP_out e9 (show nP (sA α) < 100 by omega) hx]
