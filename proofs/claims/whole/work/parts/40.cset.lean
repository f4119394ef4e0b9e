-- THE CLASS'S SETTING: what is tried in place of what was told
def withH (σ : SS) (l : List (Nat × Nat × Nat)) : SS := (σ.1, σ.2.1, σ.2.2.1, σ.2.2.2.1, σ.2.2.2.2.1, σ.2.2.2.2.2.1, l)
def SI (c : Nat) : Prop := (rf c 1 = c + 1 ∧ rf c 2 = c + 2 ∧ rf c 4 = c + 3 ∧ rf c 5 = c + 4 ∧ rf c 7 = c + 5 ∧ rf c 8 = c + 6 ∧ rf c 9 = c + 7)
theorem SI_5 : SI 5 := by unfold SI; decide
theorem SI_13 : SI 13 := by unfold SI; decide
theorem c_become {σ : SS} {M : Mem} (ok : OKS σ) (hS : SR 5 σ M) : ∃ M', f_X1_become 13 5 M = some M' ∧ SR 13 σ M' ∧ Fr 13 21 M M' := by
  obtain ⟨⟨ok1, ok2, ok3⟩, -⟩ := ok
  obtain ⟨⟨a1, a2, a3⟩, a4, a5, a6, a7, a8⟩ := hS
  unfold f_X1_become
  simp (disch := omega) only [li_0, li_1, li_2, li_3, li_4, li_5, li_6, li_7, li_8, li_9, li_10, li_11, li_12, li_14, li_15, li_16, li_18, li_20, li_22, li_23, li_24, li_29, li_30, li_31, li_32, li_33, li_40, li_48, li_54, li_55, li_56, li_57, li_59, li_60, li_63, li_64, li_97, li_98, li_99, li_100, li_103, li_107, li_108, li_112, li_121, li_206, li_212, li_232, li_240, li_255, li_256, li_261, li_270, ng_1, ng_2, ng_3, ng_4, ng_9, ng_10, m1_1, nI_m1, m1_nI, if_true, if_false, nI_add, pk_mul, pk_sub, nI_div, nI_rem, nI_eq, nI_leI, nI_ltI, nI_clamp, ck_in, ck_nz, bind_sm, upM_n, upM_m, upM_s, if_pos, if_neg, rf_1_0, rf_1_1, rf_3_0, rf_3_1, rf_5_1, rf_5_2, rf_5_4, rf_5_5, rf_5_7, rf_5_8, rf_5_9, rf_13_1, rf_13_2, rf_13_4, rf_13_5, rf_13_7, rf_13_8, rf_13_9, rf_21_0, rf_21_2, rf_21_3, rf_21_4, rf_21_5, rf_26_0, rf_26_2, rf_26_3, rf_26_4, rf_26_5, rf_31_1, rf_31_2, rf_31_3, rf_31_4, rf_37_2, rf_39_2, rf_41_2, rf_43_2, ck_cp]
  refine ⟨_, rfl, ⟨⟨?_, ?_, ?_⟩, fun a ha => ?_, fun a s ha h => ?_, fun p hp => ?_, fun p hp => ?_, fun i h hi => ?_⟩, fun k hk => ?_⟩
  · simp (disch := omega) only [cpM_n, upM_n, upM_m, upM_s]; exact a1
  · simp (disch := omega) only [cpM_n, upM_n, upM_m, upM_s]; exact a2
  · simp (disch := omega) only [cpM_n, upM_n, upM_m, upM_s]; exact a3
  · simp (disch := omega) only [cpM_n, cpM_0, upM_n, upM_m, upM_s]; exact a4 a ha
  · simp (disch := omega) only [cpM_n, cpM_0, upM_n, upM_m, upM_s]; exact a5 a s ha h
  · simp (disch := omega) only [cpM_n, cpM_0, upM_n, upM_m, upM_s]; exact a6 p hp
  · simp (disch := omega) only [cpM_n, cpM_0, upM_n, upM_m, upM_s]; exact a7 p hp
  · have hl := (List.getElem?_eq_some_iff.mp hi).1
    simp (disch := omega) only [cpM_n, cpM_0, upM_n, upM_m, upM_s]
    exact a8 i h hi
  · simp (disch := omega) only [cpM_n, upM_n]
theorem c_add {c d k a : Nat} {σ : SS} {M : Mem} (hc : SI c) (ok : (hs σ).length < 9) (hS : SR c σ M) : ∃ M', f_X1_addHiring c (nI d) (nI k) (nI a) M = some M' ∧ SR c (withH σ (hs σ ++ [(d, k, a)])) M' ∧ Fr c (c + 8) M M' := by
  obtain ⟨s1, s2, s4, s5, s7, s8, s9⟩ := hc
  obtain ⟨⟨a1, a2, a3⟩, a4, a5, a6, a7, a8⟩ := hS
  unfold f_X1_addHiring f_X5_isBelow
  simp (disch := omega) only [li_0, li_1, li_2, li_3, li_4, li_5, li_6, li_7, li_8, li_9, li_10, li_11, li_12, li_14, li_15, li_16, li_18, li_20, li_22, li_23, li_24, li_29, li_30, li_31, li_32, li_33, li_40, li_48, li_54, li_55, li_56, li_57, li_59, li_60, li_63, li_64, li_97, li_98, li_99, li_100, li_103, li_107, li_108, li_112, li_121, li_206, li_212, li_232, li_240, li_255, li_256, li_261, li_270, ng_1, ng_2, ng_3, ng_4, ng_9, ng_10, m1_1, nI_m1, m1_nI, if_true, if_false, nI_add, pk_mul, pk_sub, nI_div, nI_rem, nI_eq, nI_leI, nI_ltI, nI_clamp, ck_in, ck_nz, bind_sm, upM_n, upM_m, upM_s, if_pos, if_neg, s7, s8, s9, a3]
  refine ⟨_, rfl, ⟨⟨?_, ?_, ?_⟩, fun a ha => ?_, fun a s ha h => ?_, fun p hp => ?_, fun p hp => ?_, fun i h hi => ?_⟩, fun k hk => ?_⟩
  · simp (disch := omega) only [upM_n, upM_m]; exact a1
  · simp (disch := omega) only [upM_n, upM_m]; exact a2
  · simp (disch := omega) only [upM_s]
    show nI ((hs σ).length + 1) = nI (hs σ ++ [(d, k, a)]).length
    rw [List.length_append]
    rfl
  · simp (disch := omega) only [upM_n]; exact a4 a ha
  · simp (disch := omega) only [upM_n]; exact a5 a s ha h
  · simp (disch := omega) only [upM_n]; exact a6 p hp
  · simp (disch := omega) only [upM_n]; exact a7 p hp
  · have hi : (hs σ ++ [(d, k, a)])[i]? = some h := hi
    by_cases q : i < (hs σ).length
    · rw [List.getElem?_append_left q] at hi
      simp (disch := omega) only [upM_n, upM_m]
      exact a8 i h hi
    · rw [List.getElem?_append_right (by omega)] at hi
      have hi2 : i = (hs σ).length := by
        have := (List.getElem?_eq_some_iff.mp hi).1
        simp at this
        omega
      subst hi2
      rw [Nat.sub_self] at hi
      cases hi
      simp (disch := omega) only [upM_n, upM_s]
      exact ⟨trivial, trivial, trivial⟩
  · simp (disch := omega) only [upM_n]
theorem c_move {c i j : Nat} {M : Mem} (hc : SI c) (hi : i < 9) (hj : j < 9) : f_X1_moveHiring c (nI i) (nI j) M = some (upM (upM (upM M (c + 5) j (M (c + 5) i)) (c + 6) j (M (c + 6) i)) (c + 7) j (M (c + 7) i)) := by
  obtain ⟨s1, s2, s4, s5, s7, s8, s9⟩ := hc
  unfold f_X1_moveHiring
  simp (disch := omega) only [li_0, li_1, li_2, li_3, li_4, li_5, li_6, li_7, li_8, li_9, li_10, li_11, li_12, li_14, li_15, li_16, li_18, li_20, li_22, li_23, li_24, li_29, li_30, li_31, li_32, li_33, li_40, li_48, li_54, li_55, li_56, li_57, li_59, li_60, li_63, li_64, li_97, li_98, li_99, li_100, li_103, li_107, li_108, li_112, li_121, li_206, li_212, li_232, li_240, li_255, li_256, li_261, li_270, ng_1, ng_2, ng_3, ng_4, ng_9, ng_10, m1_1, nI_m1, m1_nI, if_true, if_false, nI_add, pk_mul, pk_sub, nI_div, nI_rem, nI_eq, nI_leI, nI_ltI, nI_clamp, ck_in, ck_nz, bind_sm, upM_n, upM_m, upM_s, if_pos, if_neg, s7, s8, s9]
theorem c_drop0 {c : Nat} {σ : SS} {M : Mem} {x : Int32} (hS : SR c σ M) (hl : (hs σ).length ≤ 9) (hx : x < 0) : f_X1_dropHiring c x M = some M := by
  unfold f_X1_dropHiring f_X5_isBelow
  rw [if_pos hx]
  rfl
theorem c_drop {c k : Nat} {σ : SS} {M : Mem} (hc : SI c) (hl : (hs σ).length ≤ 9) (hk : k < (hs σ).length) (hS : SR c σ M) : ∃ M', f_X1_dropHiring c (nI k) M = some M' ∧ SR c (withH σ ((hs σ).eraseIdx k)) M' ∧ Fr c (c + 8) M M' := by
  have hmv := fun i j (hi : i < 9) (hj : j < 9) (N : Mem) => c_move (M := N) hc hi hj
  obtain ⟨⟨a1, a2, a3⟩, a4, a5, a6, a7, a8⟩ := hS
  unfold f_X1_dropHiring f_X5_isBelow
  obtain ⟨e, h1, h2, h3⟩ := loop_inv (B := fun s3 : Int32 × Mem => f_X1_dropHiring_14_14b c s3.1 s3.2) (fun j q => q.1 = nI (k + j) ∧ Fr (c + 5) (c + 8) M q.2 ∧ ∀ t, t < 3 → ∀ i, q.2 (c + 5 + t) i = M (c + 5 + t) (if i < k + j ∧ k ≤ i then i + 1 else i))
    (fun e => Fr (c + 5) (c + 8) M e.2 ∧ ∀ t, t < 3 → ∀ i, e.2 (c + 5 + t) i = M (c + 5 + t) (if i < (hs σ).length - 1 ∧ k ≤ i then i + 1 else i)) ((hs σ).length - 1 - k) (s := (nI k, M))
    (by
      refine ⟨rfl, Fr.rf, fun t ht i => ?_⟩
      rw [if_neg (by omega)])
    (by
      rintro j ⟨x, N⟩ hj ⟨rfl, hF, b1⟩
      dsimp only at hF b1 ⊢
      have e6 : N c 6 = nI (hs σ).length := by rw [hF c (by omega)]; exact a3
      refine ⟨(nI (k + (j + 1)), upM (upM (upM N (c + 5) (k + j) (N (c + 5) (k + j + 1))) (c + 6) (k + j) (N (c + 6) (k + j + 1))) (c + 7) (k + j) (N (c + 7) (k + j + 1))), ?_, rfl, ?_, fun t ht i => ?_⟩
      · unfold f_X1_dropHiring_14_14b
        simp (disch := omega) only [li_0, li_1, li_2, li_3, li_4, li_5, li_6, li_7, li_8, li_9, li_10, li_11, li_12, li_14, li_15, li_16, li_18, li_20, li_22, li_23, li_24, li_29, li_30, li_31, li_32, li_33, li_40, li_48, li_54, li_55, li_56, li_57, li_59, li_60, li_63, li_64, li_97, li_98, li_99, li_100, li_103, li_107, li_108, li_112, li_121, li_206, li_212, li_232, li_240, li_255, li_256, li_261, li_270, ng_1, ng_2, ng_3, ng_4, ng_9, ng_10, m1_1, nI_m1, m1_nI, if_true, if_false, nI_add, pk_mul, pk_sub, nI_div, nI_rem, nI_eq, nI_leI, nI_ltI, nI_clamp, ck_in, ck_nz, bind_sm, upM_n, upM_m, upM_s, if_pos, if_neg, e6, hmv]
        rfl
      · exact ((hF.up (by omega) (by omega)).up (by omega) (by omega)).up (by omega) (by omega)
      · dsimp only
        have ht : t = 0 ∨ t = 1 ∨ t = 2 := by omega
        by_cases q : i = k + j
        · subst q
          have g := fun t h => b1 t h (k + j + 1)
          simp only [show ¬ (k + j + 1 < k + j ∧ k ≤ k + j + 1) by omega, if_false] at g
          rw [if_pos (by omega)]
          rcases ht with rfl | rfl | rfl
          · simp (disch := omega) only [upM_n, upM_m, upM_s]; exact g 0 (by omega)
          · simp (disch := omega) only [upM_n, upM_m, upM_s]; exact g 1 (by omega)
          · simp (disch := omega) only [upM_n, upM_m, upM_s]; exact g 2 (by omega)
        · have g := b1 t (by omega) i
          have : (if i < k + j ∧ k ≤ i then i + 1 else i) = (if i < k + (j + 1) ∧ k ≤ i then i + 1 else i) := by
            by_cases q2 : i < k + j ∧ k ≤ i
            · rw [if_pos q2, if_pos (by omega)]
            · rw [if_neg q2, if_neg (by omega)]
          rw [← this]
          rcases ht with rfl | rfl | rfl
          · simp (disch := omega) only [upM_n, upM_m]; exact g
          · simp (disch := omega) only [upM_n, upM_m]; exact g
          · simp (disch := omega) only [upM_n, upM_m]; exact g)
    (by
      rintro ⟨x, N⟩ ⟨rfl, hF, b1⟩
      dsimp only at hF b1 ⊢
      have e6 : N c 6 = nI (hs σ).length := by rw [hF c (by omega)]; exact a3
      have ek : k + ((hs σ).length - 1 - k) = (hs σ).length - 1 := by omega
      rw [ek] at b1 ⊢
      refine ⟨(nI ((hs σ).length - 1), N), ?_, hF, b1⟩
      unfold f_X1_dropHiring_14_14b
      simp (disch := omega) only [li_0, li_1, li_2, li_3, li_4, li_5, li_6, li_7, li_8, li_9, li_10, li_11, li_12, li_14, li_15, li_16, li_18, li_20, li_22, li_23, li_24, li_29, li_30, li_31, li_32, li_33, li_40, li_48, li_54, li_55, li_56, li_57, li_59, li_60, li_63, li_64, li_97, li_98, li_99, li_100, li_103, li_107, li_108, li_112, li_121, li_206, li_212, li_232, li_240, li_255, li_256, li_261, li_270, ng_1, ng_2, ng_3, ng_4, ng_9, ng_10, m1_1, nI_m1, m1_nI, if_true, if_false, nI_add, pk_mul, pk_sub, nI_div, nI_rem, nI_eq, nI_leI, nI_ltI, nI_clamp, ck_in, ck_nz, bind_sm, upM_n, upM_m, upM_s, if_pos, if_neg, e6])
  have e6 : e.2 c 6 = nI (hs σ).length := by rw [h2 c (by omega)]; exact a3
  simp (disch := omega) only [li_0, li_1, li_2, li_3, li_4, li_5, li_6, li_7, li_8, li_9, li_10, li_11, li_12, li_14, li_15, li_16, li_18, li_20, li_22, li_23, li_24, li_29, li_30, li_31, li_32, li_33, li_40, li_48, li_54, li_55, li_56, li_57, li_59, li_60, li_63, li_64, li_97, li_98, li_99, li_100, li_103, li_107, li_108, li_112, li_121, li_206, li_212, li_232, li_240, li_255, li_256, li_261, li_270, ng_1, ng_2, ng_3, ng_4, ng_9, ng_10, m1_1, nI_m1, m1_nI, if_true, if_false, nI_add, pk_mul, pk_sub, nI_div, nI_rem, nI_eq, nI_leI, nI_ltI, nI_clamp, ck_in, ck_nz, bind_sm, upM_n, upM_m, upM_s, if_pos, if_neg, a3, h1, e6]
  have len : ((hs σ).eraseIdx k).length = (hs σ).length - 1 := by rw [List.length_eraseIdx, if_pos hk]
  refine ⟨_, rfl, ⟨⟨?_, ?_, ?_⟩, fun a ha => ?_, fun a s ha h => ?_, fun p hp => ?_, fun p hp => ?_, fun i h hi => ?_⟩, fun k' hk' => ?_⟩
  · simp (disch := omega) only [upM_m]; rw [h2 c (by omega)]; exact a1
  · simp (disch := omega) only [upM_m]; rw [h2 c (by omega)]; exact a2
  · rw [upM_s]
    show _ = nI ((hs σ).eraseIdx k).length
    rw [len]
  · rw [upM_n (by omega), h2 _ (by omega)]; exact a4 a ha
  · rw [upM_n (by omega), h2 _ (by omega)]; exact a5 a s ha h
  · rw [upM_n (by omega), h2 _ (by omega)]; exact a6 p hp
  · rw [upM_n (by omega), h2 _ (by omega)]; exact a7 p hp
  · have hi : ((hs σ).eraseIdx k)[i]? = some h := hi
    have il := (List.getElem?_eq_some_iff.mp hi).1
    rw [len] at il
    rw [List.getElem?_eraseIdx] at hi
    have g : ∀ t, t < 3 → e.2 (c + 5 + t) i = M (c + 5 + t) (if i < k then i else i + 1) := fun t ht => by
      rw [h3 t ht i]
      by_cases q : i < k
      · rw [if_pos q, if_neg (by omega)]
      · rw [if_neg q, if_pos (by omega)]
    have g0 := g 0 (by omega)
    have g1 := g 1 (by omega)
    have g2 := g 2 (by omega)
    rw [upM_n (by omega), upM_n (by omega), upM_n (by omega)]
    show e.2 (c + 5 + 0) i = _ ∧ e.2 (c + 5 + 1) i = _ ∧ e.2 (c + 5 + 2) i = _
    rw [g0, g1, g2]
    by_cases q : i < k
    · rw [if_pos q] at hi ⊢
      exact a8 i h hi
    · rw [if_neg q] at hi ⊢
      exact a8 (i + 1) h hi
  · rw [upM_n (by omega), h2 k' (by omega)]
/-- begin and go through all days -/
theorem c_run {σ : SS} {M : Mem} (ok : OKS σ) (hS : SR 13 σ M) : ∃ M1 M2, f_X4_begin 26 M = some M1 ∧ f_X4_go 26 (nI 29) M1 = some M2 ∧ WD 26 σ 30 M2 ∧ Fr 26 31 M M2 ∧ SR 13 σ M2 := by
  obtain ⟨M1, h1, w1, F1⟩ := c_begin WI_26 ok hS
  have hS1 : SR 13 σ M1 := hS.fr (fun k h1 h2 => F1 k (by omega))
  obtain ⟨M2, h2, w2, F2⟩ := c_go (u := 29) WI_26 ok hS1 (by omega) (by omega) w1
  exact ⟨M1, M2, h1, h2, w2, F1.tr F2, hS1.fr (fun k h1 h2 => F2 k (by omega))⟩
