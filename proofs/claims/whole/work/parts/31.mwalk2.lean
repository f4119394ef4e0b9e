-- THE REFERENCE'S DAYS: talk, speech
theorem m_talk {t : Nat} {σ : SS} {M : Mem} {we : Nat → Nat} {mk : Nat → Nat → Nat} (ok : OKS σ) (hS : MS σ M) (ht : t < 5) (hmk : ∀ a s, mk a s < 10) (hwe : ∀ p, we p < 8) (hv : ∀ p, p < nP σ → M 61 p = nI (we p)) (hm : ∀ a s, a < nA σ → s < 5 → M 59 (5 * a + s) = nI (mk a s)) : ∃ M', f_X6_talk (nI t) M = some M' ∧ (∀ a s, a < nA σ → s < 5 → M' 59 (5 * a + s) = nI (if s = t ∧ a + 1 < nA σ ∧ cnt we a (nP σ) = 0 ∧ cnt we (a + 1) (nP σ) = 0 then tw (mk a s) (mk (a + 1) s) (so σ a) else mk a s)) ∧ Fr 59 60 M M' := by
  obtain ⟨⟨ok1, ok2, ok3⟩, ok4, ok5, ok6, ok7, ok8⟩ := ok
  obtain ⟨⟨a1, a2⟩, a3, a4, a5, a6⟩ := hS
  unfold f_X6_talk
  obtain ⟨e, h1, h2⟩ := loop_inv (B := fun s4 : Int32 × Mem => f_X6_talk_2_2b (nI t) s4.1 s4.2) (fun i q => q.1 = nI i ∧ Fr 59 60 M q.2 ∧ ∀ a s, a < nA σ → s < 5 → q.2 59 (5 * a + s) = nI (if a < i ∧ s = t ∧ a + 1 < nA σ ∧ cnt we a (nP σ) = 0 ∧ cnt we (a + 1) (nP σ) = 0 then tw (mk a s) (mk (a + 1) s) (so σ a) else mk a s))
    (fun e => Fr 59 60 M e.2 ∧ ∀ a s, a < nA σ → s < 5 → e.2 59 (5 * a + s) = nI (if s = t ∧ a + 1 < nA σ ∧ cnt we a (nP σ) = 0 ∧ cnt we (a + 1) (nP σ) = 0 then tw (mk a s) (mk (a + 1) s) (so σ a) else mk a s)) (nA σ - 1) (s := (nI 0, M))
    (by
      refine ⟨rfl, Fr.rf, fun a s ha hs => ?_⟩
      rw [if_neg (by omega)]
      exact hm a s ha hs)
    (by
      rintro i ⟨x, N⟩ hi ⟨rfl, hF, b1⟩
      dsimp only at hF b1 ⊢
      have e7 : N 49 7 = nI (nA σ) := by rw [hF 49 (by omega)]; exact a1
      have e9 : N 49 9 = nI (nP σ) := by rw [hF 49 (by omega)]; exact a2
      have hv' : ∀ p, p < nP σ → N 61 p = nI (we p) := fun p hp => by rw [hF 61 (by omega)]; exact hv p hp
      have k1 := m_worn (a := i) e9 ok2 (by omega) hwe hv'
      have k2 := m_worn (a := i + 1) e9 ok2 (by omega) hwe hv'
      have k3 : N 56 (6 * i) = nI (so σ i) := by rw [hF 56 (by omega)]; exact a3 i (by omega)
      have m1' := b1 i t (by omega) ht
      rw [if_neg (by omega)] at m1'
      have m2' := b1 (i + 1) t (by omega) ht
      rw [if_neg (by omega)] at m2'
      have m3' : N 59 (5 * i + 5 + t) = nI (mk (i + 1) t) := by rw [show 5 * i + 5 + t = 5 * (i + 1) + t by omega]; exact m2'
      unfold f_X6_talk_2_2b f_X6_talk_74_2
      by_cases q1 : cnt we i (nP σ) = 0
      · by_cases q2 : cnt we (i + 1) (nP σ) = 0
        · refine ⟨(nI (i + 1), upM N 59 (5 * i + t) (nI (tw (mk i t) (mk (i + 1) t) (so σ i)))), ?_, rfl, hF.up (by omega) (by omega), fun a s ha hs => ?_⟩
          · simp (disch := omega) only [li_0, li_1, li_2, li_3, li_4, li_5, li_6, li_7, li_8, li_9, li_10, li_11, li_12, li_14, li_15, li_16, li_18, li_20, li_22, li_23, li_24, li_29, li_30, li_31, li_32, li_33, li_40, li_48, li_54, li_55, li_56, li_57, li_59, li_60, li_63, li_64, li_97, li_98, li_99, li_100, li_103, li_107, li_108, li_112, li_121, li_206, li_212, li_232, li_240, li_255, li_256, li_261, li_270, ng_1, ng_2, ng_3, ng_4, ng_9, ng_10, m1_1, nI_m1, m1_nI, if_true, if_false, nI_add, pk_mul, pk_sub, nI_div, nI_rem, nI_eq, nI_leI, nI_ltI, nI_clamp, ck_in, ck_nz, bind_sm, upM_n, upM_m, upM_s, if_pos, if_neg, e7, k1, k2, k3, m1', m3', m_towards (hmk i t) (hmk (i + 1) t) (ok4 i)]
          · dsimp only
            by_cases q3 : a = i ∧ s = t
            · obtain ⟨rfl, rfl⟩ := q3
              rw [upM_s, if_pos ⟨by omega, rfl, by omega, q1, q2⟩]
            · rw [upM_m (by omega), b1 a s ha hs]
              by_cases q4 : a < i ∧ s = t ∧ a + 1 < nA σ ∧ cnt we a (nP σ) = 0 ∧ cnt we (a + 1) (nP σ) = 0
              · rw [if_pos q4, if_pos ⟨by omega, q4.2⟩]
              · rw [if_neg q4, if_neg]
                rintro ⟨r1, r2, r3⟩
                exact q4 ⟨by omega, r2, r3⟩
        · refine ⟨(nI (i + 1), N), ?_, rfl, hF, fun a s ha hs => ?_⟩
          · simp (disch := omega) only [li_0, li_1, li_2, li_3, li_4, li_5, li_6, li_7, li_8, li_9, li_10, li_11, li_12, li_14, li_15, li_16, li_18, li_20, li_22, li_23, li_24, li_29, li_30, li_31, li_32, li_33, li_40, li_48, li_54, li_55, li_56, li_57, li_59, li_60, li_63, li_64, li_97, li_98, li_99, li_100, li_103, li_107, li_108, li_112, li_121, li_206, li_212, li_232, li_240, li_255, li_256, li_261, li_270, ng_1, ng_2, ng_3, ng_4, ng_9, ng_10, m1_1, nI_m1, m1_nI, if_true, if_false, nI_add, pk_mul, pk_sub, nI_div, nI_rem, nI_eq, nI_leI, nI_ltI, nI_clamp, ck_in, ck_nz, bind_sm, upM_n, upM_m, upM_s, if_pos, if_neg, e7, k1, k2]
          · dsimp only
            rw [b1 a s ha hs]
            by_cases q4 : a < i ∧ s = t ∧ a + 1 < nA σ ∧ cnt we a (nP σ) = 0 ∧ cnt we (a + 1) (nP σ) = 0
            · rw [if_pos q4, if_pos ⟨by omega, q4.2⟩]
            · rw [if_neg q4, if_neg]
              rintro ⟨r1, r2, r3, r4, r5⟩
              by_cases q5 : a = i
              · subst q5; exact q2 r5
              · exact q4 ⟨by omega, r2, r3, r4, r5⟩
      · refine ⟨(nI (i + 1), N), ?_, rfl, hF, fun a s ha hs => ?_⟩
        · simp (disch := omega) only [li_0, li_1, li_2, li_3, li_4, li_5, li_6, li_7, li_8, li_9, li_10, li_11, li_12, li_14, li_15, li_16, li_18, li_20, li_22, li_23, li_24, li_29, li_30, li_31, li_32, li_33, li_40, li_48, li_54, li_55, li_56, li_57, li_59, li_60, li_63, li_64, li_97, li_98, li_99, li_100, li_103, li_107, li_108, li_112, li_121, li_206, li_212, li_232, li_240, li_255, li_256, li_261, li_270, ng_1, ng_2, ng_3, ng_4, ng_9, ng_10, m1_1, nI_m1, m1_nI, if_true, if_false, nI_add, pk_mul, pk_sub, nI_div, nI_rem, nI_eq, nI_leI, nI_ltI, nI_clamp, ck_in, ck_nz, bind_sm, upM_n, upM_m, upM_s, if_pos, if_neg, e7, k1]
        · dsimp only
          rw [b1 a s ha hs]
          by_cases q4 : a < i ∧ s = t ∧ a + 1 < nA σ ∧ cnt we a (nP σ) = 0 ∧ cnt we (a + 1) (nP σ) = 0
          · rw [if_pos q4, if_pos ⟨by omega, q4.2⟩]
          · rw [if_neg q4, if_neg]
            rintro ⟨r1, r2, r3, r4, r5⟩
            by_cases q5 : a = i
            · subst q5; exact q1 r4
            · exact q4 ⟨by omega, r2, r3, r4, r5⟩)
    (by
      rintro ⟨x, N⟩ ⟨rfl, hF, b1⟩
      dsimp only at hF b1 ⊢
      have e7 : N 49 7 = nI (nA σ) := by rw [hF 49 (by omega)]; exact a1
      refine ⟨(nI (nA σ - 1), N), ?_, hF, fun a s ha hs => ?_⟩
      · unfold f_X6_talk_2_2b
        simp (disch := omega) only [li_0, li_1, li_2, li_3, li_4, li_5, li_6, li_7, li_8, li_9, li_10, li_11, li_12, li_14, li_15, li_16, li_18, li_20, li_22, li_23, li_24, li_29, li_30, li_31, li_32, li_33, li_40, li_48, li_54, li_55, li_56, li_57, li_59, li_60, li_63, li_64, li_97, li_98, li_99, li_100, li_103, li_107, li_108, li_112, li_121, li_206, li_212, li_232, li_240, li_255, li_256, li_261, li_270, ng_1, ng_2, ng_3, ng_4, ng_9, ng_10, m1_1, nI_m1, m1_nI, if_true, if_false, nI_add, pk_mul, pk_sub, nI_div, nI_rem, nI_eq, nI_leI, nI_ltI, nI_clamp, ck_in, ck_nz, bind_sm, upM_n, upM_m, upM_s, if_pos, if_neg, e7]
      · dsimp only
        rw [b1 a s ha hs]
        by_cases q4 : s = t ∧ a + 1 < nA σ ∧ cnt we a (nP σ) = 0 ∧ cnt we (a + 1) (nP σ) = 0
        · rw [if_pos q4, if_pos ⟨by omega, q4⟩]
        · rw [if_neg q4, if_neg (fun r => q4 r.2)])
  rw [show ((0 : Int32), M) = (nI 0, M) from rfl, h1]
  exact ⟨e.2, rfl, h2.2, h2.1⟩
theorem oi_eq {i : Nat} {o : Option Nat} (hi : i < 2147483648) (ho : ∀ t, o = some t → t < 2147483648) : (nI i = oi o) = (o = some i) := by
  cases o with
  | none => rw [oi_n, nI_m1 hi]; simp
  | some t =>
    rw [oi_s, nI_eq hi (ho t rfl)]
    simp [eq_comm]
theorem m_speaks {p d : Nat} {σ : SS} {M : Mem} {we : Nat → Nat} {mk sp : Nat → Nat → Nat} (ok : OKS σ) (hS : MS σ M) (hd2 : d < 30) (hp : p < nP σ) (hmk : ∀ a s, mk a s < 10) (hsp : ∀ p s, sp p s < 10) (hwp : we p < nA σ) (hv : M 61 p = nI (we p)) (hm : ∀ a s, a < nA σ → s < 5 → M 59 (5 * a + s) = nI (mk a s)) (hs : ∀ s, s < 5 → M 60 (5 * p + s) = nI (sp p s)) :
    f_X6_speaks (nI d) (nI p) M = some (filM M 60 (5 * p) 5 (fun s => nI (learnS σ d we mk sp p s))) := by
  obtain ⟨⟨ok1, ok2, ok3⟩, ok4, ok5, ok6, ok7, ok8⟩ := ok
  obtain ⟨⟨a1, a2⟩, a3, a4, a5, a6⟩ := hS
  have o6 := ok6 p
  have e5 := a5 p hp
  have wl := wdn_lt (hmk (we p)) (hsp p)
  unfold f_X6_speaks
  have l1 : loop (fun s3 : Int32 × Int32 × Int32 => f_X6_speaks_26_26b (nI d) (nI p) (nI (we p)) (nI (ki σ p)) s3.1 s3.2.1 s3.2.2 M) (m1, nI 0, nI 0) = some (oi (wdn (mk (we p)) (sp p) 5).1, nI (wdn (mk (we p)) (sp p) 5).2, nI 5) := by
    refine loop_for (B := fun s3 : Int32 × Int32 × Int32 => f_X6_speaks_26_26b (nI d) (nI p) (nI (we p)) (nI (ki σ p)) s3.1 s3.2.1 s3.2.2 M) (fun i => (oi (wdn (mk (we p)) (sp p) i).1, nI (wdn (mk (we p)) (sp p) i).2, nI i)) 5
      (by
        intro i hi
        dsimp only
        unfold f_X6_speaks_26_26b f_X6_speaks_74_26
        have e1 := hs i hi
        have e2 := hm (we p) i hwp hi
        have l1 := (wl i).1
        have l2 := dist_lt (hmk (we p) i) (hsp p i)
        rw [wdn_s]
        by_cases q2 : (wdn (mk (we p)) (sp p) i).2 < dist (mk (we p) i) (sp p i)
        · simp (disch := omega) only [li_0, li_1, li_2, li_3, li_4, li_5, li_6, li_7, li_8, li_9, li_10, li_11, li_12, li_14, li_15, li_16, li_18, li_20, li_22, li_23, li_24, li_29, li_30, li_31, li_32, li_33, li_40, li_48, li_54, li_55, li_56, li_57, li_59, li_60, li_63, li_64, li_97, li_98, li_99, li_100, li_103, li_107, li_108, li_112, li_121, li_206, li_212, li_232, li_240, li_255, li_256, li_261, li_270, ng_1, ng_2, ng_3, ng_4, ng_9, ng_10, m1_1, nI_m1, m1_nI, if_true, if_false, nI_add, pk_mul, pk_sub, nI_div, nI_rem, nI_eq, nI_leI, nI_ltI, nI_clamp, ck_in, ck_nz, bind_sm, upM_n, upM_m, upM_s, if_pos, if_neg, e1, e2, m_size (hmk (we p) i) (hsp p i), m_greater, oi_s, Nat.max_eq_left]
        · simp (disch := omega) only [li_0, li_1, li_2, li_3, li_4, li_5, li_6, li_7, li_8, li_9, li_10, li_11, li_12, li_14, li_15, li_16, li_18, li_20, li_22, li_23, li_24, li_29, li_30, li_31, li_32, li_33, li_40, li_48, li_54, li_55, li_56, li_57, li_59, li_60, li_63, li_64, li_97, li_98, li_99, li_100, li_103, li_107, li_108, li_112, li_121, li_206, li_212, li_232, li_240, li_255, li_256, li_261, li_270, ng_1, ng_2, ng_3, ng_4, ng_9, ng_10, m1_1, nI_m1, m1_nI, if_true, if_false, nI_add, pk_mul, pk_sub, nI_div, nI_rem, nI_eq, nI_leI, nI_ltI, nI_clamp, ck_in, ck_nz, bind_sm, upM_n, upM_m, upM_s, if_pos, if_neg, e1, e2, m_size (hmk (we p) i) (hsp p i), m_greater, Nat.max_eq_right])
      (by
        dsimp only
        unfold f_X6_speaks_26_26b
        simp (disch := omega) only [li_0, li_1, li_2, li_3, li_4, li_5, li_6, li_7, li_8, li_9, li_10, li_11, li_12, li_14, li_15, li_16, li_18, li_20, li_22, li_23, li_24, li_29, li_30, li_31, li_32, li_33, li_40, li_48, li_54, li_55, li_56, li_57, li_59, li_60, li_63, li_64, li_97, li_98, li_99, li_100, li_103, li_107, li_108, li_112, li_121, li_206, li_212, li_232, li_240, li_255, li_256, li_261, li_270, ng_1, ng_2, ng_3, ng_4, ng_9, ng_10, m1_1, nI_m1, m1_nI, if_true, if_false, nI_add, pk_mul, pk_sub, nI_div, nI_rem, nI_eq, nI_leI, nI_ltI, nI_clamp, ck_in, ck_nz, bind_sm, upM_n, upM_m, upM_s, if_pos, if_neg])
  have l2 : loop (fun s6 : Int32 × Mem => f_X6_speaks_94_94b (nI d) (nI p) (nI (we p)) (nI (ki σ p)) (oi (wdn (mk (we p)) (sp p) 5).1) s6.1 s6.2) (nI 0, M) = some (nI 5, filM M 60 (5 * p) 5 (fun s => nI (learnS σ d we mk sp p s))) := by
    have := loop_for (B := fun s6 : Int32 × Mem => f_X6_speaks_94_94b (nI d) (nI p) (nI (we p)) (nI (ki σ p)) (oi (wdn (mk (we p)) (sp p) 5).1) s6.1 s6.2) (fun i => (nI i, filM M 60 (5 * p) i (fun s => nI (learnS σ d we mk sp p s)))) 5 (e := (nI 5, filM M 60 (5 * p) 5 (fun s => nI (learnS σ d we mk sp p s))))
      (by
        intro i hi
        dsimp only
        have e1 : filM M 60 (5 * p) i (fun s => nI (learnS σ d we mk sp p s)) 60 (5 * p + i) = nI (sp p i) := by rw [filM_out (by omega)]; exact hs i hi
        have e2 : filM M 60 (5 * p) i (fun s => nI (learnS σ d we mk sp p s)) 59 (5 * we p + i) = nI (mk (we p) i) := by rw [filM_n (by omega)]; exact hm _ i hwp hi
        have oe := oi_eq (i := i) (o := (wdn (mk (we p)) (sp p) 5).1) (by omega) (fun t ht => by have := (wl 5).2 t ht; omega)
        have dec : (we p < nA σ ∧ ¬ (ki σ p = 2 ∧ d % 2 ≠ 0) ∧ (ki σ p = 1 ∨ (wdn (mk (we p)) (sp p) 5).1 = some i)) ∨ ¬ (we p < nA σ ∧ ¬ (ki σ p = 2 ∧ d % 2 ≠ 0) ∧ (ki σ p = 1 ∨ (wdn (mk (we p)) (sp p) 5).1 = some i)) := Classical.em _
        have up := filM_up (M := M) (k := 60) (b := 5 * p) (n := i) (g := fun s => nI (learnS σ d we mk sp p s))
        have lt : (we p < nA σ ∧ ¬ (ki σ p = 2 ∧ d % 2 ≠ 0) ∧ (ki σ p = 1 ∨ (wdn (mk (we p)) (sp p) 5).1 = some i)) → learnS σ d we mk sp p i = tw (sp p i) (mk (we p) i) 1 := fun h => by unfold learnS; rw [if_pos h]
        have lf : ¬ (we p < nA σ ∧ ¬ (ki σ p = 2 ∧ d % 2 ≠ 0) ∧ (ki σ p = 1 ∨ (wdn (mk (we p)) (sp p) 5).1 = some i)) → learnS σ d we mk sp p i = sp p i := fun h => by unfold learnS; rw [if_neg h]
        unfold f_X6_speaks_94_94b f_X6_speaks_124_94 f_X6_speaks_128_94 f_X6_speaks_129_94 f_X6_speaks_186_94
        by_cases q1 : ki σ p = 1
        · rw [← up]
          simp (disch := omega) only [li_0, li_1, li_2, li_3, li_4, li_5, li_6, li_7, li_8, li_9, li_10, li_11, li_12, li_14, li_15, li_16, li_18, li_20, li_22, li_23, li_24, li_29, li_30, li_31, li_32, li_33, li_40, li_48, li_54, li_55, li_56, li_57, li_59, li_60, li_63, li_64, li_97, li_98, li_99, li_100, li_103, li_107, li_108, li_112, li_121, li_206, li_212, li_232, li_240, li_255, li_256, li_261, li_270, ng_1, ng_2, ng_3, ng_4, ng_9, ng_10, m1_1, nI_m1, m1_nI, if_true, if_false, nI_add, pk_mul, pk_sub, nI_div, nI_rem, nI_eq, nI_leI, nI_ltI, nI_clamp, ck_in, ck_nz, bind_sm, upM_n, upM_m, upM_s, if_pos, if_neg, e1, e2, q1, m_towards (hsp p i) (hmk (we p) i) (show 1 < 3 by omega), lt ⟨hwp, by omega, Or.inl q1⟩]
        · by_cases q2 : (wdn (mk (we p)) (sp p) 5).1 = some i
          · by_cases q3 : ki σ p = 0
            · rw [← up]
              simp (disch := omega) only [li_0, li_1, li_2, li_3, li_4, li_5, li_6, li_7, li_8, li_9, li_10, li_11, li_12, li_14, li_15, li_16, li_18, li_20, li_22, li_23, li_24, li_29, li_30, li_31, li_32, li_33, li_40, li_48, li_54, li_55, li_56, li_57, li_59, li_60, li_63, li_64, li_97, li_98, li_99, li_100, li_103, li_107, li_108, li_112, li_121, li_206, li_212, li_232, li_240, li_255, li_256, li_261, li_270, ng_1, ng_2, ng_3, ng_4, ng_9, ng_10, m1_1, nI_m1, m1_nI, if_true, if_false, nI_add, pk_mul, pk_sub, nI_div, nI_rem, nI_eq, nI_leI, nI_ltI, nI_clamp, ck_in, ck_nz, bind_sm, upM_n, upM_m, upM_s, if_pos, if_neg, q2, oi_s, e1, e2, q3, m_towards (hsp p i) (hmk (we p) i) (show 1 < 3 by omega), lt ⟨hwp, by omega, Or.inr q2⟩]
            · by_cases q4 : d % 2 = 0
              · rw [← up]
                simp (disch := omega) only [li_0, li_1, li_2, li_3, li_4, li_5, li_6, li_7, li_8, li_9, li_10, li_11, li_12, li_14, li_15, li_16, li_18, li_20, li_22, li_23, li_24, li_29, li_30, li_31, li_32, li_33, li_40, li_48, li_54, li_55, li_56, li_57, li_59, li_60, li_63, li_64, li_97, li_98, li_99, li_100, li_103, li_107, li_108, li_112, li_121, li_206, li_212, li_232, li_240, li_255, li_256, li_261, li_270, ng_1, ng_2, ng_3, ng_4, ng_9, ng_10, m1_1, nI_m1, m1_nI, if_true, if_false, nI_add, pk_mul, pk_sub, nI_div, nI_rem, nI_eq, nI_leI, nI_ltI, nI_clamp, ck_in, ck_nz, bind_sm, upM_n, upM_m, upM_s, if_pos, if_neg, q2, oi_s, e1, e2, m_towards (hsp p i) (hmk (we p) i) (show 1 < 3 by omega), lt ⟨hwp, by omega, Or.inr q2⟩]
              · rw [← up]
                simp (disch := omega) only [li_0, li_1, li_2, li_3, li_4, li_5, li_6, li_7, li_8, li_9, li_10, li_11, li_12, li_14, li_15, li_16, li_18, li_20, li_22, li_23, li_24, li_29, li_30, li_31, li_32, li_33, li_40, li_48, li_54, li_55, li_56, li_57, li_59, li_60, li_63, li_64, li_97, li_98, li_99, li_100, li_103, li_107, li_108, li_112, li_121, li_206, li_212, li_232, li_240, li_255, li_256, li_261, li_270, ng_1, ng_2, ng_3, ng_4, ng_9, ng_10, m1_1, nI_m1, m1_nI, if_true, if_false, nI_add, pk_mul, pk_sub, nI_div, nI_rem, nI_eq, nI_leI, nI_ltI, nI_clamp, ck_in, ck_nz, bind_sm, upM_n, upM_m, upM_s, if_pos, if_neg, q2, oi_s, e1, e2, lf (fun r => r.2.1 ⟨by omega, q4⟩)]
          · rw [← up]
            simp (disch := omega) only [li_0, li_1, li_2, li_3, li_4, li_5, li_6, li_7, li_8, li_9, li_10, li_11, li_12, li_14, li_15, li_16, li_18, li_20, li_22, li_23, li_24, li_29, li_30, li_31, li_32, li_33, li_40, li_48, li_54, li_55, li_56, li_57, li_59, li_60, li_63, li_64, li_97, li_98, li_99, li_100, li_103, li_107, li_108, li_112, li_121, li_206, li_212, li_232, li_240, li_255, li_256, li_261, li_270, ng_1, ng_2, ng_3, ng_4, ng_9, ng_10, m1_1, nI_m1, m1_nI, if_true, if_false, nI_add, pk_mul, pk_sub, nI_div, nI_rem, nI_eq, nI_leI, nI_ltI, nI_clamp, ck_in, ck_nz, bind_sm, upM_n, upM_m, upM_s, if_pos, if_neg, oe, q2, e1, e2, lf (fun r => r.2.2.elim q1 q2)])
      (by
        dsimp only
        unfold f_X6_speaks_94_94b
        simp (disch := omega) only [li_0, li_1, li_2, li_3, li_4, li_5, li_6, li_7, li_8, li_9, li_10, li_11, li_12, li_14, li_15, li_16, li_18, li_20, li_22, li_23, li_24, li_29, li_30, li_31, li_32, li_33, li_40, li_48, li_54, li_55, li_56, li_57, li_59, li_60, li_63, li_64, li_97, li_98, li_99, li_100, li_103, li_107, li_108, li_112, li_121, li_206, li_212, li_232, li_240, li_255, li_256, li_261, li_270, ng_1, ng_2, ng_3, ng_4, ng_9, ng_10, m1_1, nI_m1, m1_nI, if_true, if_false, nI_add, pk_mul, pk_sub, nI_div, nI_rem, nI_eq, nI_leI, nI_ltI, nI_clamp, ck_in, ck_nz, bind_sm, upM_n, upM_m, upM_s, if_pos, if_neg])
    rw [filM_0] at this
    exact this
  simp (disch := omega) only [li_0, li_1, li_2, li_3, li_4, li_5, li_6, li_7, li_8, li_9, li_10, li_11, li_12, li_14, li_15, li_16, li_18, li_20, li_22, li_23, li_24, li_29, li_30, li_31, li_32, li_33, li_40, li_48, li_54, li_55, li_56, li_57, li_59, li_60, li_63, li_64, li_97, li_98, li_99, li_100, li_103, li_107, li_108, li_112, li_121, li_206, li_212, li_232, li_240, li_255, li_256, li_261, li_270, ng_1, ng_2, ng_3, ng_4, ng_9, ng_10, m1_1, nI_m1, m1_nI, if_true, if_false, nI_add, pk_mul, pk_sub, nI_div, nI_rem, nI_eq, nI_leI, nI_ltI, nI_clamp, ck_in, ck_nz, bind_sm, upM_n, upM_m, upM_s, if_pos, if_neg, hv, e5, l1, l2]
