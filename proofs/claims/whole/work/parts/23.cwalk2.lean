-- THE CLASS'S WALK: hirings, wearers, talk
theorem cnt_s {we : Nat → Nat} {a n : Nat} : cnt we a (n + 1) = cnt we a n + (if we n = a then 1 else 0) := rfl
theorem filM_up0 {M : Mem} {k n : Nat} {g : Nat → Int32} : upM (filM M k 0 n g) k n (g n) = filM M k 0 (n + 1) g := by
  have := filM_up (M := M) (k := k) (b := 0) (n := n) (g := g)
  rwa [Nat.zero_add] at this
theorem c_doH {w c d : Nat} {σ : SS} {M : Mem} {we : Nat → Nat} (hw : WI w c) (ok : OKS σ) (hS : SR c σ M) (hd : M w 1 = nI d) (hd2 : d < 30) (hv : ∀ p, p < nP σ → M (w + 3) p = nI (we p)) : ∃ M', f_X4_doHirings w M = some M' ∧ (∀ p, p < nP σ → M' (w + 3) p = nI (hireS σ d we p)) ∧ Fr (w + 3) (w + 4) M M' := by
  obtain ⟨⟨ok1, ok2, ok3⟩, ok4, ok5, ok6, ok7, ok8⟩ := ok
  obtain ⟨⟨w0, w2, w3, w4, w5⟩, ⟨s1, s2, s4, s5, s7, s8, s9⟩, hcw⟩ := hw
  obtain ⟨⟨a1, a2, a3⟩, a4, a5, a6, a7, a8⟩ := hS
  unfold f_X4_doHirings
  obtain ⟨e, h1, h2⟩ := loop_inv (B := fun s2 : Int32 × Mem => f_X4_doHirings_2_2b w s2.1 s2.2) (fun i s => s.1 = nI i ∧ Fr (w + 3) (w + 4) M s.2 ∧ ∀ p, p < nP σ → s.2 (w + 3) p = nI (((hs σ).take i).foldl (hire1 (nP σ) d) we p))
    (fun e => Fr (w + 3) (w + 4) M e.2 ∧ ∀ p, p < nP σ → e.2 (w + 3) p = nI (hireS σ d we p)) (hs σ).length (s := (nI 0, M))
    (by
      refine ⟨rfl, Fr.rf, fun p hp => ?_⟩
      rw [List.take_zero]
      exact hv p hp)
    (by
      rintro i ⟨x, N⟩ hi ⟨rfl, hF, b1⟩
      dsimp only at hF b1 ⊢
      obtain ⟨h, hh⟩ : ∃ h, (hs σ)[i]? = some h := ⟨_, List.getElem?_eq_getElem hi⟩
      obtain ⟨o1, o2, o3⟩ := ok8 h (List.mem_of_getElem? hh)
      obtain ⟨c1, c2, c3⟩ := a8 i h hh
      have e6 : N c 6 = nI (hs σ).length := by rw [hF c (by omega)]; exact a3
      have e3 : N c 3 = nI (nP σ) := by rw [hF c (by omega)]; exact a2
      have ed : N w 1 = nI d := by rw [hF w (by omega)]; exact hd
      have f1 : N (c + 5) i = nI h.1 := by rw [hF (c + 5) (by omega)]; exact c1
      have f2 : N (c + 6) i = nI h.2.1 := by rw [hF (c + 6) (by omega)]; exact c2
      have f3 : N (c + 7) i = nI h.2.2 := by rw [hF (c + 7) (by omega)]; exact c3
      have tk : ∀ p, ((hs σ).take (i + 1)).foldl (hire1 (nP σ) d) we p = hire1 (nP σ) d (((hs σ).take i).foldl (hire1 (nP σ) d) we) h p := by
        intro p
        rw [List.take_add_one, hh]
        simp [List.foldl_append]
      simp only [tk]
      unfold f_X4_doHirings_2_2b f_X4_doHirings_71_2
      by_cases q1 : h.1 = d
      · by_cases q2 : h.2.1 < nP σ
        · refine ⟨(nI (i + 1), upM N (w + 3) h.2.1 (nI h.2.2)), ?_, rfl, hF.up (by omega) (by omega), fun p hp => ?_⟩
          · simp (disch := omega) only [li_0, li_1, li_2, li_3, li_4, li_5, li_6, li_7, li_8, li_9, li_10, li_11, li_12, li_14, li_15, li_16, li_18, li_20, li_22, li_23, li_24, li_29, li_30, li_31, li_32, li_33, li_40, li_48, li_54, li_55, li_56, li_57, li_59, li_60, li_63, li_64, li_97, li_98, li_99, li_100, li_103, li_107, li_108, li_112, li_121, li_206, li_212, li_232, li_240, li_255, li_256, li_261, li_270, ng_1, ng_2, ng_3, ng_4, ng_9, ng_10, m1_1, nI_m1, m1_nI, if_true, if_false, nI_add, pk_mul, pk_sub, nI_div, nI_rem, nI_eq, nI_leI, nI_ltI, nI_clamp, ck_in, ck_nz, bind_sm, upM_n, upM_m, upM_s, if_pos, if_neg, w0, w4, s7, s8, s9, e6, ed, f1, f2, f3, q1, c_hasP e3 (show nP σ < 100 by omega) (show h.2.1 < 100 by omega)]
          · dsimp only
            unfold hire1
            rw [if_pos ⟨q1, q2⟩]
            by_cases q3 : p = h.2.1
            · subst q3
              rw [upM_s, if_pos rfl]
            · rw [upM_m q3, if_neg q3]
              exact b1 p hp
        · refine ⟨(nI (i + 1), N), ?_, rfl, hF, fun p hp => ?_⟩
          · simp (disch := omega) only [li_0, li_1, li_2, li_3, li_4, li_5, li_6, li_7, li_8, li_9, li_10, li_11, li_12, li_14, li_15, li_16, li_18, li_20, li_22, li_23, li_24, li_29, li_30, li_31, li_32, li_33, li_40, li_48, li_54, li_55, li_56, li_57, li_59, li_60, li_63, li_64, li_97, li_98, li_99, li_100, li_103, li_107, li_108, li_112, li_121, li_206, li_212, li_232, li_240, li_255, li_256, li_261, li_270, ng_1, ng_2, ng_3, ng_4, ng_9, ng_10, m1_1, nI_m1, m1_nI, if_true, if_false, nI_add, pk_mul, pk_sub, nI_div, nI_rem, nI_eq, nI_leI, nI_ltI, nI_clamp, ck_in, ck_nz, bind_sm, upM_n, upM_m, upM_s, if_pos, if_neg, w0, w4, s7, s8, s9, e6, ed, f1, f2, f3, q1, c_hasP e3 (show nP σ < 100 by omega) (show h.2.1 < 100 by omega)]
          · unfold hire1
            rw [if_neg (by omega)]
            exact b1 p hp
      · refine ⟨(nI (i + 1), N), ?_, rfl, hF, fun p hp => ?_⟩
        · simp (disch := omega) only [li_0, li_1, li_2, li_3, li_4, li_5, li_6, li_7, li_8, li_9, li_10, li_11, li_12, li_14, li_15, li_16, li_18, li_20, li_22, li_23, li_24, li_29, li_30, li_31, li_32, li_33, li_40, li_48, li_54, li_55, li_56, li_57, li_59, li_60, li_63, li_64, li_97, li_98, li_99, li_100, li_103, li_107, li_108, li_112, li_121, li_206, li_212, li_232, li_240, li_255, li_256, li_261, li_270, ng_1, ng_2, ng_3, ng_4, ng_9, ng_10, m1_1, nI_m1, m1_nI, if_true, if_false, nI_add, pk_mul, pk_sub, nI_div, nI_rem, nI_eq, nI_leI, nI_ltI, nI_clamp, ck_in, ck_nz, bind_sm, upM_n, upM_m, upM_s, if_pos, if_neg, w0, w4, s7, s8, s9, e6, ed, f1, f2, f3]
        · unfold hire1
          rw [if_neg (by omega)]
          exact b1 p hp)
    (by
      rintro ⟨x, N⟩ ⟨rfl, hF, b1⟩
      dsimp only at hF b1 ⊢
      have e6 : N c 6 = nI (hs σ).length := by rw [hF c (by omega)]; exact a3
      refine ⟨(nI (hs σ).length, N), ?_, hF, fun p hp => ?_⟩
      · unfold f_X4_doHirings_2_2b
        simp (disch := omega) only [li_0, li_1, li_2, li_3, li_4, li_5, li_6, li_7, li_8, li_9, li_10, li_11, li_12, li_14, li_15, li_16, li_18, li_20, li_22, li_23, li_24, li_29, li_30, li_31, li_32, li_33, li_40, li_48, li_54, li_55, li_56, li_57, li_59, li_60, li_63, li_64, li_97, li_98, li_99, li_100, li_103, li_107, li_108, li_112, li_121, li_206, li_212, li_232, li_240, li_255, li_256, li_261, li_270, ng_1, ng_2, ng_3, ng_4, ng_9, ng_10, m1_1, nI_m1, m1_nI, if_true, if_false, nI_add, pk_mul, pk_sub, nI_div, nI_rem, nI_eq, nI_leI, nI_ltI, nI_clamp, ck_in, ck_nz, bind_sm, upM_n, upM_m, upM_s, if_pos, if_neg, w0, e6]
      · have := b1 p hp
        rw [List.take_length] at this
        exact this)
  rw [show ((0 : Int32), M) = (nI 0, M) from rfl, h1]
  exact ⟨e.2, rfl, h2.2, h2.1⟩
theorem c_cntW {w c : Nat} {σ : SS} {M : Mem} {we : Nat → Nat} (hw : WI w c) (ok : OKS σ) (hS : SR c σ M) (hwe : ∀ p, we p < 8) (hv : ∀ p, p < nP σ → M (w + 3) p = nI (we p)) : ∃ M', f_X4_countWearers w M = some M' ∧ (∀ a, a < 8 → M' (w + 4) a = nI (cnt we a (nP σ))) ∧ Fr (w + 4) (w + 5) M M' := by
  obtain ⟨⟨ok1, ok2, ok3⟩, ok4, ok5, ok6, ok7, ok8⟩ := ok
  obtain ⟨⟨w0, w2, w3, w4, w5⟩, ⟨s1, s2, s4, s5, s7, s8, s9⟩, hcw⟩ := hw
  obtain ⟨⟨a1, a2, a3⟩, a4, a5, a6, a7, a8⟩ := hS
  unfold f_X4_countWearers
  have first : loop (fun s1 : Int32 × Mem => f_X4_countWearers_2_2b w s1.1 s1.2) (nI 0, M) = some (nI 8, filM M (w + 4) 0 8 (fun _ => nI 0)) := by
    have := loop_for (B := fun s1 : Int32 × Mem => f_X4_countWearers_2_2b w s1.1 s1.2) (fun j => (nI j, filM M (w + 4) 0 j (fun _ => nI 0))) 8 (e := (nI 8, filM M (w + 4) 0 8 (fun _ => nI 0)))
      (by
        intro j hj
        dsimp only
        unfold f_X4_countWearers_2_2b
        simp (disch := omega) only [li_0, li_1, li_2, li_3, li_4, li_5, li_6, li_7, li_8, li_9, li_10, li_11, li_12, li_14, li_15, li_16, li_18, li_20, li_22, li_23, li_24, li_29, li_30, li_31, li_32, li_33, li_40, li_48, li_54, li_55, li_56, li_57, li_59, li_60, li_63, li_64, li_97, li_98, li_99, li_100, li_103, li_107, li_108, li_112, li_121, li_206, li_212, li_232, li_240, li_255, li_256, li_261, li_270, ng_1, ng_2, ng_3, ng_4, ng_9, ng_10, m1_1, nI_m1, m1_nI, if_true, if_false, nI_add, pk_mul, pk_sub, nI_div, nI_rem, nI_eq, nI_leI, nI_ltI, nI_clamp, ck_in, ck_nz, bind_sm, upM_n, upM_m, upM_s, if_pos, if_neg, w5]
        rw [← filM_up0])
      (by
        dsimp only
        unfold f_X4_countWearers_2_2b
        simp (disch := omega) only [li_0, li_1, li_2, li_3, li_4, li_5, li_6, li_7, li_8, li_9, li_10, li_11, li_12, li_14, li_15, li_16, li_18, li_20, li_22, li_23, li_24, li_29, li_30, li_31, li_32, li_33, li_40, li_48, li_54, li_55, li_56, li_57, li_59, li_60, li_63, li_64, li_97, li_98, li_99, li_100, li_103, li_107, li_108, li_112, li_121, li_206, li_212, li_232, li_240, li_255, li_256, li_261, li_270, ng_1, ng_2, ng_3, ng_4, ng_9, ng_10, m1_1, nI_m1, m1_nI, if_true, if_false, nI_add, pk_mul, pk_sub, nI_div, nI_rem, nI_eq, nI_leI, nI_ltI, nI_clamp, ck_in, ck_nz, bind_sm, upM_n, upM_m, upM_s, if_pos, if_neg])
    rw [filM_0] at this
    exact this
  have cl : ∀ a i, cnt we a i ≤ i := by
    intro a i
    induction i with
    | zero => exact Nat.le_refl 0
    | succ i ih =>
      unfold cnt
      split <;> omega
  obtain ⟨e, h1, h2⟩ := loop_inv (B := fun s2 : Int32 × Mem => f_X4_countWearers_23_23b w s2.1 s2.2) (fun i s => s.1 = nI i ∧ Fr (w + 4) (w + 5) M s.2 ∧ ∀ a, a < 8 → s.2 (w + 4) a = nI (cnt we a i))
    (fun e => Fr (w + 4) (w + 5) M e.2 ∧ ∀ a, a < 8 → e.2 (w + 4) a = nI (cnt we a (nP σ))) (nP σ) (s := (nI 0, filM M (w + 4) 0 8 (fun _ => nI 0)))
    (by
      refine ⟨rfl, fun k hk => ?_, fun a ha => ?_⟩
      · dsimp only
        rw [filM_n (by omega)]
      · dsimp only
        rw [filM_in (by omega) (by omega)]
        rfl)
    (by
      rintro i ⟨x, N⟩ hi ⟨rfl, hF, b1⟩
      dsimp only at hF b1 ⊢
      have e3 : N c 3 = nI (nP σ) := by rw [hF c (by omega)]; exact a2
      have ew : N (w + 3) i = nI (we i) := by rw [hF (w + 3) (by omega)]; exact hv i hi
      have o1 := hwe i
      have o2 := cl (we i) i
      refine ⟨(nI (i + 1), upM N (w + 4) (we i) (nI (cnt we (we i) i + 1))), ?_, rfl, hF.up (by omega) (by omega), fun a ha => ?_⟩
      · unfold f_X4_countWearers_23_23b f_X4_countWearers_63_23 f_X5_isBelow
        simp (disch := omega) only [li_0, li_1, li_2, li_3, li_4, li_5, li_6, li_7, li_8, li_9, li_10, li_11, li_12, li_14, li_15, li_16, li_18, li_20, li_22, li_23, li_24, li_29, li_30, li_31, li_32, li_33, li_40, li_48, li_54, li_55, li_56, li_57, li_59, li_60, li_63, li_64, li_97, li_98, li_99, li_100, li_103, li_107, li_108, li_112, li_121, li_206, li_212, li_232, li_240, li_255, li_256, li_261, li_270, ng_1, ng_2, ng_3, ng_4, ng_9, ng_10, m1_1, nI_m1, m1_nI, if_true, if_false, nI_add, pk_mul, pk_sub, nI_div, nI_rem, nI_eq, nI_leI, nI_ltI, nI_clamp, ck_in, ck_nz, bind_sm, upM_n, upM_m, upM_s, if_pos, if_neg, w0, w4, w5, e3, ew, b1 (we i) o1]
      · dsimp only
        rw [cnt_s]
        by_cases q : a = we i
        · subst q
          rw [upM_s, if_pos rfl]
        · rw [upM_m q, if_neg (fun h => q h.symm)]
          exact b1 a ha)
    (by
      rintro ⟨x, N⟩ ⟨rfl, hF, b1⟩
      dsimp only at hF b1 ⊢
      have e3 : N c 3 = nI (nP σ) := by rw [hF c (by omega)]; exact a2
      refine ⟨(nI (nP σ), N), ?_, hF, b1⟩
      unfold f_X4_countWearers_23_23b
      simp (disch := omega) only [li_0, li_1, li_2, li_3, li_4, li_5, li_6, li_7, li_8, li_9, li_10, li_11, li_12, li_14, li_15, li_16, li_18, li_20, li_22, li_23, li_24, li_29, li_30, li_31, li_32, li_33, li_40, li_48, li_54, li_55, li_56, li_57, li_59, li_60, li_63, li_64, li_97, li_98, li_99, li_100, li_103, li_107, li_108, li_112, li_121, li_206, li_212, li_232, li_240, li_255, li_256, li_261, li_270, ng_1, ng_2, ng_3, ng_4, ng_9, ng_10, m1_1, nI_m1, m1_nI, if_true, if_false, nI_add, pk_mul, pk_sub, nI_div, nI_rem, nI_eq, nI_leI, nI_ltI, nI_clamp, ck_in, ck_nz, bind_sm, upM_n, upM_m, upM_s, if_pos, if_neg, w0, e3])
  simp only [li_0, first, bind_sm, h1]
  exact ⟨e.2, rfl, h2.2, h2.1⟩
theorem c_talk {w c t : Nat} {σ : SS} {M : Mem} {we : Nat → Nat} {mk : Nat → Nat → Nat} (hw : WI w c) (ok : OKS σ) (hS : SR c σ M) (ht : t < 5) (hmk : ∀ a s, mk a s < 10) (hc : ∀ a, a < 8 → M (w + 4) a = nI (cnt we a (nP σ))) (hm : ∀ a s, a < nA σ → s < 5 → M (w + 1) (a * 5 + s) = nI (mk a s)) : ∃ M', f_X4_talk w (nI t) M = some M' ∧ (∀ a s, a < nA σ → s < 5 → M' (w + 1) (a * 5 + s) = nI (if s = t ∧ a + 1 < nA σ ∧ cnt we a (nP σ) = 0 ∧ cnt we (a + 1) (nP σ) = 0 then tw (mk a s) (mk (a + 1) s) (so σ a) else mk a s)) ∧ Fr (w + 1) (w + 2) M M' := by
  obtain ⟨⟨ok1, ok2, ok3⟩, ok4, ok5, ok6, ok7, ok8⟩ := ok
  obtain ⟨⟨w0, w2, w3, w4, w5⟩, ⟨s1, s2, s4, s5, s7, s8, s9⟩, hcw⟩ := hw
  obtain ⟨⟨a1, a2, a3⟩, a4, a5, a6, a7, a8⟩ := hS
  unfold f_X4_talk
  have cl : ∀ a i, cnt we a i ≤ i := by
    intro a i
    induction i with
    | zero => exact Nat.le_refl 0
    | succ i ih =>
      unfold cnt
      split <;> omega
  obtain ⟨e, h1, h2⟩ := loop_inv (B := fun s2 : Int32 × Mem => f_X4_talk_2_2b w (nI t) s2.1 s2.2) (fun i q => q.1 = nI i ∧ Fr (w + 1) (w + 2) M q.2 ∧ ∀ a s, a < nA σ → s < 5 → q.2 (w + 1) (a * 5 + s) = nI (if a < i ∧ s = t ∧ a + 1 < nA σ ∧ cnt we a (nP σ) = 0 ∧ cnt we (a + 1) (nP σ) = 0 then tw (mk a s) (mk (a + 1) s) (so σ a) else mk a s))
    (fun e => Fr (w + 1) (w + 2) M e.2 ∧ ∀ a s, a < nA σ → s < 5 → e.2 (w + 1) (a * 5 + s) = nI (if s = t ∧ a + 1 < nA σ ∧ cnt we a (nP σ) = 0 ∧ cnt we (a + 1) (nP σ) = 0 then tw (mk a s) (mk (a + 1) s) (so σ a) else mk a s)) (nA σ - 1) (s := (nI 0, M))
    (by
      refine ⟨rfl, Fr.rf, fun a s ha hs => ?_⟩
      rw [if_neg (by omega)]
      exact hm a s ha hs)
    (by
      rintro i ⟨x, N⟩ hi ⟨rfl, hF, b1⟩
      dsimp only at hF b1 ⊢
      have e0 : N c 0 = nI (nA σ) := by rw [hF c (by omega)]; exact a1
      have k1 : N (w + 4) i = nI (cnt we i (nP σ)) := by rw [hF (w + 4) (by omega)]; exact hc i (by omega)
      have k2 : N (w + 4) (i + 1) = nI (cnt we (i + 1) (nP σ)) := by rw [hF (w + 4) (by omega)]; exact hc (i + 1) (by omega)
      have k3 : N (c + 1) i = nI (so σ i) := by rw [hF (c + 1) (by omega)]; exact a4 i (by omega)
      have m1' := b1 i t (by omega) ht
      rw [if_neg (by omega)] at m1'
      have m2' := b1 (i + 1) t (by omega) ht
      rw [if_neg (by omega)] at m2'
      have l1 := cl i (nP σ)
      have l2 := cl (i + 1) (nP σ)
      have m3' : N (w + 1) (i * 5 + t + 5) = nI (mk (i + 1) t) := by rw [show i * 5 + t + 5 = (i + 1) * 5 + t by omega]; exact m2'
      unfold f_X4_talk_2_2b f_X4_talk_73_2
      by_cases q1 : cnt we i (nP σ) = 0
      · by_cases q2 : cnt we (i + 1) (nP σ) = 0
        · refine ⟨(nI (i + 1), upM N (w + 1) (i * 5 + t) (nI (tw (mk i t) (mk (i + 1) t) (so σ i)))), ?_, rfl, hF.up (by omega) (by omega), fun a s ha hs => ?_⟩
          · simp (disch := omega) only [li_0, li_1, li_2, li_3, li_4, li_5, li_6, li_7, li_8, li_9, li_10, li_11, li_12, li_14, li_15, li_16, li_18, li_20, li_22, li_23, li_24, li_29, li_30, li_31, li_32, li_33, li_40, li_48, li_54, li_55, li_56, li_57, li_59, li_60, li_63, li_64, li_97, li_98, li_99, li_100, li_103, li_107, li_108, li_112, li_121, li_206, li_212, li_232, li_240, li_255, li_256, li_261, li_270, ng_1, ng_2, ng_3, ng_4, ng_9, ng_10, m1_1, nI_m1, m1_nI, if_true, if_false, nI_add, pk_mul, pk_sub, nI_div, nI_rem, nI_eq, nI_leI, nI_ltI, nI_clamp, ck_in, ck_nz, bind_sm, upM_n, upM_m, upM_s, if_pos, if_neg, w0, w2, w5, s1, e0, k1, k2, k3, m1', m3', c_towards (hmk i t) (hmk (i + 1) t) (ok4 i)]
          · dsimp only
            by_cases q3 : a = i ∧ s = t
            · obtain ⟨rfl, rfl⟩ := q3
              rw [upM_s, if_pos ⟨by omega, rfl, by omega, q1, q2⟩]
            · rw [upM_m (by omega), b1 a s ha hs]
              by_cases q4 : a < i ∧ s = t ∧ a + 1 < nA σ ∧ cnt we a (nP σ) = 0 ∧ cnt we (a + 1) (nP σ) = 0
              · rw [if_pos q4, if_pos ⟨by omega, q4.2⟩]
              · rw [if_neg q4, if_neg]
                rintro ⟨r1, r2, r3⟩
                exact q4 ⟨by omega, r2, r3⟩
        · refine ⟨(nI (i + 1), N), ?_, rfl, hF, fun a s ha hs => ?_⟩
          · simp (disch := omega) only [li_0, li_1, li_2, li_3, li_4, li_5, li_6, li_7, li_8, li_9, li_10, li_11, li_12, li_14, li_15, li_16, li_18, li_20, li_22, li_23, li_24, li_29, li_30, li_31, li_32, li_33, li_40, li_48, li_54, li_55, li_56, li_57, li_59, li_60, li_63, li_64, li_97, li_98, li_99, li_100, li_103, li_107, li_108, li_112, li_121, li_206, li_212, li_232, li_240, li_255, li_256, li_261, li_270, ng_1, ng_2, ng_3, ng_4, ng_9, ng_10, m1_1, nI_m1, m1_nI, if_true, if_false, nI_add, pk_mul, pk_sub, nI_div, nI_rem, nI_eq, nI_leI, nI_ltI, nI_clamp, ck_in, ck_nz, bind_sm, upM_n, upM_m, upM_s, if_pos, if_neg, w0, w2, w5, s1, e0, k1, k2, k3]
          · dsimp only
            rw [b1 a s ha hs]
            by_cases q4 : a < i ∧ s = t ∧ a + 1 < nA σ ∧ cnt we a (nP σ) = 0 ∧ cnt we (a + 1) (nP σ) = 0
            · rw [if_pos q4, if_pos ⟨by omega, q4.2⟩]
            · rw [if_neg q4, if_neg]
              rintro ⟨r1, r2, r3, r4, r5⟩
              by_cases q5 : a = i
              · subst q5; exact q2 r5
              · exact q4 ⟨by omega, r2, r3, r4, r5⟩
      · refine ⟨(nI (i + 1), N), ?_, rfl, hF, fun a s ha hs => ?_⟩
        · simp (disch := omega) only [li_0, li_1, li_2, li_3, li_4, li_5, li_6, li_7, li_8, li_9, li_10, li_11, li_12, li_14, li_15, li_16, li_18, li_20, li_22, li_23, li_24, li_29, li_30, li_31, li_32, li_33, li_40, li_48, li_54, li_55, li_56, li_57, li_59, li_60, li_63, li_64, li_97, li_98, li_99, li_100, li_103, li_107, li_108, li_112, li_121, li_206, li_212, li_232, li_240, li_255, li_256, li_261, li_270, ng_1, ng_2, ng_3, ng_4, ng_9, ng_10, m1_1, nI_m1, m1_nI, if_true, if_false, nI_add, pk_mul, pk_sub, nI_div, nI_rem, nI_eq, nI_leI, nI_ltI, nI_clamp, ck_in, ck_nz, bind_sm, upM_n, upM_m, upM_s, if_pos, if_neg, w0, w2, w5, s1, e0, k1, k2, k3]
        · dsimp only
          rw [b1 a s ha hs]
          by_cases q4 : a < i ∧ s = t ∧ a + 1 < nA σ ∧ cnt we a (nP σ) = 0 ∧ cnt we (a + 1) (nP σ) = 0
          · rw [if_pos q4, if_pos ⟨by omega, q4.2⟩]
          · rw [if_neg q4, if_neg]
            rintro ⟨r1, r2, r3, r4, r5⟩
            by_cases q5 : a = i
            · subst q5; exact q1 r4
            · exact q4 ⟨by omega, r2, r3, r4, r5⟩)
    (by
      rintro ⟨x, N⟩ ⟨rfl, hF, b1⟩
      dsimp only at hF b1 ⊢
      have e0 : N c 0 = nI (nA σ) := by rw [hF c (by omega)]; exact a1
      refine ⟨(nI (nA σ - 1), N), ?_, hF, fun a s ha hs => ?_⟩
      · unfold f_X4_talk_2_2b
        simp (disch := omega) only [li_0, li_1, li_2, li_3, li_4, li_5, li_6, li_7, li_8, li_9, li_10, li_11, li_12, li_14, li_15, li_16, li_18, li_20, li_22, li_23, li_24, li_29, li_30, li_31, li_32, li_33, li_40, li_48, li_54, li_55, li_56, li_57, li_59, li_60, li_63, li_64, li_97, li_98, li_99, li_100, li_103, li_107, li_108, li_112, li_121, li_206, li_212, li_232, li_240, li_255, li_256, li_261, li_270, ng_1, ng_2, ng_3, ng_4, ng_9, ng_10, m1_1, nI_m1, m1_nI, if_true, if_false, nI_add, pk_mul, pk_sub, nI_div, nI_rem, nI_eq, nI_leI, nI_ltI, nI_clamp, ck_in, ck_nz, bind_sm, upM_n, upM_m, upM_s, if_pos, if_neg, w0, e0]
      · dsimp only
        rw [b1 a s ha hs]
        by_cases q4 : s = t ∧ a + 1 < nA σ ∧ cnt we a (nP σ) = 0 ∧ cnt we (a + 1) (nP σ) = 0
        · rw [if_pos q4, if_pos ⟨by omega, q4⟩]
        · rw [if_neg q4, if_neg (fun r => q4 r.2)])
  rw [show ((0 : Int32), M) = (nI 0, M) from rfl, h1]
  exact ⟨e.2, rfl, h2.2, h2.1⟩
