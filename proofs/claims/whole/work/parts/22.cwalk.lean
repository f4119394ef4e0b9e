-- THE CLASS'S WALK does the days
theorem ck_cp {α : Type} {t : Option α} {a b n n0 n1 : Nat} (h : a + n ≤ n0) (h2 : b + n ≤ n1) (h3 : n0 < 2147483648) (h4 : n1 < 2147483648) : ck (cpb (nI a) (nI b) (nI n) n0 n1) t = t := by
  have h1 : cpb (nI a) (nI b) (nI n) n0 n1 = true := decide_eq_true ⟨nI_pos (by omega), nI_pos (by omega), nI_pos (by omega), by rw [nI_clamp (by omega), nI_clamp (by omega)]; exact h, by rw [nI_clamp (by omega), nI_clamp (by omega)]; exact h2⟩
  simp [ck, h1]
theorem c_begin {w c : Nat} {σ : SS} {M : Mem} (hw : WI w c) (ok : OKS σ) (hS : SR c σ M) : ∃ M', f_X4_begin w M = some M' ∧ WD w σ 0 M' ∧ Fr w (w + 5) M M' := by
  obtain ⟨⟨ok1, ok2, ok3⟩, ok4, ok5, ok6, ok7, ok8⟩ := ok
  obtain ⟨⟨w0, w2, w3, w4, w5⟩, ⟨s1, s2, s4, s5, s7, s8, s9⟩, hcw⟩ := hw
  unfold SR at hS
  unfold WD WR f_X4_begin
  obtain ⟨⟨a1, a2, a3⟩, a4, a5, a6, a7, a8⟩ := hS
  simp (disch := omega) only [li_0, li_1, li_2, li_3, li_4, li_5, li_6, li_7, li_8, li_9, li_10, li_11, li_12, li_14, li_15, li_16, li_18, li_20, li_22, li_23, li_24, li_29, li_30, li_31, li_32, li_33, li_40, li_48, li_54, li_55, li_56, li_57, li_59, li_60, li_63, li_64, li_97, li_98, li_99, li_100, li_103, li_107, li_108, li_112, li_121, li_206, li_212, li_232, li_240, li_255, li_256, li_261, li_270, ng_1, ng_2, ng_3, ng_4, ng_9, ng_10, m1_1, nI_m1, m1_nI, if_true, if_false, nI_add, pk_mul, pk_sub, nI_div, nI_rem, nI_eq, nI_leI, nI_ltI, nI_clamp, ck_in, ck_nz, bind_sm, upM_n, upM_m, upM_s, if_pos, if_neg, ck_cp, w0, w2, s2]
  obtain ⟨e, h1, h2⟩ := loop_inv (B := fun s4 : Int32 × Mem => f_X4_begin_25_25b w s4.1 s4.2) (fun i s => s.1 = nI i ∧ Fr w (w + 5) M s.2 ∧ s.2 w 1 = m1 ∧ (∀ a t, a < nA σ → t < 5 → s.2 (w + 1) (a * 5 + t) = nI (mk0 σ a t)) ∧ ∀ p, p < i → s.2 (w + 3) p = nI (ow σ p) ∧ ∀ t, t < 5 → s.2 (w + 2) (p * 5 + t) = nI (if ow σ p < nA σ then mk0 σ (ow σ p) t else 5))
    (fun e => Fr w (w + 5) M e.2 ∧ e.2 w 1 = m1 ∧ (∀ a t, a < nA σ → t < 5 → e.2 (w + 1) (a * 5 + t) = nI (mk0 σ a t)) ∧ ∀ p, p < nP σ → e.2 (w + 3) p = nI (ow σ p) ∧ ∀ t, t < 5 → e.2 (w + 2) (p * 5 + t) = nI (if ow σ p < nA σ then mk0 σ (ow σ p) t else 5)) (nP σ)
    (s := (nI 0, cpM (upM M w 1 m1) (c + 2) 0 (w + 1) 0 40))
    (by
      refine ⟨rfl, fun k hk => ?_, ?_, fun a t ha ht => ?_, fun p hp => ?_⟩
      · show cpM _ _ _ _ _ _ k = M k
        rw [cpM_n (by omega), upM_n (by omega)]
      · show cpM _ _ _ _ _ _ w 1 = m1
        rw [cpM_n (by omega), upM_s]
      · show cpM _ _ _ _ _ _ (w + 1) _ = _
        rw [cpM_0 (by omega), upM_n (by omega)]
        exact a5 a t ha ht
      · omega)
    (by
      rintro i ⟨x, N⟩ hi ⟨rfl, hF, b1, b2, b3⟩
      dsimp only at hF b1 b2 b3 ⊢
      have e0 : N c 0 = nI (nA σ) := by rw [hF c (by omega)]; exact a1
      have e3 : N c 3 = nI (nP σ) := by rw [hF c (by omega)]; exact a2
      have e9 : N (c + 4) i = nI (ow σ i) := by rw [hF (c + 4) (by omega)]; exact a7 i hi
      have o7 := ok7 i
      have inner : loop (fun s2 : Int32 × Mem => f_X4_begin_55_55b w (nI i) (nI (ow σ i)) s2.1 s2.2) (nI 0, upM N (w + 3) i (nI (ow σ i))) = some (nI 5, filM (upM N (w + 3) i (nI (ow σ i))) (w + 2) (i * 5) 5 (fun t => nI (if ow σ i < nA σ then mk0 σ (ow σ i) t else 5))) := by
        have := loop_for (B := fun s2 : Int32 × Mem => f_X4_begin_55_55b w (nI i) (nI (ow σ i)) s2.1 s2.2) (fun j => (nI j, filM (upM N (w + 3) i (nI (ow σ i))) (w + 2) (i * 5) j (fun t => nI (if ow σ i < nA σ then mk0 σ (ow σ i) t else 5)))) 5 (e := (nI 5, filM (upM N (w + 3) i (nI (ow σ i))) (w + 2) (i * 5) 5 (fun t => nI (if ow σ i < nA σ then mk0 σ (ow σ i) t else 5)))) ?_ ?_
        · rw [filM_0] at this
          exact this
        · intro j hj
          dsimp only
          unfold f_X4_begin_55_55b f_X4_begin_94_55
          simp (disch := omega) only [li_0, li_1, li_2, li_3, li_4, li_5, li_6, li_7, li_8, li_9, li_10, li_11, li_12, li_14, li_15, li_16, li_18, li_20, li_22, li_23, li_24, li_29, li_30, li_31, li_32, li_33, li_40, li_48, li_54, li_55, li_56, li_57, li_59, li_60, li_63, li_64, li_97, li_98, li_99, li_100, li_103, li_107, li_108, li_112, li_121, li_206, li_212, li_232, li_240, li_255, li_256, li_261, li_270, ng_1, ng_2, ng_3, ng_4, ng_9, ng_10, m1_1, nI_m1, m1_nI, if_true, if_false, nI_add, pk_mul, pk_sub, nI_div, nI_rem, nI_eq, nI_leI, nI_ltI, nI_clamp, ck_in, ck_nz, bind_sm, upM_n, upM_m, upM_s, if_pos, if_neg, w0, w2, w3]
          rw [c_hasA (n := nA σ) (by simp (disch := omega) only [li_0, li_1, li_2, li_3, li_4, li_5, li_6, li_7, li_8, li_9, li_10, li_11, li_12, li_14, li_15, li_16, li_18, li_20, li_22, li_23, li_24, li_29, li_30, li_31, li_32, li_33, li_40, li_48, li_54, li_55, li_56, li_57, li_59, li_60, li_63, li_64, li_97, li_98, li_99, li_100, li_103, li_107, li_108, li_112, li_121, li_206, li_212, li_232, li_240, li_255, li_256, li_261, li_270, ng_1, ng_2, ng_3, ng_4, ng_9, ng_10, m1_1, nI_m1, m1_nI, if_true, if_false, nI_add, pk_mul, pk_sub, nI_div, nI_rem, nI_eq, nI_leI, nI_ltI, nI_clamp, ck_in, ck_nz, bind_sm, upM_n, upM_m, upM_s, if_pos, if_neg, filM_n, e0]) (by omega) (by omega)]
          by_cases ho : ow σ i < nA σ
          · have b2' := b2 (ow σ i) j ho hj
            simp (disch := omega) only [li_0, li_1, li_2, li_3, li_4, li_5, li_6, li_7, li_8, li_9, li_10, li_11, li_12, li_14, li_15, li_16, li_18, li_20, li_22, li_23, li_24, li_29, li_30, li_31, li_32, li_33, li_40, li_48, li_54, li_55, li_56, li_57, li_59, li_60, li_63, li_64, li_97, li_98, li_99, li_100, li_103, li_107, li_108, li_112, li_121, li_206, li_212, li_232, li_240, li_255, li_256, li_261, li_270, ng_1, ng_2, ng_3, ng_4, ng_9, ng_10, m1_1, nI_m1, m1_nI, if_true, if_false, nI_add, pk_mul, pk_sub, nI_div, nI_rem, nI_eq, nI_leI, nI_ltI, nI_clamp, ck_in, ck_nz, bind_sm, upM_n, upM_m, upM_s, if_pos, if_neg, filM_n, b2']
            rw [← filM_up]
          · simp (disch := omega) only [li_0, li_1, li_2, li_3, li_4, li_5, li_6, li_7, li_8, li_9, li_10, li_11, li_12, li_14, li_15, li_16, li_18, li_20, li_22, li_23, li_24, li_29, li_30, li_31, li_32, li_33, li_40, li_48, li_54, li_55, li_56, li_57, li_59, li_60, li_63, li_64, li_97, li_98, li_99, li_100, li_103, li_107, li_108, li_112, li_121, li_206, li_212, li_232, li_240, li_255, li_256, li_261, li_270, ng_1, ng_2, ng_3, ng_4, ng_9, ng_10, m1_1, nI_m1, m1_nI, if_true, if_false, nI_add, pk_mul, pk_sub, nI_div, nI_rem, nI_eq, nI_leI, nI_ltI, nI_clamp, ck_in, ck_nz, bind_sm, upM_n, upM_m, upM_s, if_pos, if_neg]
            rw [← filM_up]
        · dsimp only
          unfold f_X4_begin_55_55b
          simp (disch := omega) only [li_0, li_1, li_2, li_3, li_4, li_5, li_6, li_7, li_8, li_9, li_10, li_11, li_12, li_14, li_15, li_16, li_18, li_20, li_22, li_23, li_24, li_29, li_30, li_31, li_32, li_33, li_40, li_48, li_54, li_55, li_56, li_57, li_59, li_60, li_63, li_64, li_97, li_98, li_99, li_100, li_103, li_107, li_108, li_112, li_121, li_206, li_212, li_232, li_240, li_255, li_256, li_261, li_270, ng_1, ng_2, ng_3, ng_4, ng_9, ng_10, m1_1, nI_m1, m1_nI, if_true, if_false, nI_add, pk_mul, pk_sub, nI_div, nI_rem, nI_eq, nI_leI, nI_ltI, nI_clamp, ck_in, ck_nz, bind_sm, upM_n, upM_m, upM_s, if_pos, if_neg]
      refine ⟨(nI (i + 1), filM (upM N (w + 3) i (nI (ow σ i))) (w + 2) (i * 5) 5 (fun t => nI (if ow σ i < nA σ then mk0 σ (ow σ i) t else 5))), ?_, rfl, ?_, ?_, ?_, ?_⟩
      · unfold f_X4_begin_25_25b
        simp (disch := omega) only [li_0, li_1, li_2, li_3, li_4, li_5, li_6, li_7, li_8, li_9, li_10, li_11, li_12, li_14, li_15, li_16, li_18, li_20, li_22, li_23, li_24, li_29, li_30, li_31, li_32, li_33, li_40, li_48, li_54, li_55, li_56, li_57, li_59, li_60, li_63, li_64, li_97, li_98, li_99, li_100, li_103, li_107, li_108, li_112, li_121, li_206, li_212, li_232, li_240, li_255, li_256, li_261, li_270, ng_1, ng_2, ng_3, ng_4, ng_9, ng_10, m1_1, nI_m1, m1_nI, if_true, if_false, nI_add, pk_mul, pk_sub, nI_div, nI_rem, nI_eq, nI_leI, nI_ltI, nI_clamp, ck_in, ck_nz, bind_sm, upM_n, upM_m, upM_s, if_pos, if_neg, w0, w4, s5, e0, e3, e9, inner]
      · intro k hk
        dsimp only
        rw [filM_n (by omega), upM_n (by omega)]
        exact hF k hk
      · dsimp only
        rw [filM_n (by omega), upM_n (by omega)]
        exact b1
      · intro a t ha ht
        dsimp only
        rw [filM_n (by omega), upM_n (by omega)]
        exact b2 a t ha ht
      · intro p hp
        dsimp only
        by_cases hpi : p = i
        · subst hpi
          refine ⟨?_, fun t ht => ?_⟩
          · rw [filM_n (by omega), upM_s]
          · rw [filM_in (by omega) (by omega), Nat.add_sub_cancel_left]
        · obtain ⟨c1, c2⟩ := b3 p (by omega)
          refine ⟨?_, fun t ht => ?_⟩
          · rw [filM_n (by omega), upM_m (by omega)]; exact c1
          · rw [filM_out (by omega), upM_n (by omega)]; exact c2 t ht)
    (by
      rintro ⟨x, N⟩ ⟨rfl, hF, b1, b2, b3⟩
      dsimp only at hF b1 b2 b3 ⊢
      have e3 : N c 3 = nI (nP σ) := by rw [hF c (by omega)]; exact a2
      refine ⟨(nI (nP σ), N), ?_, hF, b1, b2, b3⟩
      unfold f_X4_begin_25_25b
      simp (disch := omega) only [li_0, li_1, li_2, li_3, li_4, li_5, li_6, li_7, li_8, li_9, li_10, li_11, li_12, li_14, li_15, li_16, li_18, li_20, li_22, li_23, li_24, li_29, li_30, li_31, li_32, li_33, li_40, li_48, li_54, li_55, li_56, li_57, li_59, li_60, li_63, li_64, li_97, li_98, li_99, li_100, li_103, li_107, li_108, li_112, li_121, li_206, li_212, li_232, li_240, li_255, li_256, li_261, li_270, ng_1, ng_2, ng_3, ng_4, ng_9, ng_10, m1_1, nI_m1, m1_nI, if_true, if_false, nI_add, pk_mul, pk_sub, nI_div, nI_rem, nI_eq, nI_leI, nI_ltI, nI_clamp, ck_in, ck_nz, bind_sm, upM_n, upM_m, upM_s, if_pos, if_neg, w0, e3])
  rw [h1]
  obtain ⟨b1, b2, b3, b4⟩ := h2
  refine ⟨e.2, rfl, ⟨⟨b3, fun p t hp ht => (b4 p hp).2 t ht, fun p hp => (b4 p hp).1⟩, ?_, ?_⟩, b1⟩
  · rw [b2]; rfl
  · intro h; omega
