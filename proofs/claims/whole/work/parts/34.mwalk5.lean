-- THE REFERENCE'S DAYS: a life
/-- the hirings that count -/
def Eff (σ : SS) (hl : List (Nat × Nat × Nat)) (g : Nat) (od : Option (Nat × Nat × Nat)) : Prop := hs σ = keepB g hl 0 ++ od.toList
theorem m_passes {d g : Nat} {σ : SS} {M : Mem} {hl : List (Nat × Nat × Nat)} {od : Option (Nat × Nat × Nat)} (ok : OKS σ) (hS : MS σ M) (hH : MH hl g od M) (okh : OKH (nP σ) hl g od) (he : Eff σ hl g od) (hd : d < 30) (hW : MW σ (wk σ d) M) (hD : DB σ d M) (hB : BE σ d M) :
    ∃ M', f_X6_passes (nI d) M = some M' ∧ MW σ (wk σ (d + 1)) M' ∧ DB σ (d + 1) M' ∧ BE σ (d + 1) M' ∧ Fr 59 68 M M' := by
  have ok1 := ok.1.1
  have ok2 := ok.1.2.1
  have okv := ok.wk d
  have okd := ok.wk (d + 1)
  obtain ⟨w1, w2, w3⟩ := hW
  obtain ⟨e1, h1, F1, p1⟩ := m_hires (d := d) (we := (wk σ d).2.2) hS ok2 hH okh hd w3
  -- the odd one
  have odd : ∃ M2, (if e1.2 49 14 = nI d then ck (inb (e1.2 49 15) 8) (f_X6_passes_102 (nI d) (upM e1.2 61 (e1.2 49 15).toNatClampNeg (e1.2 49 16))) else f_X6_passes_102 (nI d) e1.2) = f_X6_passes_102 (nI d) M2 ∧ Fr 61 62 M M2 ∧ ∀ p, p < nP σ → M2 61 p = nI (hireS σ d (wk σ d).2.2 p) := by
    unfold hireS
    rw [he, List.foldl_append]
    have h4 := hH.2.2.2
    cases od with
    | none =>
      have h4 : M 49 14 = m1 := h4
      refine ⟨e1.2, ?_, F1, p1⟩
      rw [F1 49 (by omega), h4, if_neg (fun r => of_eq_true' (m1_nI (by omega)) r)]
    | some o =>
      obtain ⟨g1, g2, g3⟩ : M 49 14 = nI o.1 ∧ M 49 15 = nI o.2.1 ∧ M 49 16 = nI o.2.2 := h4
      obtain ⟨o1, o2, o3⟩ := okh.2.2.2 o rfl
      rw [F1 49 (by omega), g1, g2, g3]
      show ∃ M2 : Mem, _ ∧ _ ∧ ∀ p, p < nP σ → M2 61 p = nI (hire1 (nP σ) d ((keepB g hl 0).foldl (hire1 (nP σ) d) (wk σ d).2.2) o p)
      by_cases q : o.1 = d
      · refine ⟨upM e1.2 61 o.2.1 (nI o.2.2), ?_, F1.up (by omega) (by omega), fun p hp => ?_⟩
        · simp (disch := omega) only [li_0, li_1, li_2, li_3, li_4, li_5, li_6, li_7, li_8, li_9, li_10, li_11, li_12, li_14, li_15, li_16, li_18, li_20, li_22, li_23, li_24, li_29, li_30, li_31, li_32, li_33, li_40, li_48, li_54, li_55, li_56, li_57, li_59, li_60, li_63, li_64, li_97, li_98, li_99, li_100, li_103, li_107, li_108, li_112, li_121, li_206, li_212, li_232, li_240, li_255, li_256, li_261, li_270, ng_1, ng_2, ng_3, ng_4, ng_9, ng_10, m1_1, nI_m1, m1_nI, if_true, if_false, nI_add, pk_mul, pk_sub, nI_div, nI_rem, nI_eq, nI_leI, nI_ltI, nI_clamp, ck_in, ck_nz, bind_sm, upM_n, upM_m, upM_s, if_pos, if_neg, q]
        · unfold hire1
          rw [if_pos ⟨q, o2⟩]
          by_cases q4 : p = o.2.1
          · subst q4
            rw [upM_s, if_pos rfl]
          · rw [upM_m q4, if_neg q4]
            exact p1 p hp
      · refine ⟨e1.2, ?_, F1, fun p hp => ?_⟩
        · simp (disch := omega) only [li_0, li_1, li_2, li_3, li_4, li_5, li_6, li_7, li_8, li_9, li_10, li_11, li_12, li_14, li_15, li_16, li_18, li_20, li_22, li_23, li_24, li_29, li_30, li_31, li_32, li_33, li_40, li_48, li_54, li_55, li_56, li_57, li_59, li_60, li_63, li_64, li_97, li_98, li_99, li_100, li_103, li_107, li_108, li_112, li_121, li_206, li_212, li_232, li_240, li_255, li_256, li_261, li_270, ng_1, ng_2, ng_3, ng_4, ng_9, ng_10, m1_1, nI_m1, m1_nI, if_true, if_false, nI_add, pk_mul, pk_sub, nI_div, nI_rem, nI_eq, nI_leI, nI_ltI, nI_clamp, ck_in, ck_nz, bind_sm, upM_n, upM_m, upM_s, if_pos, if_neg]
        · unfold hire1
          rw [if_neg (fun r => q r.1)]
          exact p1 p hp
  obtain ⟨M2, h2, F2, p2⟩ := odd
  -- the talk
  have talk : ∃ M3, f_X6_passes_102 (nI d) M2 = f_X6_passes_119 (nI d) M3 ∧ (∀ a s, a < nA σ → s < 5 → M3 59 (5 * a + s) = nI (talkS σ d (hireS σ d (wk σ d).2.2) (wk σ d).1 a s)) ∧ Fr 59 60 M2 M3 := by
    unfold f_X6_passes_102
    by_cases q : d % 7 = 6
    · obtain ⟨M3, f3, p3, F3⟩ := m_talk (t := d / 7) (we := hireS σ d (wk σ d).2.2) (mk := (wk σ d).1) (M := M2) ok (hS.fr (F2 49 (by omega)) (F2 56 (by omega)) (F2 57 (by omega))) (by omega) okv.1 okd.2.2 p2 (fun a s ha h => by rw [F2 59 (by omega)]; exact w1 a s ha h)
      refine ⟨M3, ?_, fun a s ha h => ?_, F3⟩
      · simp (disch := omega) only [li_0, li_1, li_2, li_3, li_4, li_5, li_6, li_7, li_8, li_9, li_10, li_11, li_12, li_14, li_15, li_16, li_18, li_20, li_22, li_23, li_24, li_29, li_30, li_31, li_32, li_33, li_40, li_48, li_54, li_55, li_56, li_57, li_59, li_60, li_63, li_64, li_97, li_98, li_99, li_100, li_103, li_107, li_108, li_112, li_121, li_206, li_212, li_232, li_240, li_255, li_256, li_261, li_270, ng_1, ng_2, ng_3, ng_4, ng_9, ng_10, m1_1, nI_m1, m1_nI, if_true, if_false, nI_add, pk_mul, pk_sub, nI_div, nI_rem, nI_eq, nI_leI, nI_ltI, nI_clamp, ck_in, ck_nz, bind_sm, upM_n, upM_m, upM_s, if_pos, if_neg, f3]
      · rw [p3 a s ha h]
        unfold talkS
        by_cases q4 : s = d / 7 ∧ a + 1 < nA σ ∧ cnt (hireS σ d (wk σ d).2.2) a (nP σ) = 0 ∧ cnt (hireS σ d (wk σ d).2.2) (a + 1) (nP σ) = 0
        · rw [if_pos q4, if_pos ⟨⟨q, q4.1⟩, q4.2⟩]
        · rw [if_neg q4, if_neg (fun r => q4 ⟨r.1.2, r.2⟩)]
    · refine ⟨M2, ?_, fun a s ha h => ?_, Fr.rf⟩
      · simp (disch := omega) only [li_0, li_1, li_2, li_3, li_4, li_5, li_6, li_7, li_8, li_9, li_10, li_11, li_12, li_14, li_15, li_16, li_18, li_20, li_22, li_23, li_24, li_29, li_30, li_31, li_32, li_33, li_40, li_48, li_54, li_55, li_56, li_57, li_59, li_60, li_63, li_64, li_97, li_98, li_99, li_100, li_103, li_107, li_108, li_112, li_121, li_206, li_212, li_232, li_240, li_255, li_256, li_261, li_270, ng_1, ng_2, ng_3, ng_4, ng_9, ng_10, m1_1, nI_m1, m1_nI, if_true, if_false, nI_add, pk_mul, pk_sub, nI_div, nI_rem, nI_eq, nI_leI, nI_ltI, nI_clamp, ck_in, ck_nz, bind_sm, upM_n, upM_m, upM_s, if_pos, if_neg]
      · rw [F2 59 (by omega), w1 a s ha h]
        unfold talkS
        rw [if_neg (fun r => q r.1.1)]
  obtain ⟨M3, h3, p3, F3⟩ := talk
  have back : ∀ k, (k < 59 ∨ 62 ≤ k) → M3 k = M k := fun k hk => by rw [F3 k (by omega), F2 k (by omega)]
  obtain ⟨M4, h4, q1, q2, q3, F4⟩ := m_119 (d := d) (M := M3) (we := hireS σ d (wk σ d).2.2) (mk := talkS σ d (hireS σ d (wk σ d).2.2) (wk σ d).1) (sp := (wk σ d).2.1) ok (hS.fr (back 49 (by omega)) (back 56 (by omega)) (back 57 (by omega))) hd rfl okv.2.1 (fun p hp => by rw [F3 61 (by omega)]; exact p2 p hp) p3 (fun p s hp h => by rw [F3 60 (by omega), F2 60 (by omega)]; exact w2 p s hp h)
    (by
      intro d' hd'
      rw [back 62 (by omega), back 63 (by omega), back 64 (by omega), back 65 (by omega), back 66 (by omega)]
      exact hD d' hd')
    (by
      intro p hp
      rw [back 67 (by omega)]
      exact hB p hp)
  refine ⟨M4, ?_, q1, q2, q3, fun k hk => ?_⟩
  · unfold f_X6_passes
    simp only [li_0, h1, bind_sm]
    rw [h2, h3, h4]
  · rw [F4 k (by omega)]
    exact back k (by omega)
/-- what the reference knows behind a life -/
def LV' (σ : SS) (M : Mem) : Prop := MW σ (wk σ 30) M ∧ DB σ 30 M ∧ BE σ 30 M
theorem m_lives {g : Nat} {σ : SS} {M : Mem} {hl : List (Nat × Nat × Nat)} {od : Option (Nat × Nat × Nat)} (ok : OKS σ) (hS : MS σ M) (hH : MH hl g od M) (okh : OKH (nP σ) hl g od) (he : Eff σ hl g od) : ∃ M', f_X6_lives M = some M' ∧ LV' σ M' ∧ Fr 59 68 M M' := by
  have okk := ok
  obtain ⟨⟨ok1, ok2, ok3⟩, ok4, ok5, ok6, ok7, ok8⟩ := ok
  have hSS := hS
  obtain ⟨⟨a1, a2⟩, a3, a4, a5, a6⟩ := hS
  unfold f_X6_lives
  -- the drawers
  obtain ⟨e1, h1, F1, p1⟩ := loop_inv (B := fun s3 : Int32 × Mem => f_X6_lives_2_2b s3.1 s3.2) (fun i q => q.1 = nI i ∧ Fr 59 60 M q.2 ∧ ∀ a s, a < i → s < 5 → q.2 59 (5 * a + s) = nI (mk0 σ a s))
    (fun e => Fr 59 60 M e.2 ∧ ∀ a s, a < nA σ → s < 5 → e.2 59 (5 * a + s) = nI (mk0 σ a s)) (nA σ) (s := (nI 0, M))
    (by exact ⟨rfl, Fr.rf, fun a s ha h => by omega⟩)
    (by
      rintro i ⟨x, N⟩ hi ⟨rfl, hF, b1⟩
      dsimp only at hF b1 ⊢
      have e7 : N 49 7 = nI (nA σ) := by rw [hF 49 (by omega)]; exact a1
      have inner : loop (fun s1 : Int32 × Mem => f_X6_lives_12_12b (nI i) s1.1 s1.2) (nI 0, N) = some (nI 5, filM N 59 (5 * i) 5 (fun t => nI (mk0 σ i t))) := by
        have := loop_for (B := fun s1 : Int32 × Mem => f_X6_lives_12_12b (nI i) s1.1 s1.2) (fun j => (nI j, filM N 59 (5 * i) j (fun t => nI (mk0 σ i t)))) 5 (e := (nI 5, filM N 59 (5 * i) 5 (fun t => nI (mk0 σ i t))))
          (by
            intro j hj
            dsimp only
            have e4 : N 56 (6 * i + 1 + j) = nI (mk0 σ i j) := by rw [hF 56 (by omega)]; exact a4 i j hi hj
            unfold f_X6_lives_12_12b
            simp (disch := omega) only [li_0, li_1, li_2, li_3, li_4, li_5, li_6, li_7, li_8, li_9, li_10, li_11, li_12, li_14, li_15, li_16, li_18, li_20, li_22, li_23, li_24, li_29, li_30, li_31, li_32, li_33, li_40, li_48, li_54, li_55, li_56, li_57, li_59, li_60, li_63, li_64, li_97, li_98, li_99, li_100, li_103, li_107, li_108, li_112, li_121, li_206, li_212, li_232, li_240, li_255, li_256, li_261, li_270, ng_1, ng_2, ng_3, ng_4, ng_9, ng_10, m1_1, nI_m1, m1_nI, if_true, if_false, nI_add, pk_mul, pk_sub, nI_div, nI_rem, nI_eq, nI_leI, nI_ltI, nI_clamp, ck_in, ck_nz, bind_sm, upM_n, upM_m, upM_s, if_pos, if_neg, filM_n, e4]
            rw [← filM_up])
          (by
            dsimp only
            unfold f_X6_lives_12_12b
            simp (disch := omega) only [li_0, li_1, li_2, li_3, li_4, li_5, li_6, li_7, li_8, li_9, li_10, li_11, li_12, li_14, li_15, li_16, li_18, li_20, li_22, li_23, li_24, li_29, li_30, li_31, li_32, li_33, li_40, li_48, li_54, li_55, li_56, li_57, li_59, li_60, li_63, li_64, li_97, li_98, li_99, li_100, li_103, li_107, li_108, li_112, li_121, li_206, li_212, li_232, li_240, li_255, li_256, li_261, li_270, ng_1, ng_2, ng_3, ng_4, ng_9, ng_10, m1_1, nI_m1, m1_nI, if_true, if_false, nI_add, pk_mul, pk_sub, nI_div, nI_rem, nI_eq, nI_leI, nI_ltI, nI_clamp, ck_in, ck_nz, bind_sm, upM_n, upM_m, upM_s, if_pos, if_neg])
        rw [filM_0] at this
        exact this
      refine ⟨(nI (i + 1), filM N 59 (5 * i) 5 (fun t => nI (mk0 σ i t))), ?_, rfl, fun k hk => ?_, fun a s ha h => ?_⟩
      · unfold f_X6_lives_2_2b
        simp (disch := omega) only [li_0, li_1, li_2, li_3, li_4, li_5, li_6, li_7, li_8, li_9, li_10, li_11, li_12, li_14, li_15, li_16, li_18, li_20, li_22, li_23, li_24, li_29, li_30, li_31, li_32, li_33, li_40, li_48, li_54, li_55, li_56, li_57, li_59, li_60, li_63, li_64, li_97, li_98, li_99, li_100, li_103, li_107, li_108, li_112, li_121, li_206, li_212, li_232, li_240, li_255, li_256, li_261, li_270, ng_1, ng_2, ng_3, ng_4, ng_9, ng_10, m1_1, nI_m1, m1_nI, if_true, if_false, nI_add, pk_mul, pk_sub, nI_div, nI_rem, nI_eq, nI_leI, nI_ltI, nI_clamp, ck_in, ck_nz, bind_sm, upM_n, upM_m, upM_s, if_pos, if_neg, e7, inner]
      · dsimp only
        rw [filM_n (by omega)]
        exact hF k hk
      · dsimp only
        by_cases q : a = i
        · subst q
          rw [filM_in (by omega) (by omega), Nat.add_sub_cancel_left]
        · rw [filM_out (by omega)]
          exact b1 a s (by omega) h)
    (by
      rintro ⟨x, N⟩ ⟨rfl, hF, b1⟩
      dsimp only at hF b1 ⊢
      have e7 : N 49 7 = nI (nA σ) := by rw [hF 49 (by omega)]; exact a1
      refine ⟨(nI (nA σ), N), ?_, hF, b1⟩
      unfold f_X6_lives_2_2b
      simp (disch := omega) only [li_0, li_1, li_2, li_3, li_4, li_5, li_6, li_7, li_8, li_9, li_10, li_11, li_12, li_14, li_15, li_16, li_18, li_20, li_22, li_23, li_24, li_29, li_30, li_31, li_32, li_33, li_40, li_48, li_54, li_55, li_56, li_57, li_59, li_60, li_63, li_64, li_97, li_98, li_99, li_100, li_103, li_107, li_108, li_112, li_121, li_206, li_212, li_232, li_240, li_255, li_256, li_261, li_270, ng_1, ng_2, ng_3, ng_4, ng_9, ng_10, m1_1, nI_m1, m1_nI, if_true, if_false, nI_add, pk_mul, pk_sub, nI_div, nI_rem, nI_eq, nI_leI, nI_ltI, nI_clamp, ck_in, ck_nz, bind_sm, upM_n, upM_m, upM_s, if_pos, if_neg, e7])
  -- the people
  obtain ⟨e2, h2, F2, p2⟩ := loop_inv (B := fun s8 : Int32 × Mem => f_X6_lives_54_54b s8.1 s8.2) (fun i q => q.1 = nI i ∧ (∀ k, (k ≠ 60 ∧ k ≠ 61 ∧ k ≠ 67) → q.2 k = e1.2 k) ∧ ∀ p, p < i → q.2 61 p = nI (ow σ p) ∧ q.2 67 p = m1 ∧ ∀ s, s < 5 → q.2 60 (5 * p + s) = nI (if ow σ p < nA σ then mk0 σ (ow σ p) s else 5))
    (fun e => (∀ k, (k ≠ 60 ∧ k ≠ 61 ∧ k ≠ 67) → e.2 k = e1.2 k) ∧ ∀ p, p < nP σ → e.2 61 p = nI (ow σ p) ∧ e.2 67 p = m1 ∧ ∀ s, s < 5 → e.2 60 (5 * p + s) = nI (if ow σ p < nA σ then mk0 σ (ow σ p) s else 5)) (nP σ) (s := (nI 0, e1.2))
    (by exact ⟨rfl, fun _ _ => rfl, fun p hp => by omega⟩)
    (by
      rintro i ⟨x, N⟩ hi ⟨rfl, hF, b1⟩
      dsimp only at hF b1 ⊢
      have e7 : N 49 7 = nI (nA σ) := by rw [hF 49 (by omega), F1 49 (by omega)]; exact a1
      have e9 : N 49 9 = nI (nP σ) := by rw [hF 49 (by omega), F1 49 (by omega)]; exact a2
      have e57 : N 57 (2 * i + 1) = nI (ow σ i) := by rw [hF 57 (by omega), F1 57 (by omega)]; exact a6 i hi
      have o7 := ok7 i
      have inner : loop (fun s6 : Int32 × Mem => f_X6_lives_89_89b (nI i) (nI (ow σ i)) s6.1 s6.2) (nI 0, upM (upM N 61 i (nI (ow σ i))) 67 i m1) = some (nI 5, filM (upM (upM N 61 i (nI (ow σ i))) 67 i m1) 60 (5 * i) 5 (fun t => nI (if ow σ i < nA σ then mk0 σ (ow σ i) t else 5))) := by
        have := loop_for (B := fun s6 : Int32 × Mem => f_X6_lives_89_89b (nI i) (nI (ow σ i)) s6.1 s6.2) (fun j => (nI j, filM (upM (upM N 61 i (nI (ow σ i))) 67 i m1) 60 (5 * i) j (fun t => nI (if ow σ i < nA σ then mk0 σ (ow σ i) t else 5)))) 5 (e := (nI 5, filM (upM (upM N 61 i (nI (ow σ i))) 67 i m1) 60 (5 * i) 5 (fun t => nI (if ow σ i < nA σ then mk0 σ (ow σ i) t else 5))))
          (by
            intro j hj
            dsimp only
            unfold f_X6_lives_89_89b f_X6_lives_128_89
            simp (disch := omega) only [li_0, li_1, li_2, li_3, li_4, li_5, li_6, li_7, li_8, li_9, li_10, li_11, li_12, li_14, li_15, li_16, li_18, li_20, li_22, li_23, li_24, li_29, li_30, li_31, li_32, li_33, li_40, li_48, li_54, li_55, li_56, li_57, li_59, li_60, li_63, li_64, li_97, li_98, li_99, li_100, li_103, li_107, li_108, li_112, li_121, li_206, li_212, li_232, li_240, li_255, li_256, li_261, li_270, ng_1, ng_2, ng_3, ng_4, ng_9, ng_10, m1_1, nI_m1, m1_nI, if_true, if_false, nI_add, pk_mul, pk_sub, nI_div, nI_rem, nI_eq, nI_leI, nI_ltI, nI_clamp, ck_in, ck_nz, bind_sm, upM_n, upM_m, upM_s, if_pos, if_neg]
            rw [m_isA (n := nA σ) (by simp (disch := omega) only [li_0, li_1, li_2, li_3, li_4, li_5, li_6, li_7, li_8, li_9, li_10, li_11, li_12, li_14, li_15, li_16, li_18, li_20, li_22, li_23, li_24, li_29, li_30, li_31, li_32, li_33, li_40, li_48, li_54, li_55, li_56, li_57, li_59, li_60, li_63, li_64, li_97, li_98, li_99, li_100, li_103, li_107, li_108, li_112, li_121, li_206, li_212, li_232, li_240, li_255, li_256, li_261, li_270, ng_1, ng_2, ng_3, ng_4, ng_9, ng_10, m1_1, nI_m1, m1_nI, if_true, if_false, nI_add, pk_mul, pk_sub, nI_div, nI_rem, nI_eq, nI_leI, nI_ltI, nI_clamp, ck_in, ck_nz, bind_sm, upM_n, upM_m, upM_s, if_pos, if_neg, filM_n, e7]) (by omega) (by omega)]
            by_cases ho : ow σ i < nA σ
            · have e4 : N 56 (6 * ow σ i + 1 + j) = nI (mk0 σ (ow σ i) j) := by rw [hF 56 (by omega), F1 56 (by omega)]; exact a4 _ j ho hj
              simp (disch := omega) only [li_0, li_1, li_2, li_3, li_4, li_5, li_6, li_7, li_8, li_9, li_10, li_11, li_12, li_14, li_15, li_16, li_18, li_20, li_22, li_23, li_24, li_29, li_30, li_31, li_32, li_33, li_40, li_48, li_54, li_55, li_56, li_57, li_59, li_60, li_63, li_64, li_97, li_98, li_99, li_100, li_103, li_107, li_108, li_112, li_121, li_206, li_212, li_232, li_240, li_255, li_256, li_261, li_270, ng_1, ng_2, ng_3, ng_4, ng_9, ng_10, m1_1, nI_m1, m1_nI, if_true, if_false, nI_add, pk_mul, pk_sub, nI_div, nI_rem, nI_eq, nI_leI, nI_ltI, nI_clamp, ck_in, ck_nz, bind_sm, upM_n, upM_m, upM_s, if_pos, if_neg, filM_n, e4]
              rw [← filM_up]
            · simp (disch := omega) only [li_0, li_1, li_2, li_3, li_4, li_5, li_6, li_7, li_8, li_9, li_10, li_11, li_12, li_14, li_15, li_16, li_18, li_20, li_22, li_23, li_24, li_29, li_30, li_31, li_32, li_33, li_40, li_48, li_54, li_55, li_56, li_57, li_59, li_60, li_63, li_64, li_97, li_98, li_99, li_100, li_103, li_107, li_108, li_112, li_121, li_206, li_212, li_232, li_240, li_255, li_256, li_261, li_270, ng_1, ng_2, ng_3, ng_4, ng_9, ng_10, m1_1, nI_m1, m1_nI, if_true, if_false, nI_add, pk_mul, pk_sub, nI_div, nI_rem, nI_eq, nI_leI, nI_ltI, nI_clamp, ck_in, ck_nz, bind_sm, upM_n, upM_m, upM_s, if_pos, if_neg, filM_n]
              rw [← filM_up])
          (by
            dsimp only
            unfold f_X6_lives_89_89b
            simp (disch := omega) only [li_0, li_1, li_2, li_3, li_4, li_5, li_6, li_7, li_8, li_9, li_10, li_11, li_12, li_14, li_15, li_16, li_18, li_20, li_22, li_23, li_24, li_29, li_30, li_31, li_32, li_33, li_40, li_48, li_54, li_55, li_56, li_57, li_59, li_60, li_63, li_64, li_97, li_98, li_99, li_100, li_103, li_107, li_108, li_112, li_121, li_206, li_212, li_232, li_240, li_255, li_256, li_261, li_270, ng_1, ng_2, ng_3, ng_4, ng_9, ng_10, m1_1, nI_m1, m1_nI, if_true, if_false, nI_add, pk_mul, pk_sub, nI_div, nI_rem, nI_eq, nI_leI, nI_ltI, nI_clamp, ck_in, ck_nz, bind_sm, upM_n, upM_m, upM_s, if_pos, if_neg])
        rw [filM_0] at this
        exact this
      refine ⟨(nI (i + 1), filM (upM (upM N 61 i (nI (ow σ i))) 67 i m1) 60 (5 * i) 5 (fun t => nI (if ow σ i < nA σ then mk0 σ (ow σ i) t else 5))), ?_, rfl, fun k hk => ?_, fun p hp => ?_⟩
      · unfold f_X6_lives_54_54b
        simp (disch := omega) only [li_0, li_1, li_2, li_3, li_4, li_5, li_6, li_7, li_8, li_9, li_10, li_11, li_12, li_14, li_15, li_16, li_18, li_20, li_22, li_23, li_24, li_29, li_30, li_31, li_32, li_33, li_40, li_48, li_54, li_55, li_56, li_57, li_59, li_60, li_63, li_64, li_97, li_98, li_99, li_100, li_103, li_107, li_108, li_112, li_121, li_206, li_212, li_232, li_240, li_255, li_256, li_261, li_270, ng_1, ng_2, ng_3, ng_4, ng_9, ng_10, m1_1, nI_m1, m1_nI, if_true, if_false, nI_add, pk_mul, pk_sub, nI_div, nI_rem, nI_eq, nI_leI, nI_ltI, nI_clamp, ck_in, ck_nz, bind_sm, upM_n, upM_m, upM_s, if_pos, if_neg, e9, e57, inner]
      · dsimp only
        rw [filM_n (by omega), upM_n (by omega), upM_n (by omega)]
        exact hF k hk
      · dsimp only
        by_cases q : p = i
        · subst q
          refine ⟨?_, ?_, fun s h => ?_⟩
          · rw [filM_n (by omega), upM_n (by omega), upM_s]
          · rw [filM_n (by omega), upM_s]
          · rw [filM_in (by omega) (by omega), Nat.add_sub_cancel_left]
        · obtain ⟨c1, c2, c3⟩ := b1 p (by omega)
          refine ⟨?_, ?_, fun s h => ?_⟩
          · rw [filM_n (by omega), upM_n (by omega), upM_m q]; exact c1
          · rw [filM_n (by omega), upM_m q, upM_n (by omega)]; exact c2
          · rw [filM_out (by omega), upM_n (by omega), upM_n (by omega)]; exact c3 s h)
    (by
      rintro ⟨x, N⟩ ⟨rfl, hF, b1⟩
      dsimp only at hF b1 ⊢
      have e9 : N 49 9 = nI (nP σ) := by rw [hF 49 (by omega), F1 49 (by omega)]; exact a2
      refine ⟨(nI (nP σ), N), ?_, hF, b1⟩
      unfold f_X6_lives_54_54b
      simp (disch := omega) only [li_0, li_1, li_2, li_3, li_4, li_5, li_6, li_7, li_8, li_9, li_10, li_11, li_12, li_14, li_15, li_16, li_18, li_20, li_22, li_23, li_24, li_29, li_30, li_31, li_32, li_33, li_40, li_48, li_54, li_55, li_56, li_57, li_59, li_60, li_63, li_64, li_97, li_98, li_99, li_100, li_103, li_107, li_108, li_112, li_121, li_206, li_212, li_232, li_240, li_255, li_256, li_261, li_270, ng_1, ng_2, ng_3, ng_4, ng_9, ng_10, m1_1, nI_m1, m1_nI, if_true, if_false, nI_add, pk_mul, pk_sub, nI_div, nI_rem, nI_eq, nI_leI, nI_ltI, nI_clamp, ck_in, ck_nz, bind_sm, upM_n, upM_m, upM_s, if_pos, if_neg, e9])
  have back : ∀ k, (k < 59 ∨ 68 ≤ k) → e2.2 k = M k := fun k hk => by rw [F2 k (by omega), F1 k (by omega)]
  -- the days
  obtain ⟨e3, h3, F3, p3⟩ := loop_inv (B := fun s11 : Int32 × Mem => f_X6_lives_143_143b s11.1 s11.2) (fun i q => q.1 = nI i ∧ Fr 59 68 M q.2 ∧ MW σ (wk σ i) q.2 ∧ DB σ i q.2 ∧ BE σ i q.2)
    (fun e => Fr 59 68 M e.2 ∧ LV' σ e.2) 30 (s := (nI 0, e2.2))
    (by
      refine ⟨rfl, back, ⟨fun a s ha h => ?_, fun p s hp h => (p2 p hp).2.2 s h, fun p hp => (p2 p hp).1⟩, fun d hd => by omega, fun p hp => (p2 p hp).2.1⟩
      show e2.2 59 _ = _
      rw [F2 59 (by omega)]
      exact p1 a s ha h)
    (by
      rintro i ⟨x, N⟩ hi ⟨rfl, hF, b1, b2, b3⟩
      dsimp only at hF b1 b2 b3 ⊢
      obtain ⟨N', g1, g2, g3, g4, g5⟩ := m_passes (d := i) (M := N) okk (hSS.fr (hF 49 (by omega)) (hF 56 (by omega)) (hF 57 (by omega))) (hH.fr (hF 49 (by omega)) (hF 58 (by omega))) okh he hi b1 b2 b3
      refine ⟨(nI (i + 1), N'), ?_, rfl, hF.tr g5, g2, g3, g4⟩
      unfold f_X6_lives_143_143b
      simp (disch := omega) only [li_0, li_1, li_2, li_3, li_4, li_5, li_6, li_7, li_8, li_9, li_10, li_11, li_12, li_14, li_15, li_16, li_18, li_20, li_22, li_23, li_24, li_29, li_30, li_31, li_32, li_33, li_40, li_48, li_54, li_55, li_56, li_57, li_59, li_60, li_63, li_64, li_97, li_98, li_99, li_100, li_103, li_107, li_108, li_112, li_121, li_206, li_212, li_232, li_240, li_255, li_256, li_261, li_270, ng_1, ng_2, ng_3, ng_4, ng_9, ng_10, m1_1, nI_m1, m1_nI, if_true, if_false, nI_add, pk_mul, pk_sub, nI_div, nI_rem, nI_eq, nI_leI, nI_ltI, nI_clamp, ck_in, ck_nz, bind_sm, upM_n, upM_m, upM_s, if_pos, if_neg, g1])
    (by
      rintro ⟨x, N⟩ ⟨rfl, hF, b1, b2, b3⟩
      dsimp only at hF b1 b2 b3 ⊢
      refine ⟨(nI 30, N), ?_, hF, b1, b2, b3⟩
      unfold f_X6_lives_143_143b
      simp (disch := omega) only [li_0, li_1, li_2, li_3, li_4, li_5, li_6, li_7, li_8, li_9, li_10, li_11, li_12, li_14, li_15, li_16, li_18, li_20, li_22, li_23, li_24, li_29, li_30, li_31, li_32, li_33, li_40, li_48, li_54, li_55, li_56, li_57, li_59, li_60, li_63, li_64, li_97, li_98, li_99, li_100, li_103, li_107, li_108, li_112, li_121, li_206, li_212, li_232, li_240, li_255, li_256, li_261, li_270, ng_1, ng_2, ng_3, ng_4, ng_9, ng_10, m1_1, nI_m1, m1_nI, if_true, if_false, nI_add, pk_mul, pk_sub, nI_div, nI_rem, nI_eq, nI_leI, nI_ltI, nI_clamp, ck_in, ck_nz, bind_sm, upM_n, upM_m, upM_s, if_pos, if_neg])
  simp only [li_0, h1, bind_sm, h2, h3]
  exact ⟨_, rfl, p3, F3⟩
