-- THE REFERENCE'S DAYS: a day, a life
theorem up_fil {M : Mem} {k k' i b n : Nat} {x : Int32} {g : Nat → Int32} (h : k ≠ k') : upM (filM M k' b n g) k i x = filM (upM M k i x) k' b n g := by
  funext a j
  by_cases h1 : a = k
  · subst h1
    rw [filM_n h]
    by_cases h2 : j = i
    · subst h2; rw [upM_s, upM_s]
    · rw [upM_m h2, upM_m h2, filM_n h]
  · rw [upM_n h1]
    by_cases h3 : a = k'
    · subst h3
      unfold filM
      simp only [if_true]
      rw [upM_n h1]
    · rw [filM_n h3, filM_n h3, upM_n h1]
/-- what the reference keeps of the days below n -/
def DB (σ : SS) (n : Nat) (M : Mem) : Prop := ∀ d, d < n → (∀ a s, a < nA σ → s < 5 → M 62 (40 * d + (5 * a + s)) = nI ((wk σ (d + 1)).1 a s)) ∧ (∀ p s, p < nP σ → s < 5 → M 63 (40 * d + (5 * p + s)) = nI ((wk σ (d + 1)).2.1 p s)) ∧ ∀ p, p < nP σ → M 64 (8 * d + p) = nI ((wk σ (d + 1)).2.2 p) ∧ M 65 (8 * d + p) = oi (tk σ (wk σ (d + 1)) p) ∧ M 66 (8 * d + p) = oi (tkf σ (wk σ (d + 1)) p)
def BE (σ : SS) (n : Nat) (M : Mem) : Prop := ∀ p, p < nP σ → M 67 p = oi (bec σ p n)
theorem m_hires {d g : Nat} {σ : SS} {M : Mem} {we : Nat → Nat} {hl : List (Nat × Nat × Nat)} {od : Option (Nat × Nat × Nat)} (hS : MS σ M) (hn : nP σ ≤ 8) (hH : MH hl g od M) (okh : OKH (nP σ) hl g od) (hd : d < 30) (hv : ∀ p, p < nP σ → M 61 p = nI (we p)) : ∃ e : Int32 × Mem, loop (fun s3 : Int32 × Mem => f_X6_passes_2_2b (nI d) s3.1 s3.2) (nI 0, M) = some e ∧ Fr 61 62 M e.2 ∧ ∀ p, p < nP σ → e.2 61 p = nI ((keepB g hl 0).foldl (hire1 (nP σ) d) we p) := by
  obtain ⟨k1, k2, k3, k4⟩ := okh
  obtain ⟨⟨a1, a2⟩, -⟩ := hS
  obtain ⟨c1, c2, c3, -⟩ := hH
  refine loop_inv (B := fun s3 : Int32 × Mem => f_X6_passes_2_2b (nI d) s3.1 s3.2) (fun i s => s.1 = nI i ∧ Fr 61 62 M s.2 ∧ ∀ p, p < nP σ → s.2 61 p = nI ((keepB g (hl.take i) 0).foldl (hire1 (nP σ) d) we p))
    (fun e => Fr 61 62 M e.2 ∧ ∀ p, p < nP σ → e.2 61 p = nI ((keepB g hl 0).foldl (hire1 (nP σ) d) we p)) hl.length (s := (nI 0, M))
    (by
      refine ⟨rfl, Fr.rf, fun p hp => ?_⟩
      rw [List.take_zero]
      exact hv p hp)
    (by
      rintro i ⟨x, N⟩ hi ⟨rfl, hF, b1⟩
      dsimp only at hF b1 ⊢
      obtain ⟨h, hh⟩ : ∃ h, hl[i]? = some h := ⟨_, List.getElem?_eq_getElem hi⟩
      obtain ⟨o1, o2, o3⟩ := k3 h (List.mem_of_getElem? hh)
      obtain ⟨f1, f2, f3⟩ := c2 i h hh
      have e11 : N 49 11 = nI hl.length := by rw [hF 49 (by omega)]; exact c1
      have e9 : N 49 9 = nI (nP σ) := by rw [hF 49 (by omega)]; exact a2
      have e13 : N 49 13 = nI g := by rw [hF 49 (by omega)]; exact c3
      have g1 : N 58 (3 * i) = nI h.1 := by rw [hF 58 (by omega)]; exact f1
      have g2 : N 58 (3 * i + 1) = nI h.2.1 := by rw [hF 58 (by omega)]; exact f2
      have g3 : N 58 (3 * i + 2) = nI h.2.2 := by rw [hF 58 (by omega)]; exact f3
      have tk : ∀ p, (keepB g (hl.take (i + 1)) 0).foldl (hire1 (nP σ) d) we p = if g.testBit i = true then (keepB g (hl.take i) 0).foldl (hire1 (nP σ) d) we p else hire1 (nP σ) d ((keepB g (hl.take i) 0).foldl (hire1 (nP σ) d) we) h p := by
        intro p
        rw [List.take_add_one, hh]
        show List.foldl (hire1 (nP σ) d) we (keepB g (List.take i hl ++ [h]) 0) p = _
        rw [keepB_app, List.length_take, Nat.zero_add, Nat.min_eq_left (by omega)]
        split
        · simp
        · simp [List.foldl_append]
      simp only [tk]
      unfold f_X6_passes_2_2b f_X6_passes_75_2
      have ii := m_isIn (g := g) (i := i) k2 (by omega)
      have ip := m_isP (i := h.2.1) e9 (show nP σ < 100 by omega) (show h.2.1 < 100 by omega)
      have same : ¬ (h.1 = d ∧ h.2.1 < nP σ) → ∀ p, p < nP σ → N 61 p = nI (if g.testBit i = true then (keepB g (hl.take i) 0).foldl (hire1 (nP σ) d) we p else hire1 (nP σ) d ((keepB g (hl.take i) 0).foldl (hire1 (nP σ) d) we) h p) := by
        intro q p hp
        rw [b1 p hp]
        split
        · rfl
        · unfold hire1
          rw [if_neg q]
      by_cases q1 : h.1 = d
      · by_cases q2 : h.2.1 < nP σ
        · by_cases q3 : g.testBit i = true
          · refine ⟨(nI (i + 1), N), ?_, rfl, hF, fun p hp => ?_⟩
            · simp (disch := omega) only [li_0, li_1, li_2, li_3, li_4, li_5, li_6, li_7, li_8, li_9, li_10, li_11, li_12, li_14, li_15, li_16, li_18, li_20, li_22, li_23, li_24, li_29, li_30, li_31, li_32, li_33, li_40, li_48, li_54, li_55, li_56, li_57, li_59, li_60, li_63, li_64, li_97, li_98, li_99, li_100, li_103, li_107, li_108, li_112, li_121, li_206, li_212, li_232, li_240, li_255, li_256, li_261, li_270, ng_1, ng_2, ng_3, ng_4, ng_9, ng_10, m1_1, nI_m1, m1_nI, if_true, if_false, nI_add, pk_mul, pk_sub, nI_div, nI_rem, nI_eq, nI_leI, nI_ltI, nI_clamp, ck_in, ck_nz, bind_sm, upM_n, upM_m, upM_s, if_pos, if_neg, e11, g1, g2, g3, q1, ip, e13, ii, q3, Bool.false_eq_true]
            · dsimp only
              rw [if_pos q3]
              exact b1 p hp
          · refine ⟨(nI (i + 1), upM N 61 h.2.1 (nI h.2.2)), ?_, rfl, hF.up (by omega) (by omega), fun p hp => ?_⟩
            · simp (disch := omega) only [li_0, li_1, li_2, li_3, li_4, li_5, li_6, li_7, li_8, li_9, li_10, li_11, li_12, li_14, li_15, li_16, li_18, li_20, li_22, li_23, li_24, li_29, li_30, li_31, li_32, li_33, li_40, li_48, li_54, li_55, li_56, li_57, li_59, li_60, li_63, li_64, li_97, li_98, li_99, li_100, li_103, li_107, li_108, li_112, li_121, li_206, li_212, li_232, li_240, li_255, li_256, li_261, li_270, ng_1, ng_2, ng_3, ng_4, ng_9, ng_10, m1_1, nI_m1, m1_nI, if_true, if_false, nI_add, pk_mul, pk_sub, nI_div, nI_rem, nI_eq, nI_leI, nI_ltI, nI_clamp, ck_in, ck_nz, bind_sm, upM_n, upM_m, upM_s, if_pos, if_neg, e11, g1, g2, g3, q1, ip, e13, ii, q3, Bool.false_eq_true]
            · dsimp only
              rw [if_neg q3]
              unfold hire1
              rw [if_pos ⟨q1, q2⟩]
              by_cases q4 : p = h.2.1
              · subst q4
                rw [upM_s, if_pos rfl]
              · rw [upM_m q4, if_neg q4]
                exact b1 p hp
        · refine ⟨(nI (i + 1), N), ?_, rfl, hF, same (fun r => q2 r.2)⟩
          simp (disch := omega) only [li_0, li_1, li_2, li_3, li_4, li_5, li_6, li_7, li_8, li_9, li_10, li_11, li_12, li_14, li_15, li_16, li_18, li_20, li_22, li_23, li_24, li_29, li_30, li_31, li_32, li_33, li_40, li_48, li_54, li_55, li_56, li_57, li_59, li_60, li_63, li_64, li_97, li_98, li_99, li_100, li_103, li_107, li_108, li_112, li_121, li_206, li_212, li_232, li_240, li_255, li_256, li_261, li_270, ng_1, ng_2, ng_3, ng_4, ng_9, ng_10, m1_1, nI_m1, m1_nI, if_true, if_false, nI_add, pk_mul, pk_sub, nI_div, nI_rem, nI_eq, nI_leI, nI_ltI, nI_clamp, ck_in, ck_nz, bind_sm, upM_n, upM_m, upM_s, if_pos, if_neg, e11, g1, g2, g3, q1, ip]
      · refine ⟨(nI (i + 1), N), ?_, rfl, hF, same (fun r => q1 r.1)⟩
        simp (disch := omega) only [li_0, li_1, li_2, li_3, li_4, li_5, li_6, li_7, li_8, li_9, li_10, li_11, li_12, li_14, li_15, li_16, li_18, li_20, li_22, li_23, li_24, li_29, li_30, li_31, li_32, li_33, li_40, li_48, li_54, li_55, li_56, li_57, li_59, li_60, li_63, li_64, li_97, li_98, li_99, li_100, li_103, li_107, li_108, li_112, li_121, li_206, li_212, li_232, li_240, li_255, li_256, li_261, li_270, ng_1, ng_2, ng_3, ng_4, ng_9, ng_10, m1_1, nI_m1, m1_nI, if_true, if_false, nI_add, pk_mul, pk_sub, nI_div, nI_rem, nI_eq, nI_leI, nI_ltI, nI_clamp, ck_in, ck_nz, bind_sm, upM_n, upM_m, upM_s, if_pos, if_neg, e11, g1, g2, g3])
    (by
      rintro ⟨x, N⟩ ⟨rfl, hF, b1⟩
      dsimp only at hF b1 ⊢
      have e11 : N 49 11 = nI hl.length := by rw [hF 49 (by omega)]; exact c1
      refine ⟨(nI hl.length, N), ?_, hF, fun p hp => ?_⟩
      · unfold f_X6_passes_2_2b
        simp (disch := omega) only [li_0, li_1, li_2, li_3, li_4, li_5, li_6, li_7, li_8, li_9, li_10, li_11, li_12, li_14, li_15, li_16, li_18, li_20, li_22, li_23, li_24, li_29, li_30, li_31, li_32, li_33, li_40, li_48, li_54, li_55, li_56, li_57, li_59, li_60, li_63, li_64, li_97, li_98, li_99, li_100, li_103, li_107, li_108, li_112, li_121, li_206, li_212, li_232, li_240, li_255, li_256, li_261, li_270, ng_1, ng_2, ng_3, ng_4, ng_9, ng_10, m1_1, nI_m1, m1_nI, if_true, if_false, nI_add, pk_mul, pk_sub, nI_div, nI_rem, nI_eq, nI_leI, nI_ltI, nI_clamp, ck_in, ck_nz, bind_sm, upM_n, upM_m, upM_s, if_pos, if_neg, e11]
      · dsimp only
        have := b1 p hp
        rw [List.take_length] at this
        exact this)
/-- behind the hirings and the talk -/
theorem m_119 {d : Nat} {σ : SS} {M : Mem} {we : Nat → Nat} {mk sp : Nat → Nat → Nat} (ok : OKS σ) (hS : MS σ M) (hd : d < 30) (hwk : wk σ (d + 1) = (mk, learnS σ d we mk sp, we)) (hsp : ∀ p s, sp p s < 10) (hv : ∀ p, p < nP σ → M 61 p = nI (we p)) (hm : ∀ a s, a < nA σ → s < 5 → M 59 (5 * a + s) = nI (mk a s)) (hs : ∀ p s, p < nP σ → s < 5 → M 60 (5 * p + s) = nI (sp p s)) (hD : DB σ d M) (hB : BE σ d M) :
    ∃ M', f_X6_passes_119 (nI d) M = some M' ∧ MW σ (wk σ (d + 1)) M' ∧ DB σ (d + 1) M' ∧ BE σ (d + 1) M' ∧ Fr 60 68 M M' := by
  have okd := ok.wk (d + 1)
  have hmk : ∀ a s, mk a s < 10 := by have := okd.1; rw [hwk] at this; exact this
  have hwe : ∀ p, we p < 8 := by have := okd.2.2; rw [hwk] at this; exact this
  have a1 := hS.1.1
  have a2 := hS.1.2
  have ok1 := ok.1.1
  have ok2 := ok.1.2.1
  unfold f_X6_passes_119
  -- speech
  obtain ⟨e1, h1, F1, p1⟩ := loop_inv (B := fun s7 : Int32 × Mem => f_X6_passes_121_121b (nI d) s7.1 s7.2) (fun i q => q.1 = nI i ∧ Fr 60 61 M q.2 ∧ ∀ p s, p < nP σ → s < 5 → q.2 60 (5 * p + s) = nI (if p < i then learnS σ d we mk sp p s else sp p s))
    (fun e => Fr 60 61 M e.2 ∧ ∀ p s, p < nP σ → s < 5 → e.2 60 (5 * p + s) = nI (learnS σ d we mk sp p s)) (nP σ) (s := (nI 0, M))
    (by
      refine ⟨rfl, Fr.rf, fun p s hp h => ?_⟩
      rw [if_neg (by omega)]
      exact hs p s hp h)
    (by
      rintro i ⟨x, N⟩ hi ⟨rfl, hF, b1⟩
      dsimp only at hF b1 ⊢
      have e7 : N 49 7 = nI (nA σ) := by rw [hF 49 (by omega)]; exact a1
      have e9 : N 49 9 = nI (nP σ) := by rw [hF 49 (by omega)]; exact a2
      have ew : N 61 i = nI (we i) := by rw [hF 61 (by omega)]; exact hv i hi
      have ow := hwe i
      have ia := m_isA (i := we i) e7 (show nA σ < 100 by omega) (show we i < 100 by omega)
      unfold f_X6_passes_121_121b f_X6_passes_148_121
      by_cases q1 : we i < nA σ
      · have sp' := m_speaks (d := d) (p := i) (we := we) (mk := mk) (sp := sp) (M := N) ok (hS.fr (hF 49 (by omega)) (hF 56 (by omega)) (hF 57 (by omega))) hd hi hmk hsp q1 ew (fun a s ha h => by rw [hF 59 (by omega)]; exact hm a s ha h) (fun s h => by rw [b1 i s hi h, if_neg (by omega)])
        refine ⟨(nI (i + 1), filM N 60 (5 * i) 5 (fun s => nI (learnS σ d we mk sp i s))), ?_, rfl, fun k hk => ?_, fun p s hp h => ?_⟩
        · simp (disch := omega) only [li_0, li_1, li_2, li_3, li_4, li_5, li_6, li_7, li_8, li_9, li_10, li_11, li_12, li_14, li_15, li_16, li_18, li_20, li_22, li_23, li_24, li_29, li_30, li_31, li_32, li_33, li_40, li_48, li_54, li_55, li_56, li_57, li_59, li_60, li_63, li_64, li_97, li_98, li_99, li_100, li_103, li_107, li_108, li_112, li_121, li_206, li_212, li_232, li_240, li_255, li_256, li_261, li_270, ng_1, ng_2, ng_3, ng_4, ng_9, ng_10, m1_1, nI_m1, m1_nI, if_true, if_false, nI_add, pk_mul, pk_sub, nI_div, nI_rem, nI_eq, nI_leI, nI_ltI, nI_clamp, ck_in, ck_nz, bind_sm, upM_n, upM_m, upM_s, if_pos, if_neg, e9, ew, ia, sp']
        · dsimp only
          rw [filM_n (by omega)]
          exact hF k hk
        · dsimp only
          by_cases q2 : p = i
          · subst q2
            rw [filM_in (by omega) (by omega), Nat.add_sub_cancel_left, if_pos (by omega)]
          · rw [filM_out (by omega), b1 p s hp h]
            by_cases q3 : p < i
            · rw [if_pos q3, if_pos (by omega)]
            · rw [if_neg q3, if_neg (by omega)]
      · refine ⟨(nI (i + 1), N), ?_, rfl, hF, fun p s hp h => ?_⟩
        · simp (disch := omega) only [li_0, li_1, li_2, li_3, li_4, li_5, li_6, li_7, li_8, li_9, li_10, li_11, li_12, li_14, li_15, li_16, li_18, li_20, li_22, li_23, li_24, li_29, li_30, li_31, li_32, li_33, li_40, li_48, li_54, li_55, li_56, li_57, li_59, li_60, li_63, li_64, li_97, li_98, li_99, li_100, li_103, li_107, li_108, li_112, li_121, li_206, li_212, li_232, li_240, li_255, li_256, li_261, li_270, ng_1, ng_2, ng_3, ng_4, ng_9, ng_10, m1_1, nI_m1, m1_nI, if_true, if_false, nI_add, pk_mul, pk_sub, nI_div, nI_rem, nI_eq, nI_leI, nI_ltI, nI_clamp, ck_in, ck_nz, bind_sm, upM_n, upM_m, upM_s, if_pos, if_neg, e9, ew, ia]
        · dsimp only
          rw [b1 p s hp h]
          by_cases q2 : p = i
          · subst q2
            rw [if_neg (by omega), if_pos (by omega)]
            unfold learnS
            rw [if_neg (fun r => q1 r.1)]
          · by_cases q3 : p < i
            · rw [if_pos q3, if_pos (by omega)]
            · rw [if_neg q3, if_neg (by omega)])
    (by
      rintro ⟨x, N⟩ ⟨rfl, hF, b1⟩
      dsimp only at hF b1 ⊢
      have e9 : N 49 9 = nI (nP σ) := by rw [hF 49 (by omega)]; exact a2
      refine ⟨(nI (nP σ), N), ?_, hF, fun p s hp h => ?_⟩
      · unfold f_X6_passes_121_121b
        simp (disch := omega) only [li_0, li_1, li_2, li_3, li_4, li_5, li_6, li_7, li_8, li_9, li_10, li_11, li_12, li_14, li_15, li_16, li_18, li_20, li_22, li_23, li_24, li_29, li_30, li_31, li_32, li_33, li_40, li_48, li_54, li_55, li_56, li_57, li_59, li_60, li_63, li_64, li_97, li_98, li_99, li_100, li_103, li_107, li_108, li_112, li_121, li_206, li_212, li_232, li_240, li_255, li_256, li_261, li_270, ng_1, ng_2, ng_3, ng_4, ng_9, ng_10, m1_1, nI_m1, m1_nI, if_true, if_false, nI_add, pk_mul, pk_sub, nI_div, nI_rem, nI_eq, nI_leI, nI_ltI, nI_clamp, ck_in, ck_nz, bind_sm, upM_n, upM_m, upM_s, if_pos, if_neg, e9]
      · dsimp only
        rw [b1 p s hp h, if_pos hp])
  have W1 : MW σ (wk σ (d + 1)) e1.2 := by
    rw [hwk]
    exact ⟨fun a s ha h => by rw [F1 59 (by omega)]; exact hm a s ha h, p1, fun p hp => by rw [F1 61 (by omega)]; exact hv p hp⟩
  -- judging
  obtain ⟨e2, h2, F2, p2⟩ := loop_inv (B := fun s10 : Int32 × Mem => f_X6_passes_156_156b (nI d) s10.1 s10.2) (fun i q => q.1 = nI i ∧ Fr 64 68 e1.2 q.2 ∧ (∀ j, (j < 8 * d) → q.2 64 j = e1.2 64 j ∧ q.2 65 j = e1.2 65 j ∧ q.2 66 j = e1.2 66 j) ∧ ∀ p, p < nP σ → q.2 67 p = oi (bec σ p (if p < i then d + 1 else d)) ∧ (p < i → q.2 64 (8 * d + p) = nI ((wk σ (d + 1)).2.2 p) ∧ q.2 65 (8 * d + p) = oi (tk σ (wk σ (d + 1)) p) ∧ q.2 66 (8 * d + p) = oi (tkf σ (wk σ (d + 1)) p)))
    (fun e => Fr 64 68 e1.2 e.2 ∧ (∀ j, (j < 8 * d) → e.2 64 j = e1.2 64 j ∧ e.2 65 j = e1.2 65 j ∧ e.2 66 j = e1.2 66 j) ∧ ∀ p, p < nP σ → e.2 67 p = oi (bec σ p (d + 1)) ∧ e.2 64 (8 * d + p) = nI ((wk σ (d + 1)).2.2 p) ∧ e.2 65 (8 * d + p) = oi (tk σ (wk σ (d + 1)) p) ∧ e.2 66 (8 * d + p) = oi (tkf σ (wk σ (d + 1)) p)) (nP σ) (s := (nI 0, e1.2))
    (by
      refine ⟨rfl, Fr.rf, fun j hj => ⟨rfl, rfl, rfl⟩, fun p hp => ⟨?_, fun h => by omega⟩⟩
      rw [if_neg (by omega)]
      show e1.2 67 p = _
      rw [F1 67 (by omega)]
      exact hB p hp)
    (by
      rintro i ⟨x, N⟩ hi ⟨rfl, hF, b0, b1⟩
      dsimp only at hF b0 b1 ⊢
      have e9 : N 49 9 = nI (nP σ) := by rw [hF 49 (by omega), F1 49 (by omega)]; exact a2
      have hb := (b1 i hi).1
      rw [if_neg (by omega)] at hb
      have jj := m_judges (d := d) (k := i) (M := N) (v := wk σ (d + 1)) ok okd ((hS.fr (F1 49 (by omega)) (F1 56 (by omega)) (F1 57 (by omega))).fr (hF 49 (by omega)) (hF 56 (by omega)) (hF 57 (by omega))) hd hi ⟨fun a s ha h => by rw [hF 59 (by omega)]; exact W1.1 a s ha h, fun p s hp h => by rw [hF 60 (by omega)]; exact W1.2.1 p s hp h, fun p hp => by rw [hF 61 (by omega)]; exact W1.2.2 p hp⟩ (b := bec σ i d) hb (fun t ht => by have := bec_lt ht; omega)
      refine ⟨(nI (i + 1), jM N d i (oi (tk σ (wk σ (d + 1)) i)) (oi (tkf σ (wk σ (d + 1)) i)) (nI ((wk σ (d + 1)).2.2 i)) (oi (orB (bec σ i d) (if ano σ (wk σ (d + 1)) i then some d else none)))), ?_, rfl, ?_, ?_, ?_⟩
      · unfold f_X6_passes_156_156b
        simp (disch := omega) only [li_0, li_1, li_2, li_3, li_4, li_5, li_6, li_7, li_8, li_9, li_10, li_11, li_12, li_14, li_15, li_16, li_18, li_20, li_22, li_23, li_24, li_29, li_30, li_31, li_32, li_33, li_40, li_48, li_54, li_55, li_56, li_57, li_59, li_60, li_63, li_64, li_97, li_98, li_99, li_100, li_103, li_107, li_108, li_112, li_121, li_206, li_212, li_232, li_240, li_255, li_256, li_261, li_270, ng_1, ng_2, ng_3, ng_4, ng_9, ng_10, m1_1, nI_m1, m1_nI, if_true, if_false, nI_add, pk_mul, pk_sub, nI_div, nI_rem, nI_eq, nI_leI, nI_ltI, nI_clamp, ck_in, ck_nz, bind_sm, upM_n, upM_m, upM_s, if_pos, if_neg, e9, jj]
      · intro k hk
        dsimp only
        unfold jM
        rw [upM_n (by omega), upM_n (by omega), upM_n (by omega), upM_n (by omega)]
        exact hF k hk
      · intro j hj
        dsimp only
        unfold jM
        obtain ⟨c1, c2, c3⟩ := b0 j hj
        refine ⟨?_, ?_, ?_⟩
        · simp (disch := omega) only [upM_n, upM_m]; exact c1
        · simp (disch := omega) only [upM_n, upM_m]; exact c2
        · simp (disch := omega) only [upM_n, upM_m]; exact c3
      · intro p hp
        dsimp only
        unfold jM
        by_cases q1 : p = i
        · subst q1
          refine ⟨?_, fun _ => ⟨?_, ?_, ?_⟩⟩
          · rw [upM_s, if_pos (show p < p + 1 by omega), bec_s]
          · simp (disch := omega) only [upM_n, upM_s]
          · simp (disch := omega) only [upM_n, upM_s]
          · simp (disch := omega) only [upM_n, upM_s]
        · obtain ⟨c1, c2⟩ := b1 p hp
          refine ⟨?_, fun h => ?_⟩
          · rw [upM_m q1, upM_n (by omega), upM_n (by omega), upM_n (by omega), c1]
            by_cases q2 : p < i
            · rw [if_pos q2, if_pos (by omega)]
            · rw [if_neg q2, if_neg (by omega)]
          · obtain ⟨c3, c4, c5⟩ := c2 (by omega)
            refine ⟨?_, ?_, ?_⟩
            · simp (disch := omega) only [upM_n, upM_m]; exact c3
            · simp (disch := omega) only [upM_n, upM_m]; exact c4
            · simp (disch := omega) only [upM_n, upM_m]; exact c5)
    (by
      rintro ⟨x, N⟩ ⟨rfl, hF, b0, b1⟩
      dsimp only at hF b0 b1 ⊢
      have e9 : N 49 9 = nI (nP σ) := by rw [hF 49 (by omega), F1 49 (by omega)]; exact a2
      refine ⟨(nI (nP σ), N), ?_, hF, b0, fun p hp => ?_⟩
      · unfold f_X6_passes_156_156b
        simp (disch := omega) only [li_0, li_1, li_2, li_3, li_4, li_5, li_6, li_7, li_8, li_9, li_10, li_11, li_12, li_14, li_15, li_16, li_18, li_20, li_22, li_23, li_24, li_29, li_30, li_31, li_32, li_33, li_40, li_48, li_54, li_55, li_56, li_57, li_59, li_60, li_63, li_64, li_97, li_98, li_99, li_100, li_103, li_107, li_108, li_112, li_121, li_206, li_212, li_232, li_240, li_255, li_256, li_261, li_270, ng_1, ng_2, ng_3, ng_4, ng_9, ng_10, m1_1, nI_m1, m1_nI, if_true, if_false, nI_add, pk_mul, pk_sub, nI_div, nI_rem, nI_eq, nI_leI, nI_ltI, nI_clamp, ck_in, ck_nz, bind_sm, upM_n, upM_m, upM_s, if_pos, if_neg, e9]
      · obtain ⟨c1, c2⟩ := b1 p hp
        rw [if_pos hp] at c1
        exact ⟨c1, c2 hp⟩)
  -- keeping
  have h3 : loop (fun s12 : Int32 × Mem => f_X6_passes_178_178b (nI d) s12.1 s12.2) (nI 0, e2.2) = some (nI 40, filM (filM e2.2 62 (40 * d) 40 (fun j => e2.2 59 j)) 63 (40 * d) 40 (fun j => e2.2 60 j)) := by
    have := loop_for (B := fun s12 : Int32 × Mem => f_X6_passes_178_178b (nI d) s12.1 s12.2) (fun i => (nI i, filM (filM e2.2 62 (40 * d) i (fun j => e2.2 59 j)) 63 (40 * d) i (fun j => e2.2 60 j))) 40 (e := (nI 40, filM (filM e2.2 62 (40 * d) 40 (fun j => e2.2 59 j)) 63 (40 * d) 40 (fun j => e2.2 60 j)))
      (by
        intro i hi
        dsimp only
        unfold f_X6_passes_178_178b
        simp (disch := omega) only [li_0, li_1, li_2, li_3, li_4, li_5, li_6, li_7, li_8, li_9, li_10, li_11, li_12, li_14, li_15, li_16, li_18, li_20, li_22, li_23, li_24, li_29, li_30, li_31, li_32, li_33, li_40, li_48, li_54, li_55, li_56, li_57, li_59, li_60, li_63, li_64, li_97, li_98, li_99, li_100, li_103, li_107, li_108, li_112, li_121, li_206, li_212, li_232, li_240, li_255, li_256, li_261, li_270, ng_1, ng_2, ng_3, ng_4, ng_9, ng_10, m1_1, nI_m1, m1_nI, if_true, if_false, nI_add, pk_mul, pk_sub, nI_div, nI_rem, nI_eq, nI_leI, nI_ltI, nI_clamp, ck_in, ck_nz, bind_sm, upM_n, upM_m, upM_s, if_pos, if_neg, filM_n]
        rw [up_fil (by omega), ← filM_up (M := e2.2) (k := 62), ← filM_up (k := 63)])
      (by
        dsimp only
        unfold f_X6_passes_178_178b
        simp (disch := omega) only [li_0, li_1, li_2, li_3, li_4, li_5, li_6, li_7, li_8, li_9, li_10, li_11, li_12, li_14, li_15, li_16, li_18, li_20, li_22, li_23, li_24, li_29, li_30, li_31, li_32, li_33, li_40, li_48, li_54, li_55, li_56, li_57, li_59, li_60, li_63, li_64, li_97, li_98, li_99, li_100, li_103, li_107, li_108, li_112, li_121, li_206, li_212, li_232, li_240, li_255, li_256, li_261, li_270, ng_1, ng_2, ng_3, ng_4, ng_9, ng_10, m1_1, nI_m1, m1_nI, if_true, if_false, nI_add, pk_mul, pk_sub, nI_div, nI_rem, nI_eq, nI_leI, nI_ltI, nI_clamp, ck_in, ck_nz, bind_sm, upM_n, upM_m, upM_s, if_pos, if_neg])
    rw [filM_0, filM_0] at this
    exact this
  simp only [li_0, h1, bind_sm, h2, h3]
  obtain ⟨q0, q1⟩ := p2
  refine ⟨_, rfl, ?_, ?_, ?_, ?_⟩
  · obtain ⟨w1, w2, w3⟩ := W1
    refine ⟨fun a s ha h => ?_, fun p s hp h => ?_, fun p hp => ?_⟩
    · rw [filM_n (by omega), filM_n (by omega), F2 59 (by omega)]; exact w1 a s ha h
    · rw [filM_n (by omega), filM_n (by omega), F2 60 (by omega)]; exact w2 p s hp h
    · rw [filM_n (by omega), filM_n (by omega), F2 61 (by omega)]; exact w3 p hp
  · intro d' hd'
    obtain ⟨w1, w2, w3⟩ := W1
    by_cases q2 : d' = d
    · subst q2
      refine ⟨fun a s ha h => ?_, fun p s hp h => ?_, fun p hp => ?_⟩
      · rw [filM_n (by omega), filM_in (by omega) (by omega), Nat.add_sub_cancel_left, F2 59 (by omega)]; exact w1 a s ha h
      · rw [filM_in (by omega) (by omega), Nat.add_sub_cancel_left, F2 60 (by omega)]; exact w2 p s hp h
      · rw [filM_n (by omega), filM_n (by omega), filM_n (by omega), filM_n (by omega), filM_n (by omega), filM_n (by omega)]
        exact (q1 p hp).2
    · obtain ⟨c1, c2, c3⟩ := hD d' (by omega)
      refine ⟨fun a s ha h => ?_, fun p s hp h => ?_, fun p hp => ?_⟩
      · rw [filM_n (by omega), filM_out (by omega), F2 62 (by omega), F1 62 (by omega)]; exact c1 a s ha h
      · rw [filM_out (by omega), filM_n (by omega), F2 63 (by omega), F1 63 (by omega)]; exact c2 p s hp h
      · rw [filM_n (by omega), filM_n (by omega), filM_n (by omega), filM_n (by omega), filM_n (by omega), filM_n (by omega)]
        obtain ⟨g1, g2, g3⟩ := q0 (8 * d' + p) (by omega)
        rw [g1, g2, g3, F1 64 (by omega), F1 65 (by omega), F1 66 (by omega)]
        exact c3 p hp
  · intro p hp
    rw [filM_n (by omega), filM_n (by omega)]
    exact (q1 p hp).1
  · intro k hk
    rw [filM_n (by omega), filM_n (by omega), F2 k (by omega), F1 k (by omega)]
