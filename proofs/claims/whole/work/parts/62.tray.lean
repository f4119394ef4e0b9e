-- THE DRAWERS THAT HAD BETTER BE CHANGED
theorem m_other {a b x : Nat} (ha : a < 100) (hb : b < 100) (hx : x < 100) : f_X6_other (nI x) (nI a) (nI b) = some (nI (sw a b x)) := by
  unfold f_X6_other sw
  by_cases q1 : x = a
  · simp (disch := omega) only [li_0, li_1, li_2, li_3, li_4, li_5, li_6, li_7, li_8, li_9, li_10, li_11, li_12, li_14, li_15, li_16, li_18, li_20, li_22, li_23, li_24, li_29, li_30, li_31, li_32, li_33, li_40, li_48, li_54, li_55, li_56, li_57, li_59, li_60, li_63, li_64, li_97, li_98, li_99, li_100, li_103, li_107, li_108, li_112, li_121, li_206, li_212, li_232, li_240, li_255, li_256, li_261, li_270, ng_1, ng_2, ng_3, ng_4, ng_9, ng_10, m1_1, nI_m1, m1_nI, if_true, if_false, nI_add, pk_mul, pk_sub, nI_div, nI_rem, nI_eq, nI_leI, nI_ltI, nI_clamp, ck_in, ck_nz, bind_sm, upM_n, upM_m, upM_s, if_pos, if_neg]
  · by_cases q2 : x = b
    · simp (disch := omega) only [li_0, li_1, li_2, li_3, li_4, li_5, li_6, li_7, li_8, li_9, li_10, li_11, li_12, li_14, li_15, li_16, li_18, li_20, li_22, li_23, li_24, li_29, li_30, li_31, li_32, li_33, li_40, li_48, li_54, li_55, li_56, li_57, li_59, li_60, li_63, li_64, li_97, li_98, li_99, li_100, li_103, li_107, li_108, li_112, li_121, li_206, li_212, li_232, li_240, li_255, li_256, li_261, li_270, ng_1, ng_2, ng_3, ng_4, ng_9, ng_10, m1_1, nI_m1, m1_nI, if_true, if_false, nI_add, pk_mul, pk_sub, nI_div, nI_rem, nI_eq, nI_leI, nI_ltI, nI_clamp, ck_in, ck_nz, bind_sm, upM_n, upM_m, upM_s, if_pos, if_neg]
    · simp (disch := omega) only [li_0, li_1, li_2, li_3, li_4, li_5, li_6, li_7, li_8, li_9, li_10, li_11, li_12, li_14, li_15, li_16, li_18, li_20, li_22, li_23, li_24, li_29, li_30, li_31, li_32, li_33, li_40, li_48, li_54, li_55, li_56, li_57, li_59, li_60, li_63, li_64, li_97, li_98, li_99, li_100, li_103, li_107, li_108, li_112, li_121, li_206, li_212, li_232, li_240, li_255, li_256, li_261, li_270, ng_1, ng_2, ng_3, ng_4, ng_9, ng_10, m1_1, nI_m1, m1_nI, if_true, if_false, nI_add, pk_mul, pk_sub, nI_div, nI_rem, nI_eq, nI_leI, nI_ltI, nI_clamp, ck_in, ck_nz, bind_sm, upM_n, upM_m, upM_s, if_pos, if_neg]
abbrev swL (a b : Nat) (l : List (Nat × Nat × Nat)) : List (Nat × Nat × Nat) := l.map fun h => (h.1, h.2.1, sw a b h.2.2)
theorem sw_sw {a b x : Nat} : sw a b (sw a b x) = x := by
  unfold sw
  by_cases h1 : x = a
  · by_cases h2 : b = a
    · simp [h1, h2]
    · simp [h1, h2]
  · by_cases h2 : x = b
    · simp [h2]
    · simp [h1, h2]
theorem swL_swL {a b : Nat} {l : List (Nat × Nat × Nat)} : swL a b (swL a b l) = l := by
  unfold swL
  rw [List.map_map]
  have : ((fun h : Nat × Nat × Nat => (h.1, h.2.1, sw a b h.2.2)) ∘ fun h => (h.1, h.2.1, sw a b h.2.2)) = id := by
    funext h
    show (h.1, h.2.1, sw a b (sw a b h.2.2)) = h
    rw [sw_sw]
  rw [this, List.map_id]
theorem swS_swS {σ : SS} {a b : Nat} : swS (swS σ a b) a b = σ := by
  obtain ⟨n, s, m, p, k, o, h⟩ := σ
  unfold swS
  simp only [nA, so, mk0, nP, ki, ow, hs, sw_sw]
  rw [show (List.map (fun h => (h.1, h.2.1, sw a b h.2.2)) (List.map (fun h => (h.1, h.2.1, sw a b h.2.2)) h)) = h from swL_swL]
theorem m_changes {σ : SS} {M : Mem} {hl : List (Nat × Nat × Nat)} {a b : Nat} (ok : OKS σ) (hS : MS σ M) (hH : MH hl 0 none M) (okh : OKH (nP σ) hl 0 none) (hb : b < nA σ) (hab : a < b) : ∃ M', f_X6_changes (nI a) (nI b) M = some M' ∧ MS (swS σ a b) M' ∧ MH (swL a b hl) 0 none M' ∧ ∀ k, k ≠ 56 → k ≠ 57 → k ≠ 58 → M' k = M k := by
  have ok1 := ok.1.1
  have ok2 := ok.1.2.1
  obtain ⟨⟨s1, s2⟩, s3, s4, s5, s6⟩ := hS
  obtain ⟨t1, t2, t3, t4⟩ := hH
  have hl8 := okh.1
  obtain ⟨e1, l1, a1, a2, a3, a4⟩ := loop_inv (B := fun s : Int32 × Mem => f_X6_changes_2_2b (nI a) (nI b) s.1 s.2) (fun i q => q.1 = nI i ∧ (∀ k, k ≠ 56 → q.2 k = M k) ∧ (∀ j, j < 6 → q.2 56 (6 * a + j) = if j < i then M 56 (6 * b + j) else M 56 (6 * a + j)) ∧ (∀ j, j < 6 → q.2 56 (6 * b + j) = if j < i then M 56 (6 * a + j) else M 56 (6 * b + j)) ∧ ∀ x, (x < 6 * a ∨ 6 * a + 6 ≤ x) → (x < 6 * b ∨ 6 * b + 6 ≤ x) → q.2 56 x = M 56 x)
    (fun q => (∀ k, k ≠ 56 → q.2 k = M k) ∧ (∀ j, j < 6 → q.2 56 (6 * a + j) = M 56 (6 * b + j)) ∧ (∀ j, j < 6 → q.2 56 (6 * b + j) = M 56 (6 * a + j)) ∧ ∀ x, (x < 6 * a ∨ 6 * a + 6 ≤ x) → (x < 6 * b ∨ 6 * b + 6 ≤ x) → q.2 56 x = M 56 x) 6 (s := (nI 0, M))
    (by exact ⟨rfl, fun _ _ => rfl, fun j _ => by rw [if_neg (by omega)], fun j _ => by rw [if_neg (by omega)], fun _ _ _ => rfl⟩)
    (by
      rintro i ⟨x, N⟩ hi ⟨hx, c1, c2, c3, c4⟩
      dsimp only at hx c1 c2 c3 c4 ⊢
      subst hx
      have na := c2 i hi
      have nb := c3 i hi
      rw [if_neg (by omega)] at na nb
      refine ⟨(nI (i + 1), upM (upM N 56 (6 * a + i) (N 56 (6 * b + i))) 56 (6 * b + i) (N 56 (6 * a + i))), ?_, rfl, fun k hk => ?_, fun j hj => ?_, fun j hj => ?_, fun x h1 h2 => ?_⟩
      · unfold f_X6_changes_2_2b
        simp (disch := omega) only [li_0, li_1, li_2, li_3, li_4, li_5, li_6, li_7, li_8, li_9, li_10, li_11, li_12, li_14, li_15, li_16, li_18, li_20, li_22, li_23, li_24, li_29, li_30, li_31, li_32, li_33, li_40, li_48, li_54, li_55, li_56, li_57, li_59, li_60, li_63, li_64, li_97, li_98, li_99, li_100, li_103, li_107, li_108, li_112, li_121, li_206, li_212, li_232, li_240, li_255, li_256, li_261, li_270, ng_1, ng_2, ng_3, ng_4, ng_9, ng_10, m1_1, nI_m1, m1_nI, if_true, if_false, nI_add, pk_mul, pk_sub, nI_div, nI_rem, nI_eq, nI_leI, nI_ltI, nI_clamp, ck_in, ck_nz, bind_sm, upM_n, upM_m, upM_s, if_pos, if_neg]
      · dsimp only
        rw [upM_n hk, upM_n hk]; exact c1 k hk
      · dsimp only
        rw [upM_m (by omega)]
        by_cases q : j = i
        · subst q
          rw [upM_s, nb, if_pos (by omega)]
        · rw [upM_m (by omega), c2 j hj]
          by_cases q2 : j < i
          · rw [if_pos q2, if_pos (by omega)]
          · rw [if_neg q2, if_neg (by omega)]
      · dsimp only
        by_cases q : j = i
        · subst q
          rw [upM_s, na, if_pos (by omega)]
        · rw [upM_m (by omega), upM_m (by omega), c3 j hj]
          by_cases q2 : j < i
          · rw [if_pos q2, if_pos (by omega)]
          · rw [if_neg q2, if_neg (by omega)]
      · dsimp only
        rw [upM_m (by omega), upM_m (by omega)]
        exact c4 x h1 h2)
    (by
      rintro ⟨x, N⟩ ⟨hx, c1, c2, c3, c4⟩
      dsimp only at hx c1 c2 c3 c4 ⊢
      subst hx
      refine ⟨(nI 6, N), ?_, c1, fun j hj => ?_, fun j hj => ?_, c4⟩
      · unfold f_X6_changes_2_2b
        simp (disch := omega) only [li_0, li_1, li_2, li_3, li_4, li_5, li_6, li_7, li_8, li_9, li_10, li_11, li_12, li_14, li_15, li_16, li_18, li_20, li_22, li_23, li_24, li_29, li_30, li_31, li_32, li_33, li_40, li_48, li_54, li_55, li_56, li_57, li_59, li_60, li_63, li_64, li_97, li_98, li_99, li_100, li_103, li_107, li_108, li_112, li_121, li_206, li_212, li_232, li_240, li_255, li_256, li_261, li_270, ng_1, ng_2, ng_3, ng_4, ng_9, ng_10, m1_1, nI_m1, m1_nI, if_true, if_false, nI_add, pk_mul, pk_sub, nI_div, nI_rem, nI_eq, nI_leI, nI_ltI, nI_clamp, ck_in, ck_nz, bind_sm, upM_n, upM_m, upM_s, if_pos, if_neg]
      · have := c2 j hj
        rw [if_pos hj] at this
        exact this
      · have := c3 j hj
        rw [if_pos hj] at this
        exact this)
  have row : ∀ x j, j < 6 → e1.2 56 (6 * x + j) = M 56 (6 * sw a b x + j) := by
    intro x j hj
    unfold sw
    by_cases q1 : x = a
    · rw [if_pos q1, q1]; exact a2 j hj
    · rw [if_neg q1]
      by_cases q2 : x = b
      · rw [if_pos q2, q2]; exact a3 j hj
      · rw [if_neg q2]
        exact a4 _ (by omega) (by omega)
  obtain ⟨e2, l2, b1, b2, b3⟩ := loop_inv (B := fun s : Int32 × Mem => f_X6_changes_64_64b (nI a) (nI b) s.1 s.2) (fun i q => q.1 = nI i ∧ (∀ k, k ≠ 57 → q.2 k = e1.2 k) ∧ (∀ p, p < nP σ → q.2 57 (2 * p) = nI (ki σ p)) ∧ ∀ p, p < nP σ → q.2 57 (2 * p + 1) = nI (if p < i then sw a b (ow σ p) else ow σ p))
    (fun q => (∀ k, k ≠ 57 → q.2 k = e1.2 k) ∧ (∀ p, p < nP σ → q.2 57 (2 * p) = nI (ki σ p)) ∧ ∀ p, p < nP σ → q.2 57 (2 * p + 1) = nI (sw a b (ow σ p))) (nP σ) (s := (nI 0, e1.2))
    (by
      refine ⟨rfl, fun _ _ => rfl, fun p hp => ?_, fun p hp => ?_⟩
      · dsimp only; rw [a1 57 (by omega)]; exact s5 p hp
      · dsimp only; rw [a1 57 (by omega), if_neg (by omega)]; exact s6 p hp)
    (by
      rintro i ⟨x, N⟩ hi ⟨hx, c1, c2, c3⟩
      dsimp only at hx c1 c2 c3 ⊢
      subst hx
      have n9 : N 49 9 = nI (nP σ) := by rw [c1 49 (by omega), a1 49 (by omega)]; exact s2
      have ni := c3 i hi
      rw [if_neg (by omega)] at ni
      have oi8 := ok.2.2.2.2.1 i
      refine ⟨(nI (i + 1), upM N 57 (2 * i + 1) (nI (sw a b (ow σ i)))), ?_, rfl, fun k hk => ?_, fun p hp => ?_, fun p hp => ?_⟩
      · unfold f_X6_changes_64_64b
        simp (disch := omega) only [li_0, li_1, li_2, li_3, li_4, li_5, li_6, li_7, li_8, li_9, li_10, li_11, li_12, li_14, li_15, li_16, li_18, li_20, li_22, li_23, li_24, li_29, li_30, li_31, li_32, li_33, li_40, li_48, li_54, li_55, li_56, li_57, li_59, li_60, li_63, li_64, li_97, li_98, li_99, li_100, li_103, li_107, li_108, li_112, li_121, li_206, li_212, li_232, li_240, li_255, li_256, li_261, li_270, ng_1, ng_2, ng_3, ng_4, ng_9, ng_10, m1_1, nI_m1, m1_nI, if_true, if_false, nI_add, pk_mul, pk_sub, nI_div, nI_rem, nI_eq, nI_leI, nI_ltI, nI_clamp, ck_in, ck_nz, bind_sm, upM_n, upM_m, upM_s, if_pos, if_neg, n9, ni, m_other]
      · dsimp only
        rw [upM_n hk]; exact c1 k hk
      · dsimp only
        rw [upM_m (by omega)]; exact c2 p hp
      · dsimp only
        by_cases q : p = i
        · subst q
          rw [upM_s, if_pos (by omega)]
        · rw [upM_m (by omega), c3 p hp]
          by_cases q2 : p < i
          · rw [if_pos q2, if_pos (by omega)]
          · rw [if_neg q2, if_neg (by omega)])
    (by
      rintro ⟨x, N⟩ ⟨hx, c1, c2, c3⟩
      dsimp only at hx c1 c2 c3 ⊢
      subst hx
      have n9 : N 49 9 = nI (nP σ) := by rw [c1 49 (by omega), a1 49 (by omega)]; exact s2
      refine ⟨(nI (nP σ), N), ?_, c1, c2, fun p hp => ?_⟩
      · unfold f_X6_changes_64_64b
        simp (disch := omega) only [li_0, li_1, li_2, li_3, li_4, li_5, li_6, li_7, li_8, li_9, li_10, li_11, li_12, li_14, li_15, li_16, li_18, li_20, li_22, li_23, li_24, li_29, li_30, li_31, li_32, li_33, li_40, li_48, li_54, li_55, li_56, li_57, li_59, li_60, li_63, li_64, li_97, li_98, li_99, li_100, li_103, li_107, li_108, li_112, li_121, li_206, li_212, li_232, li_240, li_255, li_256, li_261, li_270, ng_1, ng_2, ng_3, ng_4, ng_9, ng_10, m1_1, nI_m1, m1_nI, if_true, if_false, nI_add, pk_mul, pk_sub, nI_div, nI_rem, nI_eq, nI_leI, nI_ltI, nI_clamp, ck_in, ck_nz, bind_sm, upM_n, upM_m, upM_s, if_pos, if_neg, n9]
      · have := c3 p hp
        rw [if_pos hp] at this
        exact this)
  obtain ⟨e3, l3, d1, d2⟩ := loop_inv (B := fun s : Int32 × Mem => f_X6_changes_105_105b (nI a) (nI b) s.1 s.2) (fun n q => q.1 = nI n ∧ (∀ k, k ≠ 58 → q.2 k = e2.2 k) ∧ ∀ (i : Nat) (h : Nat × Nat × Nat), hl[i]? = some h → q.2 58 (3 * i) = nI h.1 ∧ q.2 58 (3 * i + 1) = nI h.2.1 ∧ q.2 58 (3 * i + 2) = nI (if i < n then sw a b h.2.2 else h.2.2))
    (fun q => (∀ k, k ≠ 58 → q.2 k = e2.2 k) ∧ ∀ (i : Nat) (h : Nat × Nat × Nat), hl[i]? = some h → q.2 58 (3 * i) = nI h.1 ∧ q.2 58 (3 * i + 1) = nI h.2.1 ∧ q.2 58 (3 * i + 2) = nI (sw a b h.2.2)) hl.length (s := (nI 0, e2.2))
    (by
      refine ⟨rfl, fun _ _ => rfl, fun i h hi => ?_⟩
      dsimp only
      rw [b1 58 (by omega), a1 58 (by omega), if_neg (by omega)]
      exact t2 i h hi)
    (by
      rintro n ⟨x, N⟩ hn ⟨hx, c1, c2⟩
      dsimp only at hx c1 c2 ⊢
      subst hx
      have n11 : N 49 11 = nI hl.length := by rw [c1 49 (by omega), b1 49 (by omega), a1 49 (by omega)]; exact t1
      obtain ⟨g, hg⟩ : ∃ g, hl[n]? = some g := ⟨_, List.getElem?_eq_getElem hn⟩
      obtain ⟨g1, g2, g3⟩ := c2 n g hg
      rw [if_neg (by omega)] at g3
      have g8 := (okh.2.2.1 g (List.mem_of_getElem? hg)).2.2
      refine ⟨(nI (n + 1), upM N 58 (3 * n + 2) (nI (sw a b g.2.2))), ?_, rfl, fun k hk => ?_, fun i h hi => ?_⟩
      · unfold f_X6_changes_105_105b
        simp (disch := omega) only [li_0, li_1, li_2, li_3, li_4, li_5, li_6, li_7, li_8, li_9, li_10, li_11, li_12, li_14, li_15, li_16, li_18, li_20, li_22, li_23, li_24, li_29, li_30, li_31, li_32, li_33, li_40, li_48, li_54, li_55, li_56, li_57, li_59, li_60, li_63, li_64, li_97, li_98, li_99, li_100, li_103, li_107, li_108, li_112, li_121, li_206, li_212, li_232, li_240, li_255, li_256, li_261, li_270, ng_1, ng_2, ng_3, ng_4, ng_9, ng_10, m1_1, nI_m1, m1_nI, if_true, if_false, nI_add, pk_mul, pk_sub, nI_div, nI_rem, nI_eq, nI_leI, nI_ltI, nI_clamp, ck_in, ck_nz, bind_sm, upM_n, upM_m, upM_s, if_pos, if_neg, n11, g3, m_other]
      · dsimp only
        rw [upM_n hk]; exact c1 k hk
      · dsimp only
        obtain ⟨r1, r2, r3⟩ := c2 i h hi
        refine ⟨by rw [upM_m (by omega)]; exact r1, by rw [upM_m (by omega)]; exact r2, ?_⟩
        by_cases q : i = n
        · subst q
          rw [hg] at hi
          have := Option.some.inj hi
          subst this
          rw [upM_s, if_pos (by omega)]
        · rw [upM_m (by omega), r3]
          by_cases q2 : i < n
          · rw [if_pos q2, if_pos (by omega)]
          · rw [if_neg q2, if_neg (by omega)])
    (by
      rintro ⟨x, N⟩ ⟨hx, c1, c2⟩
      dsimp only at hx c1 c2 ⊢
      subst hx
      have n11 : N 49 11 = nI hl.length := by rw [c1 49 (by omega), b1 49 (by omega), a1 49 (by omega)]; exact t1
      refine ⟨(nI hl.length, N), ?_, c1, fun i h hi => ?_⟩
      · unfold f_X6_changes_105_105b
        simp (disch := omega) only [li_0, li_1, li_2, li_3, li_4, li_5, li_6, li_7, li_8, li_9, li_10, li_11, li_12, li_14, li_15, li_16, li_18, li_20, li_22, li_23, li_24, li_29, li_30, li_31, li_32, li_33, li_40, li_48, li_54, li_55, li_56, li_57, li_59, li_60, li_63, li_64, li_97, li_98, li_99, li_100, li_103, li_107, li_108, li_112, li_121, li_206, li_212, li_232, li_240, li_255, li_256, li_261, li_270, ng_1, ng_2, ng_3, ng_4, ng_9, ng_10, m1_1, nI_m1, m1_nI, if_true, if_false, nI_add, pk_mul, pk_sub, nI_div, nI_rem, nI_eq, nI_leI, nI_ltI, nI_clamp, ck_in, ck_nz, bind_sm, upM_n, upM_m, upM_s, if_pos, if_neg, n11]
      · obtain ⟨r1, r2, r3⟩ := c2 i h hi
        have : i < hl.length := (List.getElem?_eq_some_iff.mp hi).1
        rw [if_pos this] at r3
        exact ⟨r1, r2, r3⟩)
  have far : ∀ k, k ≠ 56 → k ≠ 57 → k ≠ 58 → e3.2 k = M k := fun k h1 h2 h3 => by rw [d1 k h3, b1 k h2, a1 k h1]
  refine ⟨e3.2, ?_, ⟨⟨?_, ?_⟩, fun x hx => ?_, fun x s hx hs => ?_, fun p hp => ?_, fun p hp => ?_⟩, ⟨?_, fun i h hi => ?_, ?_, ?_⟩, far⟩
  · unfold f_X6_changes
    simp only [li_0, li_1, li_2, li_3, li_4, li_5, li_6, li_7, li_8, li_9, li_10, li_11, li_12, li_14, li_15, li_16, li_18, li_20, li_22, li_23, li_24, li_29, li_30, li_31, li_32, li_33, li_40, li_48, li_54, li_55, li_56, li_57, li_59, li_60, li_63, li_64, li_97, li_98, li_99, li_100, li_103, li_107, li_108, li_112, li_121, li_206, li_212, li_232, li_240, li_255, li_256, li_261, li_270, ng_1, ng_2, ng_3, ng_4, ng_9, ng_10, m1_1, nI_m1, m1_nI, if_true, if_false, nI_add, pk_mul, pk_sub, nI_div, nI_rem, nI_eq, nI_leI, nI_ltI, nI_clamp, ck_in, ck_nz, bind_sm, upM_n, upM_m, upM_s, if_pos, if_neg, l1, l2, l3]
  · rw [far 49 (by omega) (by omega) (by omega)]; exact s1
  · rw [far 49 (by omega) (by omega) (by omega)]; exact s2
  · rw [d1 56 (by omega), b1 56 (by omega)]
    have := row x 0 (by omega)
    rw [Nat.add_zero, Nat.add_zero] at this
    rw [this]
    exact s3 _ (sw_lt (by omega) hb hx)
  · rw [d1 56 (by omega), b1 56 (by omega), Nat.add_assoc, row x (1 + s) (by omega), ← Nat.add_assoc]
    exact s4 _ s (sw_lt (by omega) hb hx) hs
  · rw [d1 57 (by omega)]; exact b2 p hp
  · rw [d1 57 (by omega)]; exact b3 p hp
  · rw [far 49 (by omega) (by omega) (by omega), List.length_map]; exact t1
  · obtain ⟨h', h1, rfl⟩ := List.getElem?_map ▸ hi |> Option.map_eq_some_iff.mp
    exact d2 i h' h1
  · rw [far 49 (by omega) (by omega) (by omega)]; exact t3
  · rw [far 49 (by omega) (by omega) (by omega)]; exact t4
