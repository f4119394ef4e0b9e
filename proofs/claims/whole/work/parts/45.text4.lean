-- THE TEXTS: how the reference reads the people
theorem m_readsP {n : Nat} {b : Nat → Nat} {M : Mem} (h1 : M 55 1 = nI n) (h2 : ∀ i, i < n → M 54 (56 + i) = nI (b i)) (hn : n ≤ 23) (hb : ∀ i, b i < 256) : ∃ M', f_X6_readsPeople M = some (oi (FV 72 1 55 n b), M') ∧ M' 49 9 = nI (nPof n b) ∧ (∀ j, j ≠ 9 → M' 49 j = M 49 j) ∧ (∀ a, a < nPof n b → M' 57 (2 * a) = nI ((six 72 (b (3 * a))).getD 0)) ∧ (∀ a, a < nPof n b → M' 57 (2 * a + 1) = nI ((b (3 * a + 1) - 48) % 8)) ∧ ∀ k, (k ≠ 49 ∧ k ≠ 57) → M' k = M k := by
  unfold f_X6_readsPeople
  generalize hM0 : upM M 49 9 (0 : Int32) = M0
  have z0 : M0 49 9 = nI 0 := by rw [← hM0, upM_s]; rfl
  have z1 : ∀ j, j ≠ 9 → M0 49 j = M 49 j := fun j hj => by rw [← hM0, upM_m hj]
  have z2 : ∀ k, k ≠ 49 → M0 k = M k := fun k hk => by rw [← hM0, upM_n hk]
  have e55 : M0 55 1 = nI n := by rw [z2 55 (by omega)]; exact h1
  have step : ∀ i N, i < n → ch 72 1 55 (i % 3) (b i) ≠ none → (∀ k, (k ≠ 49 ∧ k ≠ 57) → N k = M k) → N 49 9 = nI ((i + 1) / 3) → ∃ N', f_X6_readsPeople_14_14b (nI n) (nI i) N = some (.inl (nI (i + 1), N')) ∧ (∀ k, (k ≠ 49 ∧ k ≠ 57) → N' k = N k) ∧ N' 49 9 = nI ((i + 1 + 1) / 3) ∧ (∀ j, j ≠ 9 → N' 49 j = N 49 j) ∧ (∀ q, q ≠ 2 * (i / 3) + i % 3 → N' 57 q = N 57 q) ∧ (i % 3 < 2 → N' 57 (2 * (i / 3) + i % 3) = nI ((ch 72 1 55 (i % 3) (b i)).getD 0)) := by
    intro i N hi hc hk h7
    have e54 : N 54 (56 + i) = nI (b i) := by rw [hk 54 (by omega)]; exact h2 i hi
    have ao := m_personOf (k := i % 3) (x := b i) (by omega) (hb i)
    cases hv : ch 72 1 55 (i % 3) (b i) with
    | none => exact absurd hv hc
    | some v =>
      rw [hv] at ao
      have ao : f_X6_personOf (nI (i % 3)) (nI (b i)) = some (nI v) := ao
      have vl := ch_lt hv (hb i)
      unfold f_X6_readsPeople_14_14b f_X6_readsPeople_71_14 f_X6_readsPeople_86_14
      by_cases q1 : i % 3 = 2
      · refine ⟨upM N 49 9 (nI ((i + 1) / 3)), ?_, fun k hk => upM_n (by omega), ?_, fun j hj => upM_m hj, fun q _ => by rw [upM_n (by omega)], fun h => by omega⟩
        · simp (disch := omega) only [li_0, li_1, li_2, li_3, li_4, li_5, li_6, li_7, li_8, li_9, li_10, li_11, li_12, li_14, li_15, li_16, li_18, li_20, li_22, li_23, li_24, li_29, li_30, li_31, li_32, li_33, li_40, li_48, li_54, li_55, li_56, li_57, li_59, li_60, li_63, li_64, li_97, li_98, li_99, li_100, li_103, li_107, li_108, li_112, li_121, li_206, li_212, li_232, li_240, li_255, li_256, li_261, li_270, ng_1, ng_2, ng_3, ng_4, ng_9, ng_10, m1_1, nI_m1, m1_nI, if_true, if_false, nI_add, pk_mul, pk_sub, nI_div, nI_rem, nI_eq, nI_leI, nI_ltI, nI_clamp, ck_in, ck_nz, bind_sm, upM_n, upM_m, upM_s, if_pos, if_neg, e54, ao, nI_m9, h7]
          rfl
        · rw [upM_s]
          congr 1
          omega
      · by_cases q2 : i % 3 = 1
        · refine ⟨upM (upM N 57 (2 * (i / 3) + i % 3) (nI v)) 49 9 (nI ((i + 1) / 3 + 1)), ?_, fun k hk => by rw [upM_n (by omega), upM_n (by omega)], ?_, fun j hj => by rw [upM_m hj, upM_n (by omega)], fun q hq => by rw [upM_n (by omega), upM_m hq], fun h => ?_⟩
          · simp (disch := omega) only [li_0, li_1, li_2, li_3, li_4, li_5, li_6, li_7, li_8, li_9, li_10, li_11, li_12, li_14, li_15, li_16, li_18, li_20, li_22, li_23, li_24, li_29, li_30, li_31, li_32, li_33, li_40, li_48, li_54, li_55, li_56, li_57, li_59, li_60, li_63, li_64, li_97, li_98, li_99, li_100, li_103, li_107, li_108, li_112, li_121, li_206, li_212, li_232, li_240, li_255, li_256, li_261, li_270, ng_1, ng_2, ng_3, ng_4, ng_9, ng_10, m1_1, nI_m1, m1_nI, if_true, if_false, nI_add, pk_mul, pk_sub, nI_div, nI_rem, nI_eq, nI_leI, nI_ltI, nI_clamp, ck_in, ck_nz, bind_sm, upM_n, upM_m, upM_s, if_pos, if_neg, e54, ao, nI_m9, h7]
          · rw [upM_s]
            congr 1
            omega
          · rw [upM_n (by omega), upM_s]
            rfl
        · refine ⟨upM (upM N 57 (2 * (i / 3) + i % 3) (nI v)) 49 9 (nI ((i + 1) / 3)), ?_, fun k hk => by rw [upM_n (by omega), upM_n (by omega)], ?_, fun j hj => by rw [upM_m hj, upM_n (by omega)], fun q hq => by rw [upM_n (by omega), upM_m hq], fun h => ?_⟩
          · simp (disch := omega) only [li_0, li_1, li_2, li_3, li_4, li_5, li_6, li_7, li_8, li_9, li_10, li_11, li_12, li_14, li_15, li_16, li_18, li_20, li_22, li_23, li_24, li_29, li_30, li_31, li_32, li_33, li_40, li_48, li_54, li_55, li_56, li_57, li_59, li_60, li_63, li_64, li_97, li_98, li_99, li_100, li_103, li_107, li_108, li_112, li_121, li_206, li_212, li_232, li_240, li_255, li_256, li_261, li_270, ng_1, ng_2, ng_3, ng_4, ng_9, ng_10, m1_1, nI_m1, m1_nI, if_true, if_false, nI_add, pk_mul, pk_sub, nI_div, nI_rem, nI_eq, nI_leI, nI_ltI, nI_clamp, ck_in, ck_nz, bind_sm, upM_n, upM_m, upM_s, if_pos, if_neg, e54, ao, nI_m9, h7]
            rfl
          · rw [upM_s]
            congr 1
            omega
          · rw [upM_n (by omega), upM_s]
            rfl
  have go : ∀ m, m ≤ n → ffN 72 1 55 b m = none → ∀ (Q : (Int32 × Mem) ⊕ (Int32 × Mem) → Prop), (∀ N, (∀ k, (k ≠ 49 ∧ k ≠ 57) → N k = M k) → N 49 9 = nI ((m + 1) / 3) → (∀ j, j ≠ 9 → N 49 j = M 49 j) → (∀ j, j < m → j % 3 < 2 → N 57 (2 * (j / 3) + j % 3) = nI ((ch 72 1 55 (j % 3) (b j)).getD 0)) → ∃ e, f_X6_readsPeople_14_14b (nI n) (nI m) N = some (.inr e) ∧ Q e) → ∃ e, loop (fun s2 : Int32 × Mem => f_X6_readsPeople_14_14b (nI n) s2.1 s2.2) (nI 0, M0) = some e ∧ Q e := by
    intro m hm hf Q hQ
    refine loop_inv (B := fun s2 : Int32 × Mem => f_X6_readsPeople_14_14b (nI n) s2.1 s2.2) (fun i q => q.1 = nI i ∧ (∀ k, (k ≠ 49 ∧ k ≠ 57) → q.2 k = M k) ∧ q.2 49 9 = nI ((i + 1) / 3) ∧ (∀ j, j ≠ 9 → q.2 49 j = M 49 j) ∧ ∀ j, j < i → j % 3 < 2 → q.2 57 (2 * (j / 3) + j % 3) = nI ((ch 72 1 55 (j % 3) (b j)).getD 0)) Q m (s := (nI 0, M0))
      (by exact ⟨rfl, fun k hk => z2 k hk.1, z0, z1, fun j hj => by omega⟩)
      (by
        rintro i ⟨x, N⟩ hi ⟨rfl, c1, c2, c3, c4⟩
        dsimp only at c1 c2 c3 c4 ⊢
        obtain ⟨N', d1, d2, d3, d4, d5, d6⟩ := step i N (by omega) (ffN_none hf i hi) c1 c2
        refine ⟨(nI (i + 1), N'), d1, rfl, fun k hk => (d2 k hk).trans (c1 k hk), d3, fun j hj => (d4 j hj).trans (c3 j hj), fun j hj h => ?_⟩
        dsimp only
        by_cases q : j = i
        · subst q
          exact d6 h
        · rw [d5 _ (by omega)]
          exact c4 j (by omega) h)
      (by
        rintro ⟨x, N⟩ ⟨rfl, c1, c2, c3, c4⟩
        exact hQ N c1 c2 c3 c4)
  rw [li_1, li_0]
  simp (disch := omega) only [nI_clamp, ck_in, e55]
  cases hf : ffN 72 1 55 b n with
  | some j =>
    obtain ⟨j1, j2, j3⟩ := ffN_some hf
    have hFV : FV 72 1 55 n b = some j := by unfold FV; rw [hf, orB_s]
    have hA : nPof n b = 0 := by unfold nPof; rw [hFV, if_neg (by simp)]
    obtain ⟨e, g1, g2⟩ := go j (by omega) j3 (fun e => ∃ N, e = .inr (nI j, upM N 49 9 (nI 0)) ∧ (∀ k, (k ≠ 49 ∧ k ≠ 57) → N k = M k) ∧ ∀ j, j ≠ 9 → N 49 j = M 49 j) (fun N c1 c2 c3 c4 => by
      refine ⟨_, ?_, N, rfl, c1, c3⟩
      have e54 : N 54 (56 + j) = nI (b j) := by rw [c1 54 (by omega)]; exact h2 j j1
      have ao := m_personOf (k := j % 3) (x := b j) (by omega) (hb j)
      rw [show ch 72 1 55 (j % 3) (b j) = none from j2] at ao
      have ao : f_X6_personOf (nI (j % 3)) (nI (b j)) = some m9 := ao
      unfold f_X6_readsPeople_14_14b
      simp (disch := omega) only [li_0, li_1, li_2, li_3, li_4, li_5, li_6, li_7, li_8, li_9, li_10, li_11, li_12, li_14, li_15, li_16, li_18, li_20, li_22, li_23, li_24, li_29, li_30, li_31, li_32, li_33, li_40, li_48, li_54, li_55, li_56, li_57, li_59, li_60, li_63, li_64, li_97, li_98, li_99, li_100, li_103, li_107, li_108, li_112, li_121, li_206, li_212, li_232, li_240, li_255, li_256, li_261, li_270, ng_1, ng_2, ng_3, ng_4, ng_9, ng_10, m1_1, nI_m1, m1_nI, if_true, if_false, nI_add, pk_mul, pk_sub, nI_div, nI_rem, nI_eq, nI_leI, nI_ltI, nI_clamp, ck_in, ck_nz, bind_sm, upM_n, upM_m, upM_s, if_pos, if_neg, e54, ao])
    obtain ⟨N, rfl, c1, c3⟩ := g2
    rw [g1, hFV, hA]
    exact ⟨upM N 49 9 (nI 0), rfl, upM_s, fun j hj => by rw [upM_m hj]; exact c3 j hj, fun a ha => by omega, fun a ha => by omega, fun k hk => by rw [upM_n (by omega)]; exact c1 k hk⟩
  | none =>
    obtain ⟨e, g1, g2⟩ := go n (Nat.le_refl n) hf (fun e => ∃ N, e = .inl (nI n, N) ∧ (∀ k, (k ≠ 49 ∧ k ≠ 57) → N k = M k) ∧ N 49 9 = nI ((n + 1) / 3) ∧ (∀ j, j ≠ 9 → N 49 j = M 49 j) ∧ ∀ j, j < n → j % 3 < 2 → N 57 (2 * (j / 3) + j % 3) = nI ((ch 72 1 55 (j % 3) (b j)).getD 0)) (fun N c1 c2 c3 c4 => by
      refine ⟨_, ?_, N, rfl, c1, c2, c3, c4⟩
      unfold f_X6_readsPeople_14_14b
      simp (disch := omega) only [li_0, li_1, li_2, li_3, li_4, li_5, li_6, li_7, li_8, li_9, li_10, li_11, li_12, li_14, li_15, li_16, li_18, li_20, li_22, li_23, li_24, li_29, li_30, li_31, li_32, li_33, li_40, li_48, li_54, li_55, li_56, li_57, li_59, li_60, li_63, li_64, li_97, li_98, li_99, li_100, li_103, li_107, li_108, li_112, li_121, li_206, li_212, li_232, li_240, li_255, li_256, li_261, li_270, ng_1, ng_2, ng_3, ng_4, ng_9, ng_10, m1_1, nI_m1, m1_nI, if_true, if_false, nI_add, pk_mul, pk_sub, nI_div, nI_rem, nI_eq, nI_leI, nI_ltI, nI_clamp, ck_in, ck_nz, bind_sm, upM_n, upM_m, upM_s, if_pos, if_neg])
    obtain ⟨N, rfl, c1, c2, c3, c4⟩ := g2
    rw [g1]
    show ∃ M', (if nI n ≤ 0 then some ((-1 : Int32), N) else (if remI (nI n) (3 : Int32) = (2 : Int32) then some ((-1 : Int32), N) else some (nI n, upM N 49 9 (nI 0)))) = some (oi (FV 72 1 55 n b), M') ∧ _
    by_cases q : n = 0 ∨ n % 3 = 2
    · have hFV : FV 72 1 55 n b = none := by unfold FV; rw [hf, orB_n, if_pos q]
      have hA : nPof n b = (n + 1) / 3 := by unfold nPof; rw [hFV, if_pos rfl]
      have nin := fun a (ha : a < nPof n b) => nPof_in ha
      rw [hFV]
      rw [hA] at nin ⊢
      refine ⟨N, ?_, c2, c3, fun a ha => ?_, fun a ha => ?_, c1⟩
      · rcases q with q | q
        · subst q
          simp (disch := omega) only [li_0, li_1, li_2, li_3, li_4, li_5, li_6, li_7, li_8, li_9, li_10, li_11, li_12, li_14, li_15, li_16, li_18, li_20, li_22, li_23, li_24, li_29, li_30, li_31, li_32, li_33, li_40, li_48, li_54, li_55, li_56, li_57, li_59, li_60, li_63, li_64, li_97, li_98, li_99, li_100, li_103, li_107, li_108, li_112, li_121, li_206, li_212, li_232, li_240, li_255, li_256, li_261, li_270, ng_1, ng_2, ng_3, ng_4, ng_9, ng_10, m1_1, nI_m1, m1_nI, if_true, if_false, nI_add, pk_mul, pk_sub, nI_div, nI_rem, nI_eq, nI_leI, nI_ltI, nI_clamp, ck_in, ck_nz, bind_sm, upM_n, upM_m, upM_s, if_pos, if_neg, oi_n]
        · simp (disch := omega) only [li_0, li_1, li_2, li_3, li_4, li_5, li_6, li_7, li_8, li_9, li_10, li_11, li_12, li_14, li_15, li_16, li_18, li_20, li_22, li_23, li_24, li_29, li_30, li_31, li_32, li_33, li_40, li_48, li_54, li_55, li_56, li_57, li_59, li_60, li_63, li_64, li_97, li_98, li_99, li_100, li_103, li_107, li_108, li_112, li_121, li_206, li_212, li_232, li_240, li_255, li_256, li_261, li_270, ng_1, ng_2, ng_3, ng_4, ng_9, ng_10, m1_1, nI_m1, m1_nI, if_true, if_false, nI_add, pk_mul, pk_sub, nI_div, nI_rem, nI_eq, nI_leI, nI_ltI, nI_clamp, ck_in, ck_nz, bind_sm, upM_n, upM_m, upM_s, if_pos, if_neg, oi_n]
      · obtain ⟨i1, i2, i3⟩ := nin a ha
        have := c4 (3 * a) (by omega) (by omega)
        rw [show 2 * (3 * a / 3) + 3 * a % 3 = 2 * a by omega, show 3 * a % 3 = 0 by omega] at this
        exact this
      · obtain ⟨i1, i2, d1, d2⟩ := nin a ha
        have := c4 (3 * a + 1) (by omega) (by omega)
        rw [show 2 * ((3 * a + 1) / 3) + (3 * a + 1) % 3 = 2 * a + 1 by omega, show (3 * a + 1) % 3 = 1 by omega] at this
        rw [this]
        unfold ch
        rw [if_neg (by omega), if_pos (by omega), if_pos ⟨d1, d2⟩, Nat.mod_eq_of_lt (by omega)]
        rfl
    · have hFV : FV 72 1 55 n b = some n := by unfold FV; rw [hf, orB_n, if_neg q]
      have hA : nPof n b = 0 := by unfold nPof; rw [hFV, if_neg (by simp)]
      rw [hFV, hA]
      refine ⟨upM N 49 9 (nI 0), ?_, upM_s, fun j hj => by rw [upM_m hj]; exact c3 j hj, fun a ha => by omega, fun a ha => by omega, fun k hk => by rw [upM_n (by omega)]; exact c1 k hk⟩
      simp (disch := omega) only [li_0, li_1, li_2, li_3, li_4, li_5, li_6, li_7, li_8, li_9, li_10, li_11, li_12, li_14, li_15, li_16, li_18, li_20, li_22, li_23, li_24, li_29, li_30, li_31, li_32, li_33, li_40, li_48, li_54, li_55, li_56, li_57, li_59, li_60, li_63, li_64, li_97, li_98, li_99, li_100, li_103, li_107, li_108, li_112, li_121, li_206, li_212, li_232, li_240, li_255, li_256, li_261, li_270, ng_1, ng_2, ng_3, ng_4, ng_9, ng_10, m1_1, nI_m1, m1_nI, if_true, if_false, nI_add, pk_mul, pk_sub, nI_div, nI_rem, nI_eq, nI_leI, nI_ltI, nI_clamp, ck_in, ck_nz, bind_sm, upM_n, upM_m, upM_s, if_pos, if_neg, oi_s]
