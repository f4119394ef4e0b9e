-- YEARS BY A SEED: the reference
theorem m_puts {hl : List (Nat × Nat × Nat)} {M : Mem} {d p a : Nat} (hH : MH hl 0 none M) (h8 : hl.length < 8) : ∃ M', f_X6_puts (nI d) (nI p) (nI a) M = some M' ∧ MH (hl ++ [(d, p, a)]) 0 none M' ∧ (∀ j, j ≠ 11 → M' 49 j = M 49 j) ∧ ∀ k, k ≠ 49 → k ≠ 58 → M' k = M k := by
  obtain ⟨a1, a2, a3, a4⟩ := hH
  refine ⟨upM (upM (upM (upM M 58 (3 * hl.length) (nI d)) 58 (3 * hl.length + 1) (nI p)) 58 (3 * hl.length + 2) (nI a)) 49 11 (nI (hl.length + 1)), ?_, ⟨?_, fun i h hi => ?_, ?_, ?_⟩, fun j hj => ?_, fun k h1 h2 => ?_⟩
  · unfold f_X6_puts
    simp (disch := omega) only [li_0, li_1, li_2, li_3, li_4, li_5, li_6, li_7, li_8, li_9, li_10, li_11, li_12, li_14, li_15, li_16, li_18, li_20, li_22, li_23, li_24, li_29, li_30, li_31, li_32, li_33, li_40, li_48, li_54, li_55, li_56, li_57, li_59, li_60, li_63, li_64, li_97, li_98, li_99, li_100, li_103, li_107, li_108, li_112, li_121, li_206, li_212, li_232, li_240, li_255, li_256, li_261, li_270, ng_1, ng_2, ng_3, ng_4, ng_9, ng_10, m1_1, nI_m1, m1_nI, if_true, if_false, nI_add, pk_mul, pk_sub, nI_div, nI_rem, nI_eq, nI_leI, nI_ltI, nI_clamp, ck_in, ck_nz, bind_sm, upM_n, upM_m, upM_s, if_pos, if_neg, a1]
  · rw [upM_s, List.length_append]
    rfl
  · by_cases q : i < hl.length
    · rw [List.getElem?_append_left q] at hi
      simp (disch := omega) only [upM_n, upM_m]
      exact a2 i h hi
    · rw [List.getElem?_append_right (by omega)] at hi
      have hi2 : i = hl.length := by
        have := (List.getElem?_eq_some_iff.mp hi).1
        simp at this
        omega
      subst hi2
      rw [Nat.sub_self] at hi
      cases hi
      simp (disch := omega) only [upM_n, upM_m, upM_s]
      exact ⟨trivial, trivial, trivial⟩
  · rw [upM_m (by omega), upM_n (by omega), upM_n (by omega), upM_n (by omega)]; exact a3
  · show upM _ 49 11 _ 49 14 = m1
    rw [upM_m (by omega), upM_n (by omega), upM_n (by omega), upM_n (by omega)]; exact a4
  · rw [upM_m hj, upM_n (by omega), upM_n (by omega), upM_n (by omega)]
  · rw [upM_n h1, upM_n h2, upM_n h2, upM_n h2]
theorem LV'.fr {σ : SS} {M M' : Mem} (h : LV' σ M) (hF : ∀ k, 59 ≤ k → k < 68 → M' k = M k) : LV' σ M' := by
  unfold LV' MW DB BE at h ⊢
  simp only [hF 59 (by decide) (by decide), hF 60 (by decide) (by decide), hF 61 (by decide) (by decide), hF 62 (by decide) (by decide), hF 63 (by decide) (by decide), hF 64 (by decide) (by decide), hF 65 (by decide) (by decide), hF 66 (by decide) (by decide), hF 67 (by decide) (by decide)]
  exact h
theorem m_lot {M : Mem} {s : Int32} {n : Nat} (h : M 49 29 = s) (h0 : 0 < n) (hn : n < 100) : f_X6_lot (nI n) M = some (nI (shN (sd s) % n), upM M 49 29 (sd s)) := by
  have h1 := shN_lt (sd s)
  unfold f_X6_lot
  rw [ck_nz h0 (by omega), upM_s, h, show ((1103515245 : Int32) * s + 12345) = sd s from rfl, li_16, shN_eq, nI_rem (by omega) h0 (by omega)]
theorem MS.up {σ : SS} {M : Mem} {j : Nat} {x : Int32} (h : MS σ M) (h7 : j ≠ 7) (h9 : j ≠ 9) : MS σ (upM M 49 j x) := by
  unfold MS at h ⊢
  rw [upM_m (fun e => h7 e.symm), upM_m (fun e => h9 e.symm), upM_n (by omega), upM_n (by omega)]
  exact h
theorem MH.up29 {hl : List (Nat × Nat × Nat)} {M : Mem} {x : Int32} (h : MH hl 0 none M) : MH hl 0 none (upM M 49 29 x) := by
  obtain ⟨a1, a2, a3, a4⟩ := h
  refine ⟨?_, fun i h hi => ?_, ?_, ?_⟩
  · rw [upM_m (by omega)]; exact a1
  · rw [upM_n (by omega)]; exact a2 i h hi
  · rw [upM_m (by omega)]; exact a3
  · show upM M 49 29 x 49 14 = m1
    rw [upM_m (by omega)]; exact a4
/-- what the years leave alone -/
def YF (M N : Mem) : Prop := (∀ j, j ≠ 11 → j ≠ 29 → N 49 j = M 49 j) ∧ (∀ k, k ≠ 49 → k ≠ 58 → k ≠ 70 → (k < 59 ∨ 68 ≤ k) → N k = M k) ∧ ∀ i, i < 24 → N 70 i = M 58 i
theorem m_year1 {α : AS} {M : Mem} {s x3 x4 : Int32} {n : Nat} (ok : OKA α) (h : MJ α M) (hn : n ≤ 8) : ∃ e, loop (fun s7 : Int32 × Mem => f_X6_yearOf_49_49b (nI n) x3 x4 s7.1 s7.2) (nI 0, upM (upM (filM M 70 0 24 (fun i => M 58 i)) 49 29 s) 49 11 (nI 0)) = some e ∧ MH (yH (sA α) s n) 0 none e.2 ∧ MS (sA α) e.2 ∧ YF M e.2 := by
  have ok1 := ok.s.1.1
  have ok2 := ok.s.1.2.1
  have h0 : MH [] 0 none (upM (upM (filM M 70 0 24 (fun i => M 58 i)) 49 29 s) 49 11 (nI 0)) := by
    obtain ⟨a1, a2, a3, a4⟩ := h.1.2.2.1
    refine ⟨by rw [upM_s]; rfl, fun i h hi => ?_, ?_, ?_⟩
    · rw [List.getElem?_nil] at hi; cases hi
    · rw [upM_m (by omega), upM_m (by omega), filM_n (by omega)]; exact a3
    · show upM _ 49 11 _ 49 14 = m1
      rw [upM_m (by omega), upM_m (by omega), filM_n (by omega)]; exact a4
  have s0 : MS (sA α) (upM (upM (filM M 70 0 24 (fun i => M 58 i)) 49 29 s) 49 11 (nI 0)) := ((h.2.fr (M' := filM M 70 0 24 (fun i => M 58 i)) (filM_n (by omega)) (filM_n (by omega)) (filM_n (by omega))).up (by omega) (by omega)).up (by omega) (by omega)
  have y0 : YF M (upM (upM (filM M 70 0 24 (fun i => M 58 i)) 49 29 s) 49 11 (nI 0)) := by
    refine ⟨fun j h1 h2 => ?_, fun k h1 h2 h3 h4 => ?_, fun i hi => ?_⟩
    · rw [upM_m h1, upM_m h2, filM_n (by omega)]
    · rw [upM_n h1, upM_n h1, filM_n h3]
    · rw [upM_n (by omega), upM_n (by omega), filM_in (by omega) (by omega), Nat.sub_zero]
  by_cases q : 0 < nP (sA α) ∧ 0 < nA (sA α)
  · exact loop_inv (B := fun s7 : Int32 × Mem => f_X6_yearOf_49_49b (nI n) x3 x4 s7.1 s7.2) (fun i t => t.1 = nI i ∧ t.2 49 29 = (yst (nP (sA α)) (nA (sA α)) s i).1 ∧ MH (yst (nP (sA α)) (nA (sA α)) s i).2 0 none t.2 ∧ MS (sA α) t.2 ∧ YF M t.2)
      (fun t => MH (yH (sA α) s n) 0 none t.2 ∧ MS (sA α) t.2 ∧ YF M t.2) n
      (by exact ⟨rfl, by dsimp only; rw [upM_m (by omega), upM_s]; rfl, h0, s0, y0⟩)
      (by
        rintro i ⟨x, N⟩ hi ⟨hx, c0, c1, c2, c3⟩
        dsimp only at hx c0 c1 c2 c3 ⊢
        subst hx
        have len := yst_len (P := nP (sA α)) (A := nA (sA α)) (s := s) i
        have s1 : MS (sA α) (upM N 49 29 (sd (yst (nP (sA α)) (nA (sA α)) s i).1)) := c2.up (by omega) (by omega)
        have s2 : MS (sA α) (upM (upM N 49 29 (sd (yst (nP (sA α)) (nA (sA α)) s i).1)) 49 29 (sd (sd (yst (nP (sA α)) (nA (sA α)) s i).1))) := s1.up (by omega) (by omega)
        have s3 : MS (sA α) (upM (upM (upM N 49 29 (sd (yst (nP (sA α)) (nA (sA α)) s i).1)) 49 29 (sd (sd (yst (nP (sA α)) (nA (sA α)) s i).1))) 49 29 (sd (sd (sd (yst (nP (sA α)) (nA (sA α)) s i).1)))) := s2.up (by omega) (by omega)
        obtain ⟨N1, b1, b2, b3, b4⟩ := m_puts (d := shN (sd (yst (nP (sA α)) (nA (sA α)) s i).1) % 30) (p := shN (sd (sd (yst (nP (sA α)) (nA (sA α)) s i).1)) % nP (sA α)) (a := shN (sd (sd (sd (yst (nP (sA α)) (nA (sA α)) s i).1))) % nA (sA α)) (MH.up29 (x := sd (sd (sd (yst (nP (sA α)) (nA (sA α)) s i).1))) (MH.up29 (x := sd (sd (yst (nP (sA α)) (nA (sA α)) s i).1)) (MH.up29 (x := sd (yst (nP (sA α)) (nA (sA α)) s i).1) c1))) (by omega)
        refine ⟨(nI (i + 1), N1), ?_, rfl, ?_, b2, ?_, ?_, ?_, ?_⟩
        · unfold f_X6_yearOf_49_49b
          rw [c2.1.1, c2.1.2, if_neg (fun r => by rw [nI_leI (by omega) (by omega)] at r; omega), if_neg (c := nI (nP (sA α)) ≤ 0) (fun r => by rw [li_0, nI_leI (by omega) (by omega)] at r; omega), if_neg (c := nI (nA (sA α)) ≤ 0) (fun r => by rw [li_0, nI_leI (by omega) (by omega)] at r; omega), li_30, m_lot c0 (by decide) (by decide), bind_sm]
          dsimp only
          rw [s1.1.2, m_lot upM_s q.1 (by omega), bind_sm]
          dsimp only
          rw [s2.1.1, m_lot upM_s q.2 (by omega), bind_sm]
          dsimp only
          rw [b1, bind_sm, li_1, nI_add]
        · dsimp only
          rw [b3 29 (by omega), upM_s]
          rfl
        · unfold MS at s3 ⊢
          dsimp only
          rw [b3 7 (by omega), b3 9 (by omega), b4 56 (by omega) (by omega), b4 57 (by omega) (by omega)]
          exact s3
        · intro j h1 h2
          dsimp only
          rw [b3 j h1, upM_m h2, upM_m h2, upM_m h2]; exact c3.1 j h1 h2
        · intro k h1 h2 h3 h4
          dsimp only
          rw [b4 k h1 h2, upM_n h1, upM_n h1, upM_n h1]; exact c3.2.1 k h1 h2 h3 h4
        · intro i hi
          dsimp only
          rw [b4 70 (by omega) (by omega), upM_n (by omega), upM_n (by omega), upM_n (by omega)]; exact c3.2.2 i hi)
      (by
        rintro ⟨x, N⟩ ⟨hx, c0, c1, c2, c3⟩
        dsimp only at hx c0 c1 c2 c3 ⊢
        subst hx
        refine ⟨(nI n, N), ?_, ?_, c2, c3⟩
        · unfold f_X6_yearOf_49_49b
          rw [if_pos ((nI_leI (by omega) (by omega)).mpr (Nat.le_refl _))]
        · rw [yH_t q]; exact c1)
  · have st : f_X6_yearOf_49_49b (nI n) x3 x4 (nI 0) (upM (upM (filM M 70 0 24 (fun i => M 58 i)) 49 29 s) 49 11 (nI 0)) = some (.inr (nI 0, upM (upM (filM M 70 0 24 (fun i => M 58 i)) 49 29 s) 49 11 (nI 0))) := by
      unfold f_X6_yearOf_49_49b
      rw [s0.1.1, s0.1.2]
      by_cases q1 : n ≤ 0
      · rw [if_pos ((nI_leI (by omega) (by omega)).mpr q1)]
      · rw [if_neg (fun r => by rw [nI_leI (by omega) (by omega)] at r; omega)]
        by_cases q2 : 0 < nP (sA α)
        · rw [if_neg (c := nI (nP (sA α)) ≤ 0) (fun r => by rw [li_0, nI_leI (by omega) (by omega)] at r; omega), if_pos (c := nI (nA (sA α)) ≤ 0) ((nI_leI (b := 0) (by omega) (by omega)).mpr (Nat.not_lt.mp fun r => q ⟨q2, r⟩))]
        · rw [if_pos (c := nI (nP (sA α)) ≤ 0) ((nI_leI (b := 0) (by omega) (by omega)).mpr (Nat.not_lt.mp q2))]
    refine ⟨_, loop_r (B := fun s7 : Int32 × Mem => f_X6_yearOf_49_49b (nI n) x3 x4 s7.1 s7.2) (s := (nI 0, upM (upM (filM M 70 0 24 (fun i => M 58 i)) 49 29 s) 49 11 (nI 0))) st, ?_, s0, y0⟩
    rw [yH_f q]
    exact h0
theorem m_yearOf {α : AS} {M : Mem} {s : Int32} {n w : Nat} (ok : OKA α) (h : MJ α M) (hn : n < 9) (hw : w < 2) : ∃ M', f_X6_yearOf s (nI n) (nI w) M = some (yearV α s n w, M') ∧ MJ α M' ∧ Fr 49 71 M M' := by
  have l1 : loop (fun s1 : Int32 × Mem => f_X6_yearOf_9_9b s (nI n) (nI w) (M 49 11) s1.1 s1.2) (nI 0, M) = some (nI 24, filM M 70 0 24 (fun i => M 58 i)) := by
    have := loop_for (B := fun s1 : Int32 × Mem => f_X6_yearOf_9_9b s (nI n) (nI w) (M 49 11) s1.1 s1.2) (fun j => (nI j, filM M 70 0 j (fun i => M 58 i))) 24 (e := (nI 24, filM M 70 0 24 (fun i => M 58 i)))
      (by
        intro j hj
        dsimp only
        unfold f_X6_yearOf_9_9b
        simp (disch := omega) only [li_0, li_1, li_2, li_3, li_4, li_5, li_6, li_7, li_8, li_9, li_10, li_11, li_12, li_14, li_15, li_16, li_18, li_20, li_22, li_23, li_24, li_29, li_30, li_31, li_32, li_33, li_40, li_48, li_54, li_55, li_56, li_57, li_59, li_60, li_63, li_64, li_97, li_98, li_99, li_100, li_103, li_107, li_108, li_112, li_121, li_206, li_212, li_232, li_240, li_255, li_256, li_261, li_270, ng_1, ng_2, ng_3, ng_4, ng_9, ng_10, m1_1, nI_m1, m1_nI, if_true, if_false, nI_add, pk_mul, pk_sub, nI_div, nI_rem, nI_eq, nI_leI, nI_ltI, nI_clamp, ck_in, ck_nz, bind_sm, upM_n, upM_m, upM_s, if_pos, if_neg, filM_n]
        rw [← filM_up0])
      (by
        dsimp only
        unfold f_X6_yearOf_9_9b
        simp (disch := omega) only [li_0, li_1, li_2, li_3, li_4, li_5, li_6, li_7, li_8, li_9, li_10, li_11, li_12, li_14, li_15, li_16, li_18, li_20, li_22, li_23, li_24, li_29, li_30, li_31, li_32, li_33, li_40, li_48, li_54, li_55, li_56, li_57, li_59, li_60, li_63, li_64, li_97, li_98, li_99, li_100, li_103, li_107, li_108, li_112, li_121, li_206, li_212, li_232, li_240, li_255, li_256, li_261, li_270, ng_1, ng_2, ng_3, ng_4, ng_9, ng_10, m1_1, nI_m1, m1_nI, if_true, if_false, nI_add, pk_mul, pk_sub, nI_div, nI_rem, nI_eq, nI_leI, nI_ltI, nI_clamp, ck_in, ck_nz, bind_sm, upM_n, upM_m, upM_s, if_pos, if_neg])
    rw [filM_0] at this
    exact this
  obtain ⟨e, a1, a2, a3, a4⟩ := m_year1 (s := s) (x3 := nI w) (x4 := M 49 11) (n := n) ok h (by omega)
  obtain ⟨y1, y2⟩ := yH_ok (s := s) (n := n) ok.s (by omega)
  have oky := yS_ok (s := s) (n := n) ok.s (by omega)
  have eff : Eff (yS (sA α) s n) (yH (sA α) s n) 0 none := by
    unfold Eff
    rw [keepB_0]
    show yH (sA α) s n = yH (sA α) s n ++ []
    rw [List.append_nil]
  obtain ⟨N, b1, b2, b3⟩ := m_lives oky (show MS (yS (sA α) s n) e.2 from a3) a2 ⟨y1, by decide, y2, fun o ho => by cases ho⟩ eff
  have l3 : loop (fun s10 : Int32 × Mem => f_X6_yearOf_116_116b (nI w) (M 49 11) s10.1 s10.2) (nI 0, N) = some (nI 24, filM N 58 0 24 (fun i => N 70 i)) := by
    have := loop_for (B := fun s10 : Int32 × Mem => f_X6_yearOf_116_116b (nI w) (M 49 11) s10.1 s10.2) (fun j => (nI j, filM N 58 0 j (fun i => N 70 i))) 24 (e := (nI 24, filM N 58 0 24 (fun i => N 70 i)))
      (by
        intro j hj
        dsimp only
        unfold f_X6_yearOf_116_116b
        simp (disch := omega) only [li_0, li_1, li_2, li_3, li_4, li_5, li_6, li_7, li_8, li_9, li_10, li_11, li_12, li_14, li_15, li_16, li_18, li_20, li_22, li_23, li_24, li_29, li_30, li_31, li_32, li_33, li_40, li_48, li_54, li_55, li_56, li_57, li_59, li_60, li_63, li_64, li_97, li_98, li_99, li_100, li_103, li_107, li_108, li_112, li_121, li_206, li_212, li_232, li_240, li_255, li_256, li_261, li_270, ng_1, ng_2, ng_3, ng_4, ng_9, ng_10, m1_1, nI_m1, m1_nI, if_true, if_false, nI_add, pk_mul, pk_sub, nI_div, nI_rem, nI_eq, nI_leI, nI_ltI, nI_clamp, ck_in, ck_nz, bind_sm, upM_n, upM_m, upM_s, if_pos, if_neg, filM_n]
        rw [← filM_up0])
      (by
        dsimp only
        unfold f_X6_yearOf_116_116b
        simp (disch := omega) only [li_0, li_1, li_2, li_3, li_4, li_5, li_6, li_7, li_8, li_9, li_10, li_11, li_12, li_14, li_15, li_16, li_18, li_20, li_22, li_23, li_24, li_29, li_30, li_31, li_32, li_33, li_40, li_48, li_54, li_55, li_56, li_57, li_59, li_60, li_63, li_64, li_97, li_98, li_99, li_100, li_103, li_107, li_108, li_112, li_121, li_206, li_212, li_232, li_240, li_255, li_256, li_261, li_270, ng_1, ng_2, ng_3, ng_4, ng_9, ng_10, m1_1, nI_m1, m1_nI, if_true, if_false, nI_add, pk_mul, pk_sub, nI_div, nI_rem, nI_eq, nI_leI, nI_ltI, nI_clamp, ck_in, ck_nz, bind_sm, upM_n, upM_m, upM_s, if_pos, if_neg])
    rw [filM_0] at this
    exact this
  have far : ∀ k, k ≠ 49 → k ≠ 58 → k ≠ 70 → (k < 59 ∨ 68 ≤ k) → upM (filM N 58 0 24 (fun i => N 70 i)) 49 11 (M 49 11) k = M k := fun k h1 h2 h3 h4 => by rw [upM_n h1, filM_n h2, b3 k h4]; exact a4.2.1 k h1 h2 h3 h4
  have f49 : ∀ j, j ≠ 29 → upM (filM N 58 0 24 (fun i => N 70 i)) 49 11 (M 49 11) 49 j = M 49 j := fun j hj => by
    by_cases q : j = 11
    · subst q; rw [upM_s]
    · rw [upM_m q, filM_n (by omega), b3 49 (by omega)]; exact a4.1 j q hj
  have f58 : ∀ j, j < 24 → upM (filM N 58 0 24 (fun i => N 70 i)) 49 11 (M 49 11) 58 j = M 58 j := fun j hj => by
    rw [upM_n (by omega), filM_in (by omega) (by omega), Nat.sub_zero, b3 70 (by omega)]; exact a4.2.2 j hj
  have mh : MH (hlA α) 0 none (upM (filM N 58 0 24 (fun i => N 70 i)) 49 11 (M 49 11)) := by
    obtain ⟨g1, g2, g3, g4⟩ := h.1.2.2.1
    refine ⟨by rw [f49 11 (by omega)]; exact g1, fun i h hi => ?_, by rw [f49 13 (by omega)]; exact g3, by show _ = m1; rw [f49 14 (by omega)]; exact g4⟩
    have := (List.getElem?_eq_some_iff.mp hi).1
    have h8 := ok.2.2.1.1
    rw [f58 _ (by omega), f58 _ (by omega), f58 _ (by omega)]
    exact g2 i h hi
  have ms : MS (sA α) (upM (filM N 58 0 24 (fun i => N 70 i)) 49 11 (M 49 11)) := by
    have := h.2
    unfold MS at this ⊢
    rw [f49 7 (by omega), f49 9 (by omega), far 56 (by omega) (by omega) (by omega) (by omega), far 57 (by omega) (by omega) (by omega) (by omega)]
    exact this
  have mj : MJ α (upM (filM N 58 0 24 (fun i => N 70 i)) 49 11 (M 49 11)) := by
    obtain ⟨⟨h1, h2, h3, h4, h5, h6⟩, -⟩ := h
    refine ⟨?_, ms⟩
    unfold MI
    rw [far 50 (by omega) (by omega) (by omega) (by omega), far 51 (by omega) (by omega) (by omega) (by omega), far 52 (by omega) (by omega) (by omega) (by omega), far 54 (by omega) (by omega) (by omega) (by omega), far 55 (by omega) (by omega) (by omega) (by omega), far 68 (by omega) (by omega) (by omega) (by omega), f49 26 (by omega), f49 4 (by omega)]
    exact ⟨h1, h2, mh, h4, h5, h6⟩
  have msy : MS (yS (sA α) s n) (upM (filM N 58 0 24 (fun i => N 70 i)) 49 11 (M 49 11)) := ms
  have lvy : LV' (yS (sA α) s n) (upM (filM N 58 0 24 (fun i => N 70 i)) 49 11 (M 49 11)) := b2.fr (fun k h1 h2 => by rw [upM_n (by omega), filM_n (by omega)])
  refine ⟨upM (filM N 58 0 24 (fun i => N 70 i)) 49 11 (M 49 11), ?_, mj, fun k hk => far k (by omega) (by omega) (by omega) (by omega)⟩
  unfold f_X6_yearOf f_X6_yearOf_109 yearV
  rw [li_0, l1, bind_sm, a1, bind_sm, b1, bind_sm, l3, bind_sm]
  dsimp only
  by_cases q : w = 0
  · rw [if_pos (by rw [q]), if_pos q, m_astrayNow oky msy lvy, bind_sm, m_ones (abits_lt oky), bind_sm]
  · rw [if_neg (fun r => q ((nI_eq (by omega) (by omega)).mp r)), if_neg q, m_becM oky msy lvy, bind_sm]
theorem m_year {α : AS} {M : Mem} (ok : OKA α) (h : MI α M) : (∀ s n w, n < 9 → w < 2 → ∃ M', f_X6_year s (nI n) (nI w) M = some (yearV α s n w, M') ∧ MJ α M' ∧ Fr 49 71 M M') ∧ ∀ x1 x2 x3, ¬ (In x2 9 ∧ In x3 2) → ∃ M', f_X6_year x1 x2 x3 M = some (m2, M') ∧ MJ α M' ∧ Fr 49 71 M M' := by
  obtain ⟨M1, g1, g2, g3⟩ := m_find ok h
  have mj : MJ α M1 := ⟨g2.1, g2.2.1⟩
  refine ⟨fun s n w hn hw => ?_, fun x1 x2 x3 hx => ⟨M1, ?_, mj, g3⟩⟩
  · obtain ⟨M', a1, a2, a3⟩ := m_yearOf (s := s) ok mj hn hw
    refine ⟨M', ?_, a2, g3.tr a3⟩
    unfold f_X6_year
    rw [g1, bind_sm, show (0 : Int64) = (nI 0).toInt64 from rfl, show (8 : Int64) = (nI 8).toInt64 from rfl, m_in_in (by omega) (by omega), bind_sm, if_neg (c := nI 1 = 0) (by decide), m_two_in hw, bind_sm, if_neg (c := nI 1 = 0) (by decide), a1, bind_sm]
  · unfold f_X6_year
    rw [g1, bind_sm, show (0 : Int64) = (nI 0).toInt64 from rfl, show (8 : Int64) = (nI 8).toInt64 from rfl]
    by_cases r1 : In x2 9
    · obtain ⟨j1, q1, rfl⟩ := r1
      rw [m_in_in (by omega) (by omega), bind_sm, if_neg (c := nI 1 = 0) (by decide), m_two_out (fun r => hx ⟨⟨j1, q1, rfl⟩, r⟩), bind_sm, if_pos (c := nI 0 = 0) rfl]
      rfl
    · rw [m_in_out (by omega) r1, bind_sm, if_pos (c := nI 0 = 0) rfl]
      rfl
