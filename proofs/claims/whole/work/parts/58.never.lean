-- WHAT WAS HEARD: never, was
noncomputable def bb (P : Prop) : Int32 := @ite Int32 P (Classical.propDecidable P) (nI 1) (nI 0)
theorem bb_t {P : Prop} (h : P) : bb P = nI 1 := if_pos h
theorem bb_f {P : Prop} (h : ¬ P) : bb P = nI 0 := if_neg h
theorem m_isHeard {α : AS} {τ : SS} {M : Mem} {hl : List (Nat × Nat × Nat)} {g : Nat} {od : Option (Nat × Nat × Nat)} (ok : OKA α) (okt : OKS τ) (hS : MS τ M) (hH : MH hl g od M) (okh : OKH (nP τ) hl g od) (he : Eff τ hl g od) (h1 : M 49 26 = nI (heA α).length) (h2 : ∀ (i : Nat) (h : Nat × Nat × Nat × Nat), (heA α)[i]? = some h → M 68 (4 * i) = nI h.1 ∧ M 68 (4 * i + 1) = nI h.2.1 ∧ M 68 (4 * i + 2) = nI h.2.2.1 ∧ M 68 (4 * i + 3) = nI h.2.2.2) : ∃ M', f_X6_isHeard M = some (bb (hears α τ), M') ∧ LV' τ M' ∧ Fr 59 68 M M' := by
  obtain ⟨M1, g1, g2, g3⟩ := m_lives okt hS hH okh he
  have h8 := ok.2.2.2.1.1
  have ok2 := okt.1.2.1
  have e9 : M1 49 9 = nI (nP τ) := by rw [g3 49 (by omega)]; exact hS.1.2
  have s0 : M1 49 26 = nI (heA α).length := by rw [g3 49 (by omega)]; exact h1
  have s2 : ∀ (i : Nat) (h : Nat × Nat × Nat × Nat), (heA α)[i]? = some h → M1 68 (4 * i) = nI h.1 ∧ M1 68 (4 * i + 1) = nI h.2.1 ∧ M1 68 (4 * i + 2) = nI h.2.2.1 ∧ M1 68 (4 * i + 3) = nI h.2.2.2 := by rw [g3 68 (by omega)]; exact h2
  have lp : loop (fun s3 : Int32 × Int32 => f_X6_isHeard_8_8b s3.1 s3.2 M1) (nI 1, nI 0) = some (bb (hears α τ), nI (heA α).length) := by
    have := loop_for (B := fun s3 : Int32 × Int32 => f_X6_isHeard_8_8b s3.1 s3.2 M1) (fun i => (bb (∀ (j : Nat) (h : Nat × Nat × Nat × Nat), j < i → (heA α)[j]? = some h → soH τ h), nI i)) (heA α).length (e := (bb (∀ (j : Nat) (h : Nat × Nat × Nat × Nat), j < (heA α).length → (heA α)[j]? = some h → soH τ h), nI (heA α).length))
      (by
        intro i hi
        dsimp only
        obtain ⟨h, hh⟩ : ∃ h, (heA α)[i]? = some h := ⟨_, List.getElem?_eq_getElem hi⟩
        obtain ⟨o1, o2, o3, o4⟩ := ok.2.2.2.1.2 h (List.mem_of_getElem? hh)
        obtain ⟨d1, d2, d3, d4⟩ := s2 i h hh
        have ip := m_isP (i := h.2.1) e9 (show nP τ < 100 by omega) (show h.2.1 < 100 by omega)
        have okv := (okt.wk (h.1 + 1)).2.1 h.2.1 h.2.2.1
        have tail : (∀ (j : Nat) (h : Nat × Nat × Nat × Nat), j < i + 1 → (heA α)[j]? = some h → soH τ h) ↔ ((∀ (j : Nat) (h : Nat × Nat × Nat × Nat), j < i → (heA α)[j]? = some h → soH τ h) ∧ soH τ h) := by
          constructor
          · intro f
            exact ⟨fun j h' hj => f j h' (by omega), f i h (by omega) hh⟩
          · rintro ⟨f1, f2⟩ j h' hj e
            by_cases q : j = i
            · subst q
              rw [hh] at e
              cases e
              exact f2
            · exact f1 j h' (by omega) e
        unfold f_X6_isHeard_8_8b f_X6_isHeard_87_8 f_X6_isHeard_88_8
        by_cases q1 : (∀ (j : Nat) (h : Nat × Nat × Nat × Nat), j < i → (heA α)[j]? = some h → soH τ h)
        · rw [bb_t q1]
          by_cases q2 : h.2.1 < nP τ
          · have sp := (g2.2.1 h.1 o1).2.1 h.2.1 h.2.2.1 q2 o3
            rw [show 40 * h.1 + (5 * h.2.1 + h.2.2.1) = 40 * h.1 + 5 * h.2.1 + h.2.2.1 by omega] at sp
            by_cases q3 : (wk τ (h.1 + 1)).2.1 h.2.1 h.2.2.1 = h.2.2.2
            · rw [bb_t (tail.mpr ⟨q1, q2, q3⟩)]
              simp (disch := omega) only [li_0, li_1, li_2, li_3, li_4, li_5, li_6, li_7, li_8, li_9, li_10, li_11, li_12, li_14, li_15, li_16, li_18, li_20, li_22, li_23, li_24, li_29, li_30, li_31, li_32, li_33, li_40, li_48, li_54, li_55, li_56, li_57, li_59, li_60, li_63, li_64, li_97, li_98, li_99, li_100, li_103, li_107, li_108, li_112, li_121, li_206, li_212, li_232, li_240, li_255, li_256, li_261, li_270, ng_1, ng_2, ng_3, ng_4, ng_9, ng_10, m1_1, nI_m1, m1_nI, if_true, if_false, nI_add, pk_mul, pk_sub, nI_div, nI_rem, nI_eq, nI_leI, nI_ltI, nI_clamp, ck_in, ck_nz, bind_sm, upM_n, upM_m, upM_s, if_pos, if_neg, s0, d1, d2, d3, d4, ip, sp]
            · rw [bb_f (fun r => q3 (tail.mp r).2.2)]
              simp (disch := omega) only [li_0, li_1, li_2, li_3, li_4, li_5, li_6, li_7, li_8, li_9, li_10, li_11, li_12, li_14, li_15, li_16, li_18, li_20, li_22, li_23, li_24, li_29, li_30, li_31, li_32, li_33, li_40, li_48, li_54, li_55, li_56, li_57, li_59, li_60, li_63, li_64, li_97, li_98, li_99, li_100, li_103, li_107, li_108, li_112, li_121, li_206, li_212, li_232, li_240, li_255, li_256, li_261, li_270, ng_1, ng_2, ng_3, ng_4, ng_9, ng_10, m1_1, nI_m1, m1_nI, if_true, if_false, nI_add, pk_mul, pk_sub, nI_div, nI_rem, nI_eq, nI_leI, nI_ltI, nI_clamp, ck_in, ck_nz, bind_sm, upM_n, upM_m, upM_s, if_pos, if_neg, s0, d1, d2, d3, d4, ip, sp]
          · rw [bb_f (fun r => q2 (tail.mp r).2.1)]
            simp (disch := omega) only [li_0, li_1, li_2, li_3, li_4, li_5, li_6, li_7, li_8, li_9, li_10, li_11, li_12, li_14, li_15, li_16, li_18, li_20, li_22, li_23, li_24, li_29, li_30, li_31, li_32, li_33, li_40, li_48, li_54, li_55, li_56, li_57, li_59, li_60, li_63, li_64, li_97, li_98, li_99, li_100, li_103, li_107, li_108, li_112, li_121, li_206, li_212, li_232, li_240, li_255, li_256, li_261, li_270, ng_1, ng_2, ng_3, ng_4, ng_9, ng_10, m1_1, nI_m1, m1_nI, if_true, if_false, nI_add, pk_mul, pk_sub, nI_div, nI_rem, nI_eq, nI_leI, nI_ltI, nI_clamp, ck_in, ck_nz, bind_sm, upM_n, upM_m, upM_s, if_pos, if_neg, s0, d2, ip]
        · rw [bb_f q1, bb_f (fun r => q1 (tail.mp r).1)]
          simp (disch := omega) only [li_0, li_1, li_2, li_3, li_4, li_5, li_6, li_7, li_8, li_9, li_10, li_11, li_12, li_14, li_15, li_16, li_18, li_20, li_22, li_23, li_24, li_29, li_30, li_31, li_32, li_33, li_40, li_48, li_54, li_55, li_56, li_57, li_59, li_60, li_63, li_64, li_97, li_98, li_99, li_100, li_103, li_107, li_108, li_112, li_121, li_206, li_212, li_232, li_240, li_255, li_256, li_261, li_270, ng_1, ng_2, ng_3, ng_4, ng_9, ng_10, m1_1, nI_m1, m1_nI, if_true, if_false, nI_add, pk_mul, pk_sub, nI_div, nI_rem, nI_eq, nI_leI, nI_ltI, nI_clamp, ck_in, ck_nz, bind_sm, upM_n, upM_m, upM_s, if_pos, if_neg, s0])
      (by
        dsimp only
        unfold f_X6_isHeard_8_8b
        simp (disch := omega) only [li_0, li_1, li_2, li_3, li_4, li_5, li_6, li_7, li_8, li_9, li_10, li_11, li_12, li_14, li_15, li_16, li_18, li_20, li_22, li_23, li_24, li_29, li_30, li_31, li_32, li_33, li_40, li_48, li_54, li_55, li_56, li_57, li_59, li_60, li_63, li_64, li_97, li_98, li_99, li_100, li_103, li_107, li_108, li_112, li_121, li_206, li_212, li_232, li_240, li_255, li_256, li_261, li_270, ng_1, ng_2, ng_3, ng_4, ng_9, ng_10, m1_1, nI_m1, m1_nI, if_true, if_false, nI_add, pk_mul, pk_sub, nI_div, nI_rem, nI_eq, nI_leI, nI_ltI, nI_clamp, ck_in, ck_nz, bind_sm, upM_n, upM_m, upM_s, if_pos, if_neg, s0])
    try dsimp only at this
    rw [bb_t (show ∀ (j : Nat) (h : Nat × Nat × Nat × Nat), j < 0 → (heA α)[j]? = some h → soH τ h from fun j h hj => by omega)] at this
    rw [this]
    have : (∀ (j : Nat) (h : Nat × Nat × Nat × Nat), j < (heA α).length → (heA α)[j]? = some h → soH τ h) ↔ hears α τ := by
      constructor
      · intro f h hm
        obtain ⟨i, hi⟩ := List.getElem?_of_mem hm
        exact f i h (List.getElem?_eq_some_iff.mp hi).1 hi
      · intro f j h _ e
        exact f h (List.mem_of_getElem? e)
    rw [propext this]
  refine ⟨M1, ?_, g2, g3⟩
  unfold f_X6_isHeard
  simp only [li_0, li_1, li_2, li_3, li_4, li_5, li_6, li_7, li_8, li_9, li_10, li_11, li_12, li_14, li_15, li_16, li_18, li_20, li_22, li_23, li_24, li_29, li_30, li_31, li_32, li_33, li_40, li_48, li_54, li_55, li_56, li_57, li_59, li_60, li_63, li_64, li_97, li_98, li_99, li_100, li_103, li_107, li_108, li_112, li_121, li_206, li_212, li_232, li_240, li_255, li_256, li_261, li_270, ng_1, ng_2, ng_3, ng_4, ng_9, ng_10, m1_1, nI_m1, m1_nI, if_true, if_false, nI_add, pk_mul, pk_sub, nI_div, nI_rem, nI_eq, nI_leI, nI_ltI, nI_clamp, ck_in, ck_nz, bind_sm, upM_n, upM_m, upM_s, if_pos, if_neg, g1, lp]
  by_cases q : hears α τ
  · rw [bb_t q]; rfl
  · rw [bb_f q]; rfl
theorem HeI.frT {α : AS} {M M' : Mem} (h : HeI α M) (hF : FrT M M') : HeI α M' := by
  unfold HeI at h ⊢
  rw [hF 31 (by omega), hF 32 (by omega), hF 33 (by omega), hF 34 (by omega), hF 35 (by omega)]
  exact h
/-- one hiring less -/
def less (α : AS) (k : Nat) : SS := withH (sA α) ((hlA α).eraseIdx k)
theorem less_ok {α : AS} {k : Nat} (ok : OKA α) : OKS (less α k) := by
  refine withH_ok ok.s ?_ fun h hh => ok.2.2.1.2 h (List.mem_of_mem_eraseIdx hh)
  have := ok.2.2.1.1
  rw [List.length_eraseIdx]
  split <;> omega
noncomputable def neverV (α : AS) : Nat := bitsOf (fun k => hears α (less α k)) (hlA α).length
theorem c_never {α : AS} {M : Mem} (ok : OKA α) (h : CI α M) : ∃ M', f_X5_never M = some (nI (neverV α), M') ∧ CI α M' ∧ Fr 0 49 M M' := by
  have h8 : (hlA α).length ≤ 8 := ok.2.2.1.1
  unfold f_X5_never neverV
  obtain ⟨e, l1, l2, l3⟩ := loop_inv (B := fun s4 : Int32 × Int32 × Mem => f_X5_never_4_4b s4.1 s4.2.1 s4.2.2) (fun i q => q.1 = nI (bitsOf (fun k => hears α (less α k)) i) ∧ q.2.1 = nI i ∧ FrT M q.2.2)
    (fun q => q.1 = nI (bitsOf (fun k => hears α (less α k)) (hlA α).length) ∧ FrT M q.2.2) (hlA α).length (s := (nI 0, nI 0, M))
    (by exact ⟨rfl, rfl, FrT.rf⟩)
    (by
      rintro i ⟨x, y, N⟩ hi ⟨hx, hy, c1⟩
      dsimp only at hx hy c1 ⊢
      subst hx hy
      have ci := h.frT c1
      have e6 : N 5 6 = nI (hlA α).length := ci.2.1.1.2.2
      obtain ⟨M1, a1, a2, a3⟩ := c_become ok.s ci.2.1
      obtain ⟨M2, b1, b2, b3⟩ := c_drop (k := i) SI_13 (show (hs (sA α)).length ≤ 9 by exact Nat.le_trans h8 (by omega)) hi a2
      have t2 : FrT N M2 := a3.t1.tr b3.t1
      obtain ⟨r, M3, d1, d2, d3⟩ := c_comes ok (less_ok ok) b2 (ci.2.2.2.2.1.frT t2)
      have t3 : FrT M M3 := (c1.tr t2).tr d3.t2
      unfold f_X5_never_4_4b f_X5_never_47_4
      rcases d2 with ⟨rfl, d2⟩ | ⟨rfl, d2⟩
      · refine ⟨(nI (bitsOf (fun k => hears α (less α k)) (i + 1)), nI (i + 1), M3), ?_, rfl, rfl, t3⟩
        rw [bitsOf_t d2, ← nI_or2 (bitsOf_lt i) (by omega)]
        simp (disch := omega) only [li_0, li_1, li_2, li_3, li_4, li_5, li_6, li_7, li_8, li_9, li_10, li_11, li_12, li_14, li_15, li_16, li_18, li_20, li_22, li_23, li_24, li_29, li_30, li_31, li_32, li_33, li_40, li_48, li_54, li_55, li_56, li_57, li_59, li_60, li_63, li_64, li_97, li_98, li_99, li_100, li_103, li_107, li_108, li_112, li_121, li_206, li_212, li_232, li_240, li_255, li_256, li_261, li_270, ng_1, ng_2, ng_3, ng_4, ng_9, ng_10, m1_1, nI_m1, m1_nI, if_true, if_false, nI_add, pk_mul, pk_sub, nI_div, nI_rem, nI_eq, nI_leI, nI_ltI, nI_clamp, ck_in, ck_nz, bind_sm, upM_n, upM_m, upM_s, if_pos, if_neg, e6, a1, b1, d1]
      · refine ⟨(nI (bitsOf (fun k => hears α (less α k)) (i + 1)), nI (i + 1), M3), ?_, rfl, rfl, t3⟩
        rw [bitsOf_f d2]
        simp (disch := omega) only [li_0, li_1, li_2, li_3, li_4, li_5, li_6, li_7, li_8, li_9, li_10, li_11, li_12, li_14, li_15, li_16, li_18, li_20, li_22, li_23, li_24, li_29, li_30, li_31, li_32, li_33, li_40, li_48, li_54, li_55, li_56, li_57, li_59, li_60, li_63, li_64, li_97, li_98, li_99, li_100, li_103, li_107, li_108, li_112, li_121, li_206, li_212, li_232, li_240, li_255, li_256, li_261, li_270, ng_1, ng_2, ng_3, ng_4, ng_9, ng_10, m1_1, nI_m1, m1_nI, if_true, if_false, nI_add, pk_mul, pk_sub, nI_div, nI_rem, nI_eq, nI_leI, nI_ltI, nI_clamp, ck_in, ck_nz, bind_sm, upM_n, upM_m, upM_s, if_pos, if_neg, e6, a1, b1, d1])
    (by
      rintro ⟨x, y, N⟩ ⟨hx, hy, c1⟩
      dsimp only at hx hy c1 ⊢
      subst hy
      have e6 : N 5 6 = nI (hlA α).length := (h.frT c1).2.1.1.2.2
      refine ⟨(x, nI (hlA α).length, N), ?_, hx, c1⟩
      unfold f_X5_never_4_4b
      simp (disch := omega) only [li_0, li_1, li_2, li_3, li_4, li_5, li_6, li_7, li_8, li_9, li_10, li_11, li_12, li_14, li_15, li_16, li_18, li_20, li_22, li_23, li_24, li_29, li_30, li_31, li_32, li_33, li_40, li_48, li_54, li_55, li_56, li_57, li_59, li_60, li_63, li_64, li_97, li_98, li_99, li_100, li_103, li_107, li_108, li_112, li_121, li_206, li_212, li_232, li_240, li_255, li_256, li_261, li_270, ng_1, ng_2, ng_3, ng_4, ng_9, ng_10, m1_1, nI_m1, m1_nI, if_true, if_false, nI_add, pk_mul, pk_sub, nI_div, nI_rem, nI_eq, nI_leI, nI_ltI, nI_clamp, ck_in, ck_nz, bind_sm, upM_n, upM_m, upM_s, if_pos, if_neg, e6])
  refine ⟨e.2.2, ?_, h.frT l3, l3.w⟩
  simp only [li_0, li_1, li_2, li_3, li_4, li_5, li_6, li_7, li_8, li_9, li_10, li_11, li_12, li_14, li_15, li_16, li_18, li_20, li_22, li_23, li_24, li_29, li_30, li_31, li_32, li_33, li_40, li_48, li_54, li_55, li_56, li_57, li_59, li_60, li_63, li_64, li_97, li_98, li_99, li_100, li_103, li_107, li_108, li_112, li_121, li_206, li_212, li_232, li_240, li_255, li_256, li_261, li_270, ng_1, ng_2, ng_3, ng_4, ng_9, ng_10, m1_1, nI_m1, m1_nI, if_true, if_false, nI_add, pk_mul, pk_sub, nI_div, nI_rem, nI_eq, nI_leI, nI_ltI, nI_clamp, ck_in, ck_nz, bind_sm, upM_n, upM_m, upM_s, if_pos, if_neg, l1, l2]
theorem keepB_one : ∀ (l : List (Nat × Nat × Nat)) (i j : Nat), keepB (2 ^ i) l j = if j ≤ i then l.eraseIdx (i - j) else l := by
  intro l
  induction l with
  | nil => intro i j; simp [keepB]
  | cons x l ih =>
    intro i j
    show (if (2 ^ i).testBit j = true then keepB (2 ^ i) l (j + 1) else x :: keepB (2 ^ i) l (j + 1)) = _
    rw [ih, Nat.testBit_two_pow]
    by_cases q1 : i = j
    · subst q1
      rw [if_pos (by simp), if_neg (by omega), if_pos (Nat.le_refl i), Nat.sub_self]
      rfl
    · rw [if_neg (by simp [q1])]
      by_cases q2 : j ≤ i
      · rw [if_pos (by omega), if_pos q2, show i - j = (i - (j + 1)) + 1 by omega]
        rfl
      · rw [if_neg (by omega), if_neg q2]
theorem shl1 {i : Nat} (h : i < 9) : shlI (nI 1) (nI i) = nI (2 ^ i) := by
  have : ∀ i, i < 9 → shlI (nI 1) (nI i) = nI (2 ^ i) := by decide +kernel
  exact this i h
/-- the reference after lives in which only 'gone' was written, and put back -/
theorem MJ.back2 {α : AS} {M N : Mem} (h : MJ α M) (c1 : ∀ j, j ≠ 13 → N 49 j = M 49 j) (c2 : N 49 13 = nI 0) (c3 : ∀ k, k ≠ 49 → (k < 59 ∨ 68 ≤ k) → N k = M k) : MJ α N := by
  refine ⟨?_, ?_⟩
  · obtain ⟨h1, h2, h3, h4, h5, h6⟩ := h.1
    unfold MI
    rw [c3 50 (by omega) (by omega), c3 51 (by omega) (by omega), c3 52 (by omega) (by omega), c3 54 (by omega) (by omega), c3 55 (by omega) (by omega), c3 68 (by omega) (by omega), c1 26 (by omega), c1 4 (by omega)]
    refine ⟨h1, h2, ?_, h4, h5, h6⟩
    obtain ⟨g1, g2, g3, g4⟩ := h3
    unfold MH
    rw [c3 58 (by omega) (by omega), c1 11 (by omega), c1 14 (by omega), c1 15 (by omega), c1 16 (by omega)]
    exact ⟨g1, g2, c2, g4⟩
  · have := h.2
    unfold MS at this ⊢
    rw [c1 7 (by omega), c1 9 (by omega), c3 56 (by omega) (by omega), c3 57 (by omega) (by omega)]
    exact this
theorem m_neverNow {α : AS} {M : Mem} (ok : OKA α) (h : MJ α M) : ∃ M', f_X6_neverNow M = some (nI (neverV α), M') ∧ MJ α M' ∧ Fr 49 71 M M' := by
  have h8 : (hlA α).length ≤ 8 := ok.2.2.1.1
  unfold f_X6_neverNow neverV
  obtain ⟨e, l1, l2, l3, l4⟩ := loop_inv (B := fun s2 : Int32 × Int32 × Mem => f_X6_neverNow_4_4b s2.1 s2.2.1 s2.2.2) (fun i q => q.1 = nI (bitsOf (fun k => hears α (less α k)) i) ∧ q.2.1 = nI i ∧ (∀ j, j ≠ 13 → q.2.2 49 j = M 49 j) ∧ ∀ k, k ≠ 49 → (k < 59 ∨ 68 ≤ k) → q.2.2 k = M k)
    (fun q => q.1 = nI (bitsOf (fun k => hears α (less α k)) (hlA α).length) ∧ (∀ j, j ≠ 13 → q.2.2 49 j = M 49 j) ∧ ∀ k, k ≠ 49 → (k < 59 ∨ 68 ≤ k) → q.2.2 k = M k) (hlA α).length (s := (nI 0, nI 0, M))
    (by exact ⟨rfl, rfl, fun _ _ => rfl, fun _ _ _ => rfl⟩)
    (by
      rintro i ⟨x, y, N⟩ hi ⟨hx, hy, c1, c3⟩
      dsimp only at hx hy c1 c3 ⊢
      subst hx hy
      have e11 : N 49 11 = nI (hlA α).length := by rw [c1 11 (by omega)]; exact h.1.2.2.1.1
      have hS : MS (less α i) (upM N 49 13 (nI (2 ^ i))) := by
        have := h.2
        show MS (sA α) _
        unfold MS at this ⊢
        rw [upM_m (by omega), upM_m (by omega), upM_n (by omega), upM_n (by omega), c1 7 (by omega), c1 9 (by omega), c3 56 (by omega) (by omega), c3 57 (by omega) (by omega)]
        exact this
      have hH : MH (hlA α) (2 ^ i) none (upM N 49 13 (nI (2 ^ i))) := by
        obtain ⟨g1, g2, g3, g4⟩ := h.1.2.2.1
        refine ⟨?_, fun j h hj => ?_, upM_s, ?_⟩
        · rw [upM_m (by omega)]; exact e11
        · rw [upM_n (by omega), c3 58 (by omega) (by omega)]; exact g2 j h hj
        · show upM N 49 13 (nI (2 ^ i)) 49 14 = m1
          rw [upM_m (by omega), c1 14 (by omega)]
          exact g4
      have p2 : 2 ^ i < 256 := by
        have : 2 ^ i < 2 ^ 8 := Nat.pow_lt_pow_right (by decide) (by omega)
        exact this
      have eff : Eff (less α i) (hlA α) (2 ^ i) none := by
        show (hlA α).eraseIdx i = keepB (2 ^ i) (hlA α) 0 ++ []
        rw [List.append_nil, keepB_one, if_pos (Nat.zero_le i), Nat.sub_zero]
      obtain ⟨N', d1, d2, d3⟩ := m_isHeard ok (less_ok (k := i) ok) hS hH ⟨h8, p2, ok.2.2.1.2, fun o ho => by cases ho⟩ eff (by rw [upM_m (by omega), c1 26 (by omega)]; exact h.1.2.2.2.1.1) (by rw [upM_n (by omega), c3 68 (by omega) (by omega)]; exact h.1.2.2.2.1.2)
      have keep : (∀ j, j ≠ 13 → N' 49 j = M 49 j) ∧ ∀ k, k ≠ 49 → (k < 59 ∨ 68 ≤ k) → N' k = M k := by
        refine ⟨fun j hj => ?_, fun k h1 h2 => ?_⟩
        · rw [d3 49 (by omega), upM_m hj]; exact c1 j hj
        · rw [d3 k h2, upM_n h1]; exact c3 k h1 h2
      unfold f_X6_neverNow_4_4b f_X6_neverNow_34_4
      refine ⟨(nI (bitsOf (fun k => hears α (less α k)) (i + 1)), nI (i + 1), N'), ?_, rfl, rfl, keep⟩
      by_cases q : hears α (less α i)
      · rw [bb_t q] at d1
        rw [bitsOf_t (P := fun k => hears α (less α k)) q, ← nI_or2 (bitsOf_lt i) (by omega)]
        simp (disch := omega) only [li_0, li_1, li_2, li_3, li_4, li_5, li_6, li_7, li_8, li_9, li_10, li_11, li_12, li_14, li_15, li_16, li_18, li_20, li_22, li_23, li_24, li_29, li_30, li_31, li_32, li_33, li_40, li_48, li_54, li_55, li_56, li_57, li_59, li_60, li_63, li_64, li_97, li_98, li_99, li_100, li_103, li_107, li_108, li_112, li_121, li_206, li_212, li_232, li_240, li_255, li_256, li_261, li_270, ng_1, ng_2, ng_3, ng_4, ng_9, ng_10, m1_1, nI_m1, m1_nI, if_true, if_false, nI_add, pk_mul, pk_sub, nI_div, nI_rem, nI_eq, nI_leI, nI_ltI, nI_clamp, ck_in, ck_nz, bind_sm, upM_n, upM_m, upM_s, if_pos, if_neg, e11, shl1, d1]
      · rw [bb_f q] at d1
        rw [bitsOf_f (P := fun k => hears α (less α k)) q]
        simp (disch := omega) only [li_0, li_1, li_2, li_3, li_4, li_5, li_6, li_7, li_8, li_9, li_10, li_11, li_12, li_14, li_15, li_16, li_18, li_20, li_22, li_23, li_24, li_29, li_30, li_31, li_32, li_33, li_40, li_48, li_54, li_55, li_56, li_57, li_59, li_60, li_63, li_64, li_97, li_98, li_99, li_100, li_103, li_107, li_108, li_112, li_121, li_206, li_212, li_232, li_240, li_255, li_256, li_261, li_270, ng_1, ng_2, ng_3, ng_4, ng_9, ng_10, m1_1, nI_m1, m1_nI, if_true, if_false, nI_add, pk_mul, pk_sub, nI_div, nI_rem, nI_eq, nI_leI, nI_ltI, nI_clamp, ck_in, ck_nz, bind_sm, upM_n, upM_m, upM_s, if_pos, if_neg, e11, shl1, d1]
        rw [or_0])
    (by
      rintro ⟨x, y, N⟩ ⟨hx, hy, c1, c3⟩
      dsimp only at hx hy c1 c3 ⊢
      subst hy
      have e11 : N 49 11 = nI (hlA α).length := by rw [c1 11 (by omega)]; exact h.1.2.2.1.1
      refine ⟨(x, nI (hlA α).length, N), ?_, hx, c1, c3⟩
      unfold f_X6_neverNow_4_4b
      simp (disch := omega) only [li_0, li_1, li_2, li_3, li_4, li_5, li_6, li_7, li_8, li_9, li_10, li_11, li_12, li_14, li_15, li_16, li_18, li_20, li_22, li_23, li_24, li_29, li_30, li_31, li_32, li_33, li_40, li_48, li_54, li_55, li_56, li_57, li_59, li_60, li_63, li_64, li_97, li_98, li_99, li_100, li_103, li_107, li_108, li_112, li_121, li_206, li_212, li_232, li_240, li_255, li_256, li_261, li_270, ng_1, ng_2, ng_3, ng_4, ng_9, ng_10, m1_1, nI_m1, m1_nI, if_true, if_false, nI_add, pk_mul, pk_sub, nI_div, nI_rem, nI_eq, nI_leI, nI_ltI, nI_clamp, ck_in, ck_nz, bind_sm, upM_n, upM_m, upM_s, if_pos, if_neg, e11])
  refine ⟨upM e.2.2 49 13 (nI 0), ?_, h.back2 (fun j hj => by rw [upM_m hj]; exact l3 j hj) upM_s (fun k h1 h2 => by rw [upM_n h1]; exact l4 k h1 h2), fun k hk => by rw [upM_n (by omega), l4 k (by omega) (by omega)]⟩
  simp only [li_0, li_1, li_2, li_3, li_4, li_5, li_6, li_7, li_8, li_9, li_10, li_11, li_12, li_14, li_15, li_16, li_18, li_20, li_22, li_23, li_24, li_29, li_30, li_31, li_32, li_33, li_40, li_48, li_54, li_55, li_56, li_57, li_59, li_60, li_63, li_64, li_97, li_98, li_99, li_100, li_103, li_107, li_108, li_112, li_121, li_206, li_212, li_232, li_240, li_255, li_256, li_261, li_270, ng_1, ng_2, ng_3, ng_4, ng_9, ng_10, m1_1, nI_m1, m1_nI, if_true, if_false, nI_add, pk_mul, pk_sub, nI_div, nI_rem, nI_eq, nI_leI, nI_ltI, nI_clamp, ck_in, ck_nz, bind_sm, upM_n, upM_m, upM_s, if_pos, if_neg, l1, l2]
theorem m_never {α : AS} {M : Mem} (ok : OKA α) (h : MI α M) : ∃ M', f_X6_never M = some (nI (neverV α), M') ∧ MJ α M' ∧ Fr 49 71 M M' := by
  obtain ⟨M1, g1, g2, g3⟩ := m_find ok h
  obtain ⟨M2, d1, d2, d3⟩ := m_neverNow ok g2.j
  refine ⟨M2, ?_, d2, g3.tr d3⟩
  unfold f_X6_never
  simp only [g1, d1, bind_sm]
