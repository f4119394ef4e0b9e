-- PLANS: dress asked with any numbers, home
theorem below_in' {j n : Nat} {x : Int32} (hj : j < n) (hn : n < 2147483648) (hx : x = nI j) : f_X5_isBelow x (nI n) = some (nI 1) := by rw [hx]; exact below_in hj hn
theorem c_dress_out {α : AS} {M : Mem} {x1 x2 x3 x4 : Int32} (ok : OKA α) (h : CI α M) (hx : ¬ (In x1 (nP (sA α)) ∧ In x2 8 ∧ In x3 30 ∧ In x4 2)) : f_X5_dress x1 x2 x3 x4 M = some (m2, M) := by
  have ok2 := ok.s.1.2.1
  unfold f_X5_dress
  by_cases q1 : In x1 (nP (sA α))
  · obtain ⟨k, hk, rfl⟩ := q1
    have e1 := c_hasP (i := k) h.2.1.1.2.1 (show nP (sA α) < 100 by omega) (show k < 100 by omega)
    by_cases q2 : In x2 8
    · obtain ⟨a, ha, rfl⟩ := q2
      by_cases q3 : In x3 30
      · obtain ⟨d, hd, rfl⟩ := q3
        have q4 : ¬ In x4 2 := fun r => hx ⟨⟨k, hk, rfl⟩, ⟨a, ha, rfl⟩, ⟨d, hd, rfl⟩, r⟩
        simp (disch := omega) only [li_0, li_1, li_2, li_3, li_4, li_5, li_6, li_7, li_8, li_9, li_10, li_11, li_12, li_14, li_15, li_16, li_18, li_20, li_22, li_23, li_24, li_29, li_30, li_31, li_32, li_33, li_40, li_48, li_54, li_55, li_56, li_57, li_59, li_60, li_63, li_64, li_97, li_98, li_99, li_100, li_103, li_107, li_108, li_112, li_121, li_206, li_212, li_232, li_240, li_255, li_256, li_261, li_270, ng_1, ng_2, ng_3, ng_4, ng_9, ng_10, m1_1, nI_m1, m1_nI, if_true, if_false, nI_add, pk_mul, pk_sub, nI_div, nI_rem, nI_eq, nI_leI, nI_ltI, nI_clamp, ck_in, ck_nz, bind_sm, upM_n, upM_m, upM_s, if_pos, if_neg, below_in, e1, below_out _ q4]
      · simp (disch := omega) only [li_0, li_1, li_2, li_3, li_4, li_5, li_6, li_7, li_8, li_9, li_10, li_11, li_12, li_14, li_15, li_16, li_18, li_20, li_22, li_23, li_24, li_29, li_30, li_31, li_32, li_33, li_40, li_48, li_54, li_55, li_56, li_57, li_59, li_60, li_63, li_64, li_97, li_98, li_99, li_100, li_103, li_107, li_108, li_112, li_121, li_206, li_212, li_232, li_240, li_255, li_256, li_261, li_270, ng_1, ng_2, ng_3, ng_4, ng_9, ng_10, m1_1, nI_m1, m1_nI, if_true, if_false, nI_add, pk_mul, pk_sub, nI_div, nI_rem, nI_eq, nI_leI, nI_ltI, nI_clamp, ck_in, ck_nz, bind_sm, upM_n, upM_m, upM_s, if_pos, if_neg, below_in, e1, below_out _ q3]
    · simp (disch := omega) only [li_0, li_1, li_2, li_3, li_4, li_5, li_6, li_7, li_8, li_9, li_10, li_11, li_12, li_14, li_15, li_16, li_18, li_20, li_22, li_23, li_24, li_29, li_30, li_31, li_32, li_33, li_40, li_48, li_54, li_55, li_56, li_57, li_59, li_60, li_63, li_64, li_97, li_98, li_99, li_100, li_103, li_107, li_108, li_112, li_121, li_206, li_212, li_232, li_240, li_255, li_256, li_261, li_270, ng_1, ng_2, ng_3, ng_4, ng_9, ng_10, m1_1, nI_m1, m1_nI, if_true, if_false, nI_add, pk_mul, pk_sub, nI_div, nI_rem, nI_eq, nI_leI, nI_ltI, nI_clamp, ck_in, ck_nz, bind_sm, upM_n, upM_m, upM_s, if_pos, if_neg, e1, below_out _ q2]
  · simp (disch := omega) only [li_0, li_1, li_2, li_3, li_4, li_5, li_6, li_7, li_8, li_9, li_10, li_11, li_12, li_14, li_15, li_16, li_18, li_20, li_22, li_23, li_24, li_29, li_30, li_31, li_32, li_33, li_40, li_48, li_54, li_55, li_56, li_57, li_59, li_60, li_63, li_64, li_97, li_98, li_99, li_100, li_103, li_107, li_108, li_112, li_121, li_206, li_212, li_232, li_240, li_255, li_256, li_261, li_270, ng_1, ng_2, ng_3, ng_4, ng_9, ng_10, m1_1, nI_m1, m1_nI, if_true, if_false, nI_add, pk_mul, pk_sub, nI_div, nI_rem, nI_eq, nI_leI, nI_ltI, nI_clamp, ck_in, ck_nz, bind_sm, upM_n, upM_m, upM_s, if_pos, if_neg, hasP_out h.2.1.1.2.1 (by omega) q1]
theorem m_eight_in {d : Nat} (h : d < 8) : f_X6_isEight (nI d) = some (nI 1) := by
  unfold f_X6_isEight
  rw [show (0 : Int64) = (nI 0).toInt64 from rfl, show (7 : Int64) = (nI 7).toInt64 from rfl, m_in_in (by omega) (by omega)]
  rfl
theorem m_eight_out {x : Int32} (h : ¬ In x 8) : f_X6_isEight x = some (nI 0) := by
  unfold f_X6_isEight
  rw [show (0 : Int64) = (nI 0).toInt64 from rfl, show (7 : Int64) = (nI 7).toInt64 from rfl, m_in_out (by omega) h]
  rfl
theorem m_two_in {d : Nat} (h : d < 2) : f_X6_isTwo (nI d) = some (nI 1) := by
  unfold f_X6_isTwo
  rw [show (0 : Int64) = (nI 0).toInt64 from rfl, show (1 : Int64) = (nI 1).toInt64 from rfl, m_in_in (by omega) (by omega)]
  rfl
theorem m_two_out {x : Int32} (h : ¬ In x 2) : f_X6_isTwo x = some (nI 0) := by
  unfold f_X6_isTwo
  rw [show (0 : Int64) = (nI 0).toInt64 from rfl, show (1 : Int64) = (nI 1).toInt64 from rfl, m_in_out (by omega) h]
  rfl
theorem m_dress {α : AS} {M : Mem} (ok : OKA α) (h : MI α M) : (∀ k a d w, k < nP (sA α) → a < 8 → d < 30 → w < 2 → ∃ M', f_X6_dress (nI k) (nI a) (nI d) (nI w) M = some (dressV α k a d w, M') ∧ MJ α M' ∧ Fr 49 71 M M') ∧ ∀ x1 x2 x3 x4, ¬ (In x1 (nP (sA α)) ∧ In x2 8 ∧ In x3 30 ∧ In x4 2) → ∃ M', f_X6_dress x1 x2 x3 x4 M = some (m2, M') ∧ MJ α M' ∧ Fr 49 71 M M' := by
  obtain ⟨M', g1, g2, g3⟩ := m_find ok h
  have ok2 := ok.s.1.2.1
  have e9 := g2.2.1.1.2
  refine ⟨fun k a d w hk ha hd hw => ?_, fun x1 x2 x3 x4 hx => ?_⟩
  · have e1 := m_isP (i := k) e9 (show nP (sA α) < 100 by omega) (show k < 100 by omega)
    obtain ⟨M2, d1, d2, d3⟩ := m_dressOf ok g2.j hk ha hd hw
    refine ⟨M2, ?_, d2, g3.tr d3⟩
    unfold f_X6_dress
    simp (disch := omega) only [li_0, li_1, li_2, li_3, li_4, li_5, li_6, li_7, li_8, li_9, li_10, li_11, li_12, li_14, li_15, li_16, li_18, li_20, li_22, li_23, li_24, li_29, li_30, li_31, li_32, li_33, li_40, li_48, li_54, li_55, li_56, li_57, li_59, li_60, li_63, li_64, li_97, li_98, li_99, li_100, li_103, li_107, li_108, li_112, li_121, li_206, li_212, li_232, li_240, li_255, li_256, li_261, li_270, ng_1, ng_2, ng_3, ng_4, ng_9, ng_10, m1_1, nI_m1, m1_nI, if_true, if_false, nI_add, pk_mul, pk_sub, nI_div, nI_rem, nI_eq, nI_leI, nI_ltI, nI_clamp, ck_in, ck_nz, bind_sm, upM_n, upM_m, upM_s, if_pos, if_neg, g1, e1, m_eight_in, m_day_in, m_two_in, d1]
  · refine ⟨M', ?_, g2.j, g3⟩
    unfold f_X6_dress
    by_cases q1 : In x1 (nP (sA α))
    · obtain ⟨k, hk, rfl⟩ := q1
      have e1 := m_isP (i := k) e9 (show nP (sA α) < 100 by omega) (show k < 100 by omega)
      by_cases q2 : In x2 8
      · obtain ⟨a, ha, rfl⟩ := q2
        by_cases q3 : In x3 30
        · obtain ⟨d, hd, rfl⟩ := q3
          have q4 : ¬ In x4 2 := fun r => hx ⟨⟨k, hk, rfl⟩, ⟨a, ha, rfl⟩, ⟨d, hd, rfl⟩, r⟩
          simp (disch := omega) only [li_0, li_1, li_2, li_3, li_4, li_5, li_6, li_7, li_8, li_9, li_10, li_11, li_12, li_14, li_15, li_16, li_18, li_20, li_22, li_23, li_24, li_29, li_30, li_31, li_32, li_33, li_40, li_48, li_54, li_55, li_56, li_57, li_59, li_60, li_63, li_64, li_97, li_98, li_99, li_100, li_103, li_107, li_108, li_112, li_121, li_206, li_212, li_232, li_240, li_255, li_256, li_261, li_270, ng_1, ng_2, ng_3, ng_4, ng_9, ng_10, m1_1, nI_m1, m1_nI, if_true, if_false, nI_add, pk_mul, pk_sub, nI_div, nI_rem, nI_eq, nI_leI, nI_ltI, nI_clamp, ck_in, ck_nz, bind_sm, upM_n, upM_m, upM_s, if_pos, if_neg, g1, e1, m_eight_in, m_day_in, m_two_out q4]
        · simp (disch := omega) only [li_0, li_1, li_2, li_3, li_4, li_5, li_6, li_7, li_8, li_9, li_10, li_11, li_12, li_14, li_15, li_16, li_18, li_20, li_22, li_23, li_24, li_29, li_30, li_31, li_32, li_33, li_40, li_48, li_54, li_55, li_56, li_57, li_59, li_60, li_63, li_64, li_97, li_98, li_99, li_100, li_103, li_107, li_108, li_112, li_121, li_206, li_212, li_232, li_240, li_255, li_256, li_261, li_270, ng_1, ng_2, ng_3, ng_4, ng_9, ng_10, m1_1, nI_m1, m1_nI, if_true, if_false, nI_add, pk_mul, pk_sub, nI_div, nI_rem, nI_eq, nI_leI, nI_ltI, nI_clamp, ck_in, ck_nz, bind_sm, upM_n, upM_m, upM_s, if_pos, if_neg, g1, e1, m_eight_in, m_day_out q3]
      · simp (disch := omega) only [li_0, li_1, li_2, li_3, li_4, li_5, li_6, li_7, li_8, li_9, li_10, li_11, li_12, li_14, li_15, li_16, li_18, li_20, li_22, li_23, li_24, li_29, li_30, li_31, li_32, li_33, li_40, li_48, li_54, li_55, li_56, li_57, li_59, li_60, li_63, li_64, li_97, li_98, li_99, li_100, li_103, li_107, li_108, li_112, li_121, li_206, li_212, li_232, li_240, li_255, li_256, li_261, li_270, ng_1, ng_2, ng_3, ng_4, ng_9, ng_10, m1_1, nI_m1, m1_nI, if_true, if_false, nI_add, pk_mul, pk_sub, nI_div, nI_rem, nI_eq, nI_leI, nI_ltI, nI_clamp, ck_in, ck_nz, bind_sm, upM_n, upM_m, upM_s, if_pos, if_neg, g1, e1, m_eight_out q2]
    · simp (disch := omega) only [li_0, li_1, li_2, li_3, li_4, li_5, li_6, li_7, li_8, li_9, li_10, li_11, li_12, li_14, li_15, li_16, li_18, li_20, li_22, li_23, li_24, li_29, li_30, li_31, li_32, li_33, li_40, li_48, li_54, li_55, li_56, li_57, li_59, li_60, li_63, li_64, li_97, li_98, li_99, li_100, li_103, li_107, li_108, li_112, li_121, li_206, li_212, li_232, li_240, li_255, li_256, li_261, li_270, ng_1, ng_2, ng_3, ng_4, ng_9, ng_10, m1_1, nI_m1, m1_nI, if_true, if_false, nI_add, pk_mul, pk_sub, nI_div, nI_rem, nI_eq, nI_leI, nI_ltI, nI_clamp, ck_in, ck_nz, bind_sm, upM_n, upM_m, upM_s, if_pos, if_neg, g1, isP_out e9 (show nP (sA α) < 100 by omega) q1]
/-- the last below n with P -/
def lastD (P : Nat → Bool) : Nat → Option Nat
  | 0 => none
  | n + 1 => if P n = true then some n else lastD P n
theorem lastD_s {P : Nat → Bool} {n : Nat} : lastD P (n + 1) = if P n = true then some n else lastD P n := rfl
theorem lastD_some {P : Nat → Bool} : ∀ {n d : Nat}, lastD P n = some d → P d = true ∧ d < n ∧ ∀ e, d < e → e < n → P e = false := by
  intro n
  induction n with
  | zero => intro d h; cases h
  | succ n ih =>
    intro d h
    rw [lastD_s] at h
    by_cases q : P n = true
    · rw [if_pos q] at h
      cases h
      exact ⟨q, by omega, fun e h1 h2 => by omega⟩
    · rw [if_neg q] at h
      obtain ⟨h1, h2, h3⟩ := ih h
      refine ⟨h1, by omega, fun e he1 he2 => ?_⟩
      by_cases q2 : e = n
      · subst q2
        cases hp : P e with
        | true => exact absurd hp q
        | false => rfl
      · exact h3 e he1 (by omega)
theorem lastD_none {P : Nat → Bool} : ∀ {n : Nat}, lastD P n = none → ∀ e, e < n → P e = false := by
  intro n
  induction n with
  | zero => intro _ e he; omega
  | succ n ih =>
    intro h e he
    rw [lastD_s] at h
    by_cases q : P n = true
    · rw [if_pos q] at h; cases h
    · rw [if_neg q] at h
      by_cases q2 : e = n
      · subst q2
        cases hp : P e with
        | true => exact absurd hp q
        | false => rfl
      · exact ih h e (by omega)
/-- would p be taken for its own again, if it took it back on day d -/
def hmP (α : AS) (k d : Nat) : Bool := decide (tk (more α d k (ow (sA α) k)) (wk (more α d k (ow (sA α) k)) 30) k = some (ow (sA α) k))
def homeV (α : AS) (k : Nat) : Option Nat := lastD (hmP α k) 30
def dyI (i : Nat) : Int32 := if i < 30 then nI (29 - i) else m1
theorem dyI_s {i : Nat} (h : i < 30) : dyI i + m1 = dyI (i + 1) := by
  have : ∀ i, i < 30 → dyI i + m1 = dyI (i + 1) := by decide
  exact this i h
theorem c_home_in {α : AS} {M : Mem} {k : Nat} (ok : OKA α) (h : CI α M) (hk : k < nP (sA α)) : ∃ M', f_X5_home (nI k) M = some (oi (homeV α k), M') ∧ CI α M' ∧ Fr 0 49 M M' := by
  have oks := ok.s
  have ok1 := oks.1.1
  have ok2 := oks.1.2.1
  have o7 := oks.2.2.2.2.1 k
  have e1 := c_hasP (i := k) h.2.1.1.2.1 (show nP (sA α) < 100 by omega) (show k < 100 by omega)
  have e2 := c_hasA (i := ow (sA α) k) h.2.1.1.1 (show nA (sA α) < 100 by omega) (show ow (sA α) k < 100 by omega)
  have e9 : M 9 k = nI (ow (sA α) k) := h.2.1.2.2.2.2.1 k hk
  unfold f_X5_home homeV
  by_cases q : ow (sA α) k < nA (sA α)
  · have step : ∀ i N, i < 30 → FrT M N → ∃ N', FrT M N' ∧ (hmP α k (29 - i) = false → f_X5_home_40_40b (nI k) (nI (ow (sA α) k)) (dyI i) N = some (.inl (dyI (i + 1), N'))) ∧ (hmP α k (29 - i) = true → f_X5_home_40_40b (nI k) (nI (ow (sA α) k)) (dyI i) N = some (.inr (.inr (nI (29 - i), N')))) := by
      intro i N hi c1
      have ci := h.frT c1
      obtain ⟨N', d1, d2, d3, d4⟩ := c_try (d := 29 - i) (k := k) (a := ow (sA α) k) ok ci (by omega) (by omega) o7
      have okm := more_ok (d := 29 - i) (k := k) (a := ow (sA α) k) ok (by omega) (by omega) o7
      have tkn := c_taken (p := k) WI_26 okm (okm.wk 30) d3 hk d2.1
      have dy : dyI i = nI (29 - i) := by unfold dyI; rw [if_pos hi]
      have oe : ∀ t, tk (more α (29 - i) k (ow (sA α) k)) (wk (more α (29 - i) k (ow (sA α) k)) 30) k = some t → t < 100 := fun t ht => by
        have : t < nA (sA α) := am_lt ht
        omega
      refine ⟨N', c1.tr d4, fun hp => ?_, fun hp => ?_⟩
      · rw [← dyI_s hi]
        unfold f_X5_home_40_40b
        have hp := of_decide_eq_false hp
        rw [dy]
        have ne : ¬ oi (tk (more α (29 - i) k (ow (sA α) k)) (wk (more α (29 - i) k (ow (sA α) k)) 30) k) = nI (ow (sA α) k) := fun r => hp (by
          have := oi_eq (i := ow (sA α) k) (o := tk (more α (29 - i) k (ow (sA α) k)) (wk (more α (29 - i) k (ow (sA α) k)) 30) k) (by omega) (fun t ht => by have := oe t ht; omega)
          rw [← this]
          exact r.symm)
        simp (disch := omega) only [li_0, li_1, li_2, li_3, li_4, li_5, li_6, li_7, li_8, li_9, li_10, li_11, li_12, li_14, li_15, li_16, li_18, li_20, li_22, li_23, li_24, li_29, li_30, li_31, li_32, li_33, li_40, li_48, li_54, li_55, li_56, li_57, li_59, li_60, li_63, li_64, li_97, li_98, li_99, li_100, li_103, li_107, li_108, li_112, li_121, li_206, li_212, li_232, li_240, li_255, li_256, li_261, li_270, ng_1, ng_2, ng_3, ng_4, ng_9, ng_10, m1_1, nI_m1, m1_nI, if_true, if_false, nI_add, pk_mul, pk_sub, nI_div, nI_rem, nI_eq, nI_leI, nI_ltI, nI_clamp, ck_in, ck_nz, bind_sm, upM_n, upM_m, upM_s, if_pos, if_neg, d1, tkn, if_neg ne]
      · unfold f_X5_home_40_40b
        have hp := of_decide_eq_true hp
        rw [hp] at tkn
        rw [dy]
        simp (disch := omega) only [li_0, li_1, li_2, li_3, li_4, li_5, li_6, li_7, li_8, li_9, li_10, li_11, li_12, li_14, li_15, li_16, li_18, li_20, li_22, li_23, li_24, li_29, li_30, li_31, li_32, li_33, li_40, li_48, li_54, li_55, li_56, li_57, li_59, li_60, li_63, li_64, li_97, li_98, li_99, li_100, li_103, li_107, li_108, li_112, li_121, li_206, li_212, li_232, li_240, li_255, li_256, li_261, li_270, ng_1, ng_2, ng_3, ng_4, ng_9, ng_10, m1_1, nI_m1, m1_nI, if_true, if_false, nI_add, pk_mul, pk_sub, nI_div, nI_rem, nI_eq, nI_leI, nI_ltI, nI_clamp, ck_in, ck_nz, bind_sm, upM_n, upM_m, upM_s, if_pos, if_neg, d1, tkn, oi_s]
    have go : ∀ n (Q : (Int32 × Mem) ⊕ (Int32 × Mem) → Prop), n ≤ 30 → (∀ e, 29 - n < e → e < 30 → n ≤ 29 → hmP α k e = false) → (n = 30 → ∀ e, e < 30 → hmP α k e = false) → (∀ N, FrT M N → ∃ e, f_X5_home_40_40b (nI k) (nI (ow (sA α) k)) (dyI n) N = some (.inr e) ∧ Q e) → ∃ e, loop (fun s5 : Int32 × Mem => f_X5_home_40_40b (nI k) (nI (ow (sA α) k)) s5.1 s5.2) (nI 29, M) = some e ∧ Q e := by
      intro n Q hn hf hf2 hQ
      refine loop_inv (B := fun s5 : Int32 × Mem => f_X5_home_40_40b (nI k) (nI (ow (sA α) k)) s5.1 s5.2) (fun i q => q.1 = dyI i ∧ FrT M q.2) Q n (s := (nI 29, M)) (by exact ⟨rfl, FrT.rf⟩)
        (by
          rintro i ⟨x, N⟩ hi ⟨hx, c1⟩
          dsimp only at hx c1 ⊢
          subst hx
          obtain ⟨N', s1, s2, s3⟩ := step i N (by omega) c1
          refine ⟨(dyI (i + 1), N'), s2 ?_, rfl, s1⟩
          by_cases q : n = 30
          · exact hf2 q _ (by omega)
          · exact hf _ (by omega) (by omega) (by omega))
        (by
          rintro ⟨x, N⟩ ⟨hx, c1⟩
          dsimp only at hx c1 ⊢
          subst hx
          exact hQ N c1)
    cases hv : lastD (hmP α k) 30 with
    | some d0 =>
      obtain ⟨v1, v2, v3⟩ := lastD_some hv
      obtain ⟨e, g1, N, g2, g3⟩ := go (29 - d0) (fun e => ∃ N, e = .inr (nI d0, N) ∧ FrT M N) (by omega) (fun e h1 h2 _ => v3 e (by omega) h2) (fun h => by omega) (fun N c1 => by
        obtain ⟨N', s1, s2, s3⟩ := step (29 - d0) N (by omega) c1
        rw [show 29 - (29 - d0) = d0 by omega] at s3
        exact ⟨_, s3 v1, N', rfl, s1⟩)
      subst g2
      refine ⟨N, ?_, h.frT g3, g3.w⟩
      simp (disch := omega) only [li_0, li_1, li_2, li_3, li_4, li_5, li_6, li_7, li_8, li_9, li_10, li_11, li_12, li_14, li_15, li_16, li_18, li_20, li_22, li_23, li_24, li_29, li_30, li_31, li_32, li_33, li_40, li_48, li_54, li_55, li_56, li_57, li_59, li_60, li_63, li_64, li_97, li_98, li_99, li_100, li_103, li_107, li_108, li_112, li_121, li_206, li_212, li_232, li_240, li_255, li_256, li_261, li_270, ng_1, ng_2, ng_3, ng_4, ng_9, ng_10, m1_1, nI_m1, m1_nI, if_true, if_false, nI_add, pk_mul, pk_sub, nI_div, nI_rem, nI_eq, nI_leI, nI_ltI, nI_clamp, ck_in, ck_nz, bind_sm, upM_n, upM_m, upM_s, if_pos, if_neg, e1, e2, e9, g1]
      rfl
    | none =>
      obtain ⟨e, g1, N, g2, g3⟩ := go 30 (fun e => ∃ N, e = .inl (m1, N) ∧ FrT M N) (by omega) (fun e h1 h2 h3 => by omega) (fun _ e he => lastD_none hv e he) (fun N c1 => by
        refine ⟨_, ?_, N, rfl, c1⟩
        unfold f_X5_home_40_40b
        rw [show dyI 30 = m1 from rfl, if_pos (show m1 < 0 by decide)])
      subst g2
      refine ⟨N, ?_, h.frT g3, g3.w⟩
      simp (disch := omega) only [li_0, li_1, li_2, li_3, li_4, li_5, li_6, li_7, li_8, li_9, li_10, li_11, li_12, li_14, li_15, li_16, li_18, li_20, li_22, li_23, li_24, li_29, li_30, li_31, li_32, li_33, li_40, li_48, li_54, li_55, li_56, li_57, li_59, li_60, li_63, li_64, li_97, li_98, li_99, li_100, li_103, li_107, li_108, li_112, li_121, li_206, li_212, li_232, li_240, li_255, li_256, li_261, li_270, ng_1, ng_2, ng_3, ng_4, ng_9, ng_10, m1_1, nI_m1, m1_nI, if_true, if_false, nI_add, pk_mul, pk_sub, nI_div, nI_rem, nI_eq, nI_leI, nI_ltI, nI_clamp, ck_in, ck_nz, bind_sm, upM_n, upM_m, upM_s, if_pos, if_neg, e1, e2, e9, g1]
      rfl
  · refine ⟨M, ?_, h, fun _ _ => rfl⟩
    have hv : lastD (hmP α k) 30 = none := by
      cases hv : lastD (hmP α k) 30 with
      | none => rfl
      | some d =>
        obtain ⟨v1, -⟩ := lastD_some hv
        have v1 := of_decide_eq_true v1
        have : ow (sA α) k < nA (sA α) := am_lt v1
        omega
    rw [hv]
    simp (disch := omega) only [li_0, li_1, li_2, li_3, li_4, li_5, li_6, li_7, li_8, li_9, li_10, li_11, li_12, li_14, li_15, li_16, li_18, li_20, li_22, li_23, li_24, li_29, li_30, li_31, li_32, li_33, li_40, li_48, li_54, li_55, li_56, li_57, li_59, li_60, li_63, li_64, li_97, li_98, li_99, li_100, li_103, li_107, li_108, li_112, li_121, li_206, li_212, li_232, li_240, li_255, li_256, li_261, li_270, ng_1, ng_2, ng_3, ng_4, ng_9, ng_10, m1_1, nI_m1, m1_nI, if_true, if_false, nI_add, pk_mul, pk_sub, nI_div, nI_rem, nI_eq, nI_leI, nI_ltI, nI_clamp, ck_in, ck_nz, bind_sm, upM_n, upM_m, upM_s, if_pos, if_neg, e1, e2, e9]
    rfl
theorem c_home_out {α : AS} {M : Mem} {x : Int32} (ok : OKA α) (h : CI α M) (hx : ¬ In x (nP (sA α))) : f_X5_home x M = some (m2, M) := by
  have ok2 := ok.s.1.2.1
  unfold f_X5_home
  simp (disch := omega) only [li_0, li_1, li_2, li_3, li_4, li_5, li_6, li_7, li_8, li_9, li_10, li_11, li_12, li_14, li_15, li_16, li_18, li_20, li_22, li_23, li_24, li_29, li_30, li_31, li_32, li_33, li_40, li_48, li_54, li_55, li_56, li_57, li_59, li_60, li_63, li_64, li_97, li_98, li_99, li_100, li_103, li_107, li_108, li_112, li_121, li_206, li_212, li_232, li_240, li_255, li_256, li_261, li_270, ng_1, ng_2, ng_3, ng_4, ng_9, ng_10, m1_1, nI_m1, m1_nI, if_true, if_false, nI_add, pk_mul, pk_sub, nI_div, nI_rem, nI_eq, nI_leI, nI_ltI, nI_clamp, ck_in, ck_nz, bind_sm, upM_n, upM_m, upM_s, if_pos, if_neg, hasP_out h.2.1.1.2.1 (by omega) hx]
