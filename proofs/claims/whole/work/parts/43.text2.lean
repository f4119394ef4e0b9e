-- THE TEXTS: what they tell
def nAof (n : Nat) (b : Nat → Nat) : Nat := if FV 71 5 57 n b = none then (n + 1) / 7 else 0
def nPof (n : Nat) (b : Nat → Nat) : Nat := if FV 72 1 55 n b = none then (n + 1) / 3 else 0
/-- the accents, people and hirings that are told -/
def sg (n0 : Nat) (b0 : Nat → Nat) (n1 : Nat) (b1 : Nat → Nat) (hl : List (Nat × Nat × Nat)) : SS :=
  (nAof n0 b0, fun a => (six 71 (b0 (7 * a))).getD 0, fun a s => (b0 (7 * a + 1 + s) - 48) % 10, nPof n1 b1, fun p => (six 72 (b1 (3 * p))).getD 0, fun p => (b1 (3 * p + 1) - 48) % 8, hl)
theorem nAof_le {n : Nat} {b : Nat → Nat} (h : n ≤ 55) : nAof n b ≤ 8 := by
  unfold nAof
  split <;> omega
theorem nPof_le {n : Nat} {b : Nat → Nat} (h : n ≤ 23) : nPof n b ≤ 8 := by
  unfold nPof
  split <;> omega
theorem six_d {sid x : Nat} : (six sid x).getD 0 < 3 := by
  cases h : six sid x with
  | none => exact (by decide : 0 < 3)
  | some v => exact six_lt h
theorem sg_ok {n0 n1 : Nat} {b0 b1 : Nat → Nat} {hl : List (Nat × Nat × Nat)} (h0 : n0 ≤ 55) (h1 : n1 ≤ 23) (hh : hl.length ≤ 9) (ho : ∀ h ∈ hl, h.1 < 30 ∧ h.2.1 < 8 ∧ h.2.2 < 8) : OKS (sg n0 b0 n1 b1 hl) :=
  ⟨⟨nAof_le h0, nPof_le h1, hh⟩, fun _ => six_d, fun _ _ => Nat.mod_lt _ (by decide), fun _ => six_d, fun _ => Nat.mod_lt _ (by decide), ho⟩
theorem nAof_in {n a : Nat} {b : Nat → Nat} (ha : a < nAof n b) : 7 * a + 5 < n ∧ (∃ v, six 71 (b (7 * a)) = some v) ∧ ∀ s, s < 5 → 48 ≤ b (7 * a + 1 + s) ∧ b (7 * a + 1 + s) ≤ 57 := by
  unfold nAof at ha
  split at ha
  next h =>
    obtain ⟨h1, h2⟩ := FV_none h
    have hn : 7 * a + 5 < n := by omega
    refine ⟨hn, ?_, fun s hs => ?_⟩
    · have := ffN_none h1 (7 * a) (by omega)
      rw [show 7 * a % (5 + 2) = 0 by omega] at this
      unfold ch at this
      rw [if_pos rfl] at this
      cases h6 : six 71 (b (7 * a)) with
      | none => exact absurd h6 this
      | some v => exact ⟨v, rfl⟩
    · have := ffN_none h1 (7 * a + 1 + s) (by omega)
      rw [show (7 * a + 1 + s) % (5 + 2) = 1 + s by omega] at this
      unfold ch at this
      rw [if_neg (by omega), if_pos (by omega)] at this
      by_cases q : 48 ≤ b (7 * a + 1 + s) ∧ b (7 * a + 1 + s) ≤ 57
      · exact q
      · rw [if_neg q] at this
        exact absurd rfl this
  next => omega
theorem nPof_in {n a : Nat} {b : Nat → Nat} (ha : a < nPof n b) : 3 * a + 1 < n ∧ (∃ v, six 72 (b (3 * a)) = some v) ∧ 48 ≤ b (3 * a + 1) ∧ b (3 * a + 1) ≤ 55 := by
  unfold nPof at ha
  split at ha
  next h =>
    obtain ⟨h1, h2⟩ := FV_none h
    have hn : 3 * a + 1 < n := by omega
    refine ⟨hn, ?_, ?_⟩
    · have := ffN_none h1 (3 * a) (by omega)
      rw [show 3 * a % (1 + 2) = 0 by omega] at this
      unfold ch at this
      rw [if_pos rfl] at this
      cases h6 : six 72 (b (3 * a)) with
      | none => exact absurd h6 this
      | some v => exact ⟨v, rfl⟩
    · have := ffN_none h1 (3 * a + 1) (by omega)
      rw [show (3 * a + 1) % (1 + 2) = 1 by omega] at this
      unfold ch at this
      rw [if_neg (by omega), if_pos (by omega)] at this
      by_cases q : 48 ≤ b (3 * a + 1) ∧ b (3 * a + 1) ≤ 55
      · exact q
      · rw [if_neg q] at this
        exact absurd rfl this
  next => omega
theorem TK_1 : TK 1 71 5 57 55 := Or.inl ⟨rfl, rfl, rfl, rfl, rfl⟩
theorem TK_3 : TK 3 72 1 55 23 := Or.inr ⟨rfl, rfl, rfl, rfl, rfl⟩
theorem c_takeA {n : Nat} {b : Nat → Nat} {M : Mem} (hX : TX 1 5 57 n b M) (hn : n ≤ 55) (hb : ∀ i, b i < 256) : ∃ M', f_X1_takeAccents 5 1 M = some M' ∧ M' 5 0 = nI (nAof n b) ∧ (∀ j, j ≠ 0 → M' 5 j = M 5 j) ∧ (∀ a, a < nAof n b → M' 6 a = nI ((six 71 (b (7 * a))).getD 0)) ∧ (∀ a s, a < nAof n b → s < 5 → M' 7 (a * 5 + s) = nI ((b (7 * a + 1 + s) - 48) % 10)) ∧ Fr 5 8 M M' := by
  have F0 : Fr 5 8 M (upM M 5 0 (nI 0)) := Fr.rf.up (by omega) (by omega)
  have hX0 : TX 1 5 57 n b (upM M 5 0 (nI 0)) := hX.fr (upM_n (by omega)) (upM_n (by omega))
  have ff := c_fault TK_1 hX0 hn hb
  obtain ⟨x2, x3, x4, x5⟩ := hX
  unfold f_X1_takeAccents
  simp only [li_0, li_1, li_2, li_3, li_4, li_5, li_6, li_7, li_8, li_9, li_10, li_11, li_12, li_14, li_15, li_16, li_18, li_20, li_22, li_23, li_24, li_29, li_30, li_31, li_32, li_33, li_40, li_48, li_54, li_55, li_56, li_57, li_59, li_60, li_63, li_64, li_97, li_98, li_99, li_100, li_103, li_107, li_108, li_112, li_121, li_206, li_212, li_232, li_240, li_255, li_256, li_261, li_270, ng_1, ng_2, ng_3, ng_4, ng_9, ng_10, m1_1, nI_m1, m1_nI, if_true, if_false, nI_add, pk_mul, pk_sub, nI_div, nI_rem, nI_eq, nI_leI, nI_ltI, nI_clamp, ck_in, ck_nz, bind_sm, upM_n, upM_m, upM_s, if_pos, if_neg, ff]
  cases hF : FV 71 5 57 n b with
  | some i =>
    have hi := FV_lt hF
    have e : nAof n b = 0 := by unfold nAof; rw [hF, if_neg (by simp)]
    simp (disch := omega) only [li_0, li_1, li_2, li_3, li_4, li_5, li_6, li_7, li_8, li_9, li_10, li_11, li_12, li_14, li_15, li_16, li_18, li_20, li_22, li_23, li_24, li_29, li_30, li_31, li_32, li_33, li_40, li_48, li_54, li_55, li_56, li_57, li_59, li_60, li_63, li_64, li_97, li_98, li_99, li_100, li_103, li_107, li_108, li_112, li_121, li_206, li_212, li_232, li_240, li_255, li_256, li_261, li_270, ng_1, ng_2, ng_3, ng_4, ng_9, ng_10, m1_1, nI_m1, m1_nI, if_true, if_false, nI_add, pk_mul, pk_sub, nI_div, nI_rem, nI_eq, nI_leI, nI_ltI, nI_clamp, ck_in, ck_nz, bind_sm, upM_n, upM_m, upM_s, if_pos, if_neg, oi_s, e]
    refine ⟨_, rfl, upM_s, fun j hj => upM_m hj, fun a ha => by omega, fun a s ha => by omega, F0⟩
  | none =>
    have e : nAof n b = (n + 1) / 7 := by unfold nAof; rw [hF, if_pos rfl]
    have nin := fun a (ha : a < nAof n b) => nAof_in ha
    rw [e] at nin ⊢
    have n8 : (n + 1) / 7 ≤ 8 := by omega
    have hn7 := (FV_none hF).2
    obtain ⟨r, h1, h2, h3, h4, h5, h6⟩ := loop_inv (B := fun s6 : Int32 × Int32 × Mem => f_X1_takeAccents_18_18b 5 1 s6.1 s6.2.1 s6.2.2) (fun i q => q.1 = nI (7 * i) ∧ q.2.1 = nI i ∧ Fr 5 8 M q.2.2 ∧ q.2.2 5 0 = nI i ∧ (∀ j, j ≠ 0 → q.2.2 5 j = M 5 j) ∧ (∀ a, a < i → q.2.2 6 a = nI ((six 71 (b (7 * a))).getD 0)) ∧ ∀ a s, a < i → s < 5 → q.2.2 7 (a * 5 + s) = nI ((b (7 * a + 1 + s) - 48) % 10))
      (fun q => Fr 5 8 M q.2.2 ∧ q.2.2 5 0 = nI ((n + 1) / 7) ∧ (∀ j, j ≠ 0 → q.2.2 5 j = M 5 j) ∧ (∀ a, a < (n + 1) / 7 → q.2.2 6 a = nI ((six 71 (b (7 * a))).getD 0)) ∧ ∀ a s, a < (n + 1) / 7 → s < 5 → q.2.2 7 (a * 5 + s) = nI ((b (7 * a + 1 + s) - 48) % 10)) ((n + 1) / 7) (s := (nI 0, nI 0, upM M 5 0 (nI 0)))
      (by exact ⟨rfl, rfl, F0, by dsimp only; exact upM_s, fun j hj => by dsimp only; exact upM_m hj, fun a ha => by omega, fun a s ha => by omega⟩)
      (by
        rintro i ⟨x, y, N⟩ hi ⟨hx, hy, hF', b1, b2, b3, b4⟩
        dsimp only at hx hy hF' b1 b2 b3 b4 ⊢
        subst hx hy
        obtain ⟨i1, ⟨v, i2⟩, i3⟩ := nin i hi
        have y4 : N 1 4 = nI n := by rw [hF' 1 (by omega)]; exact x4
        have y5 : ∀ j, j < n → N 2 j = nI (b j) := fun j hj => by rw [hF' 2 (by omega)]; exact x5 j hj
        have e7 := y5 (7 * i) (by omega)
        have si := (c_sidx (hb (7 * i))).1
        rw [i2, oi_s] at si
        have inner : loop (fun s4 : Int32 × Mem => f_X1_takeAccents_46_46b 5 1 (nI (7 * i)) (nI i) s4.1 s4.2) (nI 0, upM N 6 i (nI v)) = some (nI 5, filM (upM N 6 i (nI v)) 7 (i * 5) 5 (fun s => nI ((b (7 * i + 1 + s) - 48) % 10))) := by
          have := loop_for (B := fun s4 : Int32 × Mem => f_X1_takeAccents_46_46b 5 1 (nI (7 * i)) (nI i) s4.1 s4.2) (fun j => (nI j, filM (upM N 6 i (nI v)) 7 (i * 5) j (fun s => nI ((b (7 * i + 1 + s) - 48) % 10)))) 5 (e := (nI 5, filM (upM N 6 i (nI v)) 7 (i * 5) 5 (fun s => nI ((b (7 * i + 1 + s) - 48) % 10))))
            (by
              intro j hj
              dsimp only
              obtain ⟨d1, d2⟩ := i3 j hj
              have e8 := y5 (7 * i + 1 + j) (by omega)
              have el : ln 2 = 55 := rfl
              unfold f_X1_takeAccents_46_46b f_X3_figureAt f_X5_isBelow
              simp (disch := omega) only [li_0, li_1, li_2, li_3, li_4, li_5, li_6, li_7, li_8, li_9, li_10, li_11, li_12, li_14, li_15, li_16, li_18, li_20, li_22, li_23, li_24, li_29, li_30, li_31, li_32, li_33, li_40, li_48, li_54, li_55, li_56, li_57, li_59, li_60, li_63, li_64, li_97, li_98, li_99, li_100, li_103, li_107, li_108, li_112, li_121, li_206, li_212, li_232, li_240, li_255, li_256, li_261, li_270, ng_1, ng_2, ng_3, ng_4, ng_9, ng_10, m1_1, nI_m1, m1_nI, if_true, if_false, nI_add, pk_mul, pk_sub, nI_div, nI_rem, nI_eq, nI_leI, nI_ltI, nI_clamp, ck_in, ck_nz, bind_sm, upM_n, upM_m, upM_s, if_pos, if_neg, rf_1_0, rf_1_1, rf_3_0, rf_3_1, rf_5_1, rf_5_2, rf_5_4, rf_5_5, rf_5_7, rf_5_8, rf_5_9, rf_13_1, rf_13_2, rf_13_4, rf_13_5, rf_13_7, rf_13_8, rf_13_9, rf_21_0, rf_21_2, rf_21_3, rf_21_4, rf_21_5, rf_26_0, rf_26_2, rf_26_3, rf_26_4, rf_26_5, rf_31_1, rf_31_2, rf_31_3, rf_31_4, rf_37_2, rf_39_2, rf_41_2, rf_43_2, filM_n, y4, el, e8]
              rw [← filM_up]
              rw [Nat.mod_eq_of_lt (show b (7 * i + 1 + j) - 48 < 10 by omega)])
            (by
              dsimp only
              unfold f_X1_takeAccents_46_46b
              simp (disch := omega) only [li_0, li_1, li_2, li_3, li_4, li_5, li_6, li_7, li_8, li_9, li_10, li_11, li_12, li_14, li_15, li_16, li_18, li_20, li_22, li_23, li_24, li_29, li_30, li_31, li_32, li_33, li_40, li_48, li_54, li_55, li_56, li_57, li_59, li_60, li_63, li_64, li_97, li_98, li_99, li_100, li_103, li_107, li_108, li_112, li_121, li_206, li_212, li_232, li_240, li_255, li_256, li_261, li_270, ng_1, ng_2, ng_3, ng_4, ng_9, ng_10, m1_1, nI_m1, m1_nI, if_true, if_false, nI_add, pk_mul, pk_sub, nI_div, nI_rem, nI_eq, nI_leI, nI_ltI, nI_clamp, ck_in, ck_nz, bind_sm, upM_n, upM_m, upM_s, if_pos, if_neg])
          rw [filM_0] at this
          exact this
        refine ⟨(nI (7 * (i + 1)), nI (i + 1), upM (filM (upM N 6 i (nI v)) 7 (i * 5) 5 (fun s => nI ((b (7 * i + 1 + s) - 48) % 10))) 5 0 (nI (i + 1))), ?_, rfl, rfl, ?_, by dsimp only; exact upM_s, fun j hj => ?_, fun a ha => ?_, fun a s ha h => ?_⟩
        · have el : ln 2 = 55 := rfl
          unfold f_X1_takeAccents_18_18b f_X3_sortAt f_X5_isBelow
          simp (disch := omega) only [li_0, li_1, li_2, li_3, li_4, li_5, li_6, li_7, li_8, li_9, li_10, li_11, li_12, li_14, li_15, li_16, li_18, li_20, li_22, li_23, li_24, li_29, li_30, li_31, li_32, li_33, li_40, li_48, li_54, li_55, li_56, li_57, li_59, li_60, li_63, li_64, li_97, li_98, li_99, li_100, li_103, li_107, li_108, li_112, li_121, li_206, li_212, li_232, li_240, li_255, li_256, li_261, li_270, ng_1, ng_2, ng_3, ng_4, ng_9, ng_10, m1_1, nI_m1, m1_nI, if_true, if_false, nI_add, pk_mul, pk_sub, nI_div, nI_rem, nI_eq, nI_leI, nI_ltI, nI_clamp, ck_in, ck_nz, bind_sm, upM_n, upM_m, upM_s, if_pos, if_neg, rf_1_0, rf_1_1, rf_3_0, rf_3_1, rf_5_1, rf_5_2, rf_5_4, rf_5_5, rf_5_7, rf_5_8, rf_5_9, rf_13_1, rf_13_2, rf_13_4, rf_13_5, rf_13_7, rf_13_8, rf_13_9, rf_21_0, rf_21_2, rf_21_3, rf_21_4, rf_21_5, rf_26_0, rf_26_2, rf_26_3, rf_26_4, rf_26_5, rf_31_1, rf_31_2, rf_31_3, rf_31_4, rf_37_2, rf_39_2, rf_41_2, rf_43_2, y4, el, e7, si, inner, filM_n, b1]
          rfl
        · intro k hk
          dsimp only
          rw [upM_n (by omega), filM_n (by omega), upM_n (by omega)]
          exact hF' k hk
        · dsimp only
          rw [upM_m hj, filM_n (by omega), upM_n (by omega)]
          exact b2 j hj
        · dsimp only
          rw [upM_n (by omega), filM_n (by omega)]
          by_cases q : a = i
          · subst q
            rw [upM_s, i2]
            rfl
          · rw [upM_m q]
            exact b3 a (by omega)
        · dsimp only
          rw [upM_n (by omega)]
          by_cases q : a = i
          · subst q
            rw [filM_in (by omega) (by omega), Nat.add_sub_cancel_left]
          · rw [filM_out (by omega), upM_n (by omega)]
            exact b4 a s (by omega) h)
      (by
        rintro ⟨x, y, N⟩ ⟨hx, hy, hF', b1, b2, b3, b4⟩
        dsimp only at hx hy hF' b1 b2 b3 b4 ⊢
        subst hx hy
        have y4 : N 1 4 = nI n := by rw [hF' 1 (by omega)]; exact x4
        refine ⟨(nI (7 * ((n + 1) / 7)), nI ((n + 1) / 7), N), ?_, hF', b1, b2, b3, b4⟩
        unfold f_X1_takeAccents_18_18b
        by_cases q : 8 ≤ (n + 1) / 7
        · simp (disch := omega) only [li_0, li_1, li_2, li_3, li_4, li_5, li_6, li_7, li_8, li_9, li_10, li_11, li_12, li_14, li_15, li_16, li_18, li_20, li_22, li_23, li_24, li_29, li_30, li_31, li_32, li_33, li_40, li_48, li_54, li_55, li_56, li_57, li_59, li_60, li_63, li_64, li_97, li_98, li_99, li_100, li_103, li_107, li_108, li_112, li_121, li_206, li_212, li_232, li_240, li_255, li_256, li_261, li_270, ng_1, ng_2, ng_3, ng_4, ng_9, ng_10, m1_1, nI_m1, m1_nI, if_true, if_false, nI_add, pk_mul, pk_sub, nI_div, nI_rem, nI_eq, nI_leI, nI_ltI, nI_clamp, ck_in, ck_nz, bind_sm, upM_n, upM_m, upM_s, if_pos, if_neg]
        · simp (disch := omega) only [li_0, li_1, li_2, li_3, li_4, li_5, li_6, li_7, li_8, li_9, li_10, li_11, li_12, li_14, li_15, li_16, li_18, li_20, li_22, li_23, li_24, li_29, li_30, li_31, li_32, li_33, li_40, li_48, li_54, li_55, li_56, li_57, li_59, li_60, li_63, li_64, li_97, li_98, li_99, li_100, li_103, li_107, li_108, li_112, li_121, li_206, li_212, li_232, li_240, li_255, li_256, li_261, li_270, ng_1, ng_2, ng_3, ng_4, ng_9, ng_10, m1_1, nI_m1, m1_nI, if_true, if_false, nI_add, pk_mul, pk_sub, nI_div, nI_rem, nI_eq, nI_leI, nI_ltI, nI_clamp, ck_in, ck_nz, bind_sm, upM_n, upM_m, upM_s, if_pos, if_neg, y4])
    simp only [li_0, li_1, li_2, li_3, li_4, li_5, li_6, li_7, li_8, li_9, li_10, li_11, li_12, li_14, li_15, li_16, li_18, li_20, li_22, li_23, li_24, li_29, li_30, li_31, li_32, li_33, li_40, li_48, li_54, li_55, li_56, li_57, li_59, li_60, li_63, li_64, li_97, li_98, li_99, li_100, li_103, li_107, li_108, li_112, li_121, li_206, li_212, li_232, li_240, li_255, li_256, li_261, li_270, ng_1, ng_2, ng_3, ng_4, ng_9, ng_10, m1_1, nI_m1, m1_nI, if_true, if_false, nI_add, pk_mul, pk_sub, nI_div, nI_rem, nI_eq, nI_leI, nI_ltI, nI_clamp, ck_in, ck_nz, bind_sm, upM_n, upM_m, upM_s, if_pos, if_neg, oi_n]
    simp only [h1, bind_sm]
    exact ⟨_, rfl, h3, h4, h5, h6, h2⟩
theorem c_takeP {n : Nat} {b : Nat → Nat} {M : Mem} (hX : TX 3 1 55 n b M) (hn : n ≤ 23) (hb : ∀ i, b i < 256) : ∃ M', f_X1_takePeople 5 3 M = some M' ∧ M' 5 3 = nI (nPof n b) ∧ (∀ j, j ≠ 3 → M' 5 j = M 5 j) ∧ (∀ a, a < nPof n b → M' 8 a = nI ((six 72 (b (3 * a))).getD 0) ∧ M' 9 a = nI ((b (3 * a + 1) - 48) % 8)) ∧ ∀ k, (k ≠ 5 ∧ k ≠ 8 ∧ k ≠ 9) → M' k = M k := by
  have F0 : ∀ k, (k ≠ 5 ∧ k ≠ 8 ∧ k ≠ 9) → upM M 5 3 (nI 0) k = M k := fun k hk => upM_n (by omega)
  have hX0 : TX 3 1 55 n b (upM M 5 3 (nI 0)) := hX.fr (upM_n (by omega)) (upM_n (by omega))
  have ff := c_fault TK_3 hX0 hn hb
  obtain ⟨x2, x3, x4, x5⟩ := hX
  unfold f_X1_takePeople
  simp only [li_0, li_1, li_2, li_3, li_4, li_5, li_6, li_7, li_8, li_9, li_10, li_11, li_12, li_14, li_15, li_16, li_18, li_20, li_22, li_23, li_24, li_29, li_30, li_31, li_32, li_33, li_40, li_48, li_54, li_55, li_56, li_57, li_59, li_60, li_63, li_64, li_97, li_98, li_99, li_100, li_103, li_107, li_108, li_112, li_121, li_206, li_212, li_232, li_240, li_255, li_256, li_261, li_270, ng_1, ng_2, ng_3, ng_4, ng_9, ng_10, m1_1, nI_m1, m1_nI, if_true, if_false, nI_add, pk_mul, pk_sub, nI_div, nI_rem, nI_eq, nI_leI, nI_ltI, nI_clamp, ck_in, ck_nz, bind_sm, upM_n, upM_m, upM_s, if_pos, if_neg, ff]
  cases hF : FV 72 1 55 n b with
  | some i =>
    have hi := FV_lt hF
    have e : nPof n b = 0 := by unfold nPof; rw [hF, if_neg (by simp)]
    simp (disch := omega) only [li_0, li_1, li_2, li_3, li_4, li_5, li_6, li_7, li_8, li_9, li_10, li_11, li_12, li_14, li_15, li_16, li_18, li_20, li_22, li_23, li_24, li_29, li_30, li_31, li_32, li_33, li_40, li_48, li_54, li_55, li_56, li_57, li_59, li_60, li_63, li_64, li_97, li_98, li_99, li_100, li_103, li_107, li_108, li_112, li_121, li_206, li_212, li_232, li_240, li_255, li_256, li_261, li_270, ng_1, ng_2, ng_3, ng_4, ng_9, ng_10, m1_1, nI_m1, m1_nI, if_true, if_false, nI_add, pk_mul, pk_sub, nI_div, nI_rem, nI_eq, nI_leI, nI_ltI, nI_clamp, ck_in, ck_nz, bind_sm, upM_n, upM_m, upM_s, if_pos, if_neg, oi_s, e]
    refine ⟨_, rfl, upM_s, fun j hj => upM_m hj, fun a ha => by omega, F0⟩
  | none =>
    have e : nPof n b = (n + 1) / 3 := by unfold nPof; rw [hF, if_pos rfl]
    have nin := fun a (ha : a < nPof n b) => nPof_in ha
    rw [e] at nin ⊢
    have n8 : (n + 1) / 3 ≤ 8 := by omega
    have hn7 := (FV_none hF).2
    obtain ⟨r, h1, h2, h3, h4, h5⟩ := loop_inv (B := fun s4 : Int32 × Int32 × Mem => f_X1_takePeople_18_18b 5 3 s4.1 s4.2.1 s4.2.2) (fun i q => q.1 = nI (3 * i) ∧ q.2.1 = nI i ∧ (∀ k, (k ≠ 5 ∧ k ≠ 8 ∧ k ≠ 9) → q.2.2 k = M k) ∧ q.2.2 5 3 = nI i ∧ (∀ j, j ≠ 3 → q.2.2 5 j = M 5 j) ∧ ∀ a, a < i → q.2.2 8 a = nI ((six 72 (b (3 * a))).getD 0) ∧ q.2.2 9 a = nI ((b (3 * a + 1) - 48) % 8))
      (fun q => (∀ k, (k ≠ 5 ∧ k ≠ 8 ∧ k ≠ 9) → q.2.2 k = M k) ∧ q.2.2 5 3 = nI ((n + 1) / 3) ∧ (∀ j, j ≠ 3 → q.2.2 5 j = M 5 j) ∧ ∀ a, a < (n + 1) / 3 → q.2.2 8 a = nI ((six 72 (b (3 * a))).getD 0) ∧ q.2.2 9 a = nI ((b (3 * a + 1) - 48) % 8)) ((n + 1) / 3) (s := (nI 0, nI 0, upM M 5 3 (nI 0)))
      (by exact ⟨rfl, rfl, F0, by dsimp only; exact upM_s, fun j hj => by dsimp only; exact upM_m hj, fun a ha => by omega⟩)
      (by
        rintro i ⟨x, y, N⟩ hi ⟨hx, hy, hF', b1, b2, b3⟩
        dsimp only at hx hy hF' b1 b2 b3 ⊢
        subst hx hy
        obtain ⟨i1, ⟨v, i2⟩, d1, d2⟩ := nin i hi
        have y4 : N 3 4 = nI n := by rw [hF' 3 (by omega)]; exact x4
        have y5 : ∀ j, j < n → N 4 j = nI (b j) := fun j hj => by rw [hF' 4 (by omega)]; exact x5 j hj
        have e7 := y5 (3 * i) (by omega)
        have e8 := y5 (3 * i + 1) (by omega)
        have si := (c_sidx (hb (3 * i))).2
        rw [i2, oi_s] at si
        refine ⟨(nI (3 * (i + 1)), nI (i + 1), upM (upM (upM N 8 i (nI v)) 9 i (nI (b (3 * i + 1) - 48))) 5 3 (nI (i + 1))), ?_, rfl, rfl, fun k hk => ?_, by dsimp only; exact upM_s, fun j hj => ?_, fun a ha => ?_⟩
        · have el : ln 4 = 23 := rfl
          unfold f_X1_takePeople_18_18b f_X3_sortAt f_X3_figureAt f_X5_isBelow
          simp (disch := omega) only [li_0, li_1, li_2, li_3, li_4, li_5, li_6, li_7, li_8, li_9, li_10, li_11, li_12, li_14, li_15, li_16, li_18, li_20, li_22, li_23, li_24, li_29, li_30, li_31, li_32, li_33, li_40, li_48, li_54, li_55, li_56, li_57, li_59, li_60, li_63, li_64, li_97, li_98, li_99, li_100, li_103, li_107, li_108, li_112, li_121, li_206, li_212, li_232, li_240, li_255, li_256, li_261, li_270, ng_1, ng_2, ng_3, ng_4, ng_9, ng_10, m1_1, nI_m1, m1_nI, if_true, if_false, nI_add, pk_mul, pk_sub, nI_div, nI_rem, nI_eq, nI_leI, nI_ltI, nI_clamp, ck_in, ck_nz, bind_sm, upM_n, upM_m, upM_s, if_pos, if_neg, rf_1_0, rf_1_1, rf_3_0, rf_3_1, rf_5_1, rf_5_2, rf_5_4, rf_5_5, rf_5_7, rf_5_8, rf_5_9, rf_13_1, rf_13_2, rf_13_4, rf_13_5, rf_13_7, rf_13_8, rf_13_9, rf_21_0, rf_21_2, rf_21_3, rf_21_4, rf_21_5, rf_26_0, rf_26_2, rf_26_3, rf_26_4, rf_26_5, rf_31_1, rf_31_2, rf_31_3, rf_31_4, rf_37_2, rf_39_2, rf_41_2, rf_43_2, y4, el, e7, e8, si, b1]
          rfl
        · dsimp only
          rw [upM_n (by omega), upM_n (by omega), upM_n (by omega)]
          exact hF' k hk
        · dsimp only
          rw [upM_m hj, upM_n (by omega), upM_n (by omega)]
          exact b2 j hj
        · dsimp only
          by_cases q : a = i
          · subst q
            simp (disch := omega) only [upM_n, upM_s]
            rw [i2, Nat.mod_eq_of_lt (show b (3 * a + 1) - 48 < 8 by omega)]
            exact ⟨rfl, rfl⟩
          · simp (disch := omega) only [upM_n, upM_m]
            exact b3 a (by omega))
      (by
        rintro ⟨x, y, N⟩ ⟨hx, hy, hF', b1, b2, b3⟩
        dsimp only at hx hy hF' b1 b2 b3 ⊢
        subst hx hy
        have y4 : N 3 4 = nI n := by rw [hF' 3 (by omega)]; exact x4
        refine ⟨(nI (3 * ((n + 1) / 3)), nI ((n + 1) / 3), N), ?_, hF', b1, b2, b3⟩
        unfold f_X1_takePeople_18_18b
        by_cases q : 8 ≤ (n + 1) / 3
        · simp (disch := omega) only [li_0, li_1, li_2, li_3, li_4, li_5, li_6, li_7, li_8, li_9, li_10, li_11, li_12, li_14, li_15, li_16, li_18, li_20, li_22, li_23, li_24, li_29, li_30, li_31, li_32, li_33, li_40, li_48, li_54, li_55, li_56, li_57, li_59, li_60, li_63, li_64, li_97, li_98, li_99, li_100, li_103, li_107, li_108, li_112, li_121, li_206, li_212, li_232, li_240, li_255, li_256, li_261, li_270, ng_1, ng_2, ng_3, ng_4, ng_9, ng_10, m1_1, nI_m1, m1_nI, if_true, if_false, nI_add, pk_mul, pk_sub, nI_div, nI_rem, nI_eq, nI_leI, nI_ltI, nI_clamp, ck_in, ck_nz, bind_sm, upM_n, upM_m, upM_s, if_pos, if_neg]
        · simp (disch := omega) only [li_0, li_1, li_2, li_3, li_4, li_5, li_6, li_7, li_8, li_9, li_10, li_11, li_12, li_14, li_15, li_16, li_18, li_20, li_22, li_23, li_24, li_29, li_30, li_31, li_32, li_33, li_40, li_48, li_54, li_55, li_56, li_57, li_59, li_60, li_63, li_64, li_97, li_98, li_99, li_100, li_103, li_107, li_108, li_112, li_121, li_206, li_212, li_232, li_240, li_255, li_256, li_261, li_270, ng_1, ng_2, ng_3, ng_4, ng_9, ng_10, m1_1, nI_m1, m1_nI, if_true, if_false, nI_add, pk_mul, pk_sub, nI_div, nI_rem, nI_eq, nI_leI, nI_ltI, nI_clamp, ck_in, ck_nz, bind_sm, upM_n, upM_m, upM_s, if_pos, if_neg, y4])
    simp only [li_0, li_1, li_2, li_3, li_4, li_5, li_6, li_7, li_8, li_9, li_10, li_11, li_12, li_14, li_15, li_16, li_18, li_20, li_22, li_23, li_24, li_29, li_30, li_31, li_32, li_33, li_40, li_48, li_54, li_55, li_56, li_57, li_59, li_60, li_63, li_64, li_97, li_98, li_99, li_100, li_103, li_107, li_108, li_112, li_121, li_206, li_212, li_232, li_240, li_255, li_256, li_261, li_270, ng_1, ng_2, ng_3, ng_4, ng_9, ng_10, m1_1, nI_m1, m1_nI, if_true, if_false, nI_add, pk_mul, pk_sub, nI_div, nI_rem, nI_eq, nI_leI, nI_ltI, nI_clamp, ck_in, ck_nz, bind_sm, upM_n, upM_m, upM_s, if_pos, if_neg, oi_n]
    simp only [h1, bind_sm]
    exact ⟨_, rfl, h3, h4, h5, h2⟩
