-- WHAT WAS HEARD
def soH (τ : SS) (h : Nat × Nat × Nat × Nat) : Prop := h.2.1 < nP τ ∧ (wk τ (h.1 + 1)).2.1 h.2.1 h.2.2.1 = h.2.2.2
/-- all that was heard is so -/
def hears (α : AS) (τ : SS) : Prop := ∀ h ∈ heA α, soH τ h
def agD (α : AS) (τ : SS) (d : Nat) : Prop := ∀ h ∈ heA α, h.1 = d → soH τ h
theorem c_isSo {α : AS} {τ : SS} {M : Mem} {d i : Nat} {h : Nat × Nat × Nat × Nat} (ok : OKA α) (okt : OKS τ) (hS : SR 13 τ M) (hW : WD 26 τ (d + 1) M) (hH : HeI α M) (hi : (heA α)[i]? = some h) (hd : h.1 = d) : ∃ r : Int32, f_X0_isSo 31 26 (nI i) M = some r ∧ (r = nI 1 ∧ soH τ h ∨ r = nI 0 ∧ ¬ soH τ h) := by
  have il := (List.getElem?_eq_some_iff.mp hi).1
  have i8 : i < 8 := by have := ok.2.2.2.1.1; omega
  obtain ⟨o1, o2, o3, o4⟩ := ok.2.2.2.1.2 h (List.mem_of_getElem? hi)
  obtain ⟨-, h2⟩ := hH
  obtain ⟨g1, g2, g3, g4⟩ := h2 i h hi
  have ok2 := okt.1.2.1
  have ep := c_hasP (i := h.2.1) hS.1.2.1 (show nP τ < 100 by omega) (show h.2.1 < 100 by omega)
  have okv := (okt.wk (d + 1)).2.1 h.2.1 h.2.2.1
  unfold f_X0_isSo soH
  rw [hd]
  by_cases q1 : h.2.1 < nP τ
  · have sp := hW.1.2.1 h.2.1 h.2.2.1 q1 o3
    by_cases q2 : (wk τ (d + 1)).2.1 h.2.1 h.2.2.1 = h.2.2.2
    · refine ⟨nI 1, ?_, Or.inl ⟨rfl, q1, q2⟩⟩
      simp (disch := omega) only [li_0, li_1, li_2, li_3, li_4, li_5, li_6, li_7, li_8, li_9, li_10, li_11, li_12, li_14, li_15, li_16, li_18, li_20, li_22, li_23, li_24, li_29, li_30, li_31, li_32, li_33, li_40, li_48, li_54, li_55, li_56, li_57, li_59, li_60, li_63, li_64, li_97, li_98, li_99, li_100, li_103, li_107, li_108, li_112, li_121, li_206, li_212, li_232, li_240, li_255, li_256, li_261, li_270, ng_1, ng_2, ng_3, ng_4, ng_9, ng_10, m1_1, nI_m1, m1_nI, if_true, if_false, nI_add, pk_mul, pk_sub, nI_div, nI_rem, nI_eq, nI_leI, nI_ltI, nI_clamp, ck_in, ck_nz, bind_sm, upM_n, upM_m, upM_s, if_pos, if_neg, rf_1_0, rf_1_1, rf_3_0, rf_3_1, rf_5_1, rf_5_2, rf_5_4, rf_5_5, rf_5_7, rf_5_8, rf_5_9, rf_13_1, rf_13_2, rf_13_4, rf_13_5, rf_13_7, rf_13_8, rf_13_9, rf_21_0, rf_21_2, rf_21_3, rf_21_4, rf_21_5, rf_26_0, rf_26_2, rf_26_3, rf_26_4, rf_26_5, rf_31_1, rf_31_2, rf_31_3, rf_31_4, rf_37_2, rf_39_2, rf_41_2, rf_43_2, g2, g3, g4, ep, sp]
    · refine ⟨nI 0, ?_, Or.inr ⟨rfl, fun r => q2 r.2⟩⟩
      simp (disch := omega) only [li_0, li_1, li_2, li_3, li_4, li_5, li_6, li_7, li_8, li_9, li_10, li_11, li_12, li_14, li_15, li_16, li_18, li_20, li_22, li_23, li_24, li_29, li_30, li_31, li_32, li_33, li_40, li_48, li_54, li_55, li_56, li_57, li_59, li_60, li_63, li_64, li_97, li_98, li_99, li_100, li_103, li_107, li_108, li_112, li_121, li_206, li_212, li_232, li_240, li_255, li_256, li_261, li_270, ng_1, ng_2, ng_3, ng_4, ng_9, ng_10, m1_1, nI_m1, m1_nI, if_true, if_false, nI_add, pk_mul, pk_sub, nI_div, nI_rem, nI_eq, nI_leI, nI_ltI, nI_clamp, ck_in, ck_nz, bind_sm, upM_n, upM_m, upM_s, if_pos, if_neg, rf_1_0, rf_1_1, rf_3_0, rf_3_1, rf_5_1, rf_5_2, rf_5_4, rf_5_5, rf_5_7, rf_5_8, rf_5_9, rf_13_1, rf_13_2, rf_13_4, rf_13_5, rf_13_7, rf_13_8, rf_13_9, rf_21_0, rf_21_2, rf_21_3, rf_21_4, rf_21_5, rf_26_0, rf_26_2, rf_26_3, rf_26_4, rf_26_5, rf_31_1, rf_31_2, rf_31_3, rf_31_4, rf_37_2, rf_39_2, rf_41_2, rf_43_2, g2, g3, g4, ep, sp]
  · refine ⟨nI 0, ?_, Or.inr ⟨rfl, fun r => q1 r.1⟩⟩
    simp (disch := omega) only [li_0, li_1, li_2, li_3, li_4, li_5, li_6, li_7, li_8, li_9, li_10, li_11, li_12, li_14, li_15, li_16, li_18, li_20, li_22, li_23, li_24, li_29, li_30, li_31, li_32, li_33, li_40, li_48, li_54, li_55, li_56, li_57, li_59, li_60, li_63, li_64, li_97, li_98, li_99, li_100, li_103, li_107, li_108, li_112, li_121, li_206, li_212, li_232, li_240, li_255, li_256, li_261, li_270, ng_1, ng_2, ng_3, ng_4, ng_9, ng_10, m1_1, nI_m1, m1_nI, if_true, if_false, nI_add, pk_mul, pk_sub, nI_div, nI_rem, nI_eq, nI_leI, nI_ltI, nI_clamp, ck_in, ck_nz, bind_sm, upM_n, upM_m, upM_s, if_pos, if_neg, rf_1_0, rf_1_1, rf_3_0, rf_3_1, rf_5_1, rf_5_2, rf_5_4, rf_5_5, rf_5_7, rf_5_8, rf_5_9, rf_13_1, rf_13_2, rf_13_4, rf_13_5, rf_13_7, rf_13_8, rf_13_9, rf_21_0, rf_21_2, rf_21_3, rf_21_4, rf_21_5, rf_26_0, rf_26_2, rf_26_3, rf_26_4, rf_26_5, rf_31_1, rf_31_2, rf_31_3, rf_31_4, rf_37_2, rf_39_2, rf_41_2, rf_43_2, g2, ep]
theorem c_agree {α : AS} {τ : SS} {M : Mem} {d : Nat} (ok : OKA α) (okt : OKS τ) (hS : SR 13 τ M) (hW : WD 26 τ (d + 1) M) (hH : HeI α M) (hd : d < 30) : ∃ r : Int32, f_X0_agreesWith 31 26 M = some r ∧ (r = nI 1 ∧ agD α τ d ∨ r = nI 0 ∧ ¬ agD α τ d) := by
  have h8 := ok.2.2.2.1.1
  have day : M 26 1 = nI d := by
    have e : ∀ x : Int32, x = x + nI 1 - nI 1 := fun x => by rw [Int32.add_sub_cancel]
    rw [e (M 26 1), hW.2.1, nI_pred']
  have s0 := hH.1
  have step : ∀ i, i < (heA α).length → ∃ h, (heA α)[i]? = some h ∧ (((h.1 = d → soH τ h) → f_X0_agreesWith_2_2b 31 26 (nI i) M = some (.inl (nI (i + 1)))) ∧ (¬ (h.1 = d → soH τ h) → f_X0_agreesWith_2_2b 31 26 (nI i) M = some (.inr (.inr (nI 0))))) := by
    intro i hi
    obtain ⟨h, hh⟩ : ∃ h, (heA α)[i]? = some h := ⟨_, List.getElem?_eq_getElem hi⟩
    obtain ⟨o1, o2, o3, o4⟩ := ok.2.2.2.1.2 h (List.mem_of_getElem? hh)
    obtain ⟨g1, g2, g3, g4⟩ := hH.2 i h hh
    refine ⟨h, hh, ?_⟩
    unfold f_X0_agreesWith_2_2b f_X0_agreesWith_34_2
    by_cases q : h.1 = d
    · obtain ⟨r, r1, ⟨rfl, r2⟩ | ⟨rfl, r2⟩⟩ := c_isSo ok okt hS hW hH hh q
      · refine ⟨fun _ => ?_, fun hn => absurd (fun _ => r2) hn⟩
        simp (disch := omega) only [li_0, li_1, li_2, li_3, li_4, li_5, li_6, li_7, li_8, li_9, li_10, li_11, li_12, li_14, li_15, li_16, li_18, li_20, li_22, li_23, li_24, li_29, li_30, li_31, li_32, li_33, li_40, li_48, li_54, li_55, li_56, li_57, li_59, li_60, li_63, li_64, li_97, li_98, li_99, li_100, li_103, li_107, li_108, li_112, li_121, li_206, li_212, li_232, li_240, li_255, li_256, li_261, li_270, ng_1, ng_2, ng_3, ng_4, ng_9, ng_10, m1_1, nI_m1, m1_nI, if_true, if_false, nI_add, pk_mul, pk_sub, nI_div, nI_rem, nI_eq, nI_leI, nI_ltI, nI_clamp, ck_in, ck_nz, bind_sm, upM_n, upM_m, upM_s, if_pos, if_neg, rf_1_0, rf_1_1, rf_3_0, rf_3_1, rf_5_1, rf_5_2, rf_5_4, rf_5_5, rf_5_7, rf_5_8, rf_5_9, rf_13_1, rf_13_2, rf_13_4, rf_13_5, rf_13_7, rf_13_8, rf_13_9, rf_21_0, rf_21_2, rf_21_3, rf_21_4, rf_21_5, rf_26_0, rf_26_2, rf_26_3, rf_26_4, rf_26_5, rf_31_1, rf_31_2, rf_31_3, rf_31_4, rf_37_2, rf_39_2, rf_41_2, rf_43_2, s0, g1, day, r1, q]
      · refine ⟨fun hy => absurd (hy q) r2, fun _ => ?_⟩
        simp (disch := omega) only [li_0, li_1, li_2, li_3, li_4, li_5, li_6, li_7, li_8, li_9, li_10, li_11, li_12, li_14, li_15, li_16, li_18, li_20, li_22, li_23, li_24, li_29, li_30, li_31, li_32, li_33, li_40, li_48, li_54, li_55, li_56, li_57, li_59, li_60, li_63, li_64, li_97, li_98, li_99, li_100, li_103, li_107, li_108, li_112, li_121, li_206, li_212, li_232, li_240, li_255, li_256, li_261, li_270, ng_1, ng_2, ng_3, ng_4, ng_9, ng_10, m1_1, nI_m1, m1_nI, if_true, if_false, nI_add, pk_mul, pk_sub, nI_div, nI_rem, nI_eq, nI_leI, nI_ltI, nI_clamp, ck_in, ck_nz, bind_sm, upM_n, upM_m, upM_s, if_pos, if_neg, rf_1_0, rf_1_1, rf_3_0, rf_3_1, rf_5_1, rf_5_2, rf_5_4, rf_5_5, rf_5_7, rf_5_8, rf_5_9, rf_13_1, rf_13_2, rf_13_4, rf_13_5, rf_13_7, rf_13_8, rf_13_9, rf_21_0, rf_21_2, rf_21_3, rf_21_4, rf_21_5, rf_26_0, rf_26_2, rf_26_3, rf_26_4, rf_26_5, rf_31_1, rf_31_2, rf_31_3, rf_31_4, rf_37_2, rf_39_2, rf_41_2, rf_43_2, s0, g1, day, r1, q]
    · refine ⟨fun _ => ?_, fun hn => absurd (fun e => absurd e q) hn⟩
      simp (disch := omega) only [li_0, li_1, li_2, li_3, li_4, li_5, li_6, li_7, li_8, li_9, li_10, li_11, li_12, li_14, li_15, li_16, li_18, li_20, li_22, li_23, li_24, li_29, li_30, li_31, li_32, li_33, li_40, li_48, li_54, li_55, li_56, li_57, li_59, li_60, li_63, li_64, li_97, li_98, li_99, li_100, li_103, li_107, li_108, li_112, li_121, li_206, li_212, li_232, li_240, li_255, li_256, li_261, li_270, ng_1, ng_2, ng_3, ng_4, ng_9, ng_10, m1_1, nI_m1, m1_nI, if_true, if_false, nI_add, pk_mul, pk_sub, nI_div, nI_rem, nI_eq, nI_leI, nI_ltI, nI_clamp, ck_in, ck_nz, bind_sm, upM_n, upM_m, upM_s, if_pos, if_neg, rf_1_0, rf_1_1, rf_3_0, rf_3_1, rf_5_1, rf_5_2, rf_5_4, rf_5_5, rf_5_7, rf_5_8, rf_5_9, rf_13_1, rf_13_2, rf_13_4, rf_13_5, rf_13_7, rf_13_8, rf_13_9, rf_21_0, rf_21_2, rf_21_3, rf_21_4, rf_21_5, rf_26_0, rf_26_2, rf_26_3, rf_26_4, rf_26_5, rf_31_1, rf_31_2, rf_31_3, rf_31_4, rf_37_2, rf_39_2, rf_41_2, rf_43_2, s0, g1, day]
  unfold f_X0_agreesWith
  by_cases ag : agD α τ d
  · have lp := loop_for (B := fun s2 : Int32 => f_X0_agreesWith_2_2b 31 26 s2 M) (fun i => nI i) (heA α).length (e := .inl (nI (heA α).length))
      (by
        intro i hi
        obtain ⟨h, hh, s1, -⟩ := step i hi
        exact s1 (ag h (List.mem_of_getElem? hh)))
      (by
        unfold f_X0_agreesWith_2_2b
        simp (disch := omega) only [li_0, li_1, li_2, li_3, li_4, li_5, li_6, li_7, li_8, li_9, li_10, li_11, li_12, li_14, li_15, li_16, li_18, li_20, li_22, li_23, li_24, li_29, li_30, li_31, li_32, li_33, li_40, li_48, li_54, li_55, li_56, li_57, li_59, li_60, li_63, li_64, li_97, li_98, li_99, li_100, li_103, li_107, li_108, li_112, li_121, li_206, li_212, li_232, li_240, li_255, li_256, li_261, li_270, ng_1, ng_2, ng_3, ng_4, ng_9, ng_10, m1_1, nI_m1, m1_nI, if_true, if_false, nI_add, pk_mul, pk_sub, nI_div, nI_rem, nI_eq, nI_leI, nI_ltI, nI_clamp, ck_in, ck_nz, bind_sm, upM_n, upM_m, upM_s, if_pos, if_neg, s0])
    refine ⟨nI 1, ?_, Or.inl ⟨rfl, ag⟩⟩
    try dsimp only at lp
    rw [li_0, lp]
    rfl
  · have ex : ∃ i : Nat, ∃ h, (heA α)[i]? = some h ∧ ¬ (h.1 = d → soH τ h) := by
      apply Classical.byContradiction
      intro hn
      apply ag
      intro h hm e
      obtain ⟨i, hi⟩ := List.getElem?_of_mem hm
      apply Classical.byContradiction
      intro hs
      exact hn ⟨i, h, hi, fun hf => hs (hf e)⟩
    obtain ⟨i0, ⟨h0, hh0, hs0⟩, least⟩ := pk_least _ ex
    have il := (List.getElem?_eq_some_iff.mp hh0).1
    have lp := loop_for (B := fun s2 : Int32 => f_X0_agreesWith_2_2b 31 26 s2 M) (fun i => nI i) i0 (e := .inr (nI 0))
      (by
        intro i hi
        obtain ⟨h, hh, s1, -⟩ := step i (by omega)
        exact s1 (Classical.byContradiction fun hc => least i hi ⟨h, hh, hc⟩))
      (by
        obtain ⟨h, hh, -, s2⟩ := step i0 il
        rw [hh0] at hh
        cases hh
        exact s2 hs0)
    refine ⟨nI 0, ?_, Or.inr ⟨rfl, ag⟩⟩
    try dsimp only at lp
    rw [li_0, lp]
    rfl
/-- the latest day among the first n -/
def ldN (l : List (Nat × Nat × Nat × Nat)) : Nat → Option Nat
  | 0 => none
  | n + 1 => match l[n]? with
    | none => ldN l n
    | some h => match ldN l n with
      | none => some h.1
      | some m => if h.1 ≤ m then some m else some h.1
theorem ldN_s {l : List (Nat × Nat × Nat × Nat)} {n : Nat} {h : Nat × Nat × Nat × Nat} (e : l[n]? = some h) : ldN l (n + 1) = match ldN l n with
      | none => some h.1
      | some m => if h.1 ≤ m then some m else some h.1 := by
  show (match l[n]? with
    | none => ldN l n
    | some h => match ldN l n with
      | none => some h.1
      | some m => if h.1 ≤ m then some m else some h.1) = _
  rw [e]
theorem ldN_ge {l : List (Nat × Nat × Nat × Nat)} : ∀ {n : Nat}, n ≤ l.length → (∀ i h, i < n → l[i]? = some h → ∃ m, ldN l n = some m ∧ h.1 ≤ m) ∧ ∀ m, ldN l n = some m → ∃ h ∈ l, h.1 = m := by
  intro n
  induction n with
  | zero => intro _; exact ⟨fun i h hi => by omega, fun m h => by cases h⟩
  | succ n ih =>
    intro hn
    obtain ⟨h1, h2⟩ := ih (by omega)
    obtain ⟨g, hg⟩ : ∃ g, l[n]? = some g := ⟨_, List.getElem?_eq_getElem (by omega)⟩
    rw [ldN_s hg]
    refine ⟨fun i h hi hh => ?_, fun m hm => ?_⟩
    · by_cases q : i = n
      · subst q
        rw [hg] at hh
        cases hh
        cases hl : ldN l i with
        | none => exact ⟨g.1, rfl, Nat.le_refl _⟩
        | some m =>
          by_cases q2 : g.1 ≤ m
          · exact ⟨m, by simp [q2], q2⟩
          · exact ⟨g.1, by simp [q2], Nat.le_refl _⟩
      · obtain ⟨m, hm, hle⟩ := h1 i h (by omega) hh
        rw [hm]
        by_cases q2 : g.1 ≤ m
        · exact ⟨m, by simp [q2], hle⟩
        · exact ⟨g.1, by simp [q2], by omega⟩
    · cases hl : ldN l n with
      | none =>
        rw [hl] at hm
        cases hm
        exact ⟨g, List.mem_of_getElem? hg, rfl⟩
      | some m' =>
        rw [hl] at hm
        by_cases q2 : g.1 ≤ m'
        · simp [q2] at hm
          subst hm
          exact h2 m' hl
        · simp [q2] at hm
          subst hm
          exact ⟨g, List.mem_of_getElem? hg, rfl⟩
theorem c_latest {α : AS} {M : Mem} (ok : OKA α) (hH : HeI α M) : f_X0_latestDay 31 M = some (oi (ldN (heA α) (heA α).length)) := by
  have h8 := ok.2.2.2.1.1
  have s0 := hH.1
  unfold f_X0_latestDay
  have lp : loop (fun s1 : Int32 × Int32 => f_X0_latestDay_4_4b 31 s1.1 s1.2 M) (m1, nI 0) = some (oi (ldN (heA α) (heA α).length), nI (heA α).length) := by
    refine loop_for (B := fun s1 : Int32 × Int32 => f_X0_latestDay_4_4b 31 s1.1 s1.2 M) (fun i => (oi (ldN (heA α) i), nI i)) (heA α).length
      (by
        intro i hi
        dsimp only
        obtain ⟨h, hh⟩ : ∃ h, (heA α)[i]? = some h := ⟨_, List.getElem?_eq_getElem hi⟩
        obtain ⟨o1, -⟩ := ok.2.2.2.1.2 h (List.mem_of_getElem? hh)
        obtain ⟨g1, -⟩ := hH.2 i h hh
        rw [ldN_s hh]
        unfold f_X0_latestDay_4_4b f_X0_latestDay_29_4
        cases hl : ldN (heA α) i with
        | none => simp (disch := omega) only [li_0, li_1, li_2, li_3, li_4, li_5, li_6, li_7, li_8, li_9, li_10, li_11, li_12, li_14, li_15, li_16, li_18, li_20, li_22, li_23, li_24, li_29, li_30, li_31, li_32, li_33, li_40, li_48, li_54, li_55, li_56, li_57, li_59, li_60, li_63, li_64, li_97, li_98, li_99, li_100, li_103, li_107, li_108, li_112, li_121, li_206, li_212, li_232, li_240, li_255, li_256, li_261, li_270, ng_1, ng_2, ng_3, ng_4, ng_9, ng_10, m1_1, nI_m1, m1_nI, if_true, if_false, nI_add, pk_mul, pk_sub, nI_div, nI_rem, nI_eq, nI_leI, nI_ltI, nI_clamp, ck_in, ck_nz, bind_sm, upM_n, upM_m, upM_s, if_pos, if_neg, rf_1_0, rf_1_1, rf_3_0, rf_3_1, rf_5_1, rf_5_2, rf_5_4, rf_5_5, rf_5_7, rf_5_8, rf_5_9, rf_13_1, rf_13_2, rf_13_4, rf_13_5, rf_13_7, rf_13_8, rf_13_9, rf_21_0, rf_21_2, rf_21_3, rf_21_4, rf_21_5, rf_26_0, rf_26_2, rf_26_3, rf_26_4, rf_26_5, rf_31_1, rf_31_2, rf_31_3, rf_31_4, rf_37_2, rf_39_2, rf_41_2, rf_43_2, s0, g1, oi_n, oi_s, le_m1]
        | some m =>
          obtain ⟨g, hg, rfl⟩ := (ldN_ge (l := heA α) (n := i) (by omega)).2 m hl
          obtain ⟨og, -⟩ := ok.2.2.2.1.2 g hg
          by_cases q : h.1 ≤ g.1
          · simp (disch := omega) only [li_0, li_1, li_2, li_3, li_4, li_5, li_6, li_7, li_8, li_9, li_10, li_11, li_12, li_14, li_15, li_16, li_18, li_20, li_22, li_23, li_24, li_29, li_30, li_31, li_32, li_33, li_40, li_48, li_54, li_55, li_56, li_57, li_59, li_60, li_63, li_64, li_97, li_98, li_99, li_100, li_103, li_107, li_108, li_112, li_121, li_206, li_212, li_232, li_240, li_255, li_256, li_261, li_270, ng_1, ng_2, ng_3, ng_4, ng_9, ng_10, m1_1, nI_m1, m1_nI, if_true, if_false, nI_add, pk_mul, pk_sub, nI_div, nI_rem, nI_eq, nI_leI, nI_ltI, nI_clamp, ck_in, ck_nz, bind_sm, upM_n, upM_m, upM_s, if_pos, if_neg, rf_1_0, rf_1_1, rf_3_0, rf_3_1, rf_5_1, rf_5_2, rf_5_4, rf_5_5, rf_5_7, rf_5_8, rf_5_9, rf_13_1, rf_13_2, rf_13_4, rf_13_5, rf_13_7, rf_13_8, rf_13_9, rf_21_0, rf_21_2, rf_21_3, rf_21_4, rf_21_5, rf_26_0, rf_26_2, rf_26_3, rf_26_4, rf_26_5, rf_31_1, rf_31_2, rf_31_3, rf_31_4, rf_37_2, rf_39_2, rf_41_2, rf_43_2, s0, g1, oi_s]
          · simp (disch := omega) only [li_0, li_1, li_2, li_3, li_4, li_5, li_6, li_7, li_8, li_9, li_10, li_11, li_12, li_14, li_15, li_16, li_18, li_20, li_22, li_23, li_24, li_29, li_30, li_31, li_32, li_33, li_40, li_48, li_54, li_55, li_56, li_57, li_59, li_60, li_63, li_64, li_97, li_98, li_99, li_100, li_103, li_107, li_108, li_112, li_121, li_206, li_212, li_232, li_240, li_255, li_256, li_261, li_270, ng_1, ng_2, ng_3, ng_4, ng_9, ng_10, m1_1, nI_m1, m1_nI, if_true, if_false, nI_add, pk_mul, pk_sub, nI_div, nI_rem, nI_eq, nI_leI, nI_ltI, nI_clamp, ck_in, ck_nz, bind_sm, upM_n, upM_m, upM_s, if_pos, if_neg, rf_1_0, rf_1_1, rf_3_0, rf_3_1, rf_5_1, rf_5_2, rf_5_4, rf_5_5, rf_5_7, rf_5_8, rf_5_9, rf_13_1, rf_13_2, rf_13_4, rf_13_5, rf_13_7, rf_13_8, rf_13_9, rf_21_0, rf_21_2, rf_21_3, rf_21_4, rf_21_5, rf_26_0, rf_26_2, rf_26_3, rf_26_4, rf_26_5, rf_31_1, rf_31_2, rf_31_3, rf_31_4, rf_37_2, rf_39_2, rf_41_2, rf_43_2, s0, g1, oi_s])
      (by
        dsimp only
        unfold f_X0_latestDay_4_4b
        simp (disch := omega) only [li_0, li_1, li_2, li_3, li_4, li_5, li_6, li_7, li_8, li_9, li_10, li_11, li_12, li_14, li_15, li_16, li_18, li_20, li_22, li_23, li_24, li_29, li_30, li_31, li_32, li_33, li_40, li_48, li_54, li_55, li_56, li_57, li_59, li_60, li_63, li_64, li_97, li_98, li_99, li_100, li_103, li_107, li_108, li_112, li_121, li_206, li_212, li_232, li_240, li_255, li_256, li_261, li_270, ng_1, ng_2, ng_3, ng_4, ng_9, ng_10, m1_1, nI_m1, m1_nI, if_true, if_false, nI_add, pk_mul, pk_sub, nI_div, nI_rem, nI_eq, nI_leI, nI_ltI, nI_clamp, ck_in, ck_nz, bind_sm, upM_n, upM_m, upM_s, if_pos, if_neg, s0])
  simp only [li_0, li_1, li_2, li_3, li_4, li_5, li_6, li_7, li_8, li_9, li_10, li_11, li_12, li_14, li_15, li_16, li_18, li_20, li_22, li_23, li_24, li_29, li_30, li_31, li_32, li_33, li_40, li_48, li_54, li_55, li_56, li_57, li_59, li_60, li_63, li_64, li_97, li_98, li_99, li_100, li_103, li_107, li_108, li_112, li_121, li_206, li_212, li_232, li_240, li_255, li_256, li_261, li_270, ng_1, ng_2, ng_3, ng_4, ng_9, ng_10, m1_1, nI_m1, m1_nI, if_true, if_false, nI_add, pk_mul, pk_sub, nI_div, nI_rem, nI_eq, nI_leI, nI_ltI, nI_clamp, ck_in, ck_nz, bind_sm, upM_n, upM_m, upM_s, if_pos, if_neg, lp]
theorem c_comes {α : AS} {τ : SS} {M : Mem} (ok : OKA α) (okt : OKS τ) (hS : SR 13 τ M) (hH : HeI α M) : ∃ (r : Int32) (M' : Mem), f_X5_comesOut M = some (r, M') ∧ (r = nI 1 ∧ hears α τ ∨ r = nI 0 ∧ ¬ hears α τ) ∧ Fr 26 31 M M' := by
  have lt := c_latest ok hH
  obtain ⟨lg1, lg2⟩ := ldN_ge (l := heA α) (n := (heA α).length) (Nat.le_refl _)
  obtain ⟨M0, b1, b2, b3⟩ := c_begin WI_26 okt hS
  have L0 : ∃ L, L ≤ 30 ∧ (∀ h ∈ heA α, h.1 < L) ∧ ∀ d, d ≤ 30 → ((oi (ldN (heA α) (heA α).length) < nI d) = (L ≤ d)) := by
    cases hl : ldN (heA α) (heA α).length with
    | none =>
      refine ⟨0, by omega, fun h hm => ?_, fun d hd => ?_⟩
      · obtain ⟨i, hi⟩ := List.getElem?_of_mem hm
        obtain ⟨m, e, -⟩ := lg1 i h (List.getElem?_eq_some_iff.mp hi).1 hi
        rw [hl] at e
        cases e
      · rw [oi_n]
        have : m1 < nI d := by
          rw [Int32.lt_iff_toInt_lt, nI_toInt (by omega)]
          have : m1.toInt = -1 := by decide
          omega
        simp [this]
    | some m =>
      obtain ⟨g, hg, rfl⟩ := lg2 m hl
      obtain ⟨og, -⟩ := ok.2.2.2.1.2 g hg
      refine ⟨g.1 + 1, by omega, fun h hm => ?_, fun d hd => ?_⟩
      · obtain ⟨i, hi⟩ := List.getElem?_of_mem hm
        obtain ⟨m, e, hle⟩ := lg1 i h (List.getElem?_eq_some_iff.mp hi).1 hi
        rw [hl] at e
        cases e
        omega
      · rw [oi_s, nI_ltI (by omega) (by omega)]
        exact propext ⟨fun h => h, fun h => h⟩
  obtain ⟨L, hL, hLm, hLe⟩ := L0
  have step : ∀ d N, d < L → WD 26 τ d N → Fr 26 31 M N → ∃ N', WD 26 τ (d + 1) N' ∧ Fr 26 31 M N' ∧ (agD α τ d → f_X5_comesOut_17_17b (oi (ldN (heA α) (heA α).length)) (nI d) N = some (.inl (nI (d + 1), N'))) ∧ (¬ agD α τ d → f_X5_comesOut_17_17b (oi (ldN (heA α) (heA α).length)) (nI d) N = some (.inr (.inr (nI 0, N')))) := by
    intro d N hd hW hF
    have sN : SR 13 τ N := hS.fr (fun k _ _ => hF k (by omega))
    obtain ⟨N', g1, g2, g3⟩ := c_go (u := d) WI_26 okt sN (by omega) (by omega) hW
    have sN' : SR 13 τ N' := sN.fr (fun k _ _ => g3 k (by omega))
    have hN' : HeI α N' := by
      unfold HeI at hH ⊢
      rw [g3 31 (by omega), g3 32 (by omega), g3 33 (by omega), g3 34 (by omega), g3 35 (by omega), hF 31 (by omega), hF 32 (by omega), hF 33 (by omega), hF 34 (by omega), hF 35 (by omega)]
      exact hH
    have le := hLe d (by omega)
    have nle : (oi (ldN (heA α) (heA α).length) < nI d) = False := by rw [le]; exact eq_false (by omega)
    unfold f_X5_comesOut_17_17b
    obtain ⟨r, r1, ⟨rfl, r2⟩ | ⟨rfl, r2⟩⟩ := c_agree ok okt sN' g2 hN' (show d < 30 by omega)
    · refine ⟨N', g2, hF.tr g3, fun _ => ?_, fun h => absurd r2 h⟩
      simp (disch := omega) only [li_0, li_1, li_2, li_3, li_4, li_5, li_6, li_7, li_8, li_9, li_10, li_11, li_12, li_14, li_15, li_16, li_18, li_20, li_22, li_23, li_24, li_29, li_30, li_31, li_32, li_33, li_40, li_48, li_54, li_55, li_56, li_57, li_59, li_60, li_63, li_64, li_97, li_98, li_99, li_100, li_103, li_107, li_108, li_112, li_121, li_206, li_212, li_232, li_240, li_255, li_256, li_261, li_270, ng_1, ng_2, ng_3, ng_4, ng_9, ng_10, m1_1, nI_m1, m1_nI, if_true, if_false, nI_add, pk_mul, pk_sub, nI_div, nI_rem, nI_eq, nI_leI, nI_ltI, nI_clamp, ck_in, ck_nz, bind_sm, upM_n, upM_m, upM_s, if_pos, if_neg, nle, g1, r1]
    · refine ⟨N', g2, hF.tr g3, fun h => absurd h r2, fun _ => ?_⟩
      simp (disch := omega) only [li_0, li_1, li_2, li_3, li_4, li_5, li_6, li_7, li_8, li_9, li_10, li_11, li_12, li_14, li_15, li_16, li_18, li_20, li_22, li_23, li_24, li_29, li_30, li_31, li_32, li_33, li_40, li_48, li_54, li_55, li_56, li_57, li_59, li_60, li_63, li_64, li_97, li_98, li_99, li_100, li_103, li_107, li_108, li_112, li_121, li_206, li_212, li_232, li_240, li_255, li_256, li_261, li_270, ng_1, ng_2, ng_3, ng_4, ng_9, ng_10, m1_1, nI_m1, m1_nI, if_true, if_false, nI_add, pk_mul, pk_sub, nI_div, nI_rem, nI_eq, nI_leI, nI_ltI, nI_clamp, ck_in, ck_nz, bind_sm, upM_n, upM_m, upM_s, if_pos, if_neg, nle, g1, r1]
  have go : ∀ n (Q : (Int32 × Mem) ⊕ (Int32 × Mem) → Prop), n ≤ L → (∀ d, d < n → agD α τ d) → (∀ N, WD 26 τ n N → Fr 26 31 M N → ∃ e, f_X5_comesOut_17_17b (oi (ldN (heA α) (heA α).length)) (nI n) N = some (.inr e) ∧ Q e) → ∃ e, loop (fun s5 : Int32 × Mem => f_X5_comesOut_17_17b (oi (ldN (heA α) (heA α).length)) s5.1 s5.2) (nI 0, M0) = some e ∧ Q e := by
    intro n Q hn hf hQ
    refine loop_inv (B := fun s5 : Int32 × Mem => f_X5_comesOut_17_17b (oi (ldN (heA α) (heA α).length)) s5.1 s5.2) (fun i q => q.1 = nI i ∧ WD 26 τ i q.2 ∧ Fr 26 31 M q.2) Q n (s := (nI 0, M0)) (by exact ⟨rfl, b2, b3⟩)
      (by
        rintro i ⟨x, N⟩ hi ⟨hx, c1, c2⟩
        dsimp only at hx c1 c2 ⊢
        subst hx
        obtain ⟨N', s1, s2, s3, -⟩ := step i N (by omega) c1 c2
        exact ⟨(nI (i + 1), N'), s3 (hf i hi), rfl, s1, s2⟩)
      (by
        rintro ⟨x, N⟩ ⟨hx, c1, c2⟩
        dsimp only at hx c1 c2 ⊢
        subst hx
        exact hQ N c1 c2)
  unfold f_X5_comesOut
  by_cases hr : hears α τ
  · obtain ⟨e, g1, N, rfl, g2⟩ := go L (fun e => ∃ N, e = .inl (nI L, N) ∧ Fr 26 31 M N) (Nat.le_refl L) (fun d _ h hm _ => hr h hm) (fun N c1 c2 => by
      refine ⟨_, ?_, N, rfl, c2⟩
      unfold f_X5_comesOut_17_17b
      have le : (oi (ldN (heA α) (heA α).length) < nI L) = True := by rw [hLe L hL]; exact eq_true (Nat.le_refl L)
      simp only [le, if_true])
    refine ⟨nI 1, N, ?_, Or.inl ⟨rfl, hr⟩, g2⟩
    simp only [li_0, li_1, li_2, li_3, li_4, li_5, li_6, li_7, li_8, li_9, li_10, li_11, li_12, li_14, li_15, li_16, li_18, li_20, li_22, li_23, li_24, li_29, li_30, li_31, li_32, li_33, li_40, li_48, li_54, li_55, li_56, li_57, li_59, li_60, li_63, li_64, li_97, li_98, li_99, li_100, li_103, li_107, li_108, li_112, li_121, li_206, li_212, li_232, li_240, li_255, li_256, li_261, li_270, ng_1, ng_2, ng_3, ng_4, ng_9, ng_10, m1_1, nI_m1, m1_nI, if_true, if_false, nI_add, pk_mul, pk_sub, nI_div, nI_rem, nI_eq, nI_leI, nI_ltI, nI_clamp, ck_in, ck_nz, bind_sm, upM_n, upM_m, upM_s, if_pos, if_neg, lt, b1]
    simp only [g1, bind_sm]
    rfl
  · have ex : ∃ d, ¬ agD α τ d := by
      apply Classical.byContradiction
      intro hn
      apply hr
      intro h hm
      exact (Classical.byContradiction fun hc => hn ⟨h.1, hc⟩ : agD α τ h.1) h hm rfl
    obtain ⟨d0, hd0, least⟩ := pk_least _ ex
    have dl : d0 < L := by
      apply Classical.byContradiction
      intro hn
      apply hd0
      intro h hm e
      have := hLm h hm
      omega
    obtain ⟨e, g1, N, rfl, g2⟩ := go d0 (fun e => ∃ N, e = .inr (nI 0, N) ∧ Fr 26 31 M N) (by omega) (fun d hd => Classical.byContradiction fun hc => least d hd hc) (fun N c1 c2 => by
      obtain ⟨N', s1, s2, -, s4⟩ := step d0 N dl c1 c2
      exact ⟨_, s4 hd0, N', rfl, s2⟩)
    refine ⟨nI 0, N, ?_, Or.inr ⟨rfl, hr⟩, g2⟩
    simp only [li_0, li_1, li_2, li_3, li_4, li_5, li_6, li_7, li_8, li_9, li_10, li_11, li_12, li_14, li_15, li_16, li_18, li_20, li_22, li_23, li_24, li_29, li_30, li_31, li_32, li_33, li_40, li_48, li_54, li_55, li_56, li_57, li_59, li_60, li_63, li_64, li_97, li_98, li_99, li_100, li_103, li_107, li_108, li_112, li_121, li_206, li_212, li_232, li_240, li_255, li_256, li_261, li_270, ng_1, ng_2, ng_3, ng_4, ng_9, ng_10, m1_1, nI_m1, m1_nI, if_true, if_false, nI_add, pk_mul, pk_sub, nI_div, nI_rem, nI_eq, nI_leI, nI_ltI, nI_clamp, ck_in, ck_nz, bind_sm, upM_n, upM_m, upM_s, if_pos, if_neg, lt, b1]
    simp only [g1, bind_sm]
    rfl
