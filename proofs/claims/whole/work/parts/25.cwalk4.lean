-- THE CLASS'S WALK: for what one is taken, who is astray, who is another
theorem am_s {f : Nat → Nat} {n : Nat} : am f (n + 1) = match am f n with
    | none => some n
    | some b => if f n < f b then some n else some b := rfl
/-- how far p is from a -/
def far (v : WS) (p a : Nat) : Nat := farN (v.2.1 p) (v.1 a) 5
theorem far_le {v : WS} (h : OKW v) (p a : Nat) : far v p a ≤ 45 := by
  have := farN_le (h.2.1 p) (h.1 a) 5
  exact this
/-- for what p is taken -/
def tk (σ : SS) (v : WS) (p : Nat) : Option Nat := am (far v p) (nA σ)
theorem c_far' {w c p a : Nat} {σ : SS} {v : WS} {M : Mem} (hw : WI w c) (ok : OKS σ) (okv : OKW v) (hp : p < nP σ) (ha : a < nA σ) (h : WR w σ v M) : f_X4_far w (nI p) (nI a) M = some (nI (far v p a)) := by
  obtain ⟨⟨ok1, ok2, ok3⟩, -⟩ := ok
  exact c_far hw.1.2.1 hw.1.2.2.1 (by omega) (by omega) okv.1 okv.2.1 (fun s hs => h.2.1 p s hp hs) (fun s hs => h.1 a s ha hs)
theorem c_taken {w c p : Nat} {σ : SS} {v : WS} {M : Mem} (hw : WI w c) (ok : OKS σ) (okv : OKW v) (hS : SR c σ M) (hp : p < nP σ) (h : WR w σ v M) : f_X4_takenFor w (nI p) M = some (oi (tk σ v p)) := by
  have hf := fun a ha => c_far' (a := a) hw ok okv hp ha h
  have fl := far_le okv p
  obtain ⟨⟨ok1, ok2, ok3⟩, -⟩ := ok
  have a1 := hS.1.1
  have w0 := hw.1.1
  unfold f_X4_takenFor tk
  have lp : loop (fun s2 : Int32 × Int32 × Int32 => f_X4_takenFor_7_7b w (nI p) s2.1 s2.2.1 s2.2.2 M) (m1, nI 0, nI 0) = some (oi (am (far v p) (nA σ)), (match am (far v p) (nA σ) with | none => nI 0 | some b => nI (far v p b)), nI (nA σ)) := by
    refine loop_for (B := fun s2 : Int32 × Int32 × Int32 => f_X4_takenFor_7_7b w (nI p) s2.1 s2.2.1 s2.2.2 M) (fun i => (oi (am (far v p) i), (match am (far v p) i with | none => nI 0 | some b => nI (far v p b)), nI i)) (nA σ)
      (by
        intro i hi
        dsimp only
        unfold f_X4_takenFor_7_7b f_X4_takenFor_39_7 f_X4_takenFor_45_7
        rw [am_s]
        have fi := fl i
        cases hm : am (far v p) i with
        | none => simp (disch := omega) only [li_0, li_1, li_2, li_3, li_4, li_5, li_6, li_7, li_8, li_9, li_10, li_11, li_12, li_14, li_15, li_16, li_18, li_20, li_22, li_23, li_24, li_29, li_30, li_31, li_32, li_33, li_40, li_48, li_54, li_55, li_56, li_57, li_59, li_60, li_63, li_64, li_97, li_98, li_99, li_100, li_103, li_107, li_108, li_112, li_121, li_206, li_212, li_232, li_240, li_255, li_256, li_261, li_270, ng_1, ng_2, ng_3, ng_4, ng_9, ng_10, m1_1, nI_m1, m1_nI, if_true, if_false, nI_add, pk_mul, pk_sub, nI_div, nI_rem, nI_eq, nI_leI, nI_ltI, nI_clamp, ck_in, ck_nz, bind_sm, upM_n, upM_m, upM_s, if_pos, if_neg, w0, a1, hf i hi, oi_n, oi_s]
        | some b =>
          have hb := am_lt hm
          have fb := fl b
          by_cases q : far v p i < far v p b
          · simp (disch := omega) only [li_0, li_1, li_2, li_3, li_4, li_5, li_6, li_7, li_8, li_9, li_10, li_11, li_12, li_14, li_15, li_16, li_18, li_20, li_22, li_23, li_24, li_29, li_30, li_31, li_32, li_33, li_40, li_48, li_54, li_55, li_56, li_57, li_59, li_60, li_63, li_64, li_97, li_98, li_99, li_100, li_103, li_107, li_108, li_112, li_121, li_206, li_212, li_232, li_240, li_255, li_256, li_261, li_270, ng_1, ng_2, ng_3, ng_4, ng_9, ng_10, m1_1, nI_m1, m1_nI, if_true, if_false, nI_add, pk_mul, pk_sub, nI_div, nI_rem, nI_eq, nI_leI, nI_ltI, nI_clamp, ck_in, ck_nz, bind_sm, upM_n, upM_m, upM_s, if_pos, if_neg, w0, a1, hf i hi, oi_s]
          · simp (disch := omega) only [li_0, li_1, li_2, li_3, li_4, li_5, li_6, li_7, li_8, li_9, li_10, li_11, li_12, li_14, li_15, li_16, li_18, li_20, li_22, li_23, li_24, li_29, li_30, li_31, li_32, li_33, li_40, li_48, li_54, li_55, li_56, li_57, li_59, li_60, li_63, li_64, li_97, li_98, li_99, li_100, li_103, li_107, li_108, li_112, li_121, li_206, li_212, li_232, li_240, li_255, li_256, li_261, li_270, ng_1, ng_2, ng_3, ng_4, ng_9, ng_10, m1_1, nI_m1, m1_nI, if_true, if_false, nI_add, pk_mul, pk_sub, nI_div, nI_rem, nI_eq, nI_leI, nI_ltI, nI_clamp, ck_in, ck_nz, bind_sm, upM_n, upM_m, upM_s, if_pos, if_neg, w0, a1, hf i hi, oi_s])
      (by
        dsimp only
        unfold f_X4_takenFor_7_7b
        simp (disch := omega) only [li_0, li_1, li_2, li_3, li_4, li_5, li_6, li_7, li_8, li_9, li_10, li_11, li_12, li_14, li_15, li_16, li_18, li_20, li_22, li_23, li_24, li_29, li_30, li_31, li_32, li_33, li_40, li_48, li_54, li_55, li_56, li_57, li_59, li_60, li_63, li_64, li_97, li_98, li_99, li_100, li_103, li_107, li_108, li_112, li_121, li_206, li_212, li_232, li_240, li_255, li_256, li_261, li_270, ng_1, ng_2, ng_3, ng_4, ng_9, ng_10, m1_1, nI_m1, m1_nI, if_true, if_false, nI_add, pk_mul, pk_sub, nI_div, nI_rem, nI_eq, nI_leI, nI_ltI, nI_clamp, ck_in, ck_nz, bind_sm, upM_n, upM_m, upM_s, if_pos, if_neg, w0, a1])
  simp only [li_0, li_1, li_2, li_3, li_4, li_5, li_6, li_7, li_8, li_9, li_10, li_11, li_12, li_14, li_15, li_16, li_18, li_20, li_22, li_23, li_24, li_29, li_30, li_31, li_32, li_33, li_40, li_48, li_54, li_55, li_56, li_57, li_59, li_60, li_63, li_64, li_97, li_98, li_99, li_100, li_103, li_107, li_108, li_112, li_121, li_206, li_212, li_232, li_240, li_255, li_256, li_261, li_270, ng_1, ng_2, ng_3, ng_4, ng_9, ng_10, m1_1, nI_m1, m1_nI, if_true, if_false, nI_add, pk_mul, pk_sub, nI_div, nI_rem, nI_eq, nI_leI, nI_ltI, nI_clamp, ck_in, ck_nz, bind_sm, upM_n, upM_m, upM_s, if_pos, if_neg, lp]
/-- is p astray -/
def ast (σ : SS) (v : WS) (p : Nat) : Prop := ∃ b, tk σ v p = some b ∧ b ≠ ow σ p
/-- bits of the first n -/
noncomputable def bitsOf (P : Nat → Prop) : Nat → Nat
  | 0 => 0
  | n + 1 => @ite Nat (P n) (Classical.propDecidable _) (bitsOf P n + 2 ^ n) (bitsOf P n)
theorem bitsOf_s {P : Nat → Prop} {n : Nat} : bitsOf P (n + 1) = @ite Nat (P n) (Classical.propDecidable _) (bitsOf P n + 2 ^ n) (bitsOf P n) := rfl
theorem bitsOf_t {P : Nat → Prop} {n : Nat} (h : P n) : bitsOf P (n + 1) = bitsOf P n + 2 ^ n := by rw [bitsOf_s, if_pos h]
theorem bitsOf_f {P : Nat → Prop} {n : Nat} (h : ¬ P n) : bitsOf P (n + 1) = bitsOf P n := by rw [bitsOf_s, if_neg h]
theorem bitsOf_lt {P : Nat → Prop} : ∀ n, bitsOf P n < 2 ^ n := by
  intro n
  induction n with
  | zero => exact Nat.one_pos
  | succ n ih =>
    by_cases h : P n
    · rw [bitsOf_t h, Nat.pow_succ]; omega
    · rw [bitsOf_f h, Nat.pow_succ]; omega
theorem bitsOf_congr {P Q : Nat → Prop} : ∀ {n : Nat}, (∀ i, i < n → (P i ↔ Q i)) → bitsOf P n = bitsOf Q n := by
  intro n
  induction n with
  | zero => intro _; rfl
  | succ n ih =>
    intro h
    have e := ih (fun i hi => h i (by omega))
    by_cases q : P n
    · rw [bitsOf_t q, bitsOf_t ((h n (by omega)).mp q), e]
    · rw [bitsOf_f q, bitsOf_f (fun r => q ((h n (by omega)).mpr r)), e]
theorem nI_or2 {x n : Nat} (h : x < 2 ^ n) (hn : n < 9) : nI x ||| shlI (nI 1) (nI n) = nI (x + 2 ^ n) := by
  have key : ∀ n, n < 9 → ∀ x, x < 2 ^ n → nI x ||| shlI (nI 1) (nI n) = nI (x + 2 ^ n) := by decide +kernel
  exact key n hn x h
theorem c_astray {w c : Nat} {σ : SS} {v : WS} {M : Mem} (hw : WI w c) (ok : OKS σ) (okv : OKW v) (hS : SR c σ M) (h : WR w σ v M) : f_X4_astrayBits w M = some (nI (bitsOf (ast σ v) (nP σ))) := by
  have ht := fun p hp => c_taken (p := p) hw ok okv hS hp h
  obtain ⟨⟨ok1, ok2, ok3⟩, ok4, ok5, ok6, ok7, ok8⟩ := ok
  obtain ⟨⟨w0, w2, w3, w4, w5⟩, ⟨s1, s2, s4, s5, s7, s8, s9⟩, hcw⟩ := hw
  obtain ⟨⟨a1, a2, a3⟩, a4, a5, a6, a7, a8⟩ := hS
  unfold f_X4_astrayBits
  have lp : loop (fun s2 : Int32 × Int32 => f_X4_astrayBits_4_4b w s2.1 s2.2 M) (nI 0, nI 0) = some (nI (bitsOf (ast σ v) (nP σ)), nI (nP σ)) := by
    refine loop_for (B := fun s2 : Int32 × Int32 => f_X4_astrayBits_4_4b w s2.1 s2.2 M) (fun i => (nI (bitsOf (ast σ v) i), nI i)) (nP σ)
      (by
        intro i hi
        dsimp only
        unfold f_X4_astrayBits_4_4b f_X4_astrayBits_45_4
        have o7 := ok7 i
        have e7 := a7 i hi
        have ht := ht i hi
        cases hm : tk σ v i with
        | none =>
          rw [hm] at ht
          rw [bitsOf_f (fun r => by obtain ⟨b, r1, -⟩ := r; rw [hm] at r1; cases r1)]
          simp (disch := omega) only [li_0, li_1, li_2, li_3, li_4, li_5, li_6, li_7, li_8, li_9, li_10, li_11, li_12, li_14, li_15, li_16, li_18, li_20, li_22, li_23, li_24, li_29, li_30, li_31, li_32, li_33, li_40, li_48, li_54, li_55, li_56, li_57, li_59, li_60, li_63, li_64, li_97, li_98, li_99, li_100, li_103, li_107, li_108, li_112, li_121, li_206, li_212, li_232, li_240, li_255, li_256, li_261, li_270, ng_1, ng_2, ng_3, ng_4, ng_9, ng_10, m1_1, nI_m1, m1_nI, if_true, if_false, nI_add, pk_mul, pk_sub, nI_div, nI_rem, nI_eq, nI_leI, nI_ltI, nI_clamp, ck_in, ck_nz, bind_sm, upM_n, upM_m, upM_s, if_pos, if_neg, w0, s5, a2, ht, e7, oi_n]
        | some b =>
          rw [hm] at ht
          have hb := am_lt hm
          by_cases q : b = ow σ i
          · rw [bitsOf_f (fun r => by obtain ⟨b', r1, r2⟩ := r; rw [hm] at r1; cases r1; exact r2 q)]
            simp (disch := omega) only [li_0, li_1, li_2, li_3, li_4, li_5, li_6, li_7, li_8, li_9, li_10, li_11, li_12, li_14, li_15, li_16, li_18, li_20, li_22, li_23, li_24, li_29, li_30, li_31, li_32, li_33, li_40, li_48, li_54, li_55, li_56, li_57, li_59, li_60, li_63, li_64, li_97, li_98, li_99, li_100, li_103, li_107, li_108, li_112, li_121, li_206, li_212, li_232, li_240, li_255, li_256, li_261, li_270, ng_1, ng_2, ng_3, ng_4, ng_9, ng_10, m1_1, nI_m1, m1_nI, if_true, if_false, nI_add, pk_mul, pk_sub, nI_div, nI_rem, nI_eq, nI_leI, nI_ltI, nI_clamp, ck_in, ck_nz, bind_sm, upM_n, upM_m, upM_s, if_pos, if_neg, w0, s5, a2, ht, e7, oi_s]
          · rw [bitsOf_t ⟨b, hm, q⟩]
            simp (disch := omega) only [li_0, li_1, li_2, li_3, li_4, li_5, li_6, li_7, li_8, li_9, li_10, li_11, li_12, li_14, li_15, li_16, li_18, li_20, li_22, li_23, li_24, li_29, li_30, li_31, li_32, li_33, li_40, li_48, li_54, li_55, li_56, li_57, li_59, li_60, li_63, li_64, li_97, li_98, li_99, li_100, li_103, li_107, li_108, li_112, li_121, li_206, li_212, li_232, li_240, li_255, li_256, li_261, li_270, ng_1, ng_2, ng_3, ng_4, ng_9, ng_10, m1_1, nI_m1, m1_nI, if_true, if_false, nI_add, pk_mul, pk_sub, nI_div, nI_rem, nI_eq, nI_leI, nI_ltI, nI_clamp, ck_in, ck_nz, bind_sm, upM_n, upM_m, upM_s, if_pos, if_neg, w0, s5, a2, ht, e7, oi_s]
            rw [nI_or2 (bitsOf_lt i) (by omega)])
      (by
        dsimp only
        unfold f_X4_astrayBits_4_4b
        simp (disch := omega) only [li_0, li_1, li_2, li_3, li_4, li_5, li_6, li_7, li_8, li_9, li_10, li_11, li_12, li_14, li_15, li_16, li_18, li_20, li_22, li_23, li_24, li_29, li_30, li_31, li_32, li_33, li_40, li_48, li_54, li_55, li_56, li_57, li_59, li_60, li_63, li_64, li_97, li_98, li_99, li_100, li_103, li_107, li_108, li_112, li_121, li_206, li_212, li_232, li_240, li_255, li_256, li_261, li_270, ng_1, ng_2, ng_3, ng_4, ng_9, ng_10, m1_1, nI_m1, m1_nI, if_true, if_false, nI_add, pk_mul, pk_sub, nI_div, nI_rem, nI_eq, nI_leI, nI_ltI, nI_clamp, ck_in, ck_nz, bind_sm, upM_n, upM_m, upM_s, if_pos, if_neg, w0, a2])
  simp only [li_0, li_1, li_2, li_3, li_4, li_5, li_6, li_7, li_8, li_9, li_10, li_11, li_12, li_14, li_15, li_16, li_18, li_20, li_22, li_23, li_24, li_29, li_30, li_31, li_32, li_33, li_40, li_48, li_54, li_55, li_56, li_57, li_59, li_60, li_63, li_64, li_97, li_98, li_99, li_100, li_103, li_107, li_108, li_112, li_121, li_206, li_212, li_232, li_240, li_255, li_256, li_261, li_270, ng_1, ng_2, ng_3, ng_4, ng_9, ng_10, m1_1, nI_m1, m1_nI, if_true, if_false, nI_add, pk_mul, pk_sub, nI_div, nI_rem, nI_eq, nI_leI, nI_ltI, nI_clamp, ck_in, ck_nz, bind_sm, upM_n, upM_m, upM_s, if_pos, if_neg, lp]
/-- has p become another -/
abbrev ano (σ : SS) (v : WS) (p : Nat) : Prop := v.2.2 p ≠ ow σ p ∧ v.2.2 p < nA σ ∧ far v p (v.2.2 p) = 0
theorem c_another {w c p : Nat} {σ : SS} {v : WS} {M : Mem} (hw : WI w c) (ok : OKS σ) (okv : OKW v) (hS : SR c σ M) (hp : p < nP σ) (h : WR w σ v M) : ∃ r : Int32, f_X4_isAnother w (nI p) M = some r ∧ (r = nI 1 ∧ ano σ v p ∨ r = nI 0 ∧ ¬ ano σ v p) := by
  have hf := fun ha => c_far' (a := v.2.2 p) hw ok okv hp ha h
  have fl := far_le okv p (v.2.2 p)
  have ov := okv.2.2 p
  obtain ⟨⟨ok1, ok2, ok3⟩, ok4, ok5, ok6, ok7, ok8⟩ := ok
  obtain ⟨⟨w0, w2, w3, w4, w5⟩, ⟨s1, s2, s4, s5, s7, s8, s9⟩, hcw⟩ := hw
  obtain ⟨⟨a1, a2, a3⟩, a4, a5, a6, a7, a8⟩ := hS
  have o7 := ok7 p
  have e7 := a7 p hp
  have e4 := h.2.2 p hp
  unfold f_X4_isAnother ano
  by_cases q1 : v.2.2 p = ow σ p
  · refine ⟨nI 0, ?_, Or.inr ⟨rfl, fun r => r.1 q1⟩⟩
    simp (disch := omega) only [li_0, li_1, li_2, li_3, li_4, li_5, li_6, li_7, li_8, li_9, li_10, li_11, li_12, li_14, li_15, li_16, li_18, li_20, li_22, li_23, li_24, li_29, li_30, li_31, li_32, li_33, li_40, li_48, li_54, li_55, li_56, li_57, li_59, li_60, li_63, li_64, li_97, li_98, li_99, li_100, li_103, li_107, li_108, li_112, li_121, li_206, li_212, li_232, li_240, li_255, li_256, li_261, li_270, ng_1, ng_2, ng_3, ng_4, ng_9, ng_10, m1_1, nI_m1, m1_nI, if_true, if_false, nI_add, pk_mul, pk_sub, nI_div, nI_rem, nI_eq, nI_leI, nI_ltI, nI_clamp, ck_in, ck_nz, bind_sm, upM_n, upM_m, upM_s, if_pos, if_neg, w0, w4, s5, e4, e7]
  · by_cases q2 : v.2.2 p < nA σ
    · by_cases q3 : far v p (v.2.2 p) = 0
      · refine ⟨nI 1, ?_, Or.inl ⟨rfl, q1, q2, q3⟩⟩
        simp (disch := omega) only [li_0, li_1, li_2, li_3, li_4, li_5, li_6, li_7, li_8, li_9, li_10, li_11, li_12, li_14, li_15, li_16, li_18, li_20, li_22, li_23, li_24, li_29, li_30, li_31, li_32, li_33, li_40, li_48, li_54, li_55, li_56, li_57, li_59, li_60, li_63, li_64, li_97, li_98, li_99, li_100, li_103, li_107, li_108, li_112, li_121, li_206, li_212, li_232, li_240, li_255, li_256, li_261, li_270, ng_1, ng_2, ng_3, ng_4, ng_9, ng_10, m1_1, nI_m1, m1_nI, if_true, if_false, nI_add, pk_mul, pk_sub, nI_div, nI_rem, nI_eq, nI_leI, nI_ltI, nI_clamp, ck_in, ck_nz, bind_sm, upM_n, upM_m, upM_s, if_pos, if_neg, w0, w4, s5, e4, e7, c_hasA a1 (show nA σ < 100 by omega) (show v.2.2 p < 100 by omega), hf q2]
      · refine ⟨nI 0, ?_, Or.inr ⟨rfl, fun r => q3 r.2.2⟩⟩
        simp (disch := omega) only [li_0, li_1, li_2, li_3, li_4, li_5, li_6, li_7, li_8, li_9, li_10, li_11, li_12, li_14, li_15, li_16, li_18, li_20, li_22, li_23, li_24, li_29, li_30, li_31, li_32, li_33, li_40, li_48, li_54, li_55, li_56, li_57, li_59, li_60, li_63, li_64, li_97, li_98, li_99, li_100, li_103, li_107, li_108, li_112, li_121, li_206, li_212, li_232, li_240, li_255, li_256, li_261, li_270, ng_1, ng_2, ng_3, ng_4, ng_9, ng_10, m1_1, nI_m1, m1_nI, if_true, if_false, nI_add, pk_mul, pk_sub, nI_div, nI_rem, nI_eq, nI_leI, nI_ltI, nI_clamp, ck_in, ck_nz, bind_sm, upM_n, upM_m, upM_s, if_pos, if_neg, w0, w4, s5, e4, e7, c_hasA a1 (show nA σ < 100 by omega) (show v.2.2 p < 100 by omega), hf q2]
    · refine ⟨nI 0, ?_, Or.inr ⟨rfl, fun r => q2 r.2.1⟩⟩
      simp (disch := omega) only [li_0, li_1, li_2, li_3, li_4, li_5, li_6, li_7, li_8, li_9, li_10, li_11, li_12, li_14, li_15, li_16, li_18, li_20, li_22, li_23, li_24, li_29, li_30, li_31, li_32, li_33, li_40, li_48, li_54, li_55, li_56, li_57, li_59, li_60, li_63, li_64, li_97, li_98, li_99, li_100, li_103, li_107, li_108, li_112, li_121, li_206, li_212, li_232, li_240, li_255, li_256, li_261, li_270, ng_1, ng_2, ng_3, ng_4, ng_9, ng_10, m1_1, nI_m1, m1_nI, if_true, if_false, nI_add, pk_mul, pk_sub, nI_div, nI_rem, nI_eq, nI_leI, nI_ltI, nI_clamp, ck_in, ck_nz, bind_sm, upM_n, upM_m, upM_s, if_pos, if_neg, w0, w4, s5, e4, e7, c_hasA a1 (show nA σ < 100 by omega) (show v.2.2 p < 100 by omega)]
