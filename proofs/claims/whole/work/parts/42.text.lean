-- THE TEXTS
/-- the place of a byte among a text's sorts -/
def six (sid x : Nat) : Option Nat := if sid = 71 then (if x = 107 then some 0 else if x = 121 then some 1 else if x = 103 then some 2 else none) else (if x = 112 then some 0 else if x = 99 then some 1 else if x = 108 then some 2 else none)
theorem six_lt {sid x v : Nat} (h : six sid x = some v) : v < 3 := by
  unfold six at h
  repeat' split at h
  all_goals first | (cases h; omega) | cases h
theorem c_sidx : ∀ {x : Nat}, x < 256 → sIdx 71 (toC (nI x)) = oi (six 71 x) ∧ sIdx 72 (toC (nI x)) = oi (six 72 x) := by
  have h : ∀ x, x < 256 → sIdx 71 (toC (nI x)) = oi (six 71 x) ∧ sIdx 72 (toC (nI x)) = oi (six 72 x) := by decide +kernel
  exact fun {x} hx => h x hx
/-- what byte x says at place k, if it may stand there -/
def ch (sid g lf k x : Nat) : Option Nat := if k = 0 then six sid x else if k ≤ g then (if 48 ≤ x ∧ x ≤ lf then some (x - 48) else none) else (if x = 59 then some 0 else none)
/-- the first of the first n that may not stand -/
def ffN (sid g lf : Nat) (b : Nat → Nat) : Nat → Option Nat
  | 0 => none
  | n + 1 => orB (ffN sid g lf b n) (if ch sid g lf (n % (g + 2)) (b n) = none then some n else none)
theorem ffN_s {sid g lf n : Nat} {b : Nat → Nat} : ffN sid g lf b (n + 1) = orB (ffN sid g lf b n) (if ch sid g lf (n % (g + 2)) (b n) = none then some n else none) := rfl
def FV (sid g lf n : Nat) (b : Nat → Nat) : Option Nat := orB (ffN sid g lf b n) (if n = 0 ∨ n % (g + 2) = g + 1 then none else some n)
theorem ffN_none {sid g lf : Nat} {b : Nat → Nat} : ∀ {n : Nat}, ffN sid g lf b n = none → ∀ i, i < n → ch sid g lf (i % (g + 2)) (b i) ≠ none := by
  intro n
  induction n with
  | zero => intro _ i hi; omega
  | succ n ih =>
    intro h i hi
    rw [ffN_s] at h
    cases hf : ffN sid g lf b n with
    | some j => rw [hf] at h; cases h
    | none =>
      rw [hf, orB_n] at h
      by_cases q : i = n
      · subst q
        intro e
        rw [if_pos e] at h
        cases h
      · exact ih hf i (by omega)
theorem ffN_some {sid g lf : Nat} {b : Nat → Nat} : ∀ {n i : Nat}, ffN sid g lf b n = some i → i < n ∧ ch sid g lf (i % (g + 2)) (b i) = none ∧ ffN sid g lf b i = none := by
  intro n
  induction n with
  | zero => intro i h; cases h
  | succ n ih =>
    intro i h
    rw [ffN_s] at h
    cases hf : ffN sid g lf b n with
    | some j =>
      rw [hf, orB_s] at h
      cases h
      obtain ⟨h1, h2, h3⟩ := ih hf
      exact ⟨by omega, h2, h3⟩
    | none =>
      rw [hf, orB_n] at h
      by_cases q : ch sid g lf (n % (g + 2)) (b n) = none
      · rw [if_pos q] at h
        cases h
        exact ⟨by omega, q, hf⟩
      · rw [if_neg q] at h
        cases h
theorem FV_none {sid g lf n : Nat} {b : Nat → Nat} (h : FV sid g lf n b = none) : ffN sid g lf b n = none ∧ (n = 0 ∨ n % (g + 2) = g + 1) := by
  unfold FV at h
  cases hf : ffN sid g lf b n with
  | some j => rw [hf] at h; cases h
  | none =>
    rw [hf, orB_n] at h
    refine ⟨rfl, ?_⟩
    by_cases q : n = 0 ∨ n % (g + 2) = g + 1
    · exact q
    · rw [if_neg q] at h
      cases h
theorem FV_lt {sid g lf n i : Nat} {b : Nat → Nat} (h : FV sid g lf n b = some i) : i ≤ n := by
  unfold FV at h
  cases hf : ffN sid g lf b n with
  | some j =>
    rw [hf, orB_s] at h
    cases h
    have := (ffN_some hf).1
    omega
  | none =>
    rw [hf, orB_n] at h
    split at h
    · cases h
    · cases h
      exact Nat.le_refl _
/-- the two kinds of text: where it lies, its sorts, its figures, the last figure, its room -/
def TK (t sid g lf L : Nat) : Prop := (t = 1 ∧ sid = 71 ∧ g = 5 ∧ lf = 57 ∧ L = 55) ∨ (t = 3 ∧ sid = 72 ∧ g = 1 ∧ lf = 55 ∧ L = 23)
/-- an object of Text holds n bytes b -/
def TX (t g lf n : Nat) (b : Nat → Nat) (M : Mem) : Prop := M t 2 = nI g ∧ M t 3 = nI lf ∧ M t 4 = nI n ∧ ∀ i, i < n → M (t + 1) i = nI (b i)
theorem TX.fr {t g lf n : Nat} {b : Nat → Nat} {M M' : Mem} (h : TX t g lf n b M) (h1 : M' t = M t) (h2 : M' (t + 1) = M (t + 1)) : TX t g lf n b M' := by
  unfold TX at h ⊢
  rw [h1, h2]
  exact h
theorem c_fits {t sid g lf L k x bg : Nat} {M : Mem} (hT : TK t sid g lf L) (h2 : M t 2 = nI g) (h3 : M t 3 = nI lf) (hx : x < 256) (hb : k = 0 → bg < 8) (hb2 : bg < 100) (hk : k < 8) : f_X3_fits t (nI x) (nI k) (nI bg) M = some (if ch sid g lf k x = none then nI 0 else nI 1) := by
  unfold f_X3_fits f_X3_fits_54 ch
  have e1 : rf t 1 = sid := by rcases hT with ⟨rfl, rfl, -⟩ | ⟨rfl, rfl, -⟩ <;> rfl
  have hg : g < 6 := by rcases hT with ⟨-, -, rfl, -⟩ | ⟨-, -, rfl, -⟩ <;> decide
  have hlf : lf < 100 := by rcases hT with ⟨-, -, -, rfl, -⟩ | ⟨-, -, -, rfl, -⟩ <;> decide
  have es : sIdx sid (toC (nI x)) = oi (six sid x) := by rcases hT with ⟨-, rfl, -⟩ | ⟨-, rfl, -⟩; exact (c_sidx hx).1; exact (c_sidx hx).2
  by_cases q1 : k = 0
  · have hb := hb q1
    simp (disch := omega) only [li_0, li_1, li_2, li_3, li_4, li_5, li_6, li_7, li_8, li_9, li_10, li_11, li_12, li_14, li_15, li_16, li_18, li_20, li_22, li_23, li_24, li_29, li_30, li_31, li_32, li_33, li_40, li_48, li_54, li_55, li_56, li_57, li_59, li_60, li_63, li_64, li_97, li_98, li_99, li_100, li_103, li_107, li_108, li_112, li_121, li_206, li_212, li_232, li_240, li_255, li_256, li_261, li_270, ng_1, ng_2, ng_3, ng_4, ng_9, ng_10, m1_1, nI_m1, m1_nI, if_true, if_false, nI_add, pk_mul, pk_sub, nI_div, nI_rem, nI_eq, nI_leI, nI_ltI, nI_clamp, ck_in, ck_nz, bind_sm, upM_n, upM_m, upM_s, if_pos, if_neg, e1, es]
    cases h6 : six sid x with
    | none =>
      rw [oi_n]
      simp only [if_true, show (m1 < nI 0) = True from by decide]
    | some v =>
      have := six_lt h6
      simp (disch := omega) only [li_0, li_1, li_2, li_3, li_4, li_5, li_6, li_7, li_8, li_9, li_10, li_11, li_12, li_14, li_15, li_16, li_18, li_20, li_22, li_23, li_24, li_29, li_30, li_31, li_32, li_33, li_40, li_48, li_54, li_55, li_56, li_57, li_59, li_60, li_63, li_64, li_97, li_98, li_99, li_100, li_103, li_107, li_108, li_112, li_121, li_206, li_212, li_232, li_240, li_255, li_256, li_261, li_270, ng_1, ng_2, ng_3, ng_4, ng_9, ng_10, m1_1, nI_m1, m1_nI, if_true, if_false, nI_add, pk_mul, pk_sub, nI_div, nI_rem, nI_eq, nI_leI, nI_ltI, nI_clamp, ck_in, ck_nz, bind_sm, upM_n, upM_m, upM_s, if_pos, if_neg, oi_s]
      simp
  · by_cases q2 : k ≤ g
    · simp (disch := omega) only [li_0, li_1, li_2, li_3, li_4, li_5, li_6, li_7, li_8, li_9, li_10, li_11, li_12, li_14, li_15, li_16, li_18, li_20, li_22, li_23, li_24, li_29, li_30, li_31, li_32, li_33, li_40, li_48, li_54, li_55, li_56, li_57, li_59, li_60, li_63, li_64, li_97, li_98, li_99, li_100, li_103, li_107, li_108, li_112, li_121, li_206, li_212, li_232, li_240, li_255, li_256, li_261, li_270, ng_1, ng_2, ng_3, ng_4, ng_9, ng_10, m1_1, nI_m1, m1_nI, if_true, if_false, nI_add, pk_mul, pk_sub, nI_div, nI_rem, nI_eq, nI_leI, nI_ltI, nI_clamp, ck_in, ck_nz, bind_sm, upM_n, upM_m, upM_s, if_pos, if_neg, h2, h3]
      by_cases q3 : x < 48
      · simp (disch := omega) only [li_0, li_1, li_2, li_3, li_4, li_5, li_6, li_7, li_8, li_9, li_10, li_11, li_12, li_14, li_15, li_16, li_18, li_20, li_22, li_23, li_24, li_29, li_30, li_31, li_32, li_33, li_40, li_48, li_54, li_55, li_56, li_57, li_59, li_60, li_63, li_64, li_97, li_98, li_99, li_100, li_103, li_107, li_108, li_112, li_121, li_206, li_212, li_232, li_240, li_255, li_256, li_261, li_270, ng_1, ng_2, ng_3, ng_4, ng_9, ng_10, m1_1, nI_m1, m1_nI, if_true, if_false, nI_add, pk_mul, pk_sub, nI_div, nI_rem, nI_eq, nI_leI, nI_ltI, nI_clamp, ck_in, ck_nz, bind_sm, upM_n, upM_m, upM_s, if_pos, if_neg]
      · by_cases q4 : lf < x
        · simp (disch := omega) only [li_0, li_1, li_2, li_3, li_4, li_5, li_6, li_7, li_8, li_9, li_10, li_11, li_12, li_14, li_15, li_16, li_18, li_20, li_22, li_23, li_24, li_29, li_30, li_31, li_32, li_33, li_40, li_48, li_54, li_55, li_56, li_57, li_59, li_60, li_63, li_64, li_97, li_98, li_99, li_100, li_103, li_107, li_108, li_112, li_121, li_206, li_212, li_232, li_240, li_255, li_256, li_261, li_270, ng_1, ng_2, ng_3, ng_4, ng_9, ng_10, m1_1, nI_m1, m1_nI, if_true, if_false, nI_add, pk_mul, pk_sub, nI_div, nI_rem, nI_eq, nI_leI, nI_ltI, nI_clamp, ck_in, ck_nz, bind_sm, upM_n, upM_m, upM_s, if_pos, if_neg]
        · simp (disch := omega) only [li_0, li_1, li_2, li_3, li_4, li_5, li_6, li_7, li_8, li_9, li_10, li_11, li_12, li_14, li_15, li_16, li_18, li_20, li_22, li_23, li_24, li_29, li_30, li_31, li_32, li_33, li_40, li_48, li_54, li_55, li_56, li_57, li_59, li_60, li_63, li_64, li_97, li_98, li_99, li_100, li_103, li_107, li_108, li_112, li_121, li_206, li_212, li_232, li_240, li_255, li_256, li_261, li_270, ng_1, ng_2, ng_3, ng_4, ng_9, ng_10, m1_1, nI_m1, m1_nI, if_true, if_false, nI_add, pk_mul, pk_sub, nI_div, nI_rem, nI_eq, nI_leI, nI_ltI, nI_clamp, ck_in, ck_nz, bind_sm, upM_n, upM_m, upM_s, if_pos, if_neg]
          simp
    · simp (disch := omega) only [li_0, li_1, li_2, li_3, li_4, li_5, li_6, li_7, li_8, li_9, li_10, li_11, li_12, li_14, li_15, li_16, li_18, li_20, li_22, li_23, li_24, li_29, li_30, li_31, li_32, li_33, li_40, li_48, li_54, li_55, li_56, li_57, li_59, li_60, li_63, li_64, li_97, li_98, li_99, li_100, li_103, li_107, li_108, li_112, li_121, li_206, li_212, li_232, li_240, li_255, li_256, li_261, li_270, ng_1, ng_2, ng_3, ng_4, ng_9, ng_10, m1_1, nI_m1, m1_nI, if_true, if_false, nI_add, pk_mul, pk_sub, nI_div, nI_rem, nI_eq, nI_leI, nI_ltI, nI_clamp, ck_in, ck_nz, bind_sm, upM_n, upM_m, upM_s, if_pos, if_neg, h2, h3]
      by_cases q3 : x = 59
      · simp (disch := omega) only [li_0, li_1, li_2, li_3, li_4, li_5, li_6, li_7, li_8, li_9, li_10, li_11, li_12, li_14, li_15, li_16, li_18, li_20, li_22, li_23, li_24, li_29, li_30, li_31, li_32, li_33, li_40, li_48, li_54, li_55, li_56, li_57, li_59, li_60, li_63, li_64, li_97, li_98, li_99, li_100, li_103, li_107, li_108, li_112, li_121, li_206, li_212, li_232, li_240, li_255, li_256, li_261, li_270, ng_1, ng_2, ng_3, ng_4, ng_9, ng_10, m1_1, nI_m1, m1_nI, if_true, if_false, nI_add, pk_mul, pk_sub, nI_div, nI_rem, nI_eq, nI_leI, nI_ltI, nI_clamp, ck_in, ck_nz, bind_sm, upM_n, upM_m, upM_s, if_pos, if_neg]
        simp
      · simp (disch := omega) only [li_0, li_1, li_2, li_3, li_4, li_5, li_6, li_7, li_8, li_9, li_10, li_11, li_12, li_14, li_15, li_16, li_18, li_20, li_22, li_23, li_24, li_29, li_30, li_31, li_32, li_33, li_40, li_48, li_54, li_55, li_56, li_57, li_59, li_60, li_63, li_64, li_97, li_98, li_99, li_100, li_103, li_107, li_108, li_112, li_121, li_206, li_212, li_232, li_240, li_255, li_256, li_261, li_270, ng_1, ng_2, ng_3, ng_4, ng_9, ng_10, m1_1, nI_m1, m1_nI, if_true, if_false, nI_add, pk_mul, pk_sub, nI_div, nI_rem, nI_eq, nI_leI, nI_ltI, nI_clamp, ck_in, ck_nz, bind_sm, upM_n, upM_m, upM_s, if_pos, if_neg]
theorem el' {t L : Nat} (e0 : rf t 0 = t + 1) (el : ln (t + 1) = L) : ln (rf t 0) = L := by rw [e0, el]
theorem c_fault {t sid g lf L n : Nat} {b : Nat → Nat} {M : Mem} (hT : TK t sid g lf L) (hX : TX t g lf n b M) (hn : n ≤ L) (hb : ∀ i, b i < 256) : f_X3_firstFault t M = some (oi (FV sid g lf n b)) := by
  obtain ⟨h2, h3, h4, h5⟩ := hX
  have fit := fun k i bg (hk : k < 8) (hbg : k = 0 → bg < 8) (hb2 : bg < 100) => c_fits (M := M) (k := k) (x := b i) (bg := bg) hT h2 h3 (hb i) hbg hb2 hk
  have e0 : rf t 0 = t + 1 := by rcases hT with ⟨rfl, -⟩ | ⟨rfl, -⟩ <;> rfl
  have el : ln (t + 1) = L := by rcases hT with ⟨rfl, -, -, -, rfl⟩ | ⟨rfl, -, -, -, rfl⟩ <;> rfl
  have hL : L < 100 := by rcases hT with ⟨-, -, -, -, rfl⟩ | ⟨-, -, -, -, rfl⟩ <;> decide
  have hg : g < 6 := by rcases hT with ⟨-, -, rfl, -⟩ | ⟨-, -, rfl, -⟩ <;> decide
  have hbg : ∀ i, i < L → (i + g + 1) / (g + 2) < 9 ∧ (i % (g + 2) = 0 → (i + g + 1) / (g + 2) < 8) ∧ (i + 1) % (g + 2) = (if i % (g + 2) ≤ g then i % (g + 2) + 1 else 0) ∧ (i + 1 + g + 1) / (g + 2) = (if i % (g + 2) = 0 then (i + g + 1) / (g + 2) + 1 else (i + g + 1) / (g + 2)) ∧ i % (g + 2) < g + 2 := by
    rcases hT with ⟨-, -, rfl, -, rfl⟩ | ⟨-, -, rfl, -, rfl⟩
    · intro i hi; refine ⟨by omega, by omega, ?_, ?_, by omega⟩ <;> split <;> omega
    · intro i hi; refine ⟨by omega, by omega, ?_, ?_, by omega⟩ <;> split <;> omega
  have step : ∀ i, i < n → ffN sid g lf b i = none → ch sid g lf (i % (g + 2)) (b i) ≠ none → f_X3_firstFault_15_15b t (nI ((i + g + 1) / (g + 2))) (nI (i % (g + 2))) (nI i) M = some (.inl (nI ((i + 1 + g + 1) / (g + 2)), nI ((i + 1) % (g + 2)), nI (i + 1))) := by
    intro i hi _ hc
    obtain ⟨o1, o2, o3, o4, o5⟩ := hbg i (by omega)
    have e5 := h5 i hi
    unfold f_X3_firstFault_15_15b f_X3_firstFault_56_15 f_X3_firstFault_71_15
    rw [el' e0 el, show Int32.ofNat L = nI L from rfl, o3, o4]
    have ft := fit (i % (g + 2)) i ((i + g + 1) / (g + 2)) (by omega) o2 (by omega)
    rw [if_neg hc] at ft
    by_cases q1 : i % (g + 2) = 0
    · simp (disch := omega) only [li_0, li_1, li_2, li_3, li_4, li_5, li_6, li_7, li_8, li_9, li_10, li_11, li_12, li_14, li_15, li_16, li_18, li_20, li_22, li_23, li_24, li_29, li_30, li_31, li_32, li_33, li_40, li_48, li_54, li_55, li_56, li_57, li_59, li_60, li_63, li_64, li_97, li_98, li_99, li_100, li_103, li_107, li_108, li_112, li_121, li_206, li_212, li_232, li_240, li_255, li_256, li_261, li_270, ng_1, ng_2, ng_3, ng_4, ng_9, ng_10, m1_1, nI_m1, m1_nI, if_true, if_false, nI_add, pk_mul, pk_sub, nI_div, nI_rem, nI_eq, nI_leI, nI_ltI, nI_clamp, ck_in, ck_nz, bind_sm, upM_n, upM_m, upM_s, if_pos, if_neg, e0, h4, h2, e5, ft]
    · by_cases q2 : i % (g + 2) ≤ g
      · simp (disch := omega) only [li_0, li_1, li_2, li_3, li_4, li_5, li_6, li_7, li_8, li_9, li_10, li_11, li_12, li_14, li_15, li_16, li_18, li_20, li_22, li_23, li_24, li_29, li_30, li_31, li_32, li_33, li_40, li_48, li_54, li_55, li_56, li_57, li_59, li_60, li_63, li_64, li_97, li_98, li_99, li_100, li_103, li_107, li_108, li_112, li_121, li_206, li_212, li_232, li_240, li_255, li_256, li_261, li_270, ng_1, ng_2, ng_3, ng_4, ng_9, ng_10, m1_1, nI_m1, m1_nI, if_true, if_false, nI_add, pk_mul, pk_sub, nI_div, nI_rem, nI_eq, nI_leI, nI_ltI, nI_clamp, ck_in, ck_nz, bind_sm, upM_n, upM_m, upM_s, if_pos, if_neg, e0, h4, h2, e5, ft]
      · simp (disch := omega) only [li_0, li_1, li_2, li_3, li_4, li_5, li_6, li_7, li_8, li_9, li_10, li_11, li_12, li_14, li_15, li_16, li_18, li_20, li_22, li_23, li_24, li_29, li_30, li_31, li_32, li_33, li_40, li_48, li_54, li_55, li_56, li_57, li_59, li_60, li_63, li_64, li_97, li_98, li_99, li_100, li_103, li_107, li_108, li_112, li_121, li_206, li_212, li_232, li_240, li_255, li_256, li_261, li_270, ng_1, ng_2, ng_3, ng_4, ng_9, ng_10, m1_1, nI_m1, m1_nI, if_true, if_false, nI_add, pk_mul, pk_sub, nI_div, nI_rem, nI_eq, nI_leI, nI_ltI, nI_clamp, ck_in, ck_nz, bind_sm, upM_n, upM_m, upM_s, if_pos, if_neg, e0, h4, h2, e5, ft]
  have bad : ∀ i, i < n → ch sid g lf (i % (g + 2)) (b i) = none → f_X3_firstFault_15_15b t (nI ((i + g + 1) / (g + 2))) (nI (i % (g + 2))) (nI i) M = some (.inr (.inr (nI i))) := by
    intro i hi hc
    obtain ⟨o1, o2, o3, o4, o5⟩ := hbg i (by omega)
    have e5 := h5 i hi
    have ft := fit (i % (g + 2)) i ((i + g + 1) / (g + 2)) (by omega) o2 (by omega)
    rw [if_pos hc] at ft
    unfold f_X3_firstFault_15_15b
    rw [el' e0 el, show Int32.ofNat L = nI L from rfl]
    simp (disch := omega) only [li_0, li_1, li_2, li_3, li_4, li_5, li_6, li_7, li_8, li_9, li_10, li_11, li_12, li_14, li_15, li_16, li_18, li_20, li_22, li_23, li_24, li_29, li_30, li_31, li_32, li_33, li_40, li_48, li_54, li_55, li_56, li_57, li_59, li_60, li_63, li_64, li_97, li_98, li_99, li_100, li_103, li_107, li_108, li_112, li_121, li_206, li_212, li_232, li_240, li_255, li_256, li_261, li_270, ng_1, ng_2, ng_3, ng_4, ng_9, ng_10, m1_1, nI_m1, m1_nI, if_true, if_false, nI_add, pk_mul, pk_sub, nI_div, nI_rem, nI_eq, nI_leI, nI_ltI, nI_clamp, ck_in, ck_nz, bind_sm, upM_n, upM_m, upM_s, if_pos, if_neg, e0, h4, h2, e5, ft]
  unfold f_X3_firstFault FV
  by_cases q0 : n = 0
  · subst q0
    simp (disch := omega) only [li_0, li_1, li_2, li_3, li_4, li_5, li_6, li_7, li_8, li_9, li_10, li_11, li_12, li_14, li_15, li_16, li_18, li_20, li_22, li_23, li_24, li_29, li_30, li_31, li_32, li_33, li_40, li_48, li_54, li_55, li_56, li_57, li_59, li_60, li_63, li_64, li_97, li_98, li_99, li_100, li_103, li_107, li_108, li_112, li_121, li_206, li_212, li_232, li_240, li_255, li_256, li_261, li_270, ng_1, ng_2, ng_3, ng_4, ng_9, ng_10, m1_1, nI_m1, m1_nI, if_true, if_false, nI_add, pk_mul, pk_sub, nI_div, nI_rem, nI_eq, nI_leI, nI_ltI, nI_clamp, ck_in, ck_nz, bind_sm, upM_n, upM_m, upM_s, if_pos, if_neg, h4]
    rfl
  · have z1 : (0 + g + 1) / (g + 2) = 0 := by rw [Nat.zero_add]; exact Nat.div_eq_of_lt (by omega)
    have z2 : 0 % (g + 2) = 0 := Nat.zero_mod _
    cases hf : ffN sid g lf b n with
    | some j =>
      obtain ⟨j1, j2, j3⟩ := ffN_some hf
      have lp := loop_for (B := fun s2 : Int32 × Int32 × Int32 => f_X3_firstFault_15_15b t s2.1 s2.2.1 s2.2.2 M) (fun i => (nI ((i + g + 1) / (g + 2)), nI (i % (g + 2)), nI i)) j (e := .inr (nI j)) (fun i hi => step i (by omega) (by
          have := ffN_none j3
          cases hfi : ffN sid g lf b i with
          | none => rfl
          | some k => obtain ⟨k1, k2, k3⟩ := ffN_some hfi; exact absurd k2 (this k (by omega))) (ffN_none j3 i hi)) (bad j (by omega) j2)
      try dsimp only at lp
      rw [z1, z2] at lp
      simp (disch := omega) only [li_0, li_1, li_2, li_3, li_4, li_5, li_6, li_7, li_8, li_9, li_10, li_11, li_12, li_14, li_15, li_16, li_18, li_20, li_22, li_23, li_24, li_29, li_30, li_31, li_32, li_33, li_40, li_48, li_54, li_55, li_56, li_57, li_59, li_60, li_63, li_64, li_97, li_98, li_99, li_100, li_103, li_107, li_108, li_112, li_121, li_206, li_212, li_232, li_240, li_255, li_256, li_261, li_270, ng_1, ng_2, ng_3, ng_4, ng_9, ng_10, m1_1, nI_m1, m1_nI, if_true, if_false, nI_add, pk_mul, pk_sub, nI_div, nI_rem, nI_eq, nI_leI, nI_ltI, nI_clamp, ck_in, ck_nz, bind_sm, upM_n, upM_m, upM_s, if_pos, if_neg, h4]
      rw [lp, orB_s]
      rfl
    | none =>
      have lp := loop_for (B := fun s2 : Int32 × Int32 × Int32 => f_X3_firstFault_15_15b t s2.1 s2.2.1 s2.2.2 M) (fun i => (nI ((i + g + 1) / (g + 2)), nI (i % (g + 2)), nI i)) n (e := .inl (nI ((n + g + 1) / (g + 2)), nI (n % (g + 2)), nI n)) (fun i hi => step i hi (by
          have := ffN_none hf
          cases hfi : ffN sid g lf b i with
          | none => rfl
          | some k => obtain ⟨k1, k2, k3⟩ := ffN_some hfi; exact absurd k2 (this k (by omega))) (ffN_none hf i hi)) (by
          dsimp only
          unfold f_X3_firstFault_15_15b
          simp (disch := omega) only [li_0, li_1, li_2, li_3, li_4, li_5, li_6, li_7, li_8, li_9, li_10, li_11, li_12, li_14, li_15, li_16, li_18, li_20, li_22, li_23, li_24, li_29, li_30, li_31, li_32, li_33, li_40, li_48, li_54, li_55, li_56, li_57, li_59, li_60, li_63, li_64, li_97, li_98, li_99, li_100, li_103, li_107, li_108, li_112, li_121, li_206, li_212, li_232, li_240, li_255, li_256, li_261, li_270, ng_1, ng_2, ng_3, ng_4, ng_9, ng_10, m1_1, nI_m1, m1_nI, if_true, if_false, nI_add, pk_mul, pk_sub, nI_div, nI_rem, nI_eq, nI_leI, nI_ltI, nI_clamp, ck_in, ck_nz, bind_sm, upM_n, upM_m, upM_s, if_pos, if_neg, h4])
      try dsimp only at lp
      rw [z1, z2] at lp
      simp (disch := omega) only [li_0, li_1, li_2, li_3, li_4, li_5, li_6, li_7, li_8, li_9, li_10, li_11, li_12, li_14, li_15, li_16, li_18, li_20, li_22, li_23, li_24, li_29, li_30, li_31, li_32, li_33, li_40, li_48, li_54, li_55, li_56, li_57, li_59, li_60, li_63, li_64, li_97, li_98, li_99, li_100, li_103, li_107, li_108, li_112, li_121, li_206, li_212, li_232, li_240, li_255, li_256, li_261, li_270, ng_1, ng_2, ng_3, ng_4, ng_9, ng_10, m1_1, nI_m1, m1_nI, if_true, if_false, nI_add, pk_mul, pk_sub, nI_div, nI_rem, nI_eq, nI_leI, nI_ltI, nI_clamp, ck_in, ck_nz, bind_sm, upM_n, upM_m, upM_s, if_pos, if_neg, h4]
      rw [lp, orB_n]
      show f_X3_firstFault_78 t (nI (n % (g + 2))) M = _
      unfold f_X3_firstFault_78
      have hm : n % (g + 2) < g + 2 := Nat.mod_lt _ (by omega)
      by_cases q2 : n % (g + 2) = g + 1
      · rw [if_pos (show n = 0 ∨ n % (g + 2) = g + 1 from Or.inr q2)]
        simp (disch := omega) only [li_0, li_1, li_2, li_3, li_4, li_5, li_6, li_7, li_8, li_9, li_10, li_11, li_12, li_14, li_15, li_16, li_18, li_20, li_22, li_23, li_24, li_29, li_30, li_31, li_32, li_33, li_40, li_48, li_54, li_55, li_56, li_57, li_59, li_60, li_63, li_64, li_97, li_98, li_99, li_100, li_103, li_107, li_108, li_112, li_121, li_206, li_212, li_232, li_240, li_255, li_256, li_261, li_270, ng_1, ng_2, ng_3, ng_4, ng_9, ng_10, m1_1, nI_m1, m1_nI, if_true, if_false, nI_add, pk_mul, pk_sub, nI_div, nI_rem, nI_eq, nI_leI, nI_ltI, nI_clamp, ck_in, ck_nz, bind_sm, upM_n, upM_m, upM_s, if_pos, if_neg, h2, h4]
        rfl
      · rw [if_neg (show ¬ (n = 0 ∨ n % (g + 2) = g + 1) by omega)]
        simp (disch := omega) only [li_0, li_1, li_2, li_3, li_4, li_5, li_6, li_7, li_8, li_9, li_10, li_11, li_12, li_14, li_15, li_16, li_18, li_20, li_22, li_23, li_24, li_29, li_30, li_31, li_32, li_33, li_40, li_48, li_54, li_55, li_56, li_57, li_59, li_60, li_63, li_64, li_97, li_98, li_99, li_100, li_103, li_107, li_108, li_112, li_121, li_206, li_212, li_232, li_240, li_255, li_256, li_261, li_270, ng_1, ng_2, ng_3, ng_4, ng_9, ng_10, m1_1, nI_m1, m1_nI, if_true, if_false, nI_add, pk_mul, pk_sub, nI_div, nI_rem, nI_eq, nI_leI, nI_ltI, nI_clamp, ck_in, ck_nz, bind_sm, upM_n, upM_m, upM_s, if_pos, if_neg, h2, h4]
        rfl
