-- THE HIRINGS THAT HAD BETTER NOT BE
/-- the first from i on, among m -/
noncomputable def sf (P : Nat → Prop) : Nat → Nat → Option Nat
  | _, 0 => none
  | i, m + 1 => @ite _ (P i) (Classical.propDecidable _) (some i) (sf P (i + 1) m)
theorem sf_t {P : Nat → Prop} {i m : Nat} (h : P i) : sf P i (m + 1) = some i := if_pos h
theorem sf_f {P : Nat → Prop} {i m : Nat} (h : ¬ P i) : sf P i (m + 1) = sf P (i + 1) m := if_neg h
theorem sf_lt {P : Nat → Prop} : ∀ {m i k : Nat}, sf P i m = some k → i ≤ k ∧ k < i + m ∧ P k := by
  intro m
  induction m with
  | zero => intro i k h; cases h
  | succ m ih =>
    intro i k h
    by_cases q : P i
    · rw [sf_t q] at h
      have := Option.some.inj h
      subst this
      exact ⟨by omega, by omega, q⟩
    · rw [sf_f q] at h
      obtain ⟨h1, h2, h3⟩ := ih h
      exact ⟨by omega, by omega, h3⟩
theorem loop_find {S E V : Type} {B : S → Option (S ⊕ (E ⊕ V))} (P : Nat → Prop) (I : Nat → S → Prop) (QE : E → Prop) (QV : Nat → V → Prop) (hi : Nat) (st : ∀ i s, i < hi → I i s → (P i ∧ ∃ v, B s = some (.inr (.inr v)) ∧ QV i v) ∨ (¬ P i ∧ ∃ s', B s = some (.inl s') ∧ I (i + 1) s')) (en : ∀ s, I hi s → ∃ e, B s = some (.inr (.inl e)) ∧ QE e) : ∀ m i s, i + m = hi → I i s → (∃ k v, sf P i m = some k ∧ loop B s = some (.inr v) ∧ QV k v) ∨ (sf P i m = none ∧ ∃ e, loop B s = some (.inl e) ∧ QE e) := by
  intro m
  induction m with
  | zero =>
    intro i s h1 h2
    rw [show i = hi by omega] at h2
    obtain ⟨e, h3, h4⟩ := en s h2
    exact Or.inr ⟨rfl, e, by rw [loop_eq, h3], h4⟩
  | succ m ih =>
    intro i s h1 h2
    rcases st i s (by omega) h2 with ⟨p, v, h3, h4⟩ | ⟨p, s', h3, h4⟩
    · exact Or.inl ⟨i, v, sf_t p, by rw [loop_eq, h3], h4⟩
    · rw [sf_f p, loop_eq, h3]
      exact ih (i + 1) s' (by omega) h4
def less2 (α : AS) (a b : Nat) : SS := withH (sA α) (((hlA α).eraseIdx b).eraseIdx a)
theorem less2_ok {α : AS} {a b : Nat} (ok : OKA α) : OKS (less2 α a b) := by
  refine withH_ok ok.s ?_ fun h hh => ok.2.2.1.2 h (List.mem_of_mem_eraseIdx (List.mem_of_mem_eraseIdx hh))
  have h1 := List.length_eraseIdx_le ((hlA α).eraseIdx b) a
  have h2 := List.length_eraseIdx_le (hlA α) b
  have h3 := ok.2.2.1.1
  omega
abbrev q1 (α : AS) (k : Nat) : Prop := abits (less α k) = 0
abbrev q2 (α : AS) (a b : Nat) : Prop := abits (less2 α a b) = 0
noncomputable def fb (α : AS) (a : Nat) : Option Nat := sf (q2 α a) (a + 1) ((hlA α).length - (a + 1))
noncomputable def fa (α : AS) : Option Nat := sf (fun a => fb α a ≠ none) 0 (hlA α).length
noncomputable def f1 (α : AS) : Option Nat := sf (q1 α) 0 (hlA α).length
/-- how many, the one, the other -/
noncomputable def refC (α : AS) : Int32 × Int32 × Int32 := if abits (sA α) = 0 then (nI 0, m1, m1) else match f1 α with
  | some k => (nI 1, nI k, m1)
  | none => match fa α with
    | some a => (nI 2, nI a, oi (fb α a))
    | none => (m1, m1, m1)
theorem ref_0 {α : AS} (h : abits (sA α) = 0) : refC α = (nI 0, m1, m1) := if_pos h
theorem ref_1 {α : AS} {k : Nat} (h : ¬ abits (sA α) = 0) (h1 : f1 α = some k) : refC α = (nI 1, nI k, m1) := by
  unfold refC
  rw [if_neg h, h1]
theorem ref_2 {α : AS} {a b : Nat} (h : ¬ abits (sA α) = 0) (h1 : f1 α = none) (h2 : fa α = some a) (h3 : fb α a = some b) : refC α = (nI 2, nI a, nI b) := by
  unfold refC
  rw [if_neg h, h1, h2]
  show (nI 2, nI a, oi (fb α a)) = _
  rw [h3]
  rfl
theorem ref_n {α : AS} (h : ¬ abits (sA α) = 0) (h1 : f1 α = none) (h2 : fa α = none) : refC α = (m1, m1, m1) := by
  unfold refC
  rw [if_neg h, h1, h2]
/-- one try of the class: what is left -/
def FrR (M M' : Mem) : Prop := ∀ k, (k < 13 ∨ (21 ≤ k ∧ k < 26) ∨ 31 ≤ k) → k ≠ 48 → M' k = M k
theorem FrR.tr {M M1 M2 : Mem} (h1 : FrR M M1) (h2 : FrR M1 M2) : FrR M M2 := fun k hk h => (h2 k hk h).trans (h1 k hk h)
theorem FrT.r {M M' : Mem} (h : FrT M M') : FrR M M' := fun k hk _ => h k hk
theorem CI.frR {α : AS} {M M' : Mem} (h : CI α M) (hF : FrR M M') : CI α M' := by
  obtain ⟨n, h4, h5⟩ := h.2.2.1
  exact h.upd (h.2.1.fr (fun k _ _ => hF k (by omega) (by omega))) ⟨n, h4, h5.fr (fun k _ _ => hF k (by omega) (by omega))⟩ (fun k hk => hF k (by omega) (by omega))
theorem m1_lt : m1 < (0 : Int32) := by decide
theorem c_nobody {τ : SS} {M0 M : Mem} {x1 x2 : Int32} {M1 M2 M3 : Mem} (okt : OKS τ) (b0 : f_X1_become 13 5 M = some M1) (b1 : f_X1_dropHiring 13 x2 M1 = some M2) (b2 : f_X1_dropHiring 13 x1 M2 = some M3) (hS : SR 13 τ M3) : ∃ M', f_X5_nobodyAstrayWithout x1 x2 M = some (bb (abits τ = 0), M') ∧ Fr 26 31 M3 M' := by
  obtain ⟨M4, M5, d1, d2, d3, d4, d5⟩ := c_run okt hS
  refine ⟨M5, ?_, d4⟩
  have as := c_astray WI_26 okt (okt.wk 30) d5 d3.1
  rw [show bitsOf (ast τ (wk τ 30)) (nP τ) = abits τ from rfl] at as
  have al := abits_lt okt
  have d2' : f_X4_go 26 (29 : Int32) M4 = some M5 := d2
  unfold f_X5_nobodyAstrayWithout
  rw [b0, bind_sm, b1, bind_sm, b2, bind_sm, d1, bind_sm, d2', bind_sm, as, bind_sm]
  by_cases q : abits τ = 0
  · rw [bb_t q, q, if_pos (show nI 0 = 0 from rfl)]
    rfl
  · rw [bb_f q, if_neg (c := nI (abits τ) = 0) (fun r => q ((nI_eq (b := 0) (by omega) (by omega)).mp r))]
    rfl
theorem c_nob0 {α : AS} {M : Mem} (ok : OKA α) (h : CI α M) : ∃ M', f_X5_nobodyAstrayWithout m1 m1 M = some (bb (abits (sA α) = 0), M') ∧ FrT M M' := by
  have h8 : (hs (sA α)).length ≤ 9 := Nat.le_trans ok.2.2.1.1 (by omega)
  obtain ⟨M1, a1, a2, a3⟩ := c_become ok.s h.2.1
  have z := c_drop0 a2 h8 m1_lt
  obtain ⟨M', d1, d2⟩ := c_nobody (M0 := M) ok.s a1 z z a2
  exact ⟨M', d1, fun k hk => by rw [d2 k (by omega), a3 k (by omega)]⟩
theorem c_nob1 {α : AS} {M : Mem} {k : Nat} (ok : OKA α) (h : CI α M) (hk : k < (hlA α).length) : ∃ M', f_X5_nobodyAstrayWithout (nI k) m1 M = some (bb (q1 α k), M') ∧ FrT M M' := by
  have h8 : (hs (sA α)).length ≤ 9 := Nat.le_trans ok.2.2.1.1 (by omega)
  obtain ⟨M1, a1, a2, a3⟩ := c_become ok.s h.2.1
  have z := c_drop0 a2 h8 m1_lt
  obtain ⟨M2, b1, b2, b3⟩ := c_drop (k := k) SI_13 h8 hk a2
  obtain ⟨M', d1, d2⟩ := c_nobody (M0 := M) (less_ok ok) a1 z b1 b2
  exact ⟨M', d1, fun k hk => by rw [d2 k (by omega), b3 k (by omega), a3 k (by omega)]⟩
theorem c_nob2 {α : AS} {M : Mem} {a b : Nat} (ok : OKA α) (h : CI α M) (hab : a < b) (hb : b < (hlA α).length) : ∃ M', f_X5_nobodyAstrayWithout (nI a) (nI b) M = some (bb (q2 α a b), M') ∧ FrT M M' := by
  have h8 : (hs (sA α)).length ≤ 9 := Nat.le_trans ok.2.2.1.1 (by omega)
  have h8' : (hlA α).length ≤ 8 := ok.2.2.1.1
  obtain ⟨M1, a1, a2, a3⟩ := c_become ok.s h.2.1
  obtain ⟨M2, b1, b2, b3⟩ := c_drop (k := b) SI_13 h8 hb a2
  have le : ((hlA α).eraseIdx b).length = (hlA α).length - 1 := List.length_eraseIdx_of_lt hb
  obtain ⟨M3, e1, e2, e3⟩ := c_drop (k := a) (σ := less α b) SI_13 (show ((hlA α).eraseIdx b).length ≤ 9 by omega) (show a < ((hlA α).eraseIdx b).length by omega) b2
  obtain ⟨M', d1, d2⟩ := c_nobody (M0 := M) (τ := less2 α a b) (less2_ok ok) a1 b1 e1 e2
  exact ⟨M', d1, fun k hk => by rw [d2 k (by omega), e3 k (by omega), b3 k (by omega), a3 k (by omega)]⟩
theorem bb_case {P : Prop} {x : Int32} (h : x = bb P) : (P ∧ x = nI 1) ∨ (¬ P ∧ x = nI 0) := by
  by_cases q : P
  · exact Or.inl ⟨q, h.trans (bb_t q)⟩
  · exact Or.inr ⟨q, h.trans (bb_f q)⟩
theorem c_refused {α : AS} {M : Mem} (ok : OKA α) (h : CI α M) : ∃ M', f_X5_findRefused M = some ((refC α).1, M') ∧ FrR M M' ∧ M' 48 0 = (refC α).2.1 ∧ M' 48 1 = (refC α).2.2 := by
  have h8 : (hlA α).length ≤ 8 := ok.2.2.1.1
  have f0 : FrR M (upM (upM M 48 0 m1) 48 1 m1) := fun k _ h2 => by rw [upM_n h2, upM_n h2]
  obtain ⟨M1, a1, a2⟩ := c_nob0 ok (h.frR f0)
  have fr1 : FrR M M1 := f0.tr a2.r
  have i0 : M1 48 0 = m1 := by rw [a2 48 (by omega), upM_m (by omega), upM_s]
  have i1 : M1 48 1 = m1 := by rw [a2 48 (by omega), upM_s]
  unfold f_X5_findRefused
  by_cases q : abits (sA α) = 0
  · rw [bb_t q] at a1
    refine ⟨M1, ?_, fr1, ?_, ?_⟩
    · rw [ref_0 q]
      simp (disch := omega) only [li_0, li_1, li_2, li_3, li_4, li_5, li_6, li_7, li_8, li_9, li_10, li_11, li_12, li_14, li_15, li_16, li_18, li_20, li_22, li_23, li_24, li_29, li_30, li_31, li_32, li_33, li_40, li_48, li_54, li_55, li_56, li_57, li_59, li_60, li_63, li_64, li_97, li_98, li_99, li_100, li_103, li_107, li_108, li_112, li_121, li_206, li_212, li_232, li_240, li_255, li_256, li_261, li_270, ng_1, ng_2, ng_3, ng_4, ng_9, ng_10, m1_1, nI_m1, m1_nI, if_true, if_false, nI_add, pk_mul, pk_sub, nI_div, nI_rem, nI_eq, nI_leI, nI_ltI, nI_clamp, ck_in, ck_nz, bind_sm, upM_n, upM_m, upM_s, if_pos, if_neg, a1]
    · rw [ref_0 q]; exact i0
    · rw [ref_0 q]; exact i1
  · rw [bb_f q] at a1
    -- one
    have one := loop_find (B := fun s3 : Int32 × Mem => f_X5_findRefused_27_27b s3.1 s3.2) (q1 α) (fun i s => s.1 = nI i ∧ FrR M s.2 ∧ s.2 48 0 = m1 ∧ s.2 48 1 = m1) (fun e => FrR M e.2 ∧ e.2 48 0 = m1 ∧ e.2 48 1 = m1) (fun k v => v.1 = nI 1 ∧ FrR M v.2 ∧ v.2 48 0 = nI k ∧ v.2 48 1 = m1) (hlA α).length
      (by
        rintro i ⟨x, N⟩ hi ⟨hx, c1, c2, c3⟩
        dsimp only at hx c1 c2 c3
        subst hx
        have cN := h.frR c1
        have e6 : N 5 6 = nI (hlA α).length := cN.2.1.1.2.2
        obtain ⟨N1, d1, d2⟩ := c_nob1 (k := i) ok cN hi
        unfold f_X5_findRefused_27_27b
        by_cases p : q1 α i
        · rw [bb_t p] at d1
          refine Or.inl ⟨p, (nI 1, upM N1 48 0 (nI i)), ?_, rfl, fun k h1 h2 => ?_, by dsimp only; rw [upM_s], ?_⟩
          · simp (disch := omega) only [li_0, li_1, li_2, li_3, li_4, li_5, li_6, li_7, li_8, li_9, li_10, li_11, li_12, li_14, li_15, li_16, li_18, li_20, li_22, li_23, li_24, li_29, li_30, li_31, li_32, li_33, li_40, li_48, li_54, li_55, li_56, li_57, li_59, li_60, li_63, li_64, li_97, li_98, li_99, li_100, li_103, li_107, li_108, li_112, li_121, li_206, li_212, li_232, li_240, li_255, li_256, li_261, li_270, ng_1, ng_2, ng_3, ng_4, ng_9, ng_10, m1_1, nI_m1, m1_nI, if_true, if_false, nI_add, pk_mul, pk_sub, nI_div, nI_rem, nI_eq, nI_leI, nI_ltI, nI_clamp, ck_in, ck_nz, bind_sm, upM_n, upM_m, upM_s, if_pos, if_neg, e6, d1]
          · dsimp only; rw [upM_n h2]; exact c1.tr d2.r k h1 h2
          · dsimp only; rw [upM_m (by omega), d2 48 (by omega)]; exact c3
        · rw [bb_f p] at d1
          refine Or.inr ⟨p, (nI (i + 1), N1), ?_, rfl, c1.tr d2.r, ?_, ?_⟩
          · simp (disch := omega) only [li_0, li_1, li_2, li_3, li_4, li_5, li_6, li_7, li_8, li_9, li_10, li_11, li_12, li_14, li_15, li_16, li_18, li_20, li_22, li_23, li_24, li_29, li_30, li_31, li_32, li_33, li_40, li_48, li_54, li_55, li_56, li_57, li_59, li_60, li_63, li_64, li_97, li_98, li_99, li_100, li_103, li_107, li_108, li_112, li_121, li_206, li_212, li_232, li_240, li_255, li_256, li_261, li_270, ng_1, ng_2, ng_3, ng_4, ng_9, ng_10, m1_1, nI_m1, m1_nI, if_true, if_false, nI_add, pk_mul, pk_sub, nI_div, nI_rem, nI_eq, nI_leI, nI_ltI, nI_clamp, ck_in, ck_nz, bind_sm, upM_n, upM_m, upM_s, if_pos, if_neg, e6, d1]
          · dsimp only; rw [d2 48 (by omega)]; exact c2
          · dsimp only; rw [d2 48 (by omega)]; exact c3)
      (by
        rintro ⟨x, N⟩ ⟨hx, c1, c2, c3⟩
        dsimp only at hx c1 c2 c3
        subst hx
        have e6 : N 5 6 = nI (hlA α).length := (h.frR c1).2.1.1.2.2
        refine ⟨(nI (hlA α).length, N), ?_, c1, c2, c3⟩
        unfold f_X5_findRefused_27_27b
        simp (disch := omega) only [li_0, li_1, li_2, li_3, li_4, li_5, li_6, li_7, li_8, li_9, li_10, li_11, li_12, li_14, li_15, li_16, li_18, li_20, li_22, li_23, li_24, li_29, li_30, li_31, li_32, li_33, li_40, li_48, li_54, li_55, li_56, li_57, li_59, li_60, li_63, li_64, li_97, li_98, li_99, li_100, li_103, li_107, li_108, li_112, li_121, li_206, li_212, li_232, li_240, li_255, li_256, li_261, li_270, ng_1, ng_2, ng_3, ng_4, ng_9, ng_10, m1_1, nI_m1, m1_nI, if_true, if_false, nI_add, pk_mul, pk_sub, nI_div, nI_rem, nI_eq, nI_leI, nI_ltI, nI_clamp, ck_in, ck_nz, bind_sm, upM_n, upM_m, upM_s, if_pos, if_neg, e6]) (hlA α).length 0 (nI 0, M1) (by omega) ⟨rfl, fr1, i0, i1⟩
    rcases one with ⟨k, ⟨v1, v2⟩, r1, r2, r3, r4, r5, r6⟩ | ⟨r1, e, r2, r3, r4, r5⟩
    · dsimp only at r3 r4 r5 r6
      subst r3
      refine ⟨v2, ?_, r4, ?_, ?_⟩
      · rw [ref_1 q r1]
        simp (disch := omega) only [li_0, li_1, li_2, li_3, li_4, li_5, li_6, li_7, li_8, li_9, li_10, li_11, li_12, li_14, li_15, li_16, li_18, li_20, li_22, li_23, li_24, li_29, li_30, li_31, li_32, li_33, li_40, li_48, li_54, li_55, li_56, li_57, li_59, li_60, li_63, li_64, li_97, li_98, li_99, li_100, li_103, li_107, li_108, li_112, li_121, li_206, li_212, li_232, li_240, li_255, li_256, li_261, li_270, ng_1, ng_2, ng_3, ng_4, ng_9, ng_10, m1_1, nI_m1, m1_nI, if_true, if_false, nI_add, pk_mul, pk_sub, nI_div, nI_rem, nI_eq, nI_leI, nI_ltI, nI_clamp, ck_in, ck_nz, bind_sm, upM_n, upM_m, upM_s, if_pos, if_neg, a1, r2, eo]
      · rw [ref_1 q r1]; exact r5
      · rw [ref_1 q r1]; exact r6
    · -- two
      have two := loop_find (B := fun s9 : Int32 × Mem => f_X5_findRefused_64_64b s9.1 s9.2) (fun a => fb α a ≠ none) (fun i s => s.1 = nI i ∧ FrR M s.2 ∧ s.2 48 0 = m1 ∧ s.2 48 1 = m1) (fun e => FrR M e.2 ∧ e.2 48 0 = m1 ∧ e.2 48 1 = m1) (fun a v => v.1 = nI 2 ∧ FrR M v.2 ∧ ∃ b, fb α a = some b ∧ v.2 48 0 = nI a ∧ v.2 48 1 = nI b) (hlA α).length
        (by
          rintro i ⟨x, N⟩ hi ⟨hx, c1, c2, c3⟩
          dsimp only at hx c1 c2 c3
          subst hx
          have e6 : N 5 6 = nI (hlA α).length := (h.frR c1).2.1.1.2.2
          have inn := loop_find (B := fun s6 : Int32 × Mem => f_X5_findRefused_79_79b (nI i) s6.1 s6.2) (q2 α i) (fun j s => i < j ∧ s.1 = nI j ∧ FrR M s.2 ∧ s.2 48 0 = m1 ∧ s.2 48 1 = m1) (fun e => FrR M e.2 ∧ e.2 48 0 = m1 ∧ e.2 48 1 = m1) (fun b v => v.1 = nI 2 ∧ FrR M v.2 ∧ v.2 48 0 = nI i ∧ v.2 48 1 = nI b) (hlA α).length
            (by
              rintro j ⟨x, N⟩ hj ⟨hij, hx, c1, c2, c3⟩
              dsimp only at hx c1 c2 c3
              subst hx
              have cN := h.frR c1
              have e6 : N 5 6 = nI (hlA α).length := cN.2.1.1.2.2
              obtain ⟨N1, d1, d2⟩ := c_nob2 (a := i) (b := j) ok cN hij hj
              unfold f_X5_findRefused_79_79b
              by_cases p : q2 α i j
              · rw [bb_t p] at d1
                refine Or.inl ⟨p, (nI 2, upM (upM N1 48 0 (nI i)) 48 1 (nI j)), ?_, rfl, fun k h1 h2 => ?_, ?_, by dsimp only; rw [upM_s]⟩
                · simp (disch := omega) only [li_0, li_1, li_2, li_3, li_4, li_5, li_6, li_7, li_8, li_9, li_10, li_11, li_12, li_14, li_15, li_16, li_18, li_20, li_22, li_23, li_24, li_29, li_30, li_31, li_32, li_33, li_40, li_48, li_54, li_55, li_56, li_57, li_59, li_60, li_63, li_64, li_97, li_98, li_99, li_100, li_103, li_107, li_108, li_112, li_121, li_206, li_212, li_232, li_240, li_255, li_256, li_261, li_270, ng_1, ng_2, ng_3, ng_4, ng_9, ng_10, m1_1, nI_m1, m1_nI, if_true, if_false, nI_add, pk_mul, pk_sub, nI_div, nI_rem, nI_eq, nI_leI, nI_ltI, nI_clamp, ck_in, ck_nz, bind_sm, upM_n, upM_m, upM_s, if_pos, if_neg, e6, d1]
                · dsimp only; rw [upM_n h2, upM_n h2]; exact c1.tr d2.r k h1 h2
                · dsimp only; rw [upM_m (by omega), upM_s]
              · rw [bb_f p] at d1
                refine Or.inr ⟨p, (nI (j + 1), N1), ?_, by omega, rfl, c1.tr d2.r, ?_, ?_⟩
                · simp (disch := omega) only [li_0, li_1, li_2, li_3, li_4, li_5, li_6, li_7, li_8, li_9, li_10, li_11, li_12, li_14, li_15, li_16, li_18, li_20, li_22, li_23, li_24, li_29, li_30, li_31, li_32, li_33, li_40, li_48, li_54, li_55, li_56, li_57, li_59, li_60, li_63, li_64, li_97, li_98, li_99, li_100, li_103, li_107, li_108, li_112, li_121, li_206, li_212, li_232, li_240, li_255, li_256, li_261, li_270, ng_1, ng_2, ng_3, ng_4, ng_9, ng_10, m1_1, nI_m1, m1_nI, if_true, if_false, nI_add, pk_mul, pk_sub, nI_div, nI_rem, nI_eq, nI_leI, nI_ltI, nI_clamp, ck_in, ck_nz, bind_sm, upM_n, upM_m, upM_s, if_pos, if_neg, e6, d1]
                · dsimp only; rw [d2 48 (by omega)]; exact c2
                · dsimp only; rw [d2 48 (by omega)]; exact c3)
            (by
              rintro ⟨x, N⟩ ⟨hij, hx, c1, c2, c3⟩
              dsimp only at hx c1 c2 c3
              subst hx
              have e6 : N 5 6 = nI (hlA α).length := (h.frR c1).2.1.1.2.2
              refine ⟨(nI (hlA α).length, N), ?_, c1, c2, c3⟩
              unfold f_X5_findRefused_79_79b
              simp (disch := omega) only [li_0, li_1, li_2, li_3, li_4, li_5, li_6, li_7, li_8, li_9, li_10, li_11, li_12, li_14, li_15, li_16, li_18, li_20, li_22, li_23, li_24, li_29, li_30, li_31, li_32, li_33, li_40, li_48, li_54, li_55, li_56, li_57, li_59, li_60, li_63, li_64, li_97, li_98, li_99, li_100, li_103, li_107, li_108, li_112, li_121, li_206, li_212, li_232, li_240, li_255, li_256, li_261, li_270, ng_1, ng_2, ng_3, ng_4, ng_9, ng_10, m1_1, nI_m1, m1_nI, if_true, if_false, nI_add, pk_mul, pk_sub, nI_div, nI_rem, nI_eq, nI_leI, nI_ltI, nI_clamp, ck_in, ck_nz, bind_sm, upM_n, upM_m, upM_s, if_pos, if_neg, e6]) ((hlA α).length - (i + 1)) (i + 1) (nI (i + 1), N) (by omega) ⟨by omega, rfl, c1, c2, c3⟩
          unfold f_X5_findRefused_64_64b
          rcases inn with ⟨b, v, r1, r2, r3, r4, r5, r6⟩ | ⟨r1, e, r2, r3, r4, r5⟩
          · have hb : fb α i = some b := r1
            refine Or.inl ⟨by rw [hb]; simp, v, ?_, r3, r4, b, hb, r5, r6⟩
            simp (disch := omega) only [li_0, li_1, li_2, li_3, li_4, li_5, li_6, li_7, li_8, li_9, li_10, li_11, li_12, li_14, li_15, li_16, li_18, li_20, li_22, li_23, li_24, li_29, li_30, li_31, li_32, li_33, li_40, li_48, li_54, li_55, li_56, li_57, li_59, li_60, li_63, li_64, li_97, li_98, li_99, li_100, li_103, li_107, li_108, li_112, li_121, li_206, li_212, li_232, li_240, li_255, li_256, li_261, li_270, ng_1, ng_2, ng_3, ng_4, ng_9, ng_10, m1_1, nI_m1, m1_nI, if_true, if_false, nI_add, pk_mul, pk_sub, nI_div, nI_rem, nI_eq, nI_leI, nI_ltI, nI_clamp, ck_in, ck_nz, bind_sm, upM_n, upM_m, upM_s, if_pos, if_neg, e6, r2, eo]
          · have hb : fb α i = none := r1
            refine Or.inr ⟨fun z => z hb, (nI (i + 1), e.2), ?_, rfl, r3, r4, r5⟩
            simp (disch := omega) only [li_0, li_1, li_2, li_3, li_4, li_5, li_6, li_7, li_8, li_9, li_10, li_11, li_12, li_14, li_15, li_16, li_18, li_20, li_22, li_23, li_24, li_29, li_30, li_31, li_32, li_33, li_40, li_48, li_54, li_55, li_56, li_57, li_59, li_60, li_63, li_64, li_97, li_98, li_99, li_100, li_103, li_107, li_108, li_112, li_121, li_206, li_212, li_232, li_240, li_255, li_256, li_261, li_270, ng_1, ng_2, ng_3, ng_4, ng_9, ng_10, m1_1, nI_m1, m1_nI, if_true, if_false, nI_add, pk_mul, pk_sub, nI_div, nI_rem, nI_eq, nI_leI, nI_ltI, nI_clamp, ck_in, ck_nz, bind_sm, upM_n, upM_m, upM_s, if_pos, if_neg, e6, r2, eo])
        (by
          rintro ⟨x, N⟩ ⟨hx, c1, c2, c3⟩
          dsimp only at hx c1 c2 c3
          subst hx
          have e6 : N 5 6 = nI (hlA α).length := (h.frR c1).2.1.1.2.2
          refine ⟨(nI (hlA α).length, N), ?_, c1, c2, c3⟩
          unfold f_X5_findRefused_64_64b
          simp (disch := omega) only [li_0, li_1, li_2, li_3, li_4, li_5, li_6, li_7, li_8, li_9, li_10, li_11, li_12, li_14, li_15, li_16, li_18, li_20, li_22, li_23, li_24, li_29, li_30, li_31, li_32, li_33, li_40, li_48, li_54, li_55, li_56, li_57, li_59, li_60, li_63, li_64, li_97, li_98, li_99, li_100, li_103, li_107, li_108, li_112, li_121, li_206, li_212, li_232, li_240, li_255, li_256, li_261, li_270, ng_1, ng_2, ng_3, ng_4, ng_9, ng_10, m1_1, nI_m1, m1_nI, if_true, if_false, nI_add, pk_mul, pk_sub, nI_div, nI_rem, nI_eq, nI_leI, nI_ltI, nI_clamp, ck_in, ck_nz, bind_sm, upM_n, upM_m, upM_s, if_pos, if_neg, e6]) (hlA α).length 0 (nI 0, e.2) (by omega) ⟨rfl, r3, r4, r5⟩
      rcases two with ⟨a, ⟨v1, v2⟩, t1, t2, t3, t4, b, t5, t6, t7⟩ | ⟨t1, e', t2, t3, t4, t5⟩
      · dsimp only at t3 t4 t6 t7
        subst t3
        refine ⟨v2, ?_, t4, ?_, ?_⟩
        · rw [ref_2 q r1 t1 t5]
          simp (disch := omega) only [li_0, li_1, li_2, li_3, li_4, li_5, li_6, li_7, li_8, li_9, li_10, li_11, li_12, li_14, li_15, li_16, li_18, li_20, li_22, li_23, li_24, li_29, li_30, li_31, li_32, li_33, li_40, li_48, li_54, li_55, li_56, li_57, li_59, li_60, li_63, li_64, li_97, li_98, li_99, li_100, li_103, li_107, li_108, li_112, li_121, li_206, li_212, li_232, li_240, li_255, li_256, li_261, li_270, ng_1, ng_2, ng_3, ng_4, ng_9, ng_10, m1_1, nI_m1, m1_nI, if_true, if_false, nI_add, pk_mul, pk_sub, nI_div, nI_rem, nI_eq, nI_leI, nI_ltI, nI_clamp, ck_in, ck_nz, bind_sm, upM_n, upM_m, upM_s, if_pos, if_neg, a1, r2, t2, eo]
        · rw [ref_2 q r1 t1 t5]; exact t6
        · rw [ref_2 q r1 t1 t5]; exact t7
      · refine ⟨e'.2, ?_, t3, ?_, ?_⟩
        · rw [ref_n q r1 t1]
          simp (disch := omega) only [li_0, li_1, li_2, li_3, li_4, li_5, li_6, li_7, li_8, li_9, li_10, li_11, li_12, li_14, li_15, li_16, li_18, li_20, li_22, li_23, li_24, li_29, li_30, li_31, li_32, li_33, li_40, li_48, li_54, li_55, li_56, li_57, li_59, li_60, li_63, li_64, li_97, li_98, li_99, li_100, li_103, li_107, li_108, li_112, li_121, li_206, li_212, li_232, li_240, li_255, li_256, li_261, li_270, ng_1, ng_2, ng_3, ng_4, ng_9, ng_10, m1_1, nI_m1, m1_nI, if_true, if_false, nI_add, pk_mul, pk_sub, nI_div, nI_rem, nI_eq, nI_leI, nI_ltI, nI_clamp, ck_in, ck_nz, bind_sm, upM_n, upM_m, upM_s, if_pos, if_neg, a1, r2, t2, eo]
        · rw [ref_n q r1 t1]; exact t4
        · rw [ref_n q r1 t1]; exact t5
noncomputable def refV (α : AS) (x : Int32) : Int32 := if x = m1 then (refC α).1 else if x = nI 0 then (refC α).2.1 else (refC α).2.2
theorem c_ref_in {α : AS} {M : Mem} {x : Int32} (ok : OKA α) (h : CI α M) (hx : x = m1 ∨ In x 2) : ∃ M', f_X5_refuse x M = some (refV α x, M') ∧ CI α M' ∧ Fr 0 49 M M' := by
  obtain ⟨M', a1, a2, a3, a4⟩ := c_refused ok h
  refine ⟨M', ?_, h.frR a2, fun k hk => a2 k (by omega) (by omega)⟩
  unfold f_X5_refuse f_X5_refuse_16 refV
  rcases hx with rfl | ⟨j, hj, rfl⟩
  · rw [show ((-1 : Int32)) = m1 from rfl, if_pos rfl, if_pos rfl, a1, bind_sm, if_pos rfl]
  · have : j = 0 ∨ j = 1 := by omega
    rcases this with rfl | rfl
    · simp (disch := omega) only [li_0, li_1, li_2, li_3, li_4, li_5, li_6, li_7, li_8, li_9, li_10, li_11, li_12, li_14, li_15, li_16, li_18, li_20, li_22, li_23, li_24, li_29, li_30, li_31, li_32, li_33, li_40, li_48, li_54, li_55, li_56, li_57, li_59, li_60, li_63, li_64, li_97, li_98, li_99, li_100, li_103, li_107, li_108, li_112, li_121, li_206, li_212, li_232, li_240, li_255, li_256, li_261, li_270, ng_1, ng_2, ng_3, ng_4, ng_9, ng_10, m1_1, nI_m1, m1_nI, if_true, if_false, nI_add, pk_mul, pk_sub, nI_div, nI_rem, nI_eq, nI_leI, nI_ltI, nI_clamp, ck_in, ck_nz, bind_sm, upM_n, upM_m, upM_s, if_pos, if_neg, below_in, a1, a3]
    · simp (disch := omega) only [li_0, li_1, li_2, li_3, li_4, li_5, li_6, li_7, li_8, li_9, li_10, li_11, li_12, li_14, li_15, li_16, li_18, li_20, li_22, li_23, li_24, li_29, li_30, li_31, li_32, li_33, li_40, li_48, li_54, li_55, li_56, li_57, li_59, li_60, li_63, li_64, li_97, li_98, li_99, li_100, li_103, li_107, li_108, li_112, li_121, li_206, li_212, li_232, li_240, li_255, li_256, li_261, li_270, ng_1, ng_2, ng_3, ng_4, ng_9, ng_10, m1_1, nI_m1, m1_nI, if_true, if_false, nI_add, pk_mul, pk_sub, nI_div, nI_rem, nI_eq, nI_leI, nI_ltI, nI_clamp, ck_in, ck_nz, bind_sm, upM_n, upM_m, upM_s, if_pos, if_neg, below_in, a1, a4]
theorem c_ref_out {M : Mem} {x : Int32} (hx : ¬ (x = m1 ∨ In x 2)) : f_X5_refuse x M = some (m2, M) := by
  unfold f_X5_refuse
  have h1 : (x = m1) = False := eq_false fun r => hx (Or.inl r)
  simp (disch := omega) only [li_0, li_1, li_2, li_3, li_4, li_5, li_6, li_7, li_8, li_9, li_10, li_11, li_12, li_14, li_15, li_16, li_18, li_20, li_22, li_23, li_24, li_29, li_30, li_31, li_32, li_33, li_40, li_48, li_54, li_55, li_56, li_57, li_59, li_60, li_63, li_64, li_97, li_98, li_99, li_100, li_103, li_107, li_108, li_112, li_121, li_206, li_212, li_232, li_240, li_255, li_256, li_261, li_270, ng_1, ng_2, ng_3, ng_4, ng_9, ng_10, m1_1, nI_m1, m1_nI, if_true, if_false, nI_add, pk_mul, pk_sub, nI_div, nI_rem, nI_eq, nI_leI, nI_ltI, nI_clamp, ck_in, ck_nz, bind_sm, upM_n, upM_m, upM_s, if_pos, if_neg, h1, below_out _ (fun r => hx (Or.inr r))]
