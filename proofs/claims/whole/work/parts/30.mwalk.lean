-- THE REFERENCE'S DAYS
theorem lg_neg {x y : Int64} : (lg_cmp x y < 0) = (x < y) := by
  unfold lg_cmp
  by_cases h1 : y < x
  · rw [if_pos h1]
    have : ¬ x < y := by rw [Int64.lt_iff_toInt_lt] at h1 ⊢; omega
    simp [this]
  · rw [if_neg h1]
    by_cases h2 : x = y
    · subst h2
      simp
    · rw [if_neg h2]
      have : x < y := by
        rw [Int64.lt_iff_toInt_lt] at h1 ⊢
        have : x.toInt ≠ y.toInt := fun e => h2 (Int64.toInt_inj.mp e)
        omega
      simp [this]
theorem lg_pos {x y : Int64} : (0 < lg_cmp x y) = (y < x) := by
  unfold lg_cmp
  by_cases h1 : y < x
  · rw [if_pos h1]
    simp [h1]
  · rw [if_neg h1]
    by_cases h2 : x = y
    · subst h2
      simp
    · rw [if_neg h2]
      simp [h1]
theorem m_in {x y z : Int32} : f_X6_in x.toInt64 y.toInt64 z.toInt64 = some (if y ≤ x ∧ x ≤ z then nI 1 else nI 0) := by
  have e : ∀ a b : Int32, (a.toInt64 < b.toInt64) ↔ a < b := fun a b => by rw [Int64.lt_iff_toInt_lt, Int32.lt_iff_toInt_lt, Int32.toInt_toInt64, Int32.toInt_toInt64]
  have n : ∀ a b : Int32, ¬ a < b ↔ b ≤ a := fun a b => by rw [Int32.lt_iff_toInt_lt, Int32.le_iff_toInt_le]; omega
  unfold f_X6_in
  simp only [lg_neg, lg_pos, e]
  by_cases h1 : x < y
  · rw [if_pos h1, if_neg (fun r => ((n x y).mpr r.1) h1)]
    rfl
  · rw [if_neg h1]
    by_cases h2 : z < x
    · rw [if_pos h2, if_neg (fun r => ((n z x).mpr r.2) h2)]
      rfl
    · rw [if_neg h2, if_pos ⟨(n x y).mp h1, (n z x).mp h2⟩]
      rfl
theorem ck_b0 {α : Type} {t : Option α} : ck (isB (nI 0)) t = t := rfl
theorem ck_b1 {α : Type} {t : Option α} : ck (isB (nI 1)) t = t := rfl
theorem ck_bi {α : Type} {t : Int32 → Option α} {c : Prop} {i : Decidable c} : ck (isB (@ite Int32 c i (nI 1) (nI 0))) (t (@ite Int32 c i (nI 1) (nI 0))) = t (@ite Int32 c i (nI 1) (nI 0)) := by
  by_cases h : c
  · simp only [if_pos h, ck_b1]
  · simp only [if_neg h, ck_b0]
theorem le_m1 {n : Nat} (h : n < 2147483648) : (nI n ≤ m1) = False := by
  refine eq_false fun e => ?_
  rw [Int32.le_iff_toInt_le, nI_toInt h] at e
  have : m1.toInt = -1 := by decide
  omega
theorem m_isA {i n : Nat} {M : Mem} (h : M 49 7 = nI n) (hn : n < 100) (hi : i < 100) : f_X6_isAccent (nI i) M = some (if i < n then nI 1 else nI 0) := by
  unfold f_X6_isAccent
  rw [h, show (0 : Int64) = (nI 0).toInt64 from rfl, li_1, m_in, bind_sm, ck_bi]
  cases n with
  | zero =>
    have : nI 0 - nI 1 = m1 := rfl
    rw [this, if_neg (fun r => of_eq_true' (le_m1 (by omega)) r.2), if_neg (by omega)]
  | succ n =>
    rw [nI_pred']
    by_cases q : i < n + 1
    · rw [if_pos q, if_pos ⟨(nI_leI (by omega) (by omega)).mpr (by omega), (nI_leI (by omega) (by omega)).mpr (by omega)⟩]
    · rw [if_neg q, if_neg (fun r => by have := (nI_leI (by omega) (by omega)).mp r.2; omega)]
theorem m_isP {i n : Nat} {M : Mem} (h : M 49 9 = nI n) (hn : n < 100) (hi : i < 100) : f_X6_isPerson (nI i) M = some (if i < n then nI 1 else nI 0) := by
  unfold f_X6_isPerson
  rw [h, show (0 : Int64) = (nI 0).toInt64 from rfl, li_1, m_in, bind_sm, ck_bi]
  cases n with
  | zero =>
    have : nI 0 - nI 1 = m1 := rfl
    rw [this, if_neg (fun r => of_eq_true' (le_m1 (by omega)) r.2), if_neg (by omega)]
  | succ n =>
    rw [nI_pred']
    by_cases q : i < n + 1
    · rw [if_pos q, if_pos ⟨(nI_leI (by omega) (by omega)).mpr (by omega), (nI_leI (by omega) (by omega)).mpr (by omega)⟩]
    · rw [if_neg q, if_neg (fun r => by have := (nI_leI (by omega) (by omega)).mp r.2; omega)]
theorem m_size : ∀ {a b : Nat}, a < 10 → b < 10 → f_X6_size (nI a - nI b) = some (nI (dist a b)) := by
  have h : ∀ a, a < 10 → ∀ b, b < 10 → f_X6_size (nI a - nI b) = some (nI (dist a b)) := by decide +kernel
  exact fun {a b} ha hb => h a ha b hb
theorem m_towards : ∀ {a b c : Nat}, a < 10 → b < 10 → c < 3 → f_X6_towards (nI a) (nI b) (nI c) = some (nI (tw a b c)) := by
  have h : ∀ a, a < 10 → ∀ b, b < 10 → ∀ c, c < 3 → f_X6_towards (nI a) (nI b) (nI c) = some (nI (tw a b c)) := by decide +kernel
  exact fun {a b c} ha hb hc => h a ha b hb c hc
theorem m_lesser {a b : Nat} (ha : a < 2147483648) (hb : b < 2147483648) : f_X6_lesser (nI a) (nI b) = some (nI (min a b)) := by
  unfold f_X6_lesser
  by_cases h : a < b
  · simp (disch := omega) only [li_0, li_1, li_2, li_3, li_4, li_5, li_6, li_7, li_8, li_9, li_10, li_11, li_12, li_14, li_15, li_16, li_18, li_20, li_22, li_23, li_24, li_29, li_30, li_31, li_32, li_33, li_40, li_48, li_54, li_55, li_56, li_57, li_59, li_60, li_63, li_64, li_97, li_98, li_99, li_100, li_103, li_107, li_108, li_112, li_121, li_206, li_212, li_232, li_240, li_255, li_256, li_261, li_270, ng_1, ng_2, ng_3, ng_4, ng_9, ng_10, m1_1, nI_m1, m1_nI, if_true, if_false, nI_add, pk_mul, pk_sub, nI_div, nI_rem, nI_eq, nI_leI, nI_ltI, nI_clamp, ck_in, ck_nz, bind_sm, upM_n, upM_m, upM_s, if_pos, if_neg, Nat.min_eq_left]
  · simp (disch := omega) only [li_0, li_1, li_2, li_3, li_4, li_5, li_6, li_7, li_8, li_9, li_10, li_11, li_12, li_14, li_15, li_16, li_18, li_20, li_22, li_23, li_24, li_29, li_30, li_31, li_32, li_33, li_40, li_48, li_54, li_55, li_56, li_57, li_59, li_60, li_63, li_64, li_97, li_98, li_99, li_100, li_103, li_107, li_108, li_112, li_121, li_206, li_212, li_232, li_240, li_255, li_256, li_261, li_270, ng_1, ng_2, ng_3, ng_4, ng_9, ng_10, m1_1, nI_m1, m1_nI, if_true, if_false, nI_add, pk_mul, pk_sub, nI_div, nI_rem, nI_eq, nI_leI, nI_ltI, nI_clamp, ck_in, ck_nz, bind_sm, upM_n, upM_m, upM_s, if_pos, if_neg, Nat.min_eq_right]
theorem m_greater {a b : Nat} (ha : a < 2147483648) (hb : b < 2147483648) : f_X6_greater (nI a) (nI b) = some (nI (max a b)) := by
  unfold f_X6_greater
  by_cases h : b < a
  · simp (disch := omega) only [li_0, li_1, li_2, li_3, li_4, li_5, li_6, li_7, li_8, li_9, li_10, li_11, li_12, li_14, li_15, li_16, li_18, li_20, li_22, li_23, li_24, li_29, li_30, li_31, li_32, li_33, li_40, li_48, li_54, li_55, li_56, li_57, li_59, li_60, li_63, li_64, li_97, li_98, li_99, li_100, li_103, li_107, li_108, li_112, li_121, li_206, li_212, li_232, li_240, li_255, li_256, li_261, li_270, ng_1, ng_2, ng_3, ng_4, ng_9, ng_10, m1_1, nI_m1, m1_nI, if_true, if_false, nI_add, pk_mul, pk_sub, nI_div, nI_rem, nI_eq, nI_leI, nI_ltI, nI_clamp, ck_in, ck_nz, bind_sm, upM_n, upM_m, upM_s, if_pos, if_neg, Nat.max_eq_left]
  · simp (disch := omega) only [li_0, li_1, li_2, li_3, li_4, li_5, li_6, li_7, li_8, li_9, li_10, li_11, li_12, li_14, li_15, li_16, li_18, li_20, li_22, li_23, li_24, li_29, li_30, li_31, li_32, li_33, li_40, li_48, li_54, li_55, li_56, li_57, li_59, li_60, li_63, li_64, li_97, li_98, li_99, li_100, li_103, li_107, li_108, li_112, li_121, li_206, li_212, li_232, li_240, li_255, li_256, li_261, li_270, ng_1, ng_2, ng_3, ng_4, ng_9, ng_10, m1_1, nI_m1, m1_nI, if_true, if_false, nI_add, pk_mul, pk_sub, nI_div, nI_rem, nI_eq, nI_leI, nI_ltI, nI_clamp, ck_in, ck_nz, bind_sm, upM_n, upM_m, upM_s, if_pos, if_neg, Nat.max_eq_right]
theorem m_isIn : ∀ {g i : Nat}, g < 256 → i < 8 → f_X6_isIn (nI g) (nI i) = some (if g.testBit i = true then nI 1 else nI 0) := by
  have h : ∀ g, g < 256 → ∀ i, i < 8 → f_X6_isIn (nI g) (nI i) = some (if g.testBit i = true then nI 1 else nI 0) := by decide +kernel
  exact fun {g i} hg hi => h g hg i hi
/-- the reference holds σ's accents and people -/
def MS (σ : SS) (M : Mem) : Prop := (M 49 7 = nI (nA σ) ∧ M 49 9 = nI (nP σ)) ∧ (∀ a, a < nA σ → M 56 (6 * a) = nI (so σ a)) ∧ (∀ a s, a < nA σ → s < 5 → M 56 (6 * a + 1 + s) = nI (mk0 σ a s)) ∧ (∀ p, p < nP σ → M 57 (2 * p) = nI (ki σ p)) ∧ ∀ p, p < nP σ → M 57 (2 * p + 1) = nI (ow σ p)
theorem MS.fr {σ : SS} {M M' : Mem} (h : MS σ M) (h1 : M' 49 = M 49) (h2 : M' 56 = M 56) (h3 : M' 57 = M 57) : MS σ M' := by
  unfold MS at h ⊢
  rw [h1, h2, h3]
  exact h
/-- what is left of a list when the bits g are gone -/
def keepB {α : Type} (g : Nat) : List α → Nat → List α
  | [], _ => []
  | x :: xs, i => if g.testBit i = true then keepB g xs (i + 1) else x :: keepB g xs (i + 1)
theorem keepB_app {α : Type} {g : Nat} {x : α} : ∀ (l : List α) (i : Nat), keepB g (l ++ [x]) i = keepB g l i ++ (if g.testBit (i + l.length) = true then [] else [x]) := by
  intro l
  induction l with
  | nil => intro i; simp [keepB]
  | cons y l ih =>
    intro i
    show (if g.testBit i = true then keepB g (l ++ [x]) (i + 1) else y :: keepB g (l ++ [x]) (i + 1)) = (if g.testBit i = true then keepB g l (i + 1) else y :: keepB g l (i + 1)) ++ _
    rw [ih (i + 1)]
    have : i + 1 + l.length = i + (y :: l).length := by simp; omega
    rw [this]
    split <;> simp
/-- ... and the hirings hl, of which the bits g are gone, with one more at the end -/
def MH (hl : List (Nat × Nat × Nat)) (g : Nat) (od : Option (Nat × Nat × Nat)) (M : Mem) : Prop := M 49 11 = nI hl.length ∧ (∀ (i : Nat) (h : Nat × Nat × Nat), hl[i]? = some h → M 58 (3 * i) = nI h.1 ∧ M 58 (3 * i + 1) = nI h.2.1 ∧ M 58 (3 * i + 2) = nI h.2.2) ∧ M 49 13 = nI g ∧ match od with
  | none => M 49 14 = m1
  | some o => M 49 14 = nI o.1 ∧ M 49 15 = nI o.2.1 ∧ M 49 16 = nI o.2.2
theorem MH.fr {hl : List (Nat × Nat × Nat)} {g : Nat} {od : Option (Nat × Nat × Nat)} {M M' : Mem} (h : MH hl g od M) (h1 : M' 49 = M 49) (h2 : M' 58 = M 58) : MH hl g od M' := by
  unfold MH at h ⊢
  rw [h1, h2]
  exact h
def OKH (n : Nat) (hl : List (Nat × Nat × Nat)) (g : Nat) (od : Option (Nat × Nat × Nat)) : Prop := hl.length ≤ 8 ∧ g < 256 ∧ (∀ h ∈ hl, h.1 < 30 ∧ h.2.1 < 8 ∧ h.2.2 < 8) ∧ ∀ o, od = some o → o.1 < 30 ∧ o.2.1 < n ∧ o.2.2 < 8
/-- the reference's present state -/
def MW (σ : SS) (v : WS) (M : Mem) : Prop := (∀ a s, a < nA σ → s < 5 → M 59 (5 * a + s) = nI (v.1 a s)) ∧ (∀ p s, p < nP σ → s < 5 → M 60 (5 * p + s) = nI (v.2.1 p s)) ∧ ∀ p, p < nP σ → M 61 p = nI (v.2.2 p)
theorem m_far {p a : Nat} {σ : SS} {v : WS} {M : Mem} (ok : OKS σ) (okv : OKW v) (hp : p < nP σ) (ha : a < nA σ) (h1 : ∀ s, s < 5 → M 59 (5 * a + s) = nI (v.1 a s)) (h2 : ∀ s, s < 5 → M 60 (5 * p + s) = nI (v.2.1 p s)) : f_X6_farOf (nI p) (nI a) M = some (nI (far v p a)) := by
  obtain ⟨⟨ok1, ok2, ok3⟩, -⟩ := ok
  unfold f_X6_farOf far
  have hb := farN_le (okv.2.1 p) (okv.1 a)
  have lp : loop (fun s2 : Int32 × Int32 => f_X6_farOf_5_5b (nI p) (nI a) s2.1 s2.2 M) (nI 0, nI 0) = some (nI (farN (v.2.1 p) (v.1 a) 5), nI 5) := by
    refine loop_for (B := fun s2 : Int32 × Int32 => f_X6_farOf_5_5b (nI p) (nI a) s2.1 s2.2 M) (fun i => (nI (farN (v.2.1 p) (v.1 a) i), nI i)) 5
      (by
        intro i hi
        have hbi := hb i
        dsimp only
        unfold f_X6_farOf_5_5b
        simp (disch := omega) only [li_0, li_1, li_2, li_3, li_4, li_5, li_6, li_7, li_8, li_9, li_10, li_11, li_12, li_14, li_15, li_16, li_18, li_20, li_22, li_23, li_24, li_29, li_30, li_31, li_32, li_33, li_40, li_48, li_54, li_55, li_56, li_57, li_59, li_60, li_63, li_64, li_97, li_98, li_99, li_100, li_103, li_107, li_108, li_112, li_121, li_206, li_212, li_232, li_240, li_255, li_256, li_261, li_270, ng_1, ng_2, ng_3, ng_4, ng_9, ng_10, m1_1, nI_m1, m1_nI, if_true, if_false, nI_add, pk_mul, pk_sub, nI_div, nI_rem, nI_eq, nI_leI, nI_ltI, nI_clamp, ck_in, ck_nz, bind_sm, upM_n, upM_m, upM_s, if_pos, if_neg, h1 i hi, h2 i hi, m_size (okv.1 a i) (okv.2.1 p i)]
        rw [dist_comm]
        rfl)
      (by
        dsimp only
        unfold f_X6_farOf_5_5b
        simp (disch := omega) only [li_0, li_1, li_2, li_3, li_4, li_5, li_6, li_7, li_8, li_9, li_10, li_11, li_12, li_14, li_15, li_16, li_18, li_20, li_22, li_23, li_24, li_29, li_30, li_31, li_32, li_33, li_40, li_48, li_54, li_55, li_56, li_57, li_59, li_60, li_63, li_64, li_97, li_98, li_99, li_100, li_103, li_107, li_108, li_112, li_121, li_206, li_212, li_232, li_240, li_255, li_256, li_261, li_270, ng_1, ng_2, ng_3, ng_4, ng_9, ng_10, m1_1, nI_m1, m1_nI, if_true, if_false, nI_add, pk_mul, pk_sub, nI_div, nI_rem, nI_eq, nI_leI, nI_ltI, nI_clamp, ck_in, ck_nz, bind_sm, upM_n, upM_m, upM_s, if_pos, if_neg])
  simp only [li_0, li_1, li_2, li_3, li_4, li_5, li_6, li_7, li_8, li_9, li_10, li_11, li_12, li_14, li_15, li_16, li_18, li_20, li_22, li_23, li_24, li_29, li_30, li_31, li_32, li_33, li_40, li_48, li_54, li_55, li_56, li_57, li_59, li_60, li_63, li_64, li_97, li_98, li_99, li_100, li_103, li_107, li_108, li_112, li_121, li_206, li_212, li_232, li_240, li_255, li_256, li_261, li_270, ng_1, ng_2, ng_3, ng_4, ng_9, ng_10, m1_1, nI_m1, m1_nI, if_true, if_false, nI_add, pk_mul, pk_sub, nI_div, nI_rem, nI_eq, nI_leI, nI_ltI, nI_clamp, ck_in, ck_nz, bind_sm, upM_n, upM_m, upM_s, if_pos, if_neg, lp]
theorem cnt_le {we : Nat → Nat} (a : Nat) : ∀ i, cnt we a i ≤ i := by
  intro i
  induction i with
  | zero => exact Nat.le_refl 0
  | succ i ih =>
    rw [cnt_s]
    split <;> omega
theorem m_worn {a n : Nat} {we : Nat → Nat} {M : Mem} (hn : M 49 9 = nI n) (hn8 : n ≤ 8) (ha : a < 100) (hwe : ∀ p, we p < 8) (hv : ∀ p, p < n → M 61 p = nI (we p)) : f_X6_isWorn (nI a) M = some (if cnt we a n = 0 then nI 0 else nI 1) := by
  unfold f_X6_isWorn
  have lp : loop (fun s1 : Int32 × Int32 => f_X6_isWorn_4_4b (nI a) s1.1 s1.2 M) (nI 0, nI 0) = some ((if cnt we a n = 0 then nI 0 else nI 1), nI n) := by
    refine loop_for (B := fun s1 : Int32 × Int32 => f_X6_isWorn_4_4b (nI a) s1.1 s1.2 M) (fun i => ((if cnt we a i = 0 then nI 0 else nI 1), nI i)) n
      (by
        intro i hi
        dsimp only
        have e := hv i hi
        have o := hwe i
        unfold f_X6_isWorn_4_4b f_X6_isWorn_26_4 f_X6_isWorn_31_4
        rw [cnt_s]
        by_cases q1 : cnt we a i = 0
        · by_cases q2 : we i = a
          · simp (disch := omega) only [li_0, li_1, li_2, li_3, li_4, li_5, li_6, li_7, li_8, li_9, li_10, li_11, li_12, li_14, li_15, li_16, li_18, li_20, li_22, li_23, li_24, li_29, li_30, li_31, li_32, li_33, li_40, li_48, li_54, li_55, li_56, li_57, li_59, li_60, li_63, li_64, li_97, li_98, li_99, li_100, li_103, li_107, li_108, li_112, li_121, li_206, li_212, li_232, li_240, li_255, li_256, li_261, li_270, ng_1, ng_2, ng_3, ng_4, ng_9, ng_10, m1_1, nI_m1, m1_nI, if_true, if_false, nI_add, pk_mul, pk_sub, nI_div, nI_rem, nI_eq, nI_leI, nI_ltI, nI_clamp, ck_in, ck_nz, bind_sm, upM_n, upM_m, upM_s, if_pos, if_neg, hn, e]
          · simp (disch := omega) only [li_0, li_1, li_2, li_3, li_4, li_5, li_6, li_7, li_8, li_9, li_10, li_11, li_12, li_14, li_15, li_16, li_18, li_20, li_22, li_23, li_24, li_29, li_30, li_31, li_32, li_33, li_40, li_48, li_54, li_55, li_56, li_57, li_59, li_60, li_63, li_64, li_97, li_98, li_99, li_100, li_103, li_107, li_108, li_112, li_121, li_206, li_212, li_232, li_240, li_255, li_256, li_261, li_270, ng_1, ng_2, ng_3, ng_4, ng_9, ng_10, m1_1, nI_m1, m1_nI, if_true, if_false, nI_add, pk_mul, pk_sub, nI_div, nI_rem, nI_eq, nI_leI, nI_ltI, nI_clamp, ck_in, ck_nz, bind_sm, upM_n, upM_m, upM_s, if_pos, if_neg, hn, e]
        · by_cases q2 : we i = a
          · simp (disch := omega) only [li_0, li_1, li_2, li_3, li_4, li_5, li_6, li_7, li_8, li_9, li_10, li_11, li_12, li_14, li_15, li_16, li_18, li_20, li_22, li_23, li_24, li_29, li_30, li_31, li_32, li_33, li_40, li_48, li_54, li_55, li_56, li_57, li_59, li_60, li_63, li_64, li_97, li_98, li_99, li_100, li_103, li_107, li_108, li_112, li_121, li_206, li_212, li_232, li_240, li_255, li_256, li_261, li_270, ng_1, ng_2, ng_3, ng_4, ng_9, ng_10, m1_1, nI_m1, m1_nI, if_true, if_false, nI_add, pk_mul, pk_sub, nI_div, nI_rem, nI_eq, nI_leI, nI_ltI, nI_clamp, ck_in, ck_nz, bind_sm, upM_n, upM_m, upM_s, if_pos, if_neg, hn]
          · simp (disch := omega) only [li_0, li_1, li_2, li_3, li_4, li_5, li_6, li_7, li_8, li_9, li_10, li_11, li_12, li_14, li_15, li_16, li_18, li_20, li_22, li_23, li_24, li_29, li_30, li_31, li_32, li_33, li_40, li_48, li_54, li_55, li_56, li_57, li_59, li_60, li_63, li_64, li_97, li_98, li_99, li_100, li_103, li_107, li_108, li_112, li_121, li_206, li_212, li_232, li_240, li_255, li_256, li_261, li_270, ng_1, ng_2, ng_3, ng_4, ng_9, ng_10, m1_1, nI_m1, m1_nI, if_true, if_false, nI_add, pk_mul, pk_sub, nI_div, nI_rem, nI_eq, nI_leI, nI_ltI, nI_clamp, ck_in, ck_nz, bind_sm, upM_n, upM_m, upM_s, if_pos, if_neg, hn])
      (by
        dsimp only
        unfold f_X6_isWorn_4_4b
        simp (disch := omega) only [li_0, li_1, li_2, li_3, li_4, li_5, li_6, li_7, li_8, li_9, li_10, li_11, li_12, li_14, li_15, li_16, li_18, li_20, li_22, li_23, li_24, li_29, li_30, li_31, li_32, li_33, li_40, li_48, li_54, li_55, li_56, li_57, li_59, li_60, li_63, li_64, li_97, li_98, li_99, li_100, li_103, li_107, li_108, li_112, li_121, li_206, li_212, li_232, li_240, li_255, li_256, li_261, li_270, ng_1, ng_2, ng_3, ng_4, ng_9, ng_10, m1_1, nI_m1, m1_nI, if_true, if_false, nI_add, pk_mul, pk_sub, nI_div, nI_rem, nI_eq, nI_leI, nI_ltI, nI_clamp, ck_in, ck_nz, bind_sm, upM_n, upM_m, upM_s, if_pos, if_neg, hn])
  simp only [li_0, li_1, li_2, li_3, li_4, li_5, li_6, li_7, li_8, li_9, li_10, li_11, li_12, li_14, li_15, li_16, li_18, li_20, li_22, li_23, li_24, li_29, li_30, li_31, li_32, li_33, li_40, li_48, li_54, li_55, li_56, li_57, li_59, li_60, li_63, li_64, li_97, li_98, li_99, li_100, li_103, li_107, li_108, li_112, li_121, li_206, li_212, li_232, li_240, li_255, li_256, li_261, li_270, ng_1, ng_2, ng_3, ng_4, ng_9, ng_10, m1_1, nI_m1, m1_nI, if_true, if_false, nI_add, pk_mul, pk_sub, nI_div, nI_rem, nI_eq, nI_leI, nI_ltI, nI_clamp, ck_in, ck_nz, bind_sm, upM_n, upM_m, upM_s, if_pos, if_neg, lp]
  split
  · exact ck_b0
  · exact ck_b1
