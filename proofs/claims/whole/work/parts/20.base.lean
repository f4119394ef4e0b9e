-- GROUND ROWS for the functions
theorem li_0 : (0 : Int32) = nI 0 := rfl
theorem li_1 : (1 : Int32) = nI 1 := rfl
theorem li_2 : (2 : Int32) = nI 2 := rfl
theorem li_3 : (3 : Int32) = nI 3 := rfl
theorem li_4 : (4 : Int32) = nI 4 := rfl
theorem li_5 : (5 : Int32) = nI 5 := rfl
theorem li_6 : (6 : Int32) = nI 6 := rfl
theorem li_7 : (7 : Int32) = nI 7 := rfl
theorem li_8 : (8 : Int32) = nI 8 := rfl
theorem li_9 : (9 : Int32) = nI 9 := rfl
theorem li_10 : (10 : Int32) = nI 10 := rfl
theorem li_11 : (11 : Int32) = nI 11 := rfl
theorem li_12 : (12 : Int32) = nI 12 := rfl
theorem li_14 : (14 : Int32) = nI 14 := rfl
theorem li_15 : (15 : Int32) = nI 15 := rfl
theorem li_16 : (16 : Int32) = nI 16 := rfl
theorem li_18 : (18 : Int32) = nI 18 := rfl
theorem li_20 : (20 : Int32) = nI 20 := rfl
theorem li_22 : (22 : Int32) = nI 22 := rfl
theorem li_23 : (23 : Int32) = nI 23 := rfl
theorem li_24 : (24 : Int32) = nI 24 := rfl
theorem li_29 : (29 : Int32) = nI 29 := rfl
theorem li_30 : (30 : Int32) = nI 30 := rfl
theorem li_31 : (31 : Int32) = nI 31 := rfl
theorem li_32 : (32 : Int32) = nI 32 := rfl
theorem li_33 : (33 : Int32) = nI 33 := rfl
theorem li_40 : (40 : Int32) = nI 40 := rfl
theorem li_48 : (48 : Int32) = nI 48 := rfl
theorem li_54 : (54 : Int32) = nI 54 := rfl
theorem li_55 : (55 : Int32) = nI 55 := rfl
theorem li_56 : (56 : Int32) = nI 56 := rfl
theorem li_57 : (57 : Int32) = nI 57 := rfl
theorem li_59 : (59 : Int32) = nI 59 := rfl
theorem li_60 : (60 : Int32) = nI 60 := rfl
theorem li_63 : (63 : Int32) = nI 63 := rfl
theorem li_64 : (64 : Int32) = nI 64 := rfl
theorem li_97 : (97 : Int32) = nI 97 := rfl
theorem li_98 : (98 : Int32) = nI 98 := rfl
theorem li_99 : (99 : Int32) = nI 99 := rfl
theorem li_100 : (100 : Int32) = nI 100 := rfl
theorem li_103 : (103 : Int32) = nI 103 := rfl
theorem li_107 : (107 : Int32) = nI 107 := rfl
theorem li_108 : (108 : Int32) = nI 108 := rfl
theorem li_112 : (112 : Int32) = nI 112 := rfl
theorem li_121 : (121 : Int32) = nI 121 := rfl
theorem li_206 : (206 : Int32) = nI 206 := rfl
theorem li_212 : (212 : Int32) = nI 212 := rfl
theorem li_232 : (232 : Int32) = nI 232 := rfl
theorem li_240 : (240 : Int32) = nI 240 := rfl
theorem li_255 : (255 : Int32) = nI 255 := rfl
theorem li_256 : (256 : Int32) = nI 256 := rfl
theorem li_261 : (261 : Int32) = nI 261 := rfl
theorem li_270 : (270 : Int32) = nI 270 := rfl
theorem rf_0_0 : rf 0 0 = 1 := rfl
theorem rf_0_1 : rf 0 1 = 3 := rfl
theorem rf_0_2 : rf 0 2 = 5 := rfl
theorem rf_0_3 : rf 0 3 = 13 := rfl
theorem rf_0_4 : rf 0 4 = 21 := rfl
theorem rf_0_5 : rf 0 5 = 26 := rfl
theorem rf_0_6 : rf 0 6 = 31 := rfl
theorem rf_0_7 : rf 0 7 = 36 := rfl
theorem rf_0_8 : rf 0 8 = 45 := rfl
theorem rf_0_10 : rf 0 10 = 46 := rfl
theorem rf_0_11 : rf 0 11 = 47 := rfl
theorem rf_0_12 : rf 0 12 = 48 := rfl
theorem rf_1_0 : rf 1 0 = 2 := rfl
theorem rf_1_1 : rf 1 1 = 71 := rfl
theorem rf_3_0 : rf 3 0 = 4 := rfl
theorem rf_3_1 : rf 3 1 = 72 := rfl
theorem rf_5_1 : rf 5 1 = 6 := rfl
theorem rf_5_2 : rf 5 2 = 7 := rfl
theorem rf_5_4 : rf 5 4 = 8 := rfl
theorem rf_5_5 : rf 5 5 = 9 := rfl
theorem rf_5_7 : rf 5 7 = 10 := rfl
theorem rf_5_8 : rf 5 8 = 11 := rfl
theorem rf_5_9 : rf 5 9 = 12 := rfl
theorem rf_13_1 : rf 13 1 = 14 := rfl
theorem rf_13_2 : rf 13 2 = 15 := rfl
theorem rf_13_4 : rf 13 4 = 16 := rfl
theorem rf_13_5 : rf 13 5 = 17 := rfl
theorem rf_13_7 : rf 13 7 = 18 := rfl
theorem rf_13_8 : rf 13 8 = 19 := rfl
theorem rf_13_9 : rf 13 9 = 20 := rfl
theorem rf_21_0 : rf 21 0 = 5 := rfl
theorem rf_21_2 : rf 21 2 = 22 := rfl
theorem rf_21_3 : rf 21 3 = 23 := rfl
theorem rf_21_4 : rf 21 4 = 24 := rfl
theorem rf_21_5 : rf 21 5 = 25 := rfl
theorem rf_26_0 : rf 26 0 = 13 := rfl
theorem rf_26_2 : rf 26 2 = 27 := rfl
theorem rf_26_3 : rf 26 3 = 28 := rfl
theorem rf_26_4 : rf 26 4 = 29 := rfl
theorem rf_26_5 : rf 26 5 = 30 := rfl
theorem rf_31_1 : rf 31 1 = 32 := rfl
theorem rf_31_2 : rf 31 2 = 33 := rfl
theorem rf_31_3 : rf 31 3 = 34 := rfl
theorem rf_31_4 : rf 31 4 = 35 := rfl
theorem rf_36_0 : rf 36 0 = 37 := rfl
theorem rf_36_1 : rf 36 1 = 39 := rfl
theorem rf_36_2 : rf 36 2 = 41 := rfl
theorem rf_36_3 : rf 36 3 = 43 := rfl
theorem rf_37_2 : rf 37 2 = 38 := rfl
theorem rf_39_2 : rf 39 2 = 40 := rfl
theorem rf_41_2 : rf 41 2 = 42 := rfl
theorem rf_43_2 : rf 43 2 = 44 := rfl
theorem rf_49_0 : rf 49 0 = 50 := rfl
theorem rf_49_1 : rf 49 1 = 51 := rfl
theorem rf_49_2 : rf 49 2 = 52 := rfl
theorem rf_49_3 : rf 49 3 = 53 := rfl
theorem rf_49_5 : rf 49 5 = 54 := rfl
theorem rf_49_6 : rf 49 6 = 55 := rfl
theorem rf_49_8 : rf 49 8 = 56 := rfl
theorem rf_49_10 : rf 49 10 = 57 := rfl
theorem rf_49_12 : rf 49 12 = 58 := rfl
theorem rf_49_17 : rf 49 17 = 59 := rfl
theorem rf_49_18 : rf 49 18 = 60 := rfl
theorem rf_49_19 : rf 49 19 = 61 := rfl
theorem rf_49_20 : rf 49 20 = 62 := rfl
theorem rf_49_21 : rf 49 21 = 63 := rfl
theorem rf_49_22 : rf 49 22 = 64 := rfl
theorem rf_49_23 : rf 49 23 = 65 := rfl
theorem rf_49_24 : rf 49 24 = 66 := rfl
theorem rf_49_25 : rf 49 25 = 67 := rfl
theorem rf_49_27 : rf 49 27 = 68 := rfl
theorem rf_49_28 : rf 49 28 = 69 := rfl
theorem rf_49_30 : rf 49 30 = 70 := rfl
def m1 : Int32 := -1
def m2 : Int32 := -2
def m3 : Int32 := -3
def m4 : Int32 := -4
def m9 : Int32 := -9
def m10 : Int32 := -10
theorem ng_1 : -nI 1 = m1 := rfl
theorem ng_2 : -nI 2 = m2 := rfl
theorem ng_3 : -nI 3 = m3 := rfl
theorem ng_4 : -nI 4 = m4 := rfl
theorem ng_9 : -nI 9 = m9 := rfl
theorem ng_10 : -nI 10 = m10 := rfl
theorem m1_1 : m1 + nI 1 = nI 0 := rfl
theorem nI_pred' {n : Nat} : nI (n + 1) - nI 1 = nI n := nI_pred n
theorem nI_div {a d : Nat} (ha : a < 2147483648) (h0 : 0 < d) (hd : d < 2147483648) : nI a / nI d = nI (a / d) := pk_div ha h0 hd
theorem nI_rem {a d : Nat} (ha : a < 2147483648) (h0 : 0 < d) (hd : d < 2147483648) : remI (nI a) (nI d) = nI (a % d) := pk_rem ha h0 hd
theorem ck_in {α : Type} {k n : Nat} {t : Option α} (h : k < n) (hn : n < 2147483648) : ck (inb (nI k) n) t = t := by
  have h1 : inb (nI k) n = true := decide_eq_true (nI_in h hn)
  simp [ck, h1]
theorem ck_nz {α : Type} {k : Nat} {t : Option α} (h : 0 < k) (hn : k < 2147483648) : ck (nzI (nI k)) t = t := by
  have h1 : nzI (nI k) = true := decide_eq_true (nI_ne0 h hn)
  simp [ck, h1]
theorem bind_sm {α β : Type} {a : α} {f : α → Option β} : Option.bind (some a) f = f a := rfl
theorem upM_n {M : Mem} {k i a : Nat} {x : Int32} (h : a ≠ k) : upM M k i x a = M a := by simp [upM, h]
theorem upM_m {M : Mem} {k i b : Nat} {x : Int32} (h : b ≠ i) : upM M k i x k b = M k b := by simp [upM, upd, h]
theorem upM_s {M : Mem} {k i : Nat} {x : Int32} : upM M k i x k i = x := by simp [upM, upd]
/-- a loop that counts: its states one by one -/
theorem loop_for {S E : Type} {B : S → Option (S ⊕ E)} (st : Nat → S) (n : Nat) {e : E} (hs : ∀ i, i < n → B (st i) = some (.inl (st (i + 1)))) (he : B (st n) = some (.inr e)) : loop B (st 0) = some e := by
  have key : ∀ m i, i + m = n → loop B (st i) = some e := by
    intro m
    induction m with
    | zero => intro i hi; rw [loop_eq, show i = n by omega, he]
    | succ m ih => intro i hi; rw [loop_eq, hs i (by omega)]; exact ih (i + 1) (by omega)
  exact key n 0 (by omega)
theorem loop_inv {S E : Type} {B : S → Option (S ⊕ E)} (I : Nat → S → Prop) (Q : E → Prop) (n : Nat) {s : S} (h0 : I 0 s) (hs : ∀ i s, i < n → I i s → ∃ s', B s = some (.inl s') ∧ I (i + 1) s') (he : ∀ s, I n s → ∃ e, B s = some (.inr e) ∧ Q e) : ∃ e, loop B s = some e ∧ Q e := by
  have key : ∀ m i s, i + m = n → I i s → ∃ e, loop B s = some e ∧ Q e := by
    intro m
    induction m with
    | zero =>
      intro i s hi h
      rw [show i = n by omega] at h
      obtain ⟨e, h1, h2⟩ := he s h
      exact ⟨e, by rw [loop_eq, h1], h2⟩
    | succ m ih =>
      intro i s hi h
      obtain ⟨s', h1, h2⟩ := hs i s (by omega) h
      obtain ⟨e, h3, h4⟩ := ih (i + 1) s' (by omega) h2
      exact ⟨e, by rw [loop_eq, h1]; exact h3, h4⟩
  exact key n 0 s (by omega) h0
/-- small numbers and nothing -/
def oi : Option Nat → Int32
  | none => m1
  | some b => nI b
theorem oi_s {b : Nat} : oi (some b) = nI b := rfl
theorem oi_n : oi none = m1 := rfl
theorem of_eq_true' {p : Prop} (h : p = False) (x : p) : False := h ▸ x
theorem nI_m1 {b : Nat} (h : b < 2147483648) : (nI b = m1) = False := by
  refine eq_false fun e => ?_
  have h1 := congrArg Int32.toInt e
  rw [nI_toInt h] at h1
  have : m1.toInt = -1 := by decide
  omega
theorem m1_nI {b : Nat} (h : b < 2147483648) : (m1 = nI b) = False := eq_false fun e => of_eq_true' (nI_m1 h) e.symm
def dist (a b : Nat) : Nat := (a - b) + (b - a)
theorem abs_nI : ∀ a b : Nat, a < 10 → b < 10 → absI (nI a - nI b) = nI (dist a b) := by
  have h : ∀ a, a < 10 → ∀ b, b < 10 → absI (nI a - nI b) = nI (dist a b) := by decide +kernel
  exact fun a b ha hb => h a ha b hb
theorem dist_lt {a b : Nat} (ha : a < 10) (hb : b < 10) : dist a b < 10 := by unfold dist; omega
theorem dist_comm (a b : Nat) : dist a b = dist b a := by unfold dist; omega
def tw (a b c : Nat) : Nat := if a < b then (if a + c < b then a + c else b) else (if b + c < a then a - c else b)
theorem tw_lt {a b c : Nat} (ha : a < 10) (hb : b < 10) : tw a b c < 10 := by
  unfold tw
  split <;> split <;> omega
theorem c_towards : ∀ {a b c : Nat}, a < 10 → b < 10 → c < 3 → f_X4_towards (nI a) (nI b) (nI c) = some (nI (tw a b c)) := by
  have h : ∀ a, a < 10 → ∀ b, b < 10 → ∀ c, c < 3 → f_X4_towards (nI a) (nI b) (nI c) = some (nI (tw a b c)) := by
    intro a ha b hb c hc
    unfold f_X4_towards tw
    by_cases h1 : b ≤ a
    · simp (disch := omega) only [li_0, li_1, li_2, li_3, li_4, li_5, li_6, li_7, li_8, li_9, li_10, li_11, li_12, li_14, li_15, li_16, li_18, li_20, li_22, li_23, li_24, li_29, li_30, li_31, li_32, li_33, li_40, li_48, li_54, li_55, li_56, li_57, li_59, li_60, li_63, li_64, li_97, li_98, li_99, li_100, li_103, li_107, li_108, li_112, li_121, li_206, li_212, li_232, li_240, li_255, li_256, li_261, li_270, ng_1, ng_2, ng_3, ng_4, ng_9, ng_10, m1_1, nI_m1, m1_nI, if_true, if_false, nI_add, pk_mul, pk_sub, nI_div, nI_rem, nI_eq, nI_leI, nI_ltI, nI_clamp, ck_in, ck_nz, bind_sm, upM_n, upM_m, upM_s, if_pos, if_neg]
      by_cases h2 : a - b ≤ c
      · simp (disch := omega) only [li_0, li_1, li_2, li_3, li_4, li_5, li_6, li_7, li_8, li_9, li_10, li_11, li_12, li_14, li_15, li_16, li_18, li_20, li_22, li_23, li_24, li_29, li_30, li_31, li_32, li_33, li_40, li_48, li_54, li_55, li_56, li_57, li_59, li_60, li_63, li_64, li_97, li_98, li_99, li_100, li_103, li_107, li_108, li_112, li_121, li_206, li_212, li_232, li_240, li_255, li_256, li_261, li_270, ng_1, ng_2, ng_3, ng_4, ng_9, ng_10, m1_1, nI_m1, m1_nI, if_true, if_false, nI_add, pk_mul, pk_sub, nI_div, nI_rem, nI_eq, nI_leI, nI_ltI, nI_clamp, ck_in, ck_nz, bind_sm, upM_n, upM_m, upM_s, if_pos, if_neg]
      · simp (disch := omega) only [li_0, li_1, li_2, li_3, li_4, li_5, li_6, li_7, li_8, li_9, li_10, li_11, li_12, li_14, li_15, li_16, li_18, li_20, li_22, li_23, li_24, li_29, li_30, li_31, li_32, li_33, li_40, li_48, li_54, li_55, li_56, li_57, li_59, li_60, li_63, li_64, li_97, li_98, li_99, li_100, li_103, li_107, li_108, li_112, li_121, li_206, li_212, li_232, li_240, li_255, li_256, li_261, li_270, ng_1, ng_2, ng_3, ng_4, ng_9, ng_10, m1_1, nI_m1, m1_nI, if_true, if_false, nI_add, pk_mul, pk_sub, nI_div, nI_rem, nI_eq, nI_leI, nI_ltI, nI_clamp, ck_in, ck_nz, bind_sm, upM_n, upM_m, upM_s, if_pos, if_neg]
    · simp (disch := omega) only [li_0, li_1, li_2, li_3, li_4, li_5, li_6, li_7, li_8, li_9, li_10, li_11, li_12, li_14, li_15, li_16, li_18, li_20, li_22, li_23, li_24, li_29, li_30, li_31, li_32, li_33, li_40, li_48, li_54, li_55, li_56, li_57, li_59, li_60, li_63, li_64, li_97, li_98, li_99, li_100, li_103, li_107, li_108, li_112, li_121, li_206, li_212, li_232, li_240, li_255, li_256, li_261, li_270, ng_1, ng_2, ng_3, ng_4, ng_9, ng_10, m1_1, nI_m1, m1_nI, if_true, if_false, nI_add, pk_mul, pk_sub, nI_div, nI_rem, nI_eq, nI_leI, nI_ltI, nI_clamp, ck_in, ck_nz, bind_sm, upM_n, upM_m, upM_s, if_pos, if_neg]
      by_cases h2 : b - a ≤ c
      · simp (disch := omega) only [li_0, li_1, li_2, li_3, li_4, li_5, li_6, li_7, li_8, li_9, li_10, li_11, li_12, li_14, li_15, li_16, li_18, li_20, li_22, li_23, li_24, li_29, li_30, li_31, li_32, li_33, li_40, li_48, li_54, li_55, li_56, li_57, li_59, li_60, li_63, li_64, li_97, li_98, li_99, li_100, li_103, li_107, li_108, li_112, li_121, li_206, li_212, li_232, li_240, li_255, li_256, li_261, li_270, ng_1, ng_2, ng_3, ng_4, ng_9, ng_10, m1_1, nI_m1, m1_nI, if_true, if_false, nI_add, pk_mul, pk_sub, nI_div, nI_rem, nI_eq, nI_leI, nI_ltI, nI_clamp, ck_in, ck_nz, bind_sm, upM_n, upM_m, upM_s, if_pos, if_neg]
      · simp (disch := omega) only [li_0, li_1, li_2, li_3, li_4, li_5, li_6, li_7, li_8, li_9, li_10, li_11, li_12, li_14, li_15, li_16, li_18, li_20, li_22, li_23, li_24, li_29, li_30, li_31, li_32, li_33, li_40, li_48, li_54, li_55, li_56, li_57, li_59, li_60, li_63, li_64, li_97, li_98, li_99, li_100, li_103, li_107, li_108, li_112, li_121, li_206, li_212, li_232, li_240, li_255, li_256, li_261, li_270, ng_1, ng_2, ng_3, ng_4, ng_9, ng_10, m1_1, nI_m1, m1_nI, if_true, if_false, nI_add, pk_mul, pk_sub, nI_div, nI_rem, nI_eq, nI_leI, nI_ltI, nI_clamp, ck_in, ck_nz, bind_sm, upM_n, upM_m, upM_s, if_pos, if_neg]
  exact fun {a b c} ha hb hc => h a ha b hb c hc
/-- how far: the sum over the first n sounds -/
def farN (u v : Nat → Nat) : Nat → Nat
  | 0 => 0
  | n + 1 => farN u v n + dist (u n) (v n)
theorem farN_le {u v : Nat → Nat} (hu : ∀ s, u s < 10) (hv : ∀ s, v s < 10) : ∀ n, farN u v n ≤ 9 * n := by
  intro n
  induction n with
  | zero => exact Nat.le_refl 0
  | succ n ih =>
    have := dist_lt (hu n) (hv n)
    unfold farN
    omega
theorem c_far {w p a : Nat} {M : Mem} {mk sp : Nat → Nat → Nat} (e2 : rf w 2 = w + 1) (e3 : rf w 3 = w + 2) (hp : p < 8) (ha : a < 8) (hmk : ∀ a s, mk a s < 10) (hsp : ∀ p s, sp p s < 10) (h1 : ∀ s, s < 5 → M (w + 2) (p * 5 + s) = nI (sp p s)) (h2 : ∀ s, s < 5 → M (w + 1) (a * 5 + s) = nI (mk a s)) : f_X4_far w (nI p) (nI a) M = some (nI (farN (sp p) (mk a) 5)) := by
  unfold f_X4_far
  have hb := farN_le (hsp p) (hmk a)
  rw [show ((0 : Int32), (0 : Int32)) = (fun i => (nI (farN (sp p) (mk a) i), nI i)) 0 from rfl, loop_for (fun i => (nI (farN (sp p) (mk a) i), nI i)) 5 (e := (nI (farN (sp p) (mk a) 5), nI 5))]
  · rfl
  · intro i hi
    have hbi := hb i
    unfold f_X4_far_5_5b
    simp (disch := omega) only [li_0, li_1, li_2, li_3, li_4, li_5, li_6, li_7, li_8, li_9, li_10, li_11, li_12, li_14, li_15, li_16, li_18, li_20, li_22, li_23, li_24, li_29, li_30, li_31, li_32, li_33, li_40, li_48, li_54, li_55, li_56, li_57, li_59, li_60, li_63, li_64, li_97, li_98, li_99, li_100, li_103, li_107, li_108, li_112, li_121, li_206, li_212, li_232, li_240, li_255, li_256, li_261, li_270, ng_1, ng_2, ng_3, ng_4, ng_9, ng_10, m1_1, nI_m1, m1_nI, if_true, if_false, nI_add, pk_mul, pk_sub, nI_div, nI_rem, nI_eq, nI_leI, nI_ltI, nI_clamp, ck_in, ck_nz, bind_sm, upM_n, upM_m, upM_s, if_pos, if_neg, e2, e3, h1 i hi, h2 i hi, abs_nI _ _ (hsp p i) (hmk a i)]
    rfl
  · unfold f_X4_far_5_5b
    simp (disch := omega) only [li_0, li_1, li_2, li_3, li_4, li_5, li_6, li_7, li_8, li_9, li_10, li_11, li_12, li_14, li_15, li_16, li_18, li_20, li_22, li_23, li_24, li_29, li_30, li_31, li_32, li_33, li_40, li_48, li_54, li_55, li_56, li_57, li_59, li_60, li_63, li_64, li_97, li_98, li_99, li_100, li_103, li_107, li_108, li_112, li_121, li_206, li_212, li_232, li_240, li_255, li_256, li_261, li_270, ng_1, ng_2, ng_3, ng_4, ng_9, ng_10, m1_1, nI_m1, m1_nI, if_true, if_false, nI_add, pk_mul, pk_sub, nI_div, nI_rem, nI_eq, nI_leI, nI_ltI, nI_clamp, ck_in, ck_nz, bind_sm, upM_n, upM_m, upM_s, if_pos, if_neg]
