-- HIRINGS BY CHANCE: the numbers
def nZ (n : Nat) : Int64 := Int64.ofNat n
theorem nZ_toInt {n : Nat} (h : n < 2 ^ 63) : (nZ n).toInt = n := lg_ofNat_toInt h
theorem nZ_add {a b : Nat} : nZ a + nZ b = nZ (a + b) := (Int64.ofNat_add a b).symm
theorem nZ_mul {a b : Nat} : nZ a * nZ b = nZ (a * b) := (Int64.ofNat_mul a b).symm
theorem nZ_sub {a b : Nat} (h : b ≤ a) : nZ a - nZ b = nZ (a - b) := by
  have : nZ a = nZ (a - b) + nZ b := by rw [nZ_add, Nat.sub_add_cancel h]
  rw [this, Int64.add_sub_cancel]
theorem nZ_div {a b : Nat} (ha : a < 2 ^ 63) (h0 : 0 < b) (hb : b < 2 ^ 63) : nZ a / nZ b = nZ (a / b) := by
  apply Int64.toInt_inj.mp
  rw [lg_ldiv_nonneg (by rw [nZ_toInt ha]; omega) (by rw [nZ_toInt hb]; omega), nZ_toInt ha, nZ_toInt hb, nZ_toInt (Nat.lt_of_le_of_lt (Nat.div_le_self a b) ha)]
  first | rfl | exact (Int.natCast_ediv _ _).symm
theorem nZ_rem {a b : Nat} (ha : a < 2 ^ 63) (h0 : 0 < b) (hb : b < 2 ^ 63) : remL (nZ a) (nZ b) = nZ (a % b) := by
  unfold remL
  rw [nZ_div ha h0 hb, nZ_mul, nZ_sub (Nat.div_mul_le_self a b)]
  exact congrArg nZ (by have := Nat.div_add_mod' a b; omega)
theorem nZ_eq {a b : Nat} (ha : a < 2 ^ 63) (hb : b < 2 ^ 63) : nZ a = nZ b ↔ a = b := by
  constructor
  · intro h
    have := congrArg Int64.toInt h
    rw [nZ_toInt ha, nZ_toInt hb] at this
    omega
  · intro h; rw [h]
theorem nI_64 {a : Nat} (h : a < 2147483648) : (nI a).toInt64 = nZ a := by
  apply Int64.toInt_inj.mp
  rw [Int32.toInt_toInt64, nI_toInt h, nZ_toInt (by omega)]
theorem lg_eq0 {x y : Int64} : (lg_cmp x y = 0) = (x = y) := by
  unfold lg_cmp
  by_cases h : x > y
  · rw [if_pos h]
    refine propext ⟨fun r => absurd r (by decide), fun r => ?_⟩
    subst r
    exact absurd h (by rw [gt_iff_lt, Int64.lt_iff_toInt_lt]; omega)
  · rw [if_neg h]
    by_cases h2 : x = y
    · rw [if_pos h2]; simp [h2]
    · rw [if_neg h2]
      refine propext ⟨fun r => absurd r (by decide), fun r => absurd r h2⟩
theorem ck_nzL {α : Type} {k : Nat} {t : Option α} (h : 0 < k) (hn : k < 2 ^ 63) : ck (nzL (nZ k)) t = t := by
  have h1 : nzL (nZ k) = true := decide_eq_true (fun r => by
    have := (nZ_eq (b := 0) hn (by decide)).mp r
    omega)
  simp [ck, h1]
theorem shlL_4 : ∀ n, n < 9 → shlL (1 : Int64) (nI (4 * n)) = nZ (2 ^ (4 * n)) := by decide +kernel
theorem lz_0 : (0 : Int64) = nZ 0 := rfl
theorem lz_1 : (1 : Int64) = nZ 1 := rfl
theorem lz_2 : (2 : Int64) = nZ 2 := rfl
/-- how likely it is that just those come -/
def wt (x sub : Nat) : Nat → Nat
  | 0 => 1
  | i + 1 => wt x sub i * (if sub.testBit i = true then x else 16 - x)
theorem wt_le {x sub : Nat} (h : x ≤ 16) : ∀ i, wt x sub i ≤ 16 ^ i := by
  intro i
  induction i with
  | zero => exact Nat.le_refl 1
  | succ i ih =>
    show wt x sub i * _ ≤ 16 ^ i * 16
    refine Nat.mul_le_mul ih ?_
    split <;> omega
theorem cs_bd {f : Nat → Nat} {b : Nat} (h : ∀ i, f i ≤ b) : ∀ n, cs f n ≤ n * b := by
  intro n
  induction n with
  | zero => exact Nat.zero_le _
  | succ n ih =>
    rw [cs_s, Nat.succ_mul]
    have := h n
    omega
theorem cs_front {f : Nat → Nat} : ∀ n, cs f (n + 1) = f 0 + cs (fun i => f (i + 1)) n := by
  intro n
  induction n with
  | zero => show 0 + f 0 = f 0 + 0; omega
  | succ n ih => rw [cs_s, ih, cs_s]; omega
theorem cs_rev : ∀ (n : Nat) (f : Nat → Nat), cs (fun i => f (n - (i + 1))) n = cs f n := by
  intro n
  induction n with
  | zero => intro f; rfl
  | succ n ih =>
    intro f
    rw [cs_s, cs_front (f := f), ← ih (fun i => f (i + 1)), Nat.sub_self, Nat.add_comm]
    congr 1
    refine cs_congr fun i hi => ?_
    rw [show n + 1 - (i + 1) = n - (i + 1) + 1 by omega]
theorem c_weight {M : Mem} {x sub n : Nat} (h6 : M 5 6 = nI n) (hn : n ≤ 8) (hx : x ≤ 16) (hs : sub < 256) : f_X5_weight (nI x) (nI sub) M = some (nZ (wt x sub n)) := by
  have lp := loop_for (B := fun s1 : Int64 × Int32 => f_X5_weight_5_5b (nI x) (nI sub) s1.1 s1.2 M) (fun i => (nZ (wt x sub i), nI i)) n (e := (nZ (wt x sub n), nI n))
    (by
      intro i hi
      dsimp only
      have b0 := bit_0 hs (show i < 9 by omega)
      have w1 : wt x sub (i + 1) = wt x sub i * (if sub.testBit i = true then x else 16 - x) := rfl
      unfold f_X5_weight_5_5b f_X5_weight_37_5
      cases q : sub.testBit i with
      | true =>
        rw [q, if_pos rfl] at w1
        rw [q] at b0
        rw [w1, ← nZ_mul]
        simp (disch := omega) only [li_0, li_1, li_2, li_3, li_4, li_5, li_6, li_7, li_8, li_9, li_10, li_11, li_12, li_14, li_15, li_16, li_18, li_20, li_22, li_23, li_24, li_29, li_30, li_31, li_32, li_33, li_40, li_48, li_54, li_55, li_56, li_57, li_59, li_60, li_63, li_64, li_97, li_98, li_99, li_100, li_103, li_107, li_108, li_112, li_121, li_206, li_212, li_232, li_240, li_255, li_256, li_261, li_270, ng_1, ng_2, ng_3, ng_4, ng_9, ng_10, m1_1, nI_m1, m1_nI, if_true, if_false, nI_add, pk_mul, pk_sub, nI_div, nI_rem, nI_eq, nI_leI, nI_ltI, nI_clamp, ck_in, ck_nz, bind_sm, upM_n, upM_m, upM_s, if_pos, if_neg, h6, b0, Bool.true_eq_false, nI_64]
      | false =>
        rw [q, if_neg (by decide)] at w1
        rw [q] at b0
        rw [w1, ← nZ_mul]
        simp (disch := omega) only [li_0, li_1, li_2, li_3, li_4, li_5, li_6, li_7, li_8, li_9, li_10, li_11, li_12, li_14, li_15, li_16, li_18, li_20, li_22, li_23, li_24, li_29, li_30, li_31, li_32, li_33, li_40, li_48, li_54, li_55, li_56, li_57, li_59, li_60, li_63, li_64, li_97, li_98, li_99, li_100, li_103, li_107, li_108, li_112, li_121, li_206, li_212, li_232, li_240, li_255, li_256, li_261, li_270, ng_1, ng_2, ng_3, ng_4, ng_9, ng_10, m1_1, nI_m1, m1_nI, if_true, if_false, nI_add, pk_mul, pk_sub, nI_div, nI_rem, nI_eq, nI_leI, nI_ltI, nI_clamp, ck_in, ck_nz, bind_sm, upM_n, upM_m, upM_s, if_pos, if_neg, h6, b0, nI_64])
    (by
      dsimp only
      unfold f_X5_weight_5_5b
      simp (disch := omega) only [li_0, li_1, li_2, li_3, li_4, li_5, li_6, li_7, li_8, li_9, li_10, li_11, li_12, li_14, li_15, li_16, li_18, li_20, li_22, li_23, li_24, li_29, li_30, li_31, li_32, li_33, li_40, li_48, li_54, li_55, li_56, li_57, li_59, li_60, li_63, li_64, li_97, li_98, li_99, li_100, li_103, li_107, li_108, li_112, li_121, li_206, li_212, li_232, li_240, li_255, li_256, li_261, li_270, ng_1, ng_2, ng_3, ng_4, ng_9, ng_10, m1_1, nI_m1, m1_nI, if_true, if_false, nI_add, pk_mul, pk_sub, nI_div, nI_rem, nI_eq, nI_leI, nI_ltI, nI_clamp, ck_in, ck_nz, bind_sm, upM_n, upM_m, upM_s, if_pos, if_neg, h6])
  unfold f_X5_weight
  rw [lz_1, li_0, show nZ 1 = nZ (wt x sub 0) from rfl, lp, bind_sm]
theorem m_weight {M : Mem} {x g n b : Nat} {x2 x3 : Int32} {x4 : Int64} (h11 : M 49 11 = nI n) (hn : n ≤ 8) (hx : x ≤ 16) (hg : g < 2 ^ n) : loop (fun s4 : Int64 × Int32 => f_X6_customOf_45_45b (nI x) x2 x3 x4 (nI g) s4.1 s4.2 M) (nZ b, nI 0) = some (nZ (b * wt x (2 ^ n - (g + 1)) n), nI n) := by
  have g8 : g < 256 := Nat.lt_of_lt_of_le hg (show 2 ^ n ≤ 2 ^ 8 from Nat.pow_le_pow_right (by decide) hn)
  have lp := loop_for (B := fun s4 : Int64 × Int32 => f_X6_customOf_45_45b (nI x) x2 x3 x4 (nI g) s4.1 s4.2 M) (fun i => (nZ (b * wt x (2 ^ n - (g + 1)) i), nI i)) n (e := (nZ (b * wt x (2 ^ n - (g + 1)) n), nI n))
    (by
      intro i hi
      dsimp only
      have w1 : wt x (2 ^ n - (g + 1)) (i + 1) = wt x (2 ^ n - (g + 1)) i * (if (2 ^ n - (g + 1)).testBit i = true then x else 16 - x) := rfl
      have tb : (2 ^ n - (g + 1)).testBit i = !g.testBit i := by rw [Nat.testBit_two_pow_sub_succ hg]; simp [hi]
      have isin := m_isIn g8 (show i < 8 by omega)
      unfold f_X6_customOf_45_45b f_X6_customOf_76_45
      cases q : g.testBit i with
      | true =>
        rw [q] at tb isin
        rw [tb, if_neg (by decide)] at w1
        rw [w1, ← Nat.mul_assoc]
        simp (disch := omega) only [li_0, li_1, li_2, li_3, li_4, li_5, li_6, li_7, li_8, li_9, li_10, li_11, li_12, li_14, li_15, li_16, li_18, li_20, li_22, li_23, li_24, li_29, li_30, li_31, li_32, li_33, li_40, li_48, li_54, li_55, li_56, li_57, li_59, li_60, li_63, li_64, li_97, li_98, li_99, li_100, li_103, li_107, li_108, li_112, li_121, li_206, li_212, li_232, li_240, li_255, li_256, li_261, li_270, ng_1, ng_2, ng_3, ng_4, ng_9, ng_10, m1_1, nI_m1, m1_nI, if_true, if_false, nI_add, pk_mul, pk_sub, nI_div, nI_rem, nI_eq, nI_leI, nI_ltI, nI_clamp, ck_in, ck_nz, bind_sm, upM_n, upM_m, upM_s, if_pos, if_neg, h11, isin, nI_64, nZ_mul]
      | false =>
        rw [q] at tb isin
        rw [tb, if_pos (by decide)] at w1
        rw [if_neg (by decide)] at isin
        rw [w1, ← Nat.mul_assoc]
        simp (disch := omega) only [li_0, li_1, li_2, li_3, li_4, li_5, li_6, li_7, li_8, li_9, li_10, li_11, li_12, li_14, li_15, li_16, li_18, li_20, li_22, li_23, li_24, li_29, li_30, li_31, li_32, li_33, li_40, li_48, li_54, li_55, li_56, li_57, li_59, li_60, li_63, li_64, li_97, li_98, li_99, li_100, li_103, li_107, li_108, li_112, li_121, li_206, li_212, li_232, li_240, li_255, li_256, li_261, li_270, ng_1, ng_2, ng_3, ng_4, ng_9, ng_10, m1_1, nI_m1, m1_nI, if_true, if_false, nI_add, pk_mul, pk_sub, nI_div, nI_rem, nI_eq, nI_leI, nI_ltI, nI_clamp, ck_in, ck_nz, bind_sm, upM_n, upM_m, upM_s, if_pos, if_neg, h11, isin, nI_64, nZ_mul])
    (by
      dsimp only
      unfold f_X6_customOf_45_45b
      simp (disch := omega) only [li_0, li_1, li_2, li_3, li_4, li_5, li_6, li_7, li_8, li_9, li_10, li_11, li_12, li_14, li_15, li_16, li_18, li_20, li_22, li_23, li_24, li_29, li_30, li_31, li_32, li_33, li_40, li_48, li_54, li_55, li_56, li_57, li_59, li_60, li_63, li_64, li_97, li_98, li_99, li_100, li_103, li_107, li_108, li_112, li_121, li_206, li_212, li_232, li_240, li_255, li_256, li_261, li_270, ng_1, ng_2, ng_3, ng_4, ng_9, ng_10, m1_1, nI_m1, m1_nI, if_true, if_false, nI_add, pk_mul, pk_sub, nI_div, nI_rem, nI_eq, nI_leI, nI_ltI, nI_clamp, ck_in, ck_nz, bind_sm, upM_n, upM_m, upM_s, if_pos, if_neg, h11])
  rw [show wt x (2 ^ n - (g + 1)) 0 = 1 from rfl, Nat.mul_one] at lp
  exact lp
theorem loop_l {S E : Type} {B : S → Option (S ⊕ E)} {s s' : S} (h : B s = some (.inl s')) : loop B s = loop B s' := by rw [loop_eq, h]
theorem loop_r {S E : Type} {B : S → Option (S ⊕ E)} {s : S} {e : E} (h : B s = some (.inr e)) : loop B s = some e := by rw [loop_eq, h]
theorem gcd_odd {t m : Nat} (h : t % 2 = 1) : Nat.gcd t (2 ^ m) = 1 := by
  have h2 : Nat.Coprime t 2 := by
    have := Nat.gcd_rec 2 t
    rw [Nat.Coprime, Nat.gcd_comm, this, h, Nat.gcd_one_left]
  exact Nat.Coprime.pow_right m h2
theorem gcd_even {t m : Nat} (h : t % 2 = 0) : Nat.gcd t (2 ^ (m + 1)) = 2 * Nat.gcd (t / 2) (2 ^ m) := by
  obtain ⟨u, rfl⟩ : ∃ u, t = 2 * u := ⟨t / 2, by omega⟩
  rw [Nat.mul_div_cancel_left u (by decide), Nat.pow_succ, Nat.mul_comm (2 ^ m) 2, Nat.gcd_mul_left]
theorem c_half {M : Mem} {x3 : Int32} {n : Nat} (hn : n ≤ 8) : ∀ m i t, i + m = 4 * n → t < 2 ^ 62 → ∃ z, loop (fun s8 : Int64 × Int64 × Int32 => f_X5_custom_118_118b x3 s8.1 (nI (4 * n)) s8.2.1 s8.2.2 M) (nZ t, nZ (2 ^ m), nI i) = some (nZ (t / Nat.gcd t (2 ^ m)), nZ (2 ^ m / Nat.gcd t (2 ^ m)), z) := by
  intro m
  induction m with
  | zero =>
    intro i t hi ht
    refine ⟨nI i, ?_⟩
    rw [loop_eq]
    unfold f_X5_custom_118_118b
    rw [show Nat.gcd t (2 ^ 0) = 1 from Nat.gcd_one_right t, Nat.div_one, Nat.div_one]
    simp (disch := omega) only [li_0, li_1, li_2, li_3, li_4, li_5, li_6, li_7, li_8, li_9, li_10, li_11, li_12, li_14, li_15, li_16, li_18, li_20, li_22, li_23, li_24, li_29, li_30, li_31, li_32, li_33, li_40, li_48, li_54, li_55, li_56, li_57, li_59, li_60, li_63, li_64, li_97, li_98, li_99, li_100, li_103, li_107, li_108, li_112, li_121, li_206, li_212, li_232, li_240, li_255, li_256, li_261, li_270, ng_1, ng_2, ng_3, ng_4, ng_9, ng_10, m1_1, nI_m1, m1_nI, if_true, if_false, nI_add, pk_mul, pk_sub, nI_div, nI_rem, nI_eq, nI_leI, nI_ltI, nI_clamp, ck_in, ck_nz, bind_sm, upM_n, upM_m, upM_s, if_pos, if_neg]
  | succ m ih =>
    intro i t hi ht
    have p1 : 2 ^ (m + 1) ≤ 2 ^ 32 := Nat.pow_le_pow_right (by decide) (by omega)
    have rem := nZ_rem (a := t) (b := 2) (by omega) (by decide) (by decide)
    by_cases q : t % 2 = 0
    · obtain ⟨z, hz⟩ := ih (i + 1) (t / 2) (by omega) (by omega)
      refine ⟨z, ?_⟩
      have step : f_X5_custom_118_118b x3 (nZ t) (nI (4 * n)) (nZ (2 ^ (m + 1))) (nI i) M = some (.inl (nZ (t / 2), nZ (2 ^ m), nI (i + 1))) := by
        unfold f_X5_custom_118_118b
        rw [if_neg (fun r => by rw [nI_leI (by omega) (by omega)] at r; omega), lz_2, rem, q, if_pos (c := lg_cmp (nZ 0) 0 = 0) (lg_eq0.mpr rfl), nZ_div (by omega) (by decide) (by decide), nZ_div (by omega) (by decide) (by decide), li_1, nI_add, Nat.pow_succ, Nat.mul_div_cancel _ (by decide)]
      rw [loop_l (B := fun s8 : Int64 × Int64 × Int32 => f_X5_custom_118_118b x3 s8.1 (nI (4 * n)) s8.2.1 s8.2.2 M) (s := (nZ t, nZ (2 ^ (m + 1)), nI i)) step, hz, gcd_even q, ← Nat.div_div_eq_div_mul, ← Nat.div_div_eq_div_mul, Nat.pow_succ, Nat.mul_div_cancel _ (by decide)]
    · refine ⟨nI i, ?_⟩
      have step : f_X5_custom_118_118b x3 (nZ t) (nI (4 * n)) (nZ (2 ^ (m + 1))) (nI i) M = some (.inr (nZ t, nZ (2 ^ (m + 1)), nI i)) := by
        unfold f_X5_custom_118_118b
        rw [if_neg (fun r => by rw [nI_leI (by omega) (by omega)] at r; omega), lz_2, rem, if_neg (c := lg_cmp (nZ (t % 2)) 0 = 0) (fun r => q ((nZ_eq (b := 0) (by omega) (by decide)).mp (lg_eq0.mp r)))]
      rw [loop_r (B := fun s8 : Int64 × Int64 × Int32 => f_X5_custom_118_118b x3 s8.1 (nI (4 * n)) s8.2.1 s8.2.2 M) (s := (nZ t, nZ (2 ^ (m + 1)), nI i)) step, gcd_odd (by omega), Nat.div_one, Nat.div_one]
theorem m_gcd {x0 x2 : Int64} {x4 : Int32} : ∀ b a, a < 2 ^ 63 → b < 2 ^ 63 → loop (fun s1 : Int64 × Int64 => f_X6_part_6_6b x0 x2 x4 s1.1 s1.2) (nZ a, nZ b) = some (nZ (Nat.gcd a b), nZ 0) := by
  intro b
  induction b using Nat.strongRecOn with
  | ind b ih =>
    intro a ha hb
    by_cases q : b = 0
    · subst q
      have step : f_X6_part_6_6b x0 x2 x4 (nZ a) (nZ 0) = some (.inr (nZ a, nZ 0)) := by
        unfold f_X6_part_6_6b
        rw [if_pos (c := lg_cmp (nZ 0) 0 = 0) (lg_eq0.mpr rfl)]
      rw [loop_r (B := fun s1 : Int64 × Int64 => f_X6_part_6_6b x0 x2 x4 s1.1 s1.2) (s := (nZ a, nZ 0)) step, Nat.gcd_zero_right]
    · have step : f_X6_part_6_6b x0 x2 x4 (nZ a) (nZ b) = some (.inl (nZ b, nZ (a % b))) := by
        unfold f_X6_part_6_6b
        rw [if_neg (c := lg_cmp (nZ b) 0 = 0) (fun r => q ((nZ_eq (b := 0) hb (by decide)).mp (lg_eq0.mp r))), ck_nzL (by omega) hb, nZ_rem ha (by omega) hb]
      rw [loop_l (B := fun s1 : Int64 × Int64 => f_X6_part_6_6b x0 x2 x4 s1.1 s1.2) (s := (nZ a, nZ b)) step]
      have hlt : a % b < b := Nat.mod_lt _ (by omega)
      rw [ih (a % b) hlt b hb (by omega), Nat.gcd_comm a b, Nat.gcd_rec b a, Nat.gcd_comm]
theorem m_part {a b w : Nat} (ha : a < 2 ^ 63) (hb : b < 2 ^ 63) (h0 : 0 < b) (hw : w < 2) : f_X6_part (nZ a) (nZ b) (nI w) = some (nZ ((if w = 0 then a else b) / Nat.gcd a b)) := by
  have gp : 0 < Nat.gcd a b := Nat.gcd_pos_of_pos_right a h0
  have gl : Nat.gcd a b ≤ b := Nat.gcd_le_right a h0
  unfold f_X6_part
  rw [m_gcd b a ha hb, bind_sm]
  dsimp only
  by_cases q : w = 0
  · rw [q, if_pos (c := nI 0 = 0) rfl, if_pos rfl, ck_nzL gp (by omega), nZ_div ha gp (by omega)]
  · rw [if_neg (c := nI w = 0) (fun r => q ((nI_eq (b := 0) (by omega) (by omega)).mp r)), if_neg q, ck_nzL gp (by omega), nZ_div hb gp (by omega)]
