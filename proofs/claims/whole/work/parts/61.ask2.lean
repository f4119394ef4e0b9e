-- THE NEXT DAY TO LISTEN
def kO (α : AS) (k v d : Nat) : Nat := tkey (setO (sA α) k v) (wk (setO (sA α) k v) (d + 1)) k
theorem kO_lt {α : AS} {k v d : Nat} (ok : OKA α) (hv : v < 8) : kO α k v d < 9 := tkey_lt (setO_ok (k := k) ok.s hv)
theorem kO_eq {α : AS} {k v w d : Nat} : (kO α k v d = kO α k w d) = (tkO α k v d = tkO α k w d) := by
  unfold kO
  cases h1 : tkO α k v d with
  | none =>
    rw [tkey_n h1]
    cases h2 : tkO α k w d with
    | none => rw [tkey_n h2]; simp
    | some b => rw [tkey_s h2]; simp
  | some a =>
    rw [tkey_s h1]
    cases h2 : tkO α k w d with
    | none => rw [tkey_n h2]; simp
    | some b => rw [tkey_s h2]; simp
theorem oi_eqO {x y : Option Nat} (hx : ∀ b, x = some b → b < 100) (hy : ∀ b, y = some b → b < 100) : (oi x = oi y) = (x = y) := by
  cases x with
  | none =>
    cases y with
    | none => simp
    | some b => have := hy b rfl; rw [oi_n, oi_s, m1_nI (by omega)]; simp
  | some a =>
    have h1 := hx a rfl
    cases y with
    | none => rw [oi_n, oi_s, nI_m1 (by omega)]; simp
    | some b =>
      have h2 := hy b rfl
      rw [oi_s, oi_s]
      simp only [Option.some.injEq]
      exact propext (nI_eq (by omega) (by omega))
theorem tkO_lt {α : AS} {k v d : Nat} (ok : OKA α) : ∀ b, tkO α k v d = some b → b < 100 := fun b hb => by
  have h1 := am_lt hb
  have h2 : nA (setO (sA α) k v) = nA (sA α) := rfl
  have := ok.s.1.1
  omega
/-- how many of those whose it may have been give this key -/
def cO (α : AS) (W k d j n : Nat) : Nat := cs (fun v => if W.testBit v = true ∧ kO α k v d = j then 1 else 0) n
theorem cO_le {α : AS} {W k d j n : Nat} : cO α W k d j n ≤ n := cs_le (fun i => by split <;> omega) n
theorem cO_s {α : AS} {W k d j n : Nat} : cO α W k d j (n + 1) = cO α W k d j n + if W.testBit n = true ∧ kO α k n d = j then 1 else 0 := rfl
def mostV (α : AS) (W k d : Nat) : Nat := (mx (fun j => cO α W k d j 8) 9).2
noncomputable def askV (α : AS) (k : Nat) : Option Nat := am (mostV α (whoseV α k) k) 30
theorem mostV_le {α : AS} {W k d : Nat} : mostV α W k d ≤ 8 := mx_le (fun j => cO_le) 9
def FrY (M M' : Mem) : Prop := ∀ k, (k < 13 ∨ (21 ≤ k ∧ k < 26) ∨ 31 ≤ k) → k ≠ 47 → M' k = M k
theorem CI.frY {α : AS} {M M' : Mem} (h : CI α M) (hF : FrY M M') : CI α M' := by
  obtain ⟨n, h4, h5⟩ := h.2.2.1
  exact h.upd (h.2.1.fr (fun k _ _ => hF k (by omega) (by omega))) ⟨n, h4, h5.fr (fun k _ _ => hF k (by omega) (by omega))⟩ (fun k hk => hF k (by omega) (by omega))
theorem c_tallyOwn {α : AS} {M : Mem} {k v : Nat} {T : Nat → Nat → Nat} (ok : OKA α) (h : CI α M) (hk : k < nP (sA α)) (hv : v < 8) (hT : ∀ d j, T d j < 900) (hM : ∀ d j, d < 30 → j < 9 → M 47 (9 * d + j) = nI (T d j)) : ∃ M', f_X5_tallyAsOwn (nI k) (nI v) M = some M' ∧ FrY M M' ∧ ∀ d j, d < 30 → j < 9 → M' 47 (9 * d + j) = nI (T d j + if kO α k v d = j then 1 else 0) := by
  have ok2 := ok.s.1.2.1
  obtain ⟨M1, a1, a2, a3⟩ := c_become ok.s h.2.1
  have oko := setO_ok (k := k) ok.s hv
  obtain ⟨M2, b1, b2, b3⟩ := c_begin WI_26 oko (SR_setO (k := k) (v := v) a2)
  have s2 : SR 13 (setO (sA α) k v) M2 := (SR_setO (k := k) (v := v) a2).fr (fun j _ _ => b3 j (by omega))
  have f2 : FrY M M2 := fun j h1 h2 => by rw [b3 j (by omega), upM_n (by omega), a3 j (by omega)]
  have h47 : M2 47 = M 47 := by rw [b3 47 (by omega), upM_n (by omega), a3 47 (by omega)]
  obtain ⟨e, l1, l2, l3⟩ := loop_inv (B := fun s5 : Int32 × Mem => f_X5_tallyAsOwn_30_30b (nI k) s5.1 s5.2) (fun i q => q.1 = nI i ∧ WD 26 (setO (sA α) k v) i q.2 ∧ (∀ j, (j < 26 ∨ 31 ≤ j) → j ≠ 47 → q.2 j = M2 j) ∧ ∀ d j, d < 30 → j < 9 → q.2 47 (9 * d + j) = nI (T d j + if d < i ∧ kO α k v d = j then 1 else 0))
    (fun q => (∀ j, (j < 26 ∨ 31 ≤ j) → j ≠ 47 → q.2 j = M2 j) ∧ ∀ d j, d < 30 → j < 9 → q.2 47 (9 * d + j) = nI (T d j + if d < 30 ∧ kO α k v d = j then 1 else 0)) 30 (s := (nI 0, M2))
    (by
      refine ⟨rfl, b2, fun _ _ _ => rfl, fun d j hd hj => ?_⟩
      dsimp only
      rw [h47, if_neg (by omega)]
      exact hM d j hd hj)
    (by
      rintro i ⟨x, N⟩ hi ⟨hx, hW, c1, c2⟩
      dsimp only at hx hW c1 c2 ⊢
      subst hx
      have sN : SR 13 (setO (sA α) k v) N := s2.fr (fun j _ _ => c1 j (by omega) (by omega))
      obtain ⟨N1, d1, d2, d3⟩ := c_go (u := i) WI_26 oko sN hi (by omega) hW
      have day : N1 26 1 = nI i := by
        have := d2.2.1
        have e : ∀ x : Int32, x = x + nI 1 - nI 1 := fun x => by rw [Int32.add_sub_cancel]
        rw [e (N1 26 1), this, nI_pred']
      have kl := kO_lt (k := k) (d := i) ok hv
      have bnd := hT i (kO α k v i)
      have tl := c_tally (D := i) (x := T i (kO α k v i)) WI_26 oko (oko.wk (i + 1)) (sN.fr (fun j _ _ => d3 j (by omega))) hk d2.1 day hi (by
        have := c2 i (kO α k v i) hi kl
        rw [if_neg (by omega)] at this
        rw [d3 47 (by omega)]
        exact this) (by omega)
      have f26 : ∀ (j : Nat), (j ≠ 47) → upM N1 47 (9 * i + kO α k v i) (nI (T i (kO α k v i) + 1)) j = N1 j := fun j hj => upM_n hj
      refine ⟨(nI (i + 1), upM N1 47 (9 * i + kO α k v i) (nI (T i (kO α k v i) + 1))), ?_, rfl, d2.fr (fun j _ _ => f26 j (by omega)), fun j h1 h2 => ?_, fun d j hd hj => ?_⟩
      · unfold f_X5_tallyAsOwn_30_30b
        simp (disch := omega) only [li_0, li_1, li_2, li_3, li_4, li_5, li_6, li_7, li_8, li_9, li_10, li_11, li_12, li_14, li_15, li_16, li_18, li_20, li_22, li_23, li_24, li_29, li_30, li_31, li_32, li_33, li_40, li_48, li_54, li_55, li_56, li_57, li_59, li_60, li_63, li_64, li_97, li_98, li_99, li_100, li_103, li_107, li_108, li_112, li_121, li_206, li_212, li_232, li_240, li_255, li_256, li_261, li_270, ng_1, ng_2, ng_3, ng_4, ng_9, ng_10, m1_1, nI_m1, m1_nI, if_true, if_false, nI_add, pk_mul, pk_sub, nI_div, nI_rem, nI_eq, nI_leI, nI_ltI, nI_clamp, ck_in, ck_nz, bind_sm, upM_n, upM_m, upM_s, if_pos, if_neg, d1]
        unfold kO at tl ⊢
        rw [tl]
        rfl
      · dsimp only
        rw [f26 j h2, d3 j (by omega)]
        exact c1 j h1 h2
      · dsimp only
        by_cases q : d = i ∧ kO α k v i = j
        · obtain ⟨rfl, rfl⟩ := q
          rw [upM_s, if_pos ⟨by omega, rfl⟩]
        · rw [upM_m (by omega), d3 47 (by omega), c2 d j hd hj]
          by_cases q2 : d < i ∧ kO α k v d = j
          · rw [if_pos q2, if_pos ⟨by omega, q2.2⟩]
          · rw [if_neg q2, if_neg]
            rintro ⟨r1, r2⟩
            by_cases q3 : d = i
            · subst q3; exact q ⟨rfl, r2⟩
            · exact q2 ⟨by omega, r2⟩)
    (by
      rintro ⟨x, N⟩ ⟨hx, hW, c1, c2⟩
      dsimp only at hx hW c1 c2 ⊢
      subst hx
      refine ⟨(nI 30, N), ?_, c1, c2⟩
      unfold f_X5_tallyAsOwn_30_30b
      simp (disch := omega) only [li_0, li_1, li_2, li_3, li_4, li_5, li_6, li_7, li_8, li_9, li_10, li_11, li_12, li_14, li_15, li_16, li_18, li_20, li_22, li_23, li_24, li_29, li_30, li_31, li_32, li_33, li_40, li_48, li_54, li_55, li_56, li_57, li_59, li_60, li_63, li_64, li_97, li_98, li_99, li_100, li_103, li_107, li_108, li_112, li_121, li_206, li_212, li_232, li_240, li_255, li_256, li_261, li_270, ng_1, ng_2, ng_3, ng_4, ng_9, ng_10, m1_1, nI_m1, m1_nI, if_true, if_false, nI_add, pk_mul, pk_sub, nI_div, nI_rem, nI_eq, nI_leI, nI_ltI, nI_clamp, ck_in, ck_nz, bind_sm, upM_n, upM_m, upM_s, if_pos, if_neg])
  refine ⟨e.2, ?_, fun j h1 h2 => ?_, fun d j hd hj => ?_⟩
  · unfold f_X5_tallyAsOwn
    simp (disch := omega) only [li_0, li_1, li_2, li_3, li_4, li_5, li_6, li_7, li_8, li_9, li_10, li_11, li_12, li_14, li_15, li_16, li_18, li_20, li_22, li_23, li_24, li_29, li_30, li_31, li_32, li_33, li_40, li_48, li_54, li_55, li_56, li_57, li_59, li_60, li_63, li_64, li_97, li_98, li_99, li_100, li_103, li_107, li_108, li_112, li_121, li_206, li_212, li_232, li_240, li_255, li_256, li_261, li_270, ng_1, ng_2, ng_3, ng_4, ng_9, ng_10, m1_1, nI_m1, m1_nI, if_true, if_false, nI_add, pk_mul, pk_sub, nI_div, nI_rem, nI_eq, nI_leI, nI_ltI, nI_clamp, ck_in, ck_nz, bind_sm, upM_n, upM_m, upM_s, if_pos, if_neg, a1, b1, l1]
  · rw [l2 j (by omega) h2]; exact f2 j h1 h2
  · rw [l3 d j hd hj]
    by_cases q : kO α k v d = j
    · rw [if_pos ⟨hd, q⟩, if_pos q]
    · rw [if_neg (fun r => q r.2), if_neg q]
theorem c_most {α : AS} {M : Mem} {W k d : Nat} (hd : d < 30) (hM : ∀ d j, d < 30 → j < 9 → M 47 (9 * d + j) = nI (cO α W k d j 8)) : f_X5_mostAlike (nI d) M = some (nI (mostV α W k d)) := by
  have lp := loop_for (B := fun s1 : Int32 × Int32 => f_X5_mostAlike_4_4b (nI d) s1.1 s1.2 M) (fun i => (nI (mx (fun j => cO α W k d j 8) i).2, nI i)) 9 (e := (nI (mx (fun j => cO α W k d j 8) 9).2, nI 9))
    (by
      intro i hi
      dsimp only
      have e := hM d i hd hi
      rw [Nat.mul_comm] at e
      have b1 := mx_le (f := fun j => cO α W k d j 8) (b := 8) (fun j => cO_le) i
      have b2 := cO_le (α := α) (W := W) (k := k) (d := d) (j := i) (n := 8)
      unfold f_X5_mostAlike_4_4b f_X5_mostAlike_32_4
      rw [mx_s]
      by_cases q : (mx (fun j => cO α W k d j 8) i).2 < cO α W k d i 8
      · simp (disch := omega) only [li_0, li_1, li_2, li_3, li_4, li_5, li_6, li_7, li_8, li_9, li_10, li_11, li_12, li_14, li_15, li_16, li_18, li_20, li_22, li_23, li_24, li_29, li_30, li_31, li_32, li_33, li_40, li_48, li_54, li_55, li_56, li_57, li_59, li_60, li_63, li_64, li_97, li_98, li_99, li_100, li_103, li_107, li_108, li_112, li_121, li_206, li_212, li_232, li_240, li_255, li_256, li_261, li_270, ng_1, ng_2, ng_3, ng_4, ng_9, ng_10, m1_1, nI_m1, m1_nI, if_true, if_false, nI_add, pk_mul, pk_sub, nI_div, nI_rem, nI_eq, nI_leI, nI_ltI, nI_clamp, ck_in, ck_nz, bind_sm, upM_n, upM_m, upM_s, if_pos, if_neg, e]
      · simp (disch := omega) only [li_0, li_1, li_2, li_3, li_4, li_5, li_6, li_7, li_8, li_9, li_10, li_11, li_12, li_14, li_15, li_16, li_18, li_20, li_22, li_23, li_24, li_29, li_30, li_31, li_32, li_33, li_40, li_48, li_54, li_55, li_56, li_57, li_59, li_60, li_63, li_64, li_97, li_98, li_99, li_100, li_103, li_107, li_108, li_112, li_121, li_206, li_212, li_232, li_240, li_255, li_256, li_261, li_270, ng_1, ng_2, ng_3, ng_4, ng_9, ng_10, m1_1, nI_m1, m1_nI, if_true, if_false, nI_add, pk_mul, pk_sub, nI_div, nI_rem, nI_eq, nI_leI, nI_ltI, nI_clamp, ck_in, ck_nz, bind_sm, upM_n, upM_m, upM_s, if_pos, if_neg, e])
    (by
      dsimp only
      unfold f_X5_mostAlike_4_4b
      simp (disch := omega) only [li_0, li_1, li_2, li_3, li_4, li_5, li_6, li_7, li_8, li_9, li_10, li_11, li_12, li_14, li_15, li_16, li_18, li_20, li_22, li_23, li_24, li_29, li_30, li_31, li_32, li_33, li_40, li_48, li_54, li_55, li_56, li_57, li_59, li_60, li_63, li_64, li_97, li_98, li_99, li_100, li_103, li_107, li_108, li_112, li_121, li_206, li_212, li_232, li_240, li_255, li_256, li_261, li_270, ng_1, ng_2, ng_3, ng_4, ng_9, ng_10, m1_1, nI_m1, m1_nI, if_true, if_false, nI_add, pk_mul, pk_sub, nI_div, nI_rem, nI_eq, nI_leI, nI_ltI, nI_clamp, ck_in, ck_nz, bind_sm, upM_n, upM_m, upM_s, if_pos, if_neg])
  unfold f_X5_mostAlike mostV
  rw [show nI (mx (fun j => cO α W k d j 8) 0).2 = nI 0 from rfl] at lp
  simp only [li_0, li_1, li_2, li_3, li_4, li_5, li_6, li_7, li_8, li_9, li_10, li_11, li_12, li_14, li_15, li_16, li_18, li_20, li_22, li_23, li_24, li_29, li_30, li_31, li_32, li_33, li_40, li_48, li_54, li_55, li_56, li_57, li_59, li_60, li_63, li_64, li_97, li_98, li_99, li_100, li_103, li_107, li_108, li_112, li_121, li_206, li_212, li_232, li_240, li_255, li_256, li_261, li_270, ng_1, ng_2, ng_3, ng_4, ng_9, ng_10, m1_1, nI_m1, m1_nI, if_true, if_false, nI_add, pk_mul, pk_sub, nI_div, nI_rem, nI_eq, nI_leI, nI_ltI, nI_clamp, ck_in, ck_nz, bind_sm, upM_n, upM_m, upM_s, if_pos, if_neg, lp]
theorem am_ss {f : Nat → Nat} {n b : Nat} (h : am f n = some b) : am f (n + 1) = if f n < f b then some n else some b := by
  show (match am f n with
    | none => some n
    | some b => if f n < f b then some n else some b) = _
  rw [h]
theorem am_ex {f : Nat → Nat} {n : Nat} : ∃ b, am f (n + 1) = some b ∧ b < n + 1 := by
  cases h : am f (n + 1) with
  | none => exact absurd h am_none
  | some b => exact ⟨b, rfl, am_lt h⟩
theorem c_ask_in {α : AS} {M : Mem} {k : Nat} (ok : OKA α) (h : CI α M) (hk : k < nP (sA α)) : ∃ M', f_X5_ask (nI k) M = some (oi (askV α k), M') ∧ CI α M' ∧ Fr 0 49 M M' := by
  have ok2 := ok.s.1.2.1
  have e1 := c_hasP (i := k) h.2.1.1.2.1 (show nP (sA α) < 100 by omega) (show k < 100 by omega)
  obtain ⟨M1, a1, a2, a3⟩ := c_whose ok h hk
  have wl : whoseV α k < 256 := bitsOf_lt 8
  have y0 : FrY M (filM M1 47 0 270 (fun _ => nI 0)) := fun j h1 h2 => by rw [filM_n h2]; exact a3 j h1
  obtain ⟨e, l1, l2, l3⟩ := loop_inv (B := fun s5 : Int32 × Mem => f_X5_ask_26_26b (nI k) (nI (whoseV α k)) s5.1 s5.2) (fun i q => q.1 = nI i ∧ FrY M q.2 ∧ ∀ d j, d < 30 → j < 9 → q.2 47 (9 * d + j) = nI (cO α (whoseV α k) k d j i))
    (fun q => FrY M q.2 ∧ ∀ d j, d < 30 → j < 9 → q.2 47 (9 * d + j) = nI (cO α (whoseV α k) k d j 8)) 8 (s := (nI 0, filM M1 47 0 270 (fun _ => nI 0)))
    (by
      refine ⟨rfl, y0, fun d j hd hj => ?_⟩
      dsimp only
      rw [filM_in (by omega) (by omega)]
      rfl)
    (by
      rintro i ⟨x, N⟩ hi ⟨hx, c1, c2⟩
      dsimp only at hx c1 c2 ⊢
      subst hx
      unfold f_X5_ask_26_26b f_X5_ask_46_26
      by_cases q : (whoseV α k).testBit i = true
      · obtain ⟨N1, d1, d2, d3⟩ := c_tallyOwn (T := fun d j => cO α (whoseV α k) k d j i) ok (h.frY c1) hk hi (fun d j => by have := cO_le (α := α) (W := whoseV α k) (k := k) (d := d) (j := j) (n := i); omega) c2
        refine ⟨(nI (i + 1), N1), ?_, rfl, fun j h1 h2 => by dsimp only; rw [d2 j h1 h2]; exact c1 j h1 h2, fun d j hd hj => ?_⟩
        · have b0 := bit_0 wl (show i < 9 by omega)
          rw [q] at b0
          simp (disch := omega) only [li_0, li_1, li_2, li_3, li_4, li_5, li_6, li_7, li_8, li_9, li_10, li_11, li_12, li_14, li_15, li_16, li_18, li_20, li_22, li_23, li_24, li_29, li_30, li_31, li_32, li_33, li_40, li_48, li_54, li_55, li_56, li_57, li_59, li_60, li_63, li_64, li_97, li_98, li_99, li_100, li_103, li_107, li_108, li_112, li_121, li_206, li_212, li_232, li_240, li_255, li_256, li_261, li_270, ng_1, ng_2, ng_3, ng_4, ng_9, ng_10, m1_1, nI_m1, m1_nI, if_true, if_false, nI_add, pk_mul, pk_sub, nI_div, nI_rem, nI_eq, nI_leI, nI_ltI, nI_clamp, ck_in, ck_nz, bind_sm, upM_n, upM_m, upM_s, if_pos, if_neg, b0, d1, Bool.true_eq_false]
        · dsimp only
          rw [d3 d j hd hj, cO_s]
          by_cases q2 : kO α k i d = j
          · rw [if_pos q2, if_pos ⟨q, q2⟩]
          · rw [if_neg q2, if_neg (fun r => q2 r.2)]
      · refine ⟨(nI (i + 1), N), ?_, rfl, c1, fun d j hd hj => ?_⟩
        · have b0 := bit_0 wl (show i < 9 by omega)
          rw [Bool.not_eq_true] at q
          simp (disch := omega) only [li_0, li_1, li_2, li_3, li_4, li_5, li_6, li_7, li_8, li_9, li_10, li_11, li_12, li_14, li_15, li_16, li_18, li_20, li_22, li_23, li_24, li_29, li_30, li_31, li_32, li_33, li_40, li_48, li_54, li_55, li_56, li_57, li_59, li_60, li_63, li_64, li_97, li_98, li_99, li_100, li_103, li_107, li_108, li_112, li_121, li_206, li_212, li_232, li_240, li_255, li_256, li_261, li_270, ng_1, ng_2, ng_3, ng_4, ng_9, ng_10, m1_1, nI_m1, m1_nI, if_true, if_false, nI_add, pk_mul, pk_sub, nI_div, nI_rem, nI_eq, nI_leI, nI_ltI, nI_clamp, ck_in, ck_nz, bind_sm, upM_n, upM_m, upM_s, if_pos, if_neg, b0, q]
        · dsimp only
          rw [cO_s, if_neg (fun r => q r.1)]
          exact c2 d j hd hj)
    (by
      rintro ⟨x, N⟩ ⟨hx, c1, c2⟩
      dsimp only at hx c1 c2 ⊢
      subst hx
      refine ⟨(nI 8, N), ?_, c1, c2⟩
      unfold f_X5_ask_26_26b
      simp (disch := omega) only [li_0, li_1, li_2, li_3, li_4, li_5, li_6, li_7, li_8, li_9, li_10, li_11, li_12, li_14, li_15, li_16, li_18, li_20, li_22, li_23, li_24, li_29, li_30, li_31, li_32, li_33, li_40, li_48, li_54, li_55, li_56, li_57, li_59, li_60, li_63, li_64, li_97, li_98, li_99, li_100, li_103, li_107, li_108, li_112, li_121, li_206, li_212, li_232, li_240, li_255, li_256, li_261, li_270, ng_1, ng_2, ng_3, ng_4, ng_9, ng_10, m1_1, nI_m1, m1_nI, if_true, if_false, nI_add, pk_mul, pk_sub, nI_div, nI_rem, nI_eq, nI_leI, nI_ltI, nI_clamp, ck_in, ck_nz, bind_sm, upM_n, upM_m, upM_s, if_pos, if_neg])
  have ms := fun d (hd : d < 30) => c_most (α := α) (M := e.2) (W := whoseV α k) (k := k) hd l3
  have lp := loop_for (B := fun s9 : Int32 × Int32 => f_X5_ask_57_57b s9.1 s9.2 e.2) (fun i => (oi (am (mostV α (whoseV α k) k) (i + 1)), nI (i + 1))) 29 (e := (oi (am (mostV α (whoseV α k) k) 30), nI 30))
    (by
      intro i hi
      dsimp only
      obtain ⟨b, hb, hb2⟩ := am_ex (f := mostV α (whoseV α k) k) (n := i)
      rw [am_ss hb, hb, oi_s]
      have m1 := mostV_le (α := α) (W := whoseV α k) (k := k) (d := b)
      have m2 := mostV_le (α := α) (W := whoseV α k) (k := k) (d := i + 1)
      unfold f_X5_ask_57_57b f_X5_ask_81_57
      by_cases q : mostV α (whoseV α k) k (i + 1) < mostV α (whoseV α k) k b
      · simp (disch := omega) only [li_0, li_1, li_2, li_3, li_4, li_5, li_6, li_7, li_8, li_9, li_10, li_11, li_12, li_14, li_15, li_16, li_18, li_20, li_22, li_23, li_24, li_29, li_30, li_31, li_32, li_33, li_40, li_48, li_54, li_55, li_56, li_57, li_59, li_60, li_63, li_64, li_97, li_98, li_99, li_100, li_103, li_107, li_108, li_112, li_121, li_206, li_212, li_232, li_240, li_255, li_256, li_261, li_270, ng_1, ng_2, ng_3, ng_4, ng_9, ng_10, m1_1, nI_m1, m1_nI, if_true, if_false, nI_add, pk_mul, pk_sub, nI_div, nI_rem, nI_eq, nI_leI, nI_ltI, nI_clamp, ck_in, ck_nz, bind_sm, upM_n, upM_m, upM_s, if_pos, if_neg, ms, oi_s]
      · simp (disch := omega) only [li_0, li_1, li_2, li_3, li_4, li_5, li_6, li_7, li_8, li_9, li_10, li_11, li_12, li_14, li_15, li_16, li_18, li_20, li_22, li_23, li_24, li_29, li_30, li_31, li_32, li_33, li_40, li_48, li_54, li_55, li_56, li_57, li_59, li_60, li_63, li_64, li_97, li_98, li_99, li_100, li_103, li_107, li_108, li_112, li_121, li_206, li_212, li_232, li_240, li_255, li_256, li_261, li_270, ng_1, ng_2, ng_3, ng_4, ng_9, ng_10, m1_1, nI_m1, m1_nI, if_true, if_false, nI_add, pk_mul, pk_sub, nI_div, nI_rem, nI_eq, nI_leI, nI_ltI, nI_clamp, ck_in, ck_nz, bind_sm, upM_n, upM_m, upM_s, if_pos, if_neg, ms, oi_s])
    (by
      dsimp only
      obtain ⟨b, hb, hb2⟩ := am_ex (f := mostV α (whoseV α k) k) (n := 29)
      rw [hb, oi_s]
      unfold f_X5_ask_57_57b
      simp (disch := omega) only [li_0, li_1, li_2, li_3, li_4, li_5, li_6, li_7, li_8, li_9, li_10, li_11, li_12, li_14, li_15, li_16, li_18, li_20, li_22, li_23, li_24, li_29, li_30, li_31, li_32, li_33, li_40, li_48, li_54, li_55, li_56, li_57, li_59, li_60, li_63, li_64, li_97, li_98, li_99, li_100, li_103, li_107, li_108, li_112, li_121, li_206, li_212, li_232, li_240, li_255, li_256, li_261, li_270, ng_1, ng_2, ng_3, ng_4, ng_9, ng_10, m1_1, nI_m1, m1_nI, if_true, if_false, nI_add, pk_mul, pk_sub, nI_div, nI_rem, nI_eq, nI_leI, nI_ltI, nI_clamp, ck_in, ck_nz, bind_sm, upM_n, upM_m, upM_s, if_pos, if_neg])
  have s0 : (oi (am (mostV α (whoseV α k) k) (0 + 1)), nI (0 + 1)) = (nI 0, nI 1) := rfl
  rw [s0] at lp
  refine ⟨e.2, ?_, h.frY l2, fun j hj => l2 j (by omega) (by omega)⟩
  unfold f_X5_ask askV
  simp (disch := omega) only [li_0, li_1, li_2, li_3, li_4, li_5, li_6, li_7, li_8, li_9, li_10, li_11, li_12, li_14, li_15, li_16, li_18, li_20, li_22, li_23, li_24, li_29, li_30, li_31, li_32, li_33, li_40, li_48, li_54, li_55, li_56, li_57, li_59, li_60, li_63, li_64, li_97, li_98, li_99, li_100, li_103, li_107, li_108, li_112, li_121, li_206, li_212, li_232, li_240, li_255, li_256, li_261, li_270, ng_1, ng_2, ng_3, ng_4, ng_9, ng_10, m1_1, nI_m1, m1_nI, if_true, if_false, nI_add, pk_mul, pk_sub, nI_div, nI_rem, nI_eq, nI_leI, nI_ltI, nI_clamp, ck_in, ck_nz, bind_sm, upM_n, upM_m, upM_s, if_pos, if_neg, e1, a1, c_clear, l1, lp]
theorem c_ask_out {α : AS} {M : Mem} {x : Int32} (ok : OKA α) (h : CI α M) (hx : ¬ In x (nP (sA α))) : f_X5_ask x M = some (m2, M) := by
  have ok2 := ok.s.1.2.1
  unfold f_X5_ask
  simp (disch := omega) only [li_0, li_1, li_2, li_3, li_4, li_5, li_6, li_7, li_8, li_9, li_10, li_11, li_12, li_14, li_15, li_16, li_18, li_20, li_22, li_23, li_24, li_29, li_30, li_31, li_32, li_33, li_40, li_48, li_54, li_55, li_56, li_57, li_59, li_60, li_63, li_64, li_97, li_98, li_99, li_100, li_103, li_107, li_108, li_112, li_121, li_206, li_212, li_232, li_240, li_255, li_256, li_261, li_270, ng_1, ng_2, ng_3, ng_4, ng_9, ng_10, m1_1, nI_m1, m1_nI, if_true, if_false, nI_add, pk_mul, pk_sub, nI_div, nI_rem, nI_eq, nI_leI, nI_ltI, nI_clamp, ck_in, ck_nz, bind_sm, upM_n, upM_m, upM_s, if_pos, if_neg, hasP_out h.2.1.1.2.1 (by omega) hx]
theorem mx_ub {f : Nat → Nat} : ∀ {n i : Nat}, i < n → f i ≤ (mx f n).2 := by
  intro n
  induction n with
  | zero => intro i hi; omega
  | succ n ih =>
    intro i hi
    rw [mx_s]
    by_cases q : i = n
    · subst q
      split
      · exact Nat.le_refl _
      · omega
    · have := ih (i := i) (by omega)
      split
      · dsimp only; omega
      · exact this
theorem mx_at {f : Nat → Nat} : ∀ {n : Nat}, (mx f n).2 = 0 ∨ ∃ i, i < n ∧ (mx f n).2 = f i := by
  intro n
  induction n with
  | zero => exact Or.inl rfl
  | succ n ih =>
    rw [mx_s]
    split
    · exact Or.inr ⟨n, by omega, rfl⟩
    · rcases ih with h | ⟨i, h1, h2⟩
      · exact Or.inl h
      · exact Or.inr ⟨i, by omega, h2⟩
theorem mx_max {f : Nat → Nat} {n : Nat} : (mx f (n + 1)).2 = max (f n) (mx f n).2 := by
  rw [mx_s]
  split
  · dsimp only; omega
  · omega
theorem cs_pos {f : Nat → Nat} : ∀ {n : Nat}, 0 < cs f n → ∃ i, i < n ∧ 0 < f i := by
  intro n
  induction n with
  | zero => intro h; exact absurd h (Nat.lt_irrefl 0)
  | succ n ih =>
    intro h
    rw [cs_s] at h
    by_cases q : 0 < f n
    · exact ⟨n, by omega, q⟩
    · obtain ⟨i, h1, h2⟩ := ih (by omega)
      exact ⟨i, by omega, h2⟩
theorem cs_zero : ∀ {n : Nat}, cs (fun _ => 0) n = 0 := by
  intro n
  induction n with
  | zero => rfl
  | succ n ih => rw [cs_s, ih]
/-- as the reference counts -/
def aO (α : AS) (W k d a n : Nat) : Nat := cs (fun b => if W.testBit a = true ∧ W.testBit b = true ∧ tkO α k a d = tkO α k b d then 1 else 0) n
theorem aO_le {α : AS} {W k d a n : Nat} : aO α W k d a n ≤ n := cs_le (fun i => by split <;> omega) n
theorem aO_s {α : AS} {W k d a n : Nat} : aO α W k d a (n + 1) = aO α W k d a n + if W.testBit a = true ∧ W.testBit n = true ∧ tkO α k a d = tkO α k n d then 1 else 0 := rfl
theorem aO_t {α : AS} {W k d a : Nat} (h : W.testBit a = true) : aO α W k d a 8 = cO α W k d (kO α k a d) 8 := by
  unfold aO cO
  refine cs_congr fun b _ => ?_
  by_cases q : W.testBit b = true ∧ tkO α k b d = tkO α k a d
  · rw [if_pos (c := W.testBit b = true ∧ kO α k b d = kO α k a d) ⟨q.1, kO_eq.mpr q.2⟩, if_pos ⟨h, q.1, q.2.symm⟩]
  · rw [if_neg (c := W.testBit b = true ∧ kO α k b d = kO α k a d) (fun r => q ⟨r.1, kO_eq.mp r.2⟩), if_neg (fun r => q ⟨r.2.1, r.2.2.symm⟩)]
theorem aO_f {α : AS} {W k d a : Nat} (h : ¬ W.testBit a = true) : aO α W k d a 8 = 0 := by
  unfold aO
  refine (cs_congr fun b _ => ?_).trans (cs_zero (n := 8))
  rw [if_neg (fun r => h r.1)]
theorem most_eq {α : AS} {W k d : Nat} (ok : OKA α) : (mx (fun a => aO α W k d a 8) 8).2 = mostV α W k d := by
  unfold mostV
  apply Nat.le_antisymm
  · rcases mx_at (f := fun a => aO α W k d a 8) (n := 8) with h | ⟨i, h1, h2⟩
    · omega
    · rw [h2]
      by_cases q : W.testBit i = true
      · rw [aO_t q]
        exact mx_ub (f := fun j => cO α W k d j 8) (kO_lt ok h1)
      · rw [aO_f q]; exact Nat.zero_le _
  · rcases mx_at (f := fun j => cO α W k d j 8) (n := 9) with h | ⟨j, h1, h2⟩
    · omega
    · rw [h2]
      by_cases q : 0 < cO α W k d j 8
      · obtain ⟨i, i1, i2⟩ := cs_pos q
        by_cases r : W.testBit i = true ∧ kO α k i d = j
        · obtain ⟨r1, rfl⟩ := r
          rw [← aO_t r1]
          exact mx_ub (f := fun a => aO α W k d a 8) i1
        · rw [if_neg r] at i2; omega
      · omega
theorem m_alike {α : AS} {M : Mem} {W k d : Nat} (ok : OKA α) (hW : W < 256) (hd : d < 30) (hM : ∀ v d, v < 8 → d < 30 → M 69 (30 * v + d) = oi (tkO α k v d)) : f_X6_alike (nI W) (nI d) M = some (nI (mostV α W k d)) := by
  have inner : ∀ a x3, a < 8 → loop (fun s3 : Int32 × Int32 => f_X6_alike_18_18b (nI W) (nI d) x3 (nI a) s3.1 s3.2 M) (nI 0, nI 0) = some (nI (aO α W k d a 8), nI 8) := by
    intro a x3 ha
    refine loop_for (B := fun s3 : Int32 × Int32 => f_X6_alike_18_18b (nI W) (nI d) x3 (nI a) s3.1 s3.2 M) (fun i => (nI (aO α W k d a i), nI i)) 8
      (by
        intro i hi
        dsimp only
        have b := aO_le (α := α) (W := W) (k := k) (d := d) (a := a) (n := i)
        have t1 := hM a d ha hd
        have t2 := hM i d hi hd
        have te := oi_eqO (tkO_lt (k := k) (v := a) (d := d) ok) (tkO_lt (k := k) (v := i) (d := d) ok)
        rw [aO_s]
        by_cases q1 : W.testBit a = true
        · by_cases q2 : W.testBit i = true
          · by_cases q3 : tkO α k a d = tkO α k i d
            · rw [if_pos ⟨q1, q2, q3⟩]
              unfold f_X6_alike_18_18b f_X6_alike_76_18 f_X6_alike_77_18
              simp (disch := omega) only [li_0, li_1, li_2, li_3, li_4, li_5, li_6, li_7, li_8, li_9, li_10, li_11, li_12, li_14, li_15, li_16, li_18, li_20, li_22, li_23, li_24, li_29, li_30, li_31, li_32, li_33, li_40, li_48, li_54, li_55, li_56, li_57, li_59, li_60, li_63, li_64, li_97, li_98, li_99, li_100, li_103, li_107, li_108, li_112, li_121, li_206, li_212, li_232, li_240, li_255, li_256, li_261, li_270, ng_1, ng_2, ng_3, ng_4, ng_9, ng_10, m1_1, nI_m1, m1_nI, if_true, if_false, nI_add, pk_mul, pk_sub, nI_div, nI_rem, nI_eq, nI_leI, nI_ltI, nI_clamp, ck_in, ck_nz, bind_sm, upM_n, upM_m, upM_s, if_pos, if_neg, m_isIn, t1, t2, te, q1, q2, q3]
            · rw [if_neg (fun r => q3 r.2.2)]
              unfold f_X6_alike_18_18b f_X6_alike_76_18 f_X6_alike_77_18
              simp (disch := omega) only [li_0, li_1, li_2, li_3, li_4, li_5, li_6, li_7, li_8, li_9, li_10, li_11, li_12, li_14, li_15, li_16, li_18, li_20, li_22, li_23, li_24, li_29, li_30, li_31, li_32, li_33, li_40, li_48, li_54, li_55, li_56, li_57, li_59, li_60, li_63, li_64, li_97, li_98, li_99, li_100, li_103, li_107, li_108, li_112, li_121, li_206, li_212, li_232, li_240, li_255, li_256, li_261, li_270, ng_1, ng_2, ng_3, ng_4, ng_9, ng_10, m1_1, nI_m1, m1_nI, if_true, if_false, nI_add, pk_mul, pk_sub, nI_div, nI_rem, nI_eq, nI_leI, nI_ltI, nI_clamp, ck_in, ck_nz, bind_sm, upM_n, upM_m, upM_s, if_pos, if_neg, m_isIn, t1, t2, te, q1, q2, q3, Nat.add_zero]
          · rw [if_neg (fun r => q2 r.2.1)]
            unfold f_X6_alike_18_18b f_X6_alike_76_18 f_X6_alike_77_18
            simp (disch := omega) only [li_0, li_1, li_2, li_3, li_4, li_5, li_6, li_7, li_8, li_9, li_10, li_11, li_12, li_14, li_15, li_16, li_18, li_20, li_22, li_23, li_24, li_29, li_30, li_31, li_32, li_33, li_40, li_48, li_54, li_55, li_56, li_57, li_59, li_60, li_63, li_64, li_97, li_98, li_99, li_100, li_103, li_107, li_108, li_112, li_121, li_206, li_212, li_232, li_240, li_255, li_256, li_261, li_270, ng_1, ng_2, ng_3, ng_4, ng_9, ng_10, m1_1, nI_m1, m1_nI, if_true, if_false, nI_add, pk_mul, pk_sub, nI_div, nI_rem, nI_eq, nI_leI, nI_ltI, nI_clamp, ck_in, ck_nz, bind_sm, upM_n, upM_m, upM_s, if_pos, if_neg, m_isIn, q1, q2, Nat.add_zero, Bool.false_eq_true]
        · rw [if_neg (fun r => q1 r.1)]
          unfold f_X6_alike_18_18b f_X6_alike_76_18 f_X6_alike_77_18
          simp (disch := omega) only [li_0, li_1, li_2, li_3, li_4, li_5, li_6, li_7, li_8, li_9, li_10, li_11, li_12, li_14, li_15, li_16, li_18, li_20, li_22, li_23, li_24, li_29, li_30, li_31, li_32, li_33, li_40, li_48, li_54, li_55, li_56, li_57, li_59, li_60, li_63, li_64, li_97, li_98, li_99, li_100, li_103, li_107, li_108, li_112, li_121, li_206, li_212, li_232, li_240, li_255, li_256, li_261, li_270, ng_1, ng_2, ng_3, ng_4, ng_9, ng_10, m1_1, nI_m1, m1_nI, if_true, if_false, nI_add, pk_mul, pk_sub, nI_div, nI_rem, nI_eq, nI_leI, nI_ltI, nI_clamp, ck_in, ck_nz, bind_sm, upM_n, upM_m, upM_s, if_pos, if_neg, m_isIn, q1, Nat.add_zero, Bool.false_eq_true])
      (by
        dsimp only
        unfold f_X6_alike_18_18b
        simp (disch := omega) only [li_0, li_1, li_2, li_3, li_4, li_5, li_6, li_7, li_8, li_9, li_10, li_11, li_12, li_14, li_15, li_16, li_18, li_20, li_22, li_23, li_24, li_29, li_30, li_31, li_32, li_33, li_40, li_48, li_54, li_55, li_56, li_57, li_59, li_60, li_63, li_64, li_97, li_98, li_99, li_100, li_103, li_107, li_108, li_112, li_121, li_206, li_212, li_232, li_240, li_255, li_256, li_261, li_270, ng_1, ng_2, ng_3, ng_4, ng_9, ng_10, m1_1, nI_m1, m1_nI, if_true, if_false, nI_add, pk_mul, pk_sub, nI_div, nI_rem, nI_eq, nI_leI, nI_ltI, nI_clamp, ck_in, ck_nz, bind_sm, upM_n, upM_m, upM_s, if_pos, if_neg])
  have lp := loop_for (B := fun s6 : Int32 × Int32 => f_X6_alike_5_5b (nI W) (nI d) s6.1 s6.2 M) (fun i => (nI (mx (fun a => aO α W k d a 8) i).2, nI i)) 8 (e := (nI (mx (fun a => aO α W k d a 8) 8).2, nI 8))
    (by
      intro i hi
      dsimp only
      have b1 := mx_le (f := fun a => aO α W k d a 8) (b := 8) (fun j => aO_le) i
      have b2 := aO_le (α := α) (W := W) (k := k) (d := d) (a := i) (n := 8)
      have inn := fun x3 => inner i x3 hi
      unfold f_X6_alike_5_5b
      rw [mx_max]
      simp (disch := omega) only [li_0, li_1, li_2, li_3, li_4, li_5, li_6, li_7, li_8, li_9, li_10, li_11, li_12, li_14, li_15, li_16, li_18, li_20, li_22, li_23, li_24, li_29, li_30, li_31, li_32, li_33, li_40, li_48, li_54, li_55, li_56, li_57, li_59, li_60, li_63, li_64, li_97, li_98, li_99, li_100, li_103, li_107, li_108, li_112, li_121, li_206, li_212, li_232, li_240, li_255, li_256, li_261, li_270, ng_1, ng_2, ng_3, ng_4, ng_9, ng_10, m1_1, nI_m1, m1_nI, if_true, if_false, nI_add, pk_mul, pk_sub, nI_div, nI_rem, nI_eq, nI_leI, nI_ltI, nI_clamp, ck_in, ck_nz, bind_sm, upM_n, upM_m, upM_s, if_pos, if_neg, inn, m_greater])
    (by
      dsimp only
      unfold f_X6_alike_5_5b
      simp (disch := omega) only [li_0, li_1, li_2, li_3, li_4, li_5, li_6, li_7, li_8, li_9, li_10, li_11, li_12, li_14, li_15, li_16, li_18, li_20, li_22, li_23, li_24, li_29, li_30, li_31, li_32, li_33, li_40, li_48, li_54, li_55, li_56, li_57, li_59, li_60, li_63, li_64, li_97, li_98, li_99, li_100, li_103, li_107, li_108, li_112, li_121, li_206, li_212, li_232, li_240, li_255, li_256, li_261, li_270, ng_1, ng_2, ng_3, ng_4, ng_9, ng_10, m1_1, nI_m1, m1_nI, if_true, if_false, nI_add, pk_mul, pk_sub, nI_div, nI_rem, nI_eq, nI_leI, nI_ltI, nI_clamp, ck_in, ck_nz, bind_sm, upM_n, upM_m, upM_s, if_pos, if_neg])
  unfold f_X6_alike
  rw [show nI (mx (fun a => aO α W k d a 8) 0).2 = nI 0 from rfl] at lp
  simp only [li_0, li_1, li_2, li_3, li_4, li_5, li_6, li_7, li_8, li_9, li_10, li_11, li_12, li_14, li_15, li_16, li_18, li_20, li_22, li_23, li_24, li_29, li_30, li_31, li_32, li_33, li_40, li_48, li_54, li_55, li_56, li_57, li_59, li_60, li_63, li_64, li_97, li_98, li_99, li_100, li_103, li_107, li_108, li_112, li_121, li_206, li_212, li_232, li_240, li_255, li_256, li_261, li_270, ng_1, ng_2, ng_3, ng_4, ng_9, ng_10, m1_1, nI_m1, m1_nI, if_true, if_false, nI_add, pk_mul, pk_sub, nI_div, nI_rem, nI_eq, nI_leI, nI_ltI, nI_clamp, ck_in, ck_nz, bind_sm, upM_n, upM_m, upM_s, if_pos, if_neg, lp, most_eq ok]
theorem m_askOf {α : AS} {M : Mem} {k : Nat} (ok : OKA α) (h : MJ α M) (hk : k < nP (sA α)) : ∃ M', f_X6_askOf (nI k) M = some (oi (askV α k), M') ∧ MJ α M' ∧ Fr 49 71 M M' := by
  obtain ⟨M1, a1, a2, a3, a4⟩ := m_whoseOf ok h hk
  have wl : whoseV α k < 256 := bitsOf_lt 8
  have ms := fun d (hd : d < 30) => m_alike ok wl hd a4
  have lp := loop_for (B := fun s4 : Int32 × Int32 => f_X6_askOf_11_11b (nI (whoseV α k)) s4.1 s4.2 M1) (fun i => (oi (am (mostV α (whoseV α k) k) (i + 1)), nI (i + 1))) 29 (e := (oi (am (mostV α (whoseV α k) k) 30), nI 30))
    (by
      intro i hi
      dsimp only
      obtain ⟨b, hb, hb2⟩ := am_ex (f := mostV α (whoseV α k) k) (n := i)
      rw [am_ss hb, hb, oi_s]
      have m1 := mostV_le (α := α) (W := whoseV α k) (k := k) (d := b)
      have m2 := mostV_le (α := α) (W := whoseV α k) (k := k) (d := i + 1)
      unfold f_X6_askOf_11_11b f_X6_askOf_40_11
      by_cases q : mostV α (whoseV α k) k (i + 1) < mostV α (whoseV α k) k b
      · simp (disch := omega) only [li_0, li_1, li_2, li_3, li_4, li_5, li_6, li_7, li_8, li_9, li_10, li_11, li_12, li_14, li_15, li_16, li_18, li_20, li_22, li_23, li_24, li_29, li_30, li_31, li_32, li_33, li_40, li_48, li_54, li_55, li_56, li_57, li_59, li_60, li_63, li_64, li_97, li_98, li_99, li_100, li_103, li_107, li_108, li_112, li_121, li_206, li_212, li_232, li_240, li_255, li_256, li_261, li_270, ng_1, ng_2, ng_3, ng_4, ng_9, ng_10, m1_1, nI_m1, m1_nI, if_true, if_false, nI_add, pk_mul, pk_sub, nI_div, nI_rem, nI_eq, nI_leI, nI_ltI, nI_clamp, ck_in, ck_nz, bind_sm, upM_n, upM_m, upM_s, if_pos, if_neg, ms, oi_s]
      · simp (disch := omega) only [li_0, li_1, li_2, li_3, li_4, li_5, li_6, li_7, li_8, li_9, li_10, li_11, li_12, li_14, li_15, li_16, li_18, li_20, li_22, li_23, li_24, li_29, li_30, li_31, li_32, li_33, li_40, li_48, li_54, li_55, li_56, li_57, li_59, li_60, li_63, li_64, li_97, li_98, li_99, li_100, li_103, li_107, li_108, li_112, li_121, li_206, li_212, li_232, li_240, li_255, li_256, li_261, li_270, ng_1, ng_2, ng_3, ng_4, ng_9, ng_10, m1_1, nI_m1, m1_nI, if_true, if_false, nI_add, pk_mul, pk_sub, nI_div, nI_rem, nI_eq, nI_leI, nI_ltI, nI_clamp, ck_in, ck_nz, bind_sm, upM_n, upM_m, upM_s, if_pos, if_neg, ms, oi_s])
    (by
      dsimp only
      obtain ⟨b, hb, hb2⟩ := am_ex (f := mostV α (whoseV α k) k) (n := 29)
      rw [hb, oi_s]
      unfold f_X6_askOf_11_11b
      simp (disch := omega) only [li_0, li_1, li_2, li_3, li_4, li_5, li_6, li_7, li_8, li_9, li_10, li_11, li_12, li_14, li_15, li_16, li_18, li_20, li_22, li_23, li_24, li_29, li_30, li_31, li_32, li_33, li_40, li_48, li_54, li_55, li_56, li_57, li_59, li_60, li_63, li_64, li_97, li_98, li_99, li_100, li_103, li_107, li_108, li_112, li_121, li_206, li_212, li_232, li_240, li_255, li_256, li_261, li_270, ng_1, ng_2, ng_3, ng_4, ng_9, ng_10, m1_1, nI_m1, m1_nI, if_true, if_false, nI_add, pk_mul, pk_sub, nI_div, nI_rem, nI_eq, nI_leI, nI_ltI, nI_clamp, ck_in, ck_nz, bind_sm, upM_n, upM_m, upM_s, if_pos, if_neg])
  have s0 : (oi (am (mostV α (whoseV α k) k) (0 + 1)), nI (0 + 1)) = (nI 0, nI 1) := rfl
  rw [s0] at lp
  refine ⟨M1, ?_, a2, a3⟩
  unfold f_X6_askOf askV
  simp (disch := omega) only [li_0, li_1, li_2, li_3, li_4, li_5, li_6, li_7, li_8, li_9, li_10, li_11, li_12, li_14, li_15, li_16, li_18, li_20, li_22, li_23, li_24, li_29, li_30, li_31, li_32, li_33, li_40, li_48, li_54, li_55, li_56, li_57, li_59, li_60, li_63, li_64, li_97, li_98, li_99, li_100, li_103, li_107, li_108, li_112, li_121, li_206, li_212, li_232, li_240, li_255, li_256, li_261, li_270, ng_1, ng_2, ng_3, ng_4, ng_9, ng_10, m1_1, nI_m1, m1_nI, if_true, if_false, nI_add, pk_mul, pk_sub, nI_div, nI_rem, nI_eq, nI_leI, nI_ltI, nI_clamp, ck_in, ck_nz, bind_sm, upM_n, upM_m, upM_s, if_pos, if_neg, a1, lp]
theorem m_ask {α : AS} {M : Mem} (ok : OKA α) (h : MI α M) : (∀ k, k < nP (sA α) → ∃ M', f_X6_ask (nI k) M = some (oi (askV α k), M') ∧ MJ α M' ∧ Fr 49 71 M M') ∧ ∀ x, ¬ In x (nP (sA α)) → ∃ M', f_X6_ask x M = some (m2, M') ∧ MJ α M' ∧ Fr 49 71 M M' := by
  obtain ⟨M1, g1, g2, g3⟩ := m_find ok h
  have ok2 := ok.s.1.2.1
  have e9 := g2.2.1.1.2
  have mj : MJ α M1 := ⟨g2.1, g2.2.1⟩
  refine ⟨fun k hk => ?_, fun x hx => ⟨M1, ?_, mj, g3⟩⟩
  · have e1 := m_isP (i := k) e9 (show nP (sA α) < 100 by omega) (show k < 100 by omega)
    obtain ⟨M', a1, a2, a3⟩ := m_askOf ok mj hk
    refine ⟨M', ?_, a2, g3.tr a3⟩
    unfold f_X6_ask
    simp (disch := omega) only [li_0, li_1, li_2, li_3, li_4, li_5, li_6, li_7, li_8, li_9, li_10, li_11, li_12, li_14, li_15, li_16, li_18, li_20, li_22, li_23, li_24, li_29, li_30, li_31, li_32, li_33, li_40, li_48, li_54, li_55, li_56, li_57, li_59, li_60, li_63, li_64, li_97, li_98, li_99, li_100, li_103, li_107, li_108, li_112, li_121, li_206, li_212, li_232, li_240, li_255, li_256, li_261, li_270, ng_1, ng_2, ng_3, ng_4, ng_9, ng_10, m1_1, nI_m1, m1_nI, if_true, if_false, nI_add, pk_mul, pk_sub, nI_div, nI_rem, nI_eq, nI_leI, nI_ltI, nI_clamp, ck_in, ck_nz, bind_sm, upM_n, upM_m, upM_s, if_pos, if_neg, g1, e1, a1]
  · unfold f_X6_ask
    simp (disch := omega) only [li_0, li_1, li_2, li_3, li_4, li_5, li_6, li_7, li_8, li_9, li_10, li_11, li_12, li_14, li_15, li_16, li_18, li_20, li_22, li_23, li_24, li_29, li_30, li_31, li_32, li_33, li_40, li_48, li_54, li_55, li_56, li_57, li_59, li_60, li_63, li_64, li_97, li_98, li_99, li_100, li_103, li_107, li_108, li_112, li_121, li_206, li_212, li_232, li_240, li_255, li_256, li_261, li_270, ng_1, ng_2, ng_3, ng_4, ng_9, ng_10, m1_1, nI_m1, m1_nI, if_true, if_false, nI_add, pk_mul, pk_sub, nI_div, nI_rem, nI_eq, nI_leI, nI_ltI, nI_clamp, ck_in, ck_nz, bind_sm, upM_n, upM_m, upM_s, if_pos, if_neg, g1, isP_out e9 (show nP (sA α) < 100 by omega) hx]
