-- THE DAYS ASKED: becomes, crowd, count
theorem CI.upd {α : AS} {M M' : Mem} (h : CI α M) (s : SR 5 (sA α) M') (w : ∃ n, n ≤ 30 ∧ WD 21 (sA α) n M') (hF : ∀ k, (k < 5 ∨ k = 31 ∨ k = 32 ∨ k = 33 ∨ k = 34 ∨ k = 35 ∨ (37 ≤ k ∧ k < 46)) → M' k = M k) : CI α M' := by
  obtain ⟨⟨h1, h2⟩, -, -, h6, h7, h8, h9⟩ := h
  refine ⟨⟨h1.fr (hF 1 (by omega)) (hF 2 (by omega)), h2.fr (hF 3 (by omega)) (hF 4 (by omega))⟩, s, w, ?_, ?_, ?_, ?_⟩
  · unfold StI at h6 ⊢
    rw [hF 0 (by omega), hF 45 (by omega)]
    exact h6
  · unfold HeI at h7 ⊢
    rw [hF 31 (by omega), hF 32 (by omega), hF 33 (by omega), hF 34 (by omega), hF 35 (by omega)]
    exact h7
  · intro s hs
    rw [hF _ (by omega), hF _ (by omega)]
    exact h8 s hs
  · rw [hF 0 (by omega)]
    exact h9
theorem c_firstT {α : AS} {M : Mem} (ok : OKA α) (h : CI α M) : ∃ M', f_X5_findFirstDays 21 M = some (nI (becM (sA α)), M') ∧ (∀ p, p < nP (sA α) → M' 46 p = oi (bec (sA α) p 30)) ∧ CI α M' ∧ Fr 0 49 M M' := by
  obtain ⟨M', g1, g2, g3, g4⟩ := c_first WI_21 (Or.inl rfl) ok.s h.2.1
  exact ⟨M', g1, g2, h.upd (h.2.1.fr (fun k _ _ => g4 k (by omega) (by omega))) ⟨30, by omega, g3⟩ (fun k hk => g4 k (by omega) (by omega)), fun k hk => g4 k (by omega) (by omega)⟩
theorem c_be_in {α : AS} {M : Mem} {p : Nat} (ok : OKA α) (h : CI α M) (hp : p < nP (sA α)) : ∃ M', f_X5_becomes (nI p) M = some (oi (bec (sA α) p 30), M') ∧ CI α M' ∧ Fr 0 49 M M' := by
  obtain ⟨M', g1, g2, g3, g4⟩ := c_firstT ok h
  have ok2 := ok.s.1.2.1
  have e1 := c_hasP (i := p) h.2.1.1.2.1 (show nP (sA α) < 100 by omega) (show p < 100 by omega)
  refine ⟨M', ?_, g3, g4⟩
  unfold f_X5_becomes
  simp (disch := omega) only [li_0, li_1, li_2, li_3, li_4, li_5, li_6, li_7, li_8, li_9, li_10, li_11, li_12, li_14, li_15, li_16, li_18, li_20, li_22, li_23, li_24, li_29, li_30, li_31, li_32, li_33, li_40, li_48, li_54, li_55, li_56, li_57, li_59, li_60, li_63, li_64, li_97, li_98, li_99, li_100, li_103, li_107, li_108, li_112, li_121, li_206, li_212, li_232, li_240, li_255, li_256, li_261, li_270, ng_1, ng_2, ng_3, ng_4, ng_9, ng_10, m1_1, nI_m1, m1_nI, if_true, if_false, nI_add, pk_mul, pk_sub, nI_div, nI_rem, nI_eq, nI_leI, nI_ltI, nI_clamp, ck_in, ck_nz, bind_sm, upM_n, upM_m, upM_s, if_pos, if_neg, e1, g1, g2 p hp]
theorem c_be_out {α : AS} {M : Mem} {x : Int32} (ok : OKA α) (h : CI α M) (hx : ¬ In x (nP (sA α))) : f_X5_becomes x M = some (m2, M) := by
  have ok2 := ok.s.1.2.1
  unfold f_X5_becomes
  simp (disch := omega) only [li_0, li_1, li_2, li_3, li_4, li_5, li_6, li_7, li_8, li_9, li_10, li_11, li_12, li_14, li_15, li_16, li_18, li_20, li_22, li_23, li_24, li_29, li_30, li_31, li_32, li_33, li_40, li_48, li_54, li_55, li_56, li_57, li_59, li_60, li_63, li_64, li_97, li_98, li_99, li_100, li_103, li_107, li_108, li_112, li_121, li_206, li_212, li_232, li_240, li_255, li_256, li_261, li_270, ng_1, ng_2, ng_3, ng_4, ng_9, ng_10, m1_1, nI_m1, m1_nI, if_true, if_false, nI_add, pk_mul, pk_sub, nI_div, nI_rem, nI_eq, nI_leI, nI_ltI, nI_clamp, ck_in, ck_nz, bind_sm, upM_n, upM_m, upM_s, if_pos, if_neg, hasP_out h.2.1.1.2.1 (by omega) hx]
theorem m_be {α : AS} {M : Mem} (ok : OKA α) (h : MI α M) : ∃ M', FI α M' ∧ Fr 49 71 M M' ∧ (∀ p, p < nP (sA α) → f_X6_becomes (nI p) M = some (oi (bec (sA α) p 30), M')) ∧ ∀ x, ¬ In x (nP (sA α)) → f_X6_becomes x M = some (m2, M') := by
  obtain ⟨M', g1, g2, g3⟩ := m_find ok h
  have ok2 := ok.s.1.2.1
  have e9 := g2.2.1.1.2
  refine ⟨M', g2, g3, fun p hp => ?_, fun x hx => ?_⟩
  · have e1 := m_isP (i := p) e9 (show nP (sA α) < 100 by omega) (show p < 100 by omega)
    unfold f_X6_becomes
    simp (disch := omega) only [li_0, li_1, li_2, li_3, li_4, li_5, li_6, li_7, li_8, li_9, li_10, li_11, li_12, li_14, li_15, li_16, li_18, li_20, li_22, li_23, li_24, li_29, li_30, li_31, li_32, li_33, li_40, li_48, li_54, li_55, li_56, li_57, li_59, li_60, li_63, li_64, li_97, li_98, li_99, li_100, li_103, li_107, li_108, li_112, li_121, li_206, li_212, li_232, li_240, li_255, li_256, li_261, li_270, ng_1, ng_2, ng_3, ng_4, ng_9, ng_10, m1_1, nI_m1, m1_nI, if_true, if_false, nI_add, pk_mul, pk_sub, nI_div, nI_rem, nI_eq, nI_leI, nI_ltI, nI_clamp, ck_in, ck_nz, bind_sm, upM_n, upM_m, upM_s, if_pos, if_neg, g1, e1, g2.2.2.2.2 p hp]
  · unfold f_X6_becomes
    simp (disch := omega) only [li_0, li_1, li_2, li_3, li_4, li_5, li_6, li_7, li_8, li_9, li_10, li_11, li_12, li_14, li_15, li_16, li_18, li_20, li_22, li_23, li_24, li_29, li_30, li_31, li_32, li_33, li_40, li_48, li_54, li_55, li_56, li_57, li_59, li_60, li_63, li_64, li_97, li_98, li_99, li_100, li_103, li_107, li_108, li_112, li_121, li_206, li_212, li_232, li_240, li_255, li_256, li_261, li_270, ng_1, ng_2, ng_3, ng_4, ng_9, ng_10, m1_1, nI_m1, m1_nI, if_true, if_false, nI_add, pk_mul, pk_sub, nI_div, nI_rem, nI_eq, nI_leI, nI_ltI, nI_clamp, ck_in, ck_nz, bind_sm, upM_n, upM_m, upM_s, if_pos, if_neg, g1, isP_out e9 (show nP (sA α) < 100 by omega) hx]
/-- the greatest of f below n, if it is above 0: the first -/
def mx (f : Nat → Nat) : Nat → Option Nat × Nat
  | 0 => (none, 0)
  | n + 1 => if (mx f n).2 < f n then (some n, f n) else mx f n
theorem mx_s {f : Nat → Nat} {n : Nat} : mx f (n + 1) = if (mx f n).2 < f n then (some n, f n) else mx f n := rfl
theorem mx_le {f : Nat → Nat} {b : Nat} (h : ∀ i, f i ≤ b) : ∀ n, (mx f n).2 ≤ b := by
  intro n
  induction n with
  | zero => exact Nat.zero_le _
  | succ n ih =>
    rw [mx_s]
    split
    · exact h n
    · exact ih
theorem mx_congr {f g : Nat → Nat} : ∀ {n : Nat}, (∀ i, i < n → f i = g i) → mx f n = mx g n := by
  intro n
  induction n with
  | zero => intro _; rfl
  | succ n ih => intro h; rw [mx_s, mx_s, ih (fun i hi => h i (by omega)), h n (by omega)]
/-- the place in a day's tally -/
def tkey (σ : SS) (v : WS) (p : Nat) : Nat := match tk σ v p with
  | none => 0
  | some a => a + 1
def crowdV (σ : SS) : Option Nat := (mx (fun a => cnt (tkey σ (wk σ 30)) (a + 1) (nP σ)) (nA σ)).1
theorem c_clear {M : Mem} : f_X5_clearTally M = some (filM M 47 0 270 (fun _ => nI 0)) := by
  unfold f_X5_clearTally
  have := loop_for (B := fun s1 : Int32 × Mem => f_X5_clearTally_2_2b s1.1 s1.2) (fun j => (nI j, filM M 47 0 j (fun _ => nI 0))) 270 (e := (nI 270, filM M 47 0 270 (fun _ => nI 0)))
    (by
      intro j hj
      dsimp only
      unfold f_X5_clearTally_2_2b
      simp (disch := omega) only [li_0, li_1, li_2, li_3, li_4, li_5, li_6, li_7, li_8, li_9, li_10, li_11, li_12, li_14, li_15, li_16, li_18, li_20, li_22, li_23, li_24, li_29, li_30, li_31, li_32, li_33, li_40, li_48, li_54, li_55, li_56, li_57, li_59, li_60, li_63, li_64, li_97, li_98, li_99, li_100, li_103, li_107, li_108, li_112, li_121, li_206, li_212, li_232, li_240, li_255, li_256, li_261, li_270, ng_1, ng_2, ng_3, ng_4, ng_9, ng_10, m1_1, nI_m1, m1_nI, if_true, if_false, nI_add, pk_mul, pk_sub, nI_div, nI_rem, nI_eq, nI_leI, nI_ltI, nI_clamp, ck_in, ck_nz, bind_sm, upM_n, upM_m, upM_s, if_pos, if_neg]
      rw [← filM_up0])
    (by
      dsimp only
      unfold f_X5_clearTally_2_2b
      simp (disch := omega) only [li_0, li_1, li_2, li_3, li_4, li_5, li_6, li_7, li_8, li_9, li_10, li_11, li_12, li_14, li_15, li_16, li_18, li_20, li_22, li_23, li_24, li_29, li_30, li_31, li_32, li_33, li_40, li_48, li_54, li_55, li_56, li_57, li_59, li_60, li_63, li_64, li_97, li_98, li_99, li_100, li_103, li_107, li_108, li_112, li_121, li_206, li_212, li_232, li_240, li_255, li_256, li_261, li_270, ng_1, ng_2, ng_3, ng_4, ng_9, ng_10, m1_1, nI_m1, m1_nI, if_true, if_false, nI_add, pk_mul, pk_sub, nI_div, nI_rem, nI_eq, nI_leI, nI_ltI, nI_clamp, ck_in, ck_nz, bind_sm, upM_n, upM_m, upM_s, if_pos, if_neg])
  rw [filM_0] at this
  simp only [li_0, li_1, li_2, li_3, li_4, li_5, li_6, li_7, li_8, li_9, li_10, li_11, li_12, li_14, li_15, li_16, li_18, li_20, li_22, li_23, li_24, li_29, li_30, li_31, li_32, li_33, li_40, li_48, li_54, li_55, li_56, li_57, li_59, li_60, li_63, li_64, li_97, li_98, li_99, li_100, li_103, li_107, li_108, li_112, li_121, li_206, li_212, li_232, li_240, li_255, li_256, li_261, li_270, ng_1, ng_2, ng_3, ng_4, ng_9, ng_10, m1_1, nI_m1, m1_nI, if_true, if_false, nI_add, pk_mul, pk_sub, nI_div, nI_rem, nI_eq, nI_leI, nI_ltI, nI_clamp, ck_in, ck_nz, bind_sm, upM_n, upM_m, upM_s, if_pos, if_neg, this]
theorem tkey_n {σ : SS} {v : WS} {p : Nat} (h : tk σ v p = none) : tkey σ v p = 0 := by unfold tkey; rw [h]
theorem tkey_s {σ : SS} {v : WS} {p a : Nat} (h : tk σ v p = some a) : tkey σ v p = a + 1 := by unfold tkey; rw [h]
/-- one more in the tally of the day behind which the walk stands -/
theorem c_tally {w c p D x : Nat} {σ : SS} {v : WS} {M : Mem} (hw : WI w c) (ok : OKS σ) (okv : OKW v) (hS : SR c σ M) (hp : p < nP σ) (h : WR w σ v M) (hD : M w 1 = nI D) (hD2 : D < 30) (hx : M 47 (9 * D + tkey σ v p) = nI x) (hx2 : x < 1000) : f_X5_tallyTaken w (nI p) M = some (upM M 47 (9 * D + tkey σ v p) (nI (x + 1))) := by
  have tkn := c_taken hw ok okv hS hp h
  have ok1 := ok.1.1
  unfold f_X5_tallyTaken
  cases hm : tk σ v p with
  | none =>
    rw [hm, oi_n] at tkn
    rw [tkey_n hm, Nat.add_zero] at hx ⊢
    have e : nI D * nI 9 + m1 + nI 1 = nI (9 * D) := by
      rw [Int32.add_assoc, m1_1, pk_mul, nI_add, Nat.add_zero, Nat.mul_comm]
    rw [tkn, bind_sm, hD, li_9, li_1, li_270, e, below_in (by omega) (by omega)]
    simp (disch := omega) only [li_0, li_1, li_2, li_3, li_4, li_5, li_6, li_7, li_8, li_9, li_10, li_11, li_12, li_14, li_15, li_16, li_18, li_20, li_22, li_23, li_24, li_29, li_30, li_31, li_32, li_33, li_40, li_48, li_54, li_55, li_56, li_57, li_59, li_60, li_63, li_64, li_97, li_98, li_99, li_100, li_103, li_107, li_108, li_112, li_121, li_206, li_212, li_232, li_240, li_255, li_256, li_261, li_270, ng_1, ng_2, ng_3, ng_4, ng_9, ng_10, m1_1, nI_m1, m1_nI, if_true, if_false, nI_add, pk_mul, pk_sub, nI_div, nI_rem, nI_eq, nI_leI, nI_ltI, nI_clamp, ck_in, ck_nz, bind_sm, upM_n, upM_m, upM_s, if_pos, if_neg, hx]
  | some a =>
    rw [hm, oi_s] at tkn
    have ha := am_lt hm
    rw [tkey_s hm] at hx ⊢
    have e : nI D * nI 9 + nI a + nI 1 = nI (9 * D + (a + 1)) := by
      rw [pk_mul, nI_add, nI_add]
      congr 1
      omega
    rw [tkn, bind_sm, hD, li_9, li_1, li_270, e, below_in (by omega) (by omega)]
    simp (disch := omega) only [li_0, li_1, li_2, li_3, li_4, li_5, li_6, li_7, li_8, li_9, li_10, li_11, li_12, li_14, li_15, li_16, li_18, li_20, li_22, li_23, li_24, li_29, li_30, li_31, li_32, li_33, li_40, li_48, li_54, li_55, li_56, li_57, li_59, li_60, li_63, li_64, li_97, li_98, li_99, li_100, li_103, li_107, li_108, li_112, li_121, li_206, li_212, li_232, li_240, li_255, li_256, li_261, li_270, ng_1, ng_2, ng_3, ng_4, ng_9, ng_10, m1_1, nI_m1, m1_nI, if_true, if_false, nI_add, pk_mul, pk_sub, nI_div, nI_rem, nI_eq, nI_leI, nI_ltI, nI_clamp, ck_in, ck_nz, bind_sm, upM_n, upM_m, upM_s, if_pos, if_neg, hx]
theorem tkey_lt {σ : SS} {v : WS} {p : Nat} (ok : OKS σ) : tkey σ v p < 9 := by
  have ok1 := ok.1.1
  unfold tkey
  split
  · omega
  next a hm => have := am_lt hm; omega
theorem c_crowd {α : AS} {M : Mem} (ok : OKA α) (h : CI α M) : ∃ M', f_X5_crowd M = some (oi (crowdV (sA α)), M') ∧ CI α M' ∧ Fr 0 49 M M' := by
  obtain ⟨M1, g1, g2, g3, g4⟩ := c_stand (d := 29) ok h (by omega)
  have oks := ok.s
  have ok1 := oks.1.1
  have ok2 := oks.1.2.1
  have okv := oks.wk 30
  have day : ∀ N : Mem, N 21 = M1 21 → N 21 1 = nI 29 := by
    intro N hN
    rw [hN]
    have := g2.2.1
    have e : ∀ x : Int32, x = x + nI 1 - nI 1 := fun x => by rw [Int32.add_sub_cancel]
    rw [e (M1 21 1), this, nI_pred']
  have kl := fun p => tkey_lt (σ := sA α) (v := wk (sA α) 30) (p := p) oks
  obtain ⟨e1, l1, F1, p1⟩ := loop_inv (B := fun s4 : Int32 × Mem => f_X5_crowd_12_12b s4.1 s4.2) (fun i q => q.1 = nI i ∧ (∀ k, k ≠ 47 → q.2 k = M1 k) ∧ ∀ j, j < 9 → q.2 47 (9 * 29 + j) = nI (cnt (tkey (sA α) (wk (sA α) 30)) j i))
    (fun q => (∀ k, k ≠ 47 → q.2 k = M1 k) ∧ ∀ j, j < 9 → q.2 47 (9 * 29 + j) = nI (cnt (tkey (sA α) (wk (sA α) 30)) j (nP (sA α)))) (nP (sA α)) (s := (nI 0, filM M1 47 0 270 (fun _ => nI 0)))
    (by
      refine ⟨rfl, fun k hk => by dsimp only; exact filM_n hk, fun j hj => ?_⟩
      dsimp only
      rw [filM_in (by omega) (by omega)]
      rfl)
    (by
      rintro i ⟨x, N⟩ hi ⟨rfl, c1, c2⟩
      dsimp only at c1 c2 ⊢
      have t3 : N 5 3 = nI (nP (sA α)) := by rw [c1 5 (by omega)]; exact g3.2.1.1.2.1
      have cl := cnt_le (we := tkey (sA α) (wk (sA α) 30)) (tkey (sA α) (wk (sA α) 30) i) i
      have tl := c_tally (D := 29) WI_21 oks okv (g3.2.1.fr (M' := N) (fun k _ _ => c1 k (by omega))) hi (g2.fr (M' := N) (fun k _ _ => c1 k (by omega))).1 (day N (c1 21 (by omega))) (by omega) (c2 _ (kl i)) (by omega)
      refine ⟨(nI (i + 1), upM N 47 (9 * 29 + tkey (sA α) (wk (sA α) 30) i) (nI (cnt (tkey (sA α) (wk (sA α) 30)) (tkey (sA α) (wk (sA α) 30) i) i + 1))), ?_, rfl, fun k hk => by dsimp only; rw [upM_n hk]; exact c1 k hk, fun j hj => ?_⟩
      · unfold f_X5_crowd_12_12b
        simp (disch := omega) only [li_0, li_1, li_2, li_3, li_4, li_5, li_6, li_7, li_8, li_9, li_10, li_11, li_12, li_14, li_15, li_16, li_18, li_20, li_22, li_23, li_24, li_29, li_30, li_31, li_32, li_33, li_40, li_48, li_54, li_55, li_56, li_57, li_59, li_60, li_63, li_64, li_97, li_98, li_99, li_100, li_103, li_107, li_108, li_112, li_121, li_206, li_212, li_232, li_240, li_255, li_256, li_261, li_270, ng_1, ng_2, ng_3, ng_4, ng_9, ng_10, m1_1, nI_m1, m1_nI, if_true, if_false, nI_add, pk_mul, pk_sub, nI_div, nI_rem, nI_eq, nI_leI, nI_ltI, nI_clamp, ck_in, ck_nz, bind_sm, upM_n, upM_m, upM_s, if_pos, if_neg, t3, tl]
      · dsimp only
        rw [cnt_s]
        by_cases q : j = tkey (sA α) (wk (sA α) 30) i
        · subst q
          rw [upM_s, if_pos rfl]
        · rw [upM_m (by omega), if_neg (fun e => q e.symm)]
          exact c2 j hj)
    (by
      rintro ⟨x, N⟩ ⟨rfl, c1, c2⟩
      dsimp only at c1 c2 ⊢
      have t3 : N 5 3 = nI (nP (sA α)) := by rw [c1 5 (by omega)]; exact g3.2.1.1.2.1
      refine ⟨(nI (nP (sA α)), N), ?_, c1, c2⟩
      unfold f_X5_crowd_12_12b
      simp (disch := omega) only [li_0, li_1, li_2, li_3, li_4, li_5, li_6, li_7, li_8, li_9, li_10, li_11, li_12, li_14, li_15, li_16, li_18, li_20, li_22, li_23, li_24, li_29, li_30, li_31, li_32, li_33, li_40, li_48, li_54, li_55, li_56, li_57, li_59, li_60, li_63, li_64, li_97, li_98, li_99, li_100, li_103, li_107, li_108, li_112, li_121, li_206, li_212, li_232, li_240, li_255, li_256, li_261, li_270, ng_1, ng_2, ng_3, ng_4, ng_9, ng_10, m1_1, nI_m1, m1_nI, if_true, if_false, nI_add, pk_mul, pk_sub, nI_div, nI_rem, nI_eq, nI_leI, nI_ltI, nI_clamp, ck_in, ck_nz, bind_sm, upM_n, upM_m, upM_s, if_pos, if_neg, t3])
  have t0 : e1.2 5 0 = nI (nA (sA α)) := by rw [F1 5 (by omega)]; exact g3.2.1.1.1
  have ml := mx_le (f := fun a => cnt (tkey (sA α) (wk (sA α) 30)) (a + 1) (nP (sA α))) (b := 8) (fun a => Nat.le_trans (cnt_le _ _) ok2)
  have l2 : loop (fun s6 : Int32 × Int32 × Int32 => f_X5_crowd_44_44b s6.1 s6.2.1 s6.2.2 e1.2) (m1, nI 0, nI 0) = some (oi (mx (fun a => cnt (tkey (sA α) (wk (sA α) 30)) (a + 1) (nP (sA α))) (nA (sA α))).1, nI (mx (fun a => cnt (tkey (sA α) (wk (sA α) 30)) (a + 1) (nP (sA α))) (nA (sA α))).2, nI (nA (sA α))) := by
    refine loop_for (B := fun s6 : Int32 × Int32 × Int32 => f_X5_crowd_44_44b s6.1 s6.2.1 s6.2.2 e1.2) (fun i => (oi (mx (fun a => cnt (tkey (sA α) (wk (sA α) 30)) (a + 1) (nP (sA α))) i).1, nI (mx (fun a => cnt (tkey (sA α) (wk (sA α) 30)) (a + 1) (nP (sA α))) i).2, nI i)) (nA (sA α))
      (by
        intro i hi
        dsimp only
        have e := p1 (i + 1) (by omega)
        rw [show 9 * 29 + (i + 1) = 261 + i + 1 by omega] at e
        have m := ml i
        have c := cnt_le (we := tkey (sA α) (wk (sA α) 30)) (i + 1) (nP (sA α))
        unfold f_X5_crowd_44_44b f_X5_crowd_80_44
        rw [mx_s]
        by_cases q : (mx (fun a => cnt (tkey (sA α) (wk (sA α) 30)) (a + 1) (nP (sA α))) i).2 < cnt (tkey (sA α) (wk (sA α) 30)) (i + 1) (nP (sA α))
        · simp (disch := omega) only [li_0, li_1, li_2, li_3, li_4, li_5, li_6, li_7, li_8, li_9, li_10, li_11, li_12, li_14, li_15, li_16, li_18, li_20, li_22, li_23, li_24, li_29, li_30, li_31, li_32, li_33, li_40, li_48, li_54, li_55, li_56, li_57, li_59, li_60, li_63, li_64, li_97, li_98, li_99, li_100, li_103, li_107, li_108, li_112, li_121, li_206, li_212, li_232, li_240, li_255, li_256, li_261, li_270, ng_1, ng_2, ng_3, ng_4, ng_9, ng_10, m1_1, nI_m1, m1_nI, if_true, if_false, nI_add, pk_mul, pk_sub, nI_div, nI_rem, nI_eq, nI_leI, nI_ltI, nI_clamp, ck_in, ck_nz, bind_sm, upM_n, upM_m, upM_s, if_pos, if_neg, t0, e, oi_s]
        · simp (disch := omega) only [li_0, li_1, li_2, li_3, li_4, li_5, li_6, li_7, li_8, li_9, li_10, li_11, li_12, li_14, li_15, li_16, li_18, li_20, li_22, li_23, li_24, li_29, li_30, li_31, li_32, li_33, li_40, li_48, li_54, li_55, li_56, li_57, li_59, li_60, li_63, li_64, li_97, li_98, li_99, li_100, li_103, li_107, li_108, li_112, li_121, li_206, li_212, li_232, li_240, li_255, li_256, li_261, li_270, ng_1, ng_2, ng_3, ng_4, ng_9, ng_10, m1_1, nI_m1, m1_nI, if_true, if_false, nI_add, pk_mul, pk_sub, nI_div, nI_rem, nI_eq, nI_leI, nI_ltI, nI_clamp, ck_in, ck_nz, bind_sm, upM_n, upM_m, upM_s, if_pos, if_neg, t0, e])
      (by
        dsimp only
        unfold f_X5_crowd_44_44b
        simp (disch := omega) only [li_0, li_1, li_2, li_3, li_4, li_5, li_6, li_7, li_8, li_9, li_10, li_11, li_12, li_14, li_15, li_16, li_18, li_20, li_22, li_23, li_24, li_29, li_30, li_31, li_32, li_33, li_40, li_48, li_54, li_55, li_56, li_57, li_59, li_60, li_63, li_64, li_97, li_98, li_99, li_100, li_103, li_107, li_108, li_112, li_121, li_206, li_212, li_232, li_240, li_255, li_256, li_261, li_270, ng_1, ng_2, ng_3, ng_4, ng_9, ng_10, m1_1, nI_m1, m1_nI, if_true, if_false, nI_add, pk_mul, pk_sub, nI_div, nI_rem, nI_eq, nI_leI, nI_ltI, nI_clamp, ck_in, ck_nz, bind_sm, upM_n, upM_m, upM_s, if_pos, if_neg, t0])
  refine ⟨e1.2, ?_, g3.upd (g3.2.1.fr (fun k _ _ => F1 k (by omega))) ⟨30, by omega, g2.fr (fun k _ _ => F1 k (by omega))⟩ (fun k hk => F1 k (by omega)), fun k hk => by rw [F1 k (by omega), g4 k (by omega)]⟩
  unfold f_X5_crowd crowdV
  simp only [li_0, li_1, li_2, li_3, li_4, li_5, li_6, li_7, li_8, li_9, li_10, li_11, li_12, li_14, li_15, li_16, li_18, li_20, li_22, li_23, li_24, li_29, li_30, li_31, li_32, li_33, li_40, li_48, li_54, li_55, li_56, li_57, li_59, li_60, li_63, li_64, li_97, li_98, li_99, li_100, li_103, li_107, li_108, li_112, li_121, li_206, li_212, li_232, li_240, li_255, li_256, li_261, li_270, ng_1, ng_2, ng_3, ng_4, ng_9, ng_10, m1_1, nI_m1, m1_nI, if_true, if_false, nI_add, pk_mul, pk_sub, nI_div, nI_rem, nI_eq, nI_leI, nI_ltI, nI_clamp, ck_in, ck_nz, bind_sm, upM_n, upM_m, upM_s, if_pos, if_neg, g1, c_clear]
  simp only [l1, bind_sm, l2]
theorem m_crowd {α : AS} {M : Mem} (ok : OKA α) (h : FI α M) : f_X6_crowdNow M = some (oi (crowdV (sA α))) := by
  have oks := ok.s
  have ok1 := oks.1.1
  have ok2 := oks.1.2.1
  have e7 := h.2.1.1.1
  have e9 := h.2.1.1.2
  obtain ⟨-, -, c3⟩ := h.2.2.2.1 29 (by omega)
  have ml := mx_le (f := fun a => cnt (tkey (sA α) (wk (sA α) 30)) (a + 1) (nP (sA α))) (b := 8) (fun a => Nat.le_trans (cnt_le _ _) ok2)
  have inner : ∀ a x1 x2, a < 100 → loop (fun s1 : Int32 × Int32 => f_X6_crowdNow_20_20b x1 x2 (nI a) s1.1 s1.2 M) (nI 0, nI 0) = some (nI (cnt (tkey (sA α) (wk (sA α) 30)) (a + 1) (nP (sA α))), nI (nP (sA α))) := by
    intro a x1 x2 ha
    refine loop_for (B := fun s1 : Int32 × Int32 => f_X6_crowdNow_20_20b x1 x2 (nI a) s1.1 s1.2 M) (fun i => (nI (cnt (tkey (sA α) (wk (sA α) 30)) (a + 1) i), nI i)) (nP (sA α))
      (by
        intro i hi
        dsimp only
        obtain ⟨-, d2, -⟩ := c3 i hi
        rw [show 8 * 29 + i = 232 + i by omega] at d2
        have c := cnt_le (we := tkey (sA α) (wk (sA α) 30)) (a + 1) i
        unfold f_X6_crowdNow_20_20b f_X6_crowdNow_51_20
        rw [cnt_s]
        cases hm : tk (sA α) (wk (sA α) 30) i with
        | none =>
          rw [hm] at d2
          have tke : tkey (sA α) (wk (sA α) 30) i = 0 := by unfold tkey; rw [hm]
          simp (disch := omega) only [li_0, li_1, li_2, li_3, li_4, li_5, li_6, li_7, li_8, li_9, li_10, li_11, li_12, li_14, li_15, li_16, li_18, li_20, li_22, li_23, li_24, li_29, li_30, li_31, li_32, li_33, li_40, li_48, li_54, li_55, li_56, li_57, li_59, li_60, li_63, li_64, li_97, li_98, li_99, li_100, li_103, li_107, li_108, li_112, li_121, li_206, li_212, li_232, li_240, li_255, li_256, li_261, li_270, ng_1, ng_2, ng_3, ng_4, ng_9, ng_10, m1_1, nI_m1, m1_nI, if_true, if_false, nI_add, pk_mul, pk_sub, nI_div, nI_rem, nI_eq, nI_leI, nI_ltI, nI_clamp, ck_in, ck_nz, bind_sm, upM_n, upM_m, upM_s, if_pos, if_neg, e9, d2, oi_n, tke]
        | some b =>
          rw [hm] at d2
          have hb := am_lt hm
          have tke : tkey (sA α) (wk (sA α) 30) i = b + 1 := by unfold tkey; rw [hm]
          by_cases q : b = a
          · simp (disch := omega) only [li_0, li_1, li_2, li_3, li_4, li_5, li_6, li_7, li_8, li_9, li_10, li_11, li_12, li_14, li_15, li_16, li_18, li_20, li_22, li_23, li_24, li_29, li_30, li_31, li_32, li_33, li_40, li_48, li_54, li_55, li_56, li_57, li_59, li_60, li_63, li_64, li_97, li_98, li_99, li_100, li_103, li_107, li_108, li_112, li_121, li_206, li_212, li_232, li_240, li_255, li_256, li_261, li_270, ng_1, ng_2, ng_3, ng_4, ng_9, ng_10, m1_1, nI_m1, m1_nI, if_true, if_false, nI_add, pk_mul, pk_sub, nI_div, nI_rem, nI_eq, nI_leI, nI_ltI, nI_clamp, ck_in, ck_nz, bind_sm, upM_n, upM_m, upM_s, if_pos, if_neg, e9, d2, oi_s, tke]
          · simp (disch := omega) only [li_0, li_1, li_2, li_3, li_4, li_5, li_6, li_7, li_8, li_9, li_10, li_11, li_12, li_14, li_15, li_16, li_18, li_20, li_22, li_23, li_24, li_29, li_30, li_31, li_32, li_33, li_40, li_48, li_54, li_55, li_56, li_57, li_59, li_60, li_63, li_64, li_97, li_98, li_99, li_100, li_103, li_107, li_108, li_112, li_121, li_206, li_212, li_232, li_240, li_255, li_256, li_261, li_270, ng_1, ng_2, ng_3, ng_4, ng_9, ng_10, m1_1, nI_m1, m1_nI, if_true, if_false, nI_add, pk_mul, pk_sub, nI_div, nI_rem, nI_eq, nI_leI, nI_ltI, nI_clamp, ck_in, ck_nz, bind_sm, upM_n, upM_m, upM_s, if_pos, if_neg, e9, d2, oi_s, tke])
      (by
        dsimp only
        unfold f_X6_crowdNow_20_20b
        simp (disch := omega) only [li_0, li_1, li_2, li_3, li_4, li_5, li_6, li_7, li_8, li_9, li_10, li_11, li_12, li_14, li_15, li_16, li_18, li_20, li_22, li_23, li_24, li_29, li_30, li_31, li_32, li_33, li_40, li_48, li_54, li_55, li_56, li_57, li_59, li_60, li_63, li_64, li_97, li_98, li_99, li_100, li_103, li_107, li_108, li_112, li_121, li_206, li_212, li_232, li_240, li_255, li_256, li_261, li_270, ng_1, ng_2, ng_3, ng_4, ng_9, ng_10, m1_1, nI_m1, m1_nI, if_true, if_false, nI_add, pk_mul, pk_sub, nI_div, nI_rem, nI_eq, nI_leI, nI_ltI, nI_clamp, ck_in, ck_nz, bind_sm, upM_n, upM_m, upM_s, if_pos, if_neg, e9])
  have l2 : loop (fun s4 : Int32 × Int32 × Int32 => f_X6_crowdNow_6_6b s4.1 s4.2.1 s4.2.2 M) (m1, nI 0, nI 0) = some (oi (mx (fun a => cnt (tkey (sA α) (wk (sA α) 30)) (a + 1) (nP (sA α))) (nA (sA α))).1, nI (mx (fun a => cnt (tkey (sA α) (wk (sA α) 30)) (a + 1) (nP (sA α))) (nA (sA α))).2, nI (nA (sA α))) := by
    refine loop_for (B := fun s4 : Int32 × Int32 × Int32 => f_X6_crowdNow_6_6b s4.1 s4.2.1 s4.2.2 M) (fun i => (oi (mx (fun a => cnt (tkey (sA α) (wk (sA α) 30)) (a + 1) (nP (sA α))) i).1, nI (mx (fun a => cnt (tkey (sA α) (wk (sA α) 30)) (a + 1) (nP (sA α))) i).2, nI i)) (nA (sA α))
      (by
        intro i hi
        dsimp only
        have m := ml i
        have c := cnt_le (we := tkey (sA α) (wk (sA α) 30)) (i + 1) (nP (sA α))
        have inn := fun x1 x2 => inner i x1 x2 (by omega)
        unfold f_X6_crowdNow_6_6b f_X6_crowdNow_71_6
        rw [mx_s]
        by_cases q : (mx (fun a => cnt (tkey (sA α) (wk (sA α) 30)) (a + 1) (nP (sA α))) i).2 < cnt (tkey (sA α) (wk (sA α) 30)) (i + 1) (nP (sA α))
        · simp (disch := omega) only [li_0, li_1, li_2, li_3, li_4, li_5, li_6, li_7, li_8, li_9, li_10, li_11, li_12, li_14, li_15, li_16, li_18, li_20, li_22, li_23, li_24, li_29, li_30, li_31, li_32, li_33, li_40, li_48, li_54, li_55, li_56, li_57, li_59, li_60, li_63, li_64, li_97, li_98, li_99, li_100, li_103, li_107, li_108, li_112, li_121, li_206, li_212, li_232, li_240, li_255, li_256, li_261, li_270, ng_1, ng_2, ng_3, ng_4, ng_9, ng_10, m1_1, nI_m1, m1_nI, if_true, if_false, nI_add, pk_mul, pk_sub, nI_div, nI_rem, nI_eq, nI_leI, nI_ltI, nI_clamp, ck_in, ck_nz, bind_sm, upM_n, upM_m, upM_s, if_pos, if_neg, e7, inn, m_greater, oi_s, Nat.max_eq_left]
        · simp (disch := omega) only [li_0, li_1, li_2, li_3, li_4, li_5, li_6, li_7, li_8, li_9, li_10, li_11, li_12, li_14, li_15, li_16, li_18, li_20, li_22, li_23, li_24, li_29, li_30, li_31, li_32, li_33, li_40, li_48, li_54, li_55, li_56, li_57, li_59, li_60, li_63, li_64, li_97, li_98, li_99, li_100, li_103, li_107, li_108, li_112, li_121, li_206, li_212, li_232, li_240, li_255, li_256, li_261, li_270, ng_1, ng_2, ng_3, ng_4, ng_9, ng_10, m1_1, nI_m1, m1_nI, if_true, if_false, nI_add, pk_mul, pk_sub, nI_div, nI_rem, nI_eq, nI_leI, nI_ltI, nI_clamp, ck_in, ck_nz, bind_sm, upM_n, upM_m, upM_s, if_pos, if_neg, e7, inn, m_greater, Nat.max_eq_right])
      (by
        dsimp only
        unfold f_X6_crowdNow_6_6b
        simp (disch := omega) only [li_0, li_1, li_2, li_3, li_4, li_5, li_6, li_7, li_8, li_9, li_10, li_11, li_12, li_14, li_15, li_16, li_18, li_20, li_22, li_23, li_24, li_29, li_30, li_31, li_32, li_33, li_40, li_48, li_54, li_55, li_56, li_57, li_59, li_60, li_63, li_64, li_97, li_98, li_99, li_100, li_103, li_107, li_108, li_112, li_121, li_206, li_212, li_232, li_240, li_255, li_256, li_261, li_270, ng_1, ng_2, ng_3, ng_4, ng_9, ng_10, m1_1, nI_m1, m1_nI, if_true, if_false, nI_add, pk_mul, pk_sub, nI_div, nI_rem, nI_eq, nI_leI, nI_ltI, nI_clamp, ck_in, ck_nz, bind_sm, upM_n, upM_m, upM_s, if_pos, if_neg, e7])
  unfold f_X6_crowdNow crowdV
  simp only [li_0, li_1, li_2, li_3, li_4, li_5, li_6, li_7, li_8, li_9, li_10, li_11, li_12, li_14, li_15, li_16, li_18, li_20, li_22, li_23, li_24, li_29, li_30, li_31, li_32, li_33, li_40, li_48, li_54, li_55, li_56, li_57, li_59, li_60, li_63, li_64, li_97, li_98, li_99, li_100, li_103, li_107, li_108, li_112, li_121, li_206, li_212, li_232, li_240, li_255, li_256, li_261, li_270, ng_1, ng_2, ng_3, ng_4, ng_9, ng_10, m1_1, nI_m1, m1_nI, if_true, if_false, nI_add, pk_mul, pk_sub, nI_div, nI_rem, nI_eq, nI_leI, nI_ltI, nI_clamp, ck_in, ck_nz, bind_sm, upM_n, upM_m, upM_s, if_pos, if_neg, l2]
