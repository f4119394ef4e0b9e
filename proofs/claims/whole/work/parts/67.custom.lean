-- HIRINGS BY CHANCE
theorem bitsOf_bit {P : Nat → Prop} : ∀ {n i : Nat}, i < n → ((bitsOf P n).testBit i = true ↔ P i) := by
  intro n
  induction n with
  | zero => intro i h; omega
  | succ n ih =>
    intro i h
    have lt := bitsOf_lt (P := P) n
    by_cases q : P n
    · rw [bitsOf_t q, Nat.add_comm]
      by_cases e : i = n
      · subst e
        rw [Nat.testBit_two_pow_add_eq, Nat.testBit_lt_two_pow lt]
        simp [q]
      · rw [Nat.testBit_two_pow_add_gt (by omega)]
        exact ih (by omega)
    · rw [bitsOf_f q]
      by_cases e : i = n
      · subst e
        rw [Nat.testBit_lt_two_pow lt]
        simp [q]
      · exact ih (by omega)
def kept (α : AS) (sub : Nat) : SS := withH (sA α) (keepI sub.testBit (hlA α) 0)
theorem kept_ok {α : AS} {sub : Nat} (ok : OKA α) : OKS (kept α sub) := by
  have h1 := keepI_len (f := sub.testBit) (hlA α) 0
  have h2 := ok.2.2.1.1
  exact withH_ok ok.s (by omega) fun h hh => ok.2.2.1.2 h (keepI_mem _ _ hh)
noncomputable def tC (α : AS) (x k sub : Nat) : Nat := if (abits (kept α sub)).testBit k = true then wt x sub (hlA α).length else 0
noncomputable def cT (α : AS) (x k : Nat) : Nat := cs (tC α x k) (2 ^ (hlA α).length)
noncomputable def customV (α : AS) (x k w : Nat) : Int64 := nZ ((if w = 0 then cT α x k else 2 ^ (4 * (hlA α).length)) / Nat.gcd (cT α x k) (2 ^ (4 * (hlA α).length)))
theorem tC_le {α : AS} {x k sub : Nat} (ok : OKA α) (hx : x ≤ 16) : tC α x k sub ≤ 2 ^ 32 := by
  have h2 := ok.2.2.1.1
  unfold tC
  split
  · have h3 := wt_le (sub := sub) hx (hlA α).length
    have h4 : 16 ^ (hlA α).length ≤ 16 ^ 8 := Nat.pow_le_pow_right (by decide) h2
    have h5 : (16 : Nat) ^ 8 = 2 ^ 32 := by decide
    omega
  · exact Nat.zero_le _
theorem p_le {n : Nat} (h : n ≤ 8) : 2 ^ n ≤ 256 := show 2 ^ n ≤ 2 ^ 8 from Nat.pow_le_pow_right (by decide) h
theorem cT_le {α : AS} {x k : Nat} (ok : OKA α) (hx : x ≤ 16) : cT α x k ≤ 256 * 2 ^ 32 := by
  have h1 := cs_bd (f := tC α x k) (fun i => tC_le ok hx) (2 ^ (hlA α).length)
  have h2 := p_le ok.2.2.1.1
  have h3 : 2 ^ (hlA α).length * 2 ^ 32 ≤ 256 * 2 ^ 32 := Nat.mul_le_mul_right _ h2
  exact Nat.le_trans h1 h3
/-- the store of who would be astray is written -/
theorem CI.st {α : AS} {M M' : Mem} (h : CI α M) (hst : StI α M') (f0 : ∀ j, j ≠ 9 → M' 0 j = M 0 j) (hF : ∀ k, k ≠ 0 → k ≠ 45 → (k < 13 ∨ (21 ≤ k ∧ k < 26) ∨ 31 ≤ k) → M' k = M k) : CI α M' := by
  obtain ⟨⟨h1, h2⟩, h3, ⟨n, h4, h5⟩, -, h7, h8, h9⟩ := h
  refine ⟨⟨h1.fr (hF 1 (by omega) (by omega) (by omega)) (hF 2 (by omega) (by omega) (by omega)), h2.fr (hF 3 (by omega) (by omega) (by omega)) (hF 4 (by omega) (by omega) (by omega))⟩, h3.fr (fun k _ _ => hF k (by omega) (by omega) (by omega)), ⟨n, h4, h5.fr (fun k _ _ => hF k (by omega) (by omega) (by omega))⟩, hst, ?_, ?_, ?_⟩
  · unfold HeI at h7 ⊢
    rw [hF 31 (by omega) (by omega) (by omega), hF 32 (by omega) (by omega) (by omega), hF 33 (by omega) (by omega) (by omega), hF 34 (by omega) (by omega) (by omega), hF 35 (by omega) (by omega) (by omega)]
    exact h7
  · intro s hs
    rw [hF _ (by omega) (by omega) (by omega), hF _ (by omega) (by omega) (by omega)]
    exact h8 s hs
  · rw [f0 13 (by omega)]
    exact h9
theorem c_learnS {α : AS} {M : Mem} (ok : OKA α) (h : CI α M) : ∃ M', f_X5_learnStrays M = some M' ∧ CI α M' ∧ (∀ sub, sub < 2 ^ (hlA α).length → M' 45 sub = nI (abits (kept α sub))) ∧ Fr 0 49 M M' := by
  have h8 : (hlA α).length ≤ 8 := ok.2.2.1.1
  have p8 := p_le h8
  unfold f_X5_learnStrays
  rcases h.2.2.2.1 with h0 | ⟨h0, h1⟩
  · obtain ⟨e, l1, l2, l3, l4⟩ := loop_inv (B := fun s6 : Int32 × Mem => f_X5_learnStrays_10_10b s6.1 s6.2) (fun i q => q.1 = nI i ∧ (q.2 0 = M 0) ∧ (∀ k, k ≠ 0 → k ≠ 45 → (k < 13 ∨ (21 ≤ k ∧ k < 26) ∨ 31 ≤ k) → q.2 k = M k) ∧ ∀ sub, sub < i → q.2 45 sub = nI (abits (kept α sub)))
      (fun q => (q.2 0 = M 0) ∧ (∀ k, k ≠ 0 → k ≠ 45 → (k < 13 ∨ (21 ≤ k ∧ k < 26) ∨ 31 ≤ k) → q.2 k = M k) ∧ ∀ sub, sub < 2 ^ (hlA α).length → q.2 45 sub = nI (abits (kept α sub))) (2 ^ (hlA α).length) (s := (nI 0, M))
      (by exact ⟨rfl, rfl, fun _ _ _ _ => rfl, fun _ h => by omega⟩)
      (by
        rintro i ⟨x, N⟩ hi ⟨hx, c0, c1, c2⟩
        dsimp only at hx c0 c1 c2 ⊢
        subst hx
        have cN : CI α N := h.st (Or.inl (by rw [c0]; exact h0)) (fun j _ => by rw [c0]) c1
        have e6 : N 5 6 = nI (hlA α).length := cN.2.1.1.2.2
        obtain ⟨M1, a1, a2, a3⟩ := c_become ok.s cN.2.1
        obtain ⟨M2, b1, b2, b3⟩ := c_keep (sub := i) SI_13 (show (hs (sA α)).length ≤ 8 from h8) (by omega) a2
        have okk := kept_ok (sub := i) ok
        obtain ⟨M3, M4, d1, d2, d3, d4, d5⟩ := c_run okk b2
        have as := c_astray WI_26 okk (okk.wk 30) d5 d3.1
        have fr : ∀ k, (k < 13 ∨ (21 ≤ k ∧ k < 26) ∨ 31 ≤ k) → M4 k = N k := fun k hk => by rw [d4 k (by omega), b3 k (by omega), a3 k (by omega)]
        refine ⟨(nI (i + 1), upM M4 45 i (nI (abits (kept α i)))), ?_, rfl, ?_, fun k h1 h2 h3 => ?_, fun sub hsub => ?_⟩
        · have sh := shl1 (i := (hlA α).length) (by omega)
          unfold f_X5_learnStrays_10_10b
          rw [e6, li_1, sh, if_neg (fun r => by rw [nI_leI (by omega) (by omega)] at r; omega), li_256, if_neg (fun r => by rw [nI_leI (by omega) (by omega)] at r; omega), a1, bind_sm, b1, bind_sm, d1, bind_sm, li_29, d2, bind_sm, as, bind_sm, ck_in (by omega) (by omega), nI_add, nI_clamp (by omega)]
          rfl
        · dsimp only
          rw [upM_n (by omega), fr 0 (by omega)]; exact c0
        · dsimp only
          rw [upM_n h2, fr k h3]; exact c1 k h1 h2 h3
        · dsimp only
          by_cases q : sub = i
          · subst q; rw [upM_s]
          · rw [upM_m q, fr 45 (by omega)]; exact c2 sub (by omega))
      (by
        rintro ⟨x, N⟩ ⟨hx, c0, c1, c2⟩
        dsimp only at hx c0 c1 c2 ⊢
        subst hx
        have cN : CI α N := h.st (Or.inl (by rw [c0]; exact h0)) (fun j _ => by rw [c0]) c1
        have e6 : N 5 6 = nI (hlA α).length := cN.2.1.1.2.2
        refine ⟨(nI (2 ^ (hlA α).length), N), ?_, c0, c1, c2⟩
        have sh := shl1 (i := (hlA α).length) (by omega)
        unfold f_X5_learnStrays_10_10b
        rw [e6, li_1, sh, if_pos ((nI_leI (by omega) (by omega)).mpr (Nat.le_refl _))])
    refine ⟨upM e.2 0 9 (nI 1), ?_, h.st (Or.inr ⟨upM_s, fun sub hs => ?_⟩) (fun j hj => ?_) (fun k h1 h2 h3 => ?_), fun sub hs => ?_, fun k hk => ?_⟩
    · simp only [li_0, li_1, li_2, li_3, li_4, li_5, li_6, li_7, li_8, li_9, li_10, li_11, li_12, li_14, li_15, li_16, li_18, li_20, li_22, li_23, li_24, li_29, li_30, li_31, li_32, li_33, li_40, li_48, li_54, li_55, li_56, li_57, li_59, li_60, li_63, li_64, li_97, li_98, li_99, li_100, li_103, li_107, li_108, li_112, li_121, li_206, li_212, li_232, li_240, li_255, li_256, li_261, li_270, ng_1, ng_2, ng_3, ng_4, ng_9, ng_10, m1_1, nI_m1, m1_nI, if_true, if_false, nI_add, pk_mul, pk_sub, nI_div, nI_rem, nI_eq, nI_leI, nI_ltI, nI_clamp, ck_in, ck_nz, bind_sm, upM_n, upM_m, upM_s, if_pos, if_neg, h0, l1]
    · rw [upM_n (by omega)]; exact l4 sub hs
    · rw [upM_m hj, l2]
    · rw [upM_n h1]; exact l3 k h1 h2 h3
    · rw [upM_n (by omega)]; exact l4 sub hs
    · rw [upM_n (by omega)]; exact l3 k (by omega) (by omega) (by omega)
  · refine ⟨M, ?_, h, h1, Fr.rf⟩
    simp (disch := omega) only [li_0, li_1, li_2, li_3, li_4, li_5, li_6, li_7, li_8, li_9, li_10, li_11, li_12, li_14, li_15, li_16, li_18, li_20, li_22, li_23, li_24, li_29, li_30, li_31, li_32, li_33, li_40, li_48, li_54, li_55, li_56, li_57, li_59, li_60, li_63, li_64, li_97, li_98, li_99, li_100, li_103, li_107, li_108, li_112, li_121, li_206, li_212, li_232, li_240, li_255, li_256, li_261, li_270, ng_1, ng_2, ng_3, ng_4, ng_9, ng_10, m1_1, nI_m1, m1_nI, if_true, if_false, nI_add, pk_mul, pk_sub, nI_div, nI_rem, nI_eq, nI_leI, nI_ltI, nI_clamp, ck_in, ck_nz, bind_sm, upM_n, upM_m, upM_s, if_pos, if_neg, h0]
theorem c_custom_in {α : AS} {M : Mem} {x k w : Nat} (ok : OKA α) (h : CI α M) (hx : x ≤ 16) (hk : k < nP (sA α)) (hw : w < 2) : ∃ M', f_X5_custom (nI x) (nI k) (nI w) M = some (customV α x k w, M') ∧ CI α M' ∧ Fr 0 49 M M' := by
  have h8 : (hlA α).length ≤ 8 := ok.2.2.1.1
  have p8 := p_le h8
  have ok2 := ok.s.1.2.1
  have e1 := c_hasP (i := k) h.2.1.1.2.1 (show nP (sA α) < 100 by omega) (show k < 100 by omega)
  obtain ⟨M', a1, a2, a3, a4⟩ := c_learnS ok h
  have e6 : M' 5 6 = nI (hlA α).length := a2.2.1.1.2.2
  have sh := shl1 (i := (hlA α).length) (by omega)
  have lp := loop_for (B := fun s6 : Int64 × Int32 => f_X5_custom_42_42b (nI x) (nI k) (nI w) s6.1 s6.2 M') (fun i => (nZ (cs (tC α x k) i), nI i)) (2 ^ (hlA α).length) (e := (nZ (cT α x k), nI (2 ^ (hlA α).length)))
    (by
      intro i hi
      dsimp only
      have al := abits_lt (kept_ok (sub := i) ok)
      have b0 := bit_0 al (show k < 9 by omega)
      have a3i := a3 i hi
      have wgt := c_weight (x := x) (sub := i) e6 h8 hx (by omega)
      have t1 : cs (tC α x k) (i + 1) = cs (tC α x k) i + tC α x k i := rfl
      unfold f_X5_custom_42_42b f_X5_custom_92_42
      rw [e6, li_1, sh, if_neg (fun r => by rw [nI_leI (by omega) (by omega)] at r; omega), li_256, if_neg (fun r => by rw [nI_leI (by omega) (by omega)] at r; omega), ck_in (by omega) (by omega), nI_clamp (by omega), a3i, nI_add, t1, ← nZ_add]
      unfold tC
      cases q : (abits (kept α i)).testBit k with
      | true =>
        rw [q] at b0
        rw [if_neg (fun r => by rw [li_0, b0] at r; cases r), if_pos rfl, wgt]
        rfl
      | false =>
        rw [q] at b0
        rw [if_pos (by rw [li_0, b0]), if_neg (by decide), nZ_add]
        rfl)
    (by
      dsimp only
      unfold f_X5_custom_42_42b
      rw [e6, li_1, sh, if_pos ((nI_leI (by omega) (by omega)).mpr (Nat.le_refl _))]
      rfl)
  have cl := cT_le (k := k) ok hx
  obtain ⟨z, hz⟩ := c_half (M := M') (x3 := nI w) h8 (4 * (hlA α).length) 0 (cT α x k) (by omega) (by omega)
  refine ⟨M', ?_, a2, a4⟩
  unfold f_X5_custom f_X5_custom_98 f_X5_custom_158 customV
  have sl := shlL_4 (hlA α).length (by omega)
  have f4 : (4 : Int32) * nI (hlA α).length = nI (4 * (hlA α).length) := by rw [li_4, pk_mul]
  rw [show (17 : Int32) = nI 17 from rfl, below_in (by omega) (by omega), bind_sm, if_neg (c := nI 1 = 0) (by decide), e1, if_pos hk, bind_sm, if_neg (c := (1 : Int32) = 0) (by decide), li_2, below_in hw (by omega), bind_sm, if_neg (c := nI 1 = 0) (by decide), a1, bind_sm]
  rw [show ((0 : Int64), (0 : Int32)) = (nZ (cs (tC α x k) 0), nI 0) from rfl, lp, bind_sm]
  dsimp only
  rw [e6, f4, sl, li_0, hz, bind_sm]
  dsimp only
  by_cases q : w = 0
  · rw [if_pos (show nI w = nI 0 by rw [q]), if_pos q]
  · rw [if_neg (fun r => q ((nI_eq (by omega) (by omega)).mp r)), if_neg q]
def cN2 : Int64 := -9223372036854775806
theorem c_custom_out {α : AS} {M : Mem} {x1 x2 x3 : Int32} (ok : OKA α) (h : CI α M) (hx : ¬ (In x1 17 ∧ In x2 (nP (sA α)) ∧ In x3 2)) : f_X5_custom x1 x2 x3 M = some (cN2, M) := by
  have ok2 := ok.s.1.2.1
  unfold f_X5_custom
  by_cases r1 : In x1 17
  · obtain ⟨j1, g1, rfl⟩ := r1
    rw [show (17 : Int32) = nI 17 from rfl, below_in g1 (by omega), bind_sm, if_neg (c := nI 1 = 0) (by decide)]
    by_cases r2 : In x2 (nP (sA α))
    · obtain ⟨k, hk, rfl⟩ := r2
      have e1 := c_hasP (i := k) h.2.1.1.2.1 (show nP (sA α) < 100 by omega) (show k < 100 by omega)
      have r3 : ¬ In x3 2 := fun r => hx ⟨⟨j1, g1, rfl⟩, ⟨k, hk, rfl⟩, r⟩
      rw [e1, if_pos hk, bind_sm, if_neg (c := (1 : Int32) = 0) (by decide), li_2, below_out (by omega) r3, bind_sm, if_pos (c := nI 0 = 0) rfl]
      rfl
    · rw [hasP_out h.2.1.1.2.1 (by omega) r2, bind_sm, if_pos (c := nI 0 = 0) rfl]
      rfl
  · rw [show (17 : Int32) = nI 17 from rfl, below_out (by omega) r1, bind_sm, if_pos (c := nI 0 = 0) rfl]
    rfl
theorem keep_gone {α : AS} {g : Nat} (hg : g < 2 ^ (hlA α).length) : keepI (2 ^ (hlA α).length - (g + 1)).testBit (hlA α) 0 = keepB g (hlA α) 0 := by
  rw [keepB_I]
  refine keepI_congr _ _ fun j _ hj => ?_
  rw [Nat.testBit_two_pow_sub_succ hg]
  simp
  omega
theorem m_customOf {α : AS} {M : Mem} {x k w : Nat} (ok : OKA α) (h : MJ α M) (hx : x ≤ 16) (hk : k < nP (sA α)) (hw : w < 2) : ∃ M', f_X6_customOf (nI x) (nI k) (nI w) M = some (customV α x k w, M') ∧ MJ α M' ∧ Fr 49 71 M M' := by
  have h8 : (hlA α).length ≤ 8 := ok.2.2.1.1
  have p8 := p_le h8
  have sh := shl1 (i := (hlA α).length) (by omega)
  obtain ⟨e, l1, l2, l3, l4⟩ := loop_inv (B := fun s6 : Int64 × Int32 × Mem => f_X6_customOf_6_6b (nI x) (nI k) (nI w) s6.1 s6.2.1 s6.2.2) (fun i q => q.1 = nZ (cs (fun g => tC α x k (2 ^ (hlA α).length - (g + 1))) i) ∧ q.2.1 = nI i ∧ (∀ j, j ≠ 13 → q.2.2 49 j = M 49 j) ∧ ∀ k, k ≠ 49 → (k < 59 ∨ 68 ≤ k) → q.2.2 k = M k)
    (fun q => q.1 = nZ (cs (fun g => tC α x k (2 ^ (hlA α).length - (g + 1))) (2 ^ (hlA α).length)) ∧ (∀ j, j ≠ 13 → q.2.2 49 j = M 49 j) ∧ ∀ k, k ≠ 49 → (k < 59 ∨ 68 ≤ k) → q.2.2 k = M k) (2 ^ (hlA α).length) (s := (nZ 0, nI 0, M))
    (by exact ⟨rfl, rfl, fun _ _ => rfl, fun _ _ _ => rfl⟩)
    (by
      rintro i ⟨y, z, N⟩ hi ⟨hy, hz, c1, c3⟩
      dsimp only at hy hz c1 c3 ⊢
      subst hy hz
      have e11 : N 49 11 = nI (hlA α).length := by rw [c1 11 (by omega)]; exact h.1.2.2.1.1
      have jN : MJ α (upM N 49 13 (nI 0)) := h.back2 (fun j hj => by rw [upM_m hj]; exact c1 j hj) upM_s (fun k h1 h2 => by rw [upM_n h1]; exact c3 k h1 h2)
      have uu : upM (upM N 49 13 (nI 0)) 49 13 (nI i) = upM N 49 13 (nI i) := by
        funext a b
        by_cases qa : a = 49
        · subst qa
          by_cases qb : b = 13
          · subst qb; rw [upM_s, upM_s]
          · rw [upM_m qb, upM_m qb, upM_m qb]
        · rw [upM_n qa, upM_n qa, upM_n qa]
      obtain ⟨N1, d1, d2, d3, d4⟩ := m_without (g := i) (l := keepI (2 ^ (hlA α).length - (i + 1)).testBit (hlA α) 0) ok jN (kept_ok (sub := 2 ^ (hlA α).length - (i + 1)) ok) (by omega) (keep_gone hi)
      rw [uu] at d1 d4
      have okk := kept_ok (sub := 2 ^ (hlA α).length - (i + 1)) ok
      obtain ⟨r, i1, i2⟩ := m_isAstray (p := k) okk d3 d2 hk
      have n11 : N1 49 11 = nI (hlA α).length := by rw [d4 49 (by omega), upM_m (by omega)]; exact e11
      have keep : (∀ j, j ≠ 13 → N1 49 j = M 49 j) ∧ ∀ k, k ≠ 49 → (k < 59 ∨ 68 ≤ k) → N1 k = M k := by
        refine ⟨fun j hj => ?_, fun k h1 h2 => ?_⟩
        · rw [d4 49 (by omega), upM_m hj]; exact c1 j hj
        · rw [d4 k h2, upM_n h1]; exact c3 k h1 h2
      have bit := bitsOf_bit (P := ast (kept α (2 ^ (hlA α).length - (i + 1))) (wk (kept α (2 ^ (hlA α).length - (i + 1))) 30)) (n := nP (sA α)) hk
      have wg := fun b x4 => m_weight (M := N1) (x := x) (g := i) (b := b) (x2 := nI k) (x3 := nI w) (x4 := x4) n11 h8 hx hi
      refine ⟨(nZ (cs (fun g => tC α x k (2 ^ (hlA α).length - (g + 1))) (i + 1)), nI (i + 1), N1), ?_, rfl, rfl, keep⟩
      have t1 : cs (fun g => tC α x k (2 ^ (hlA α).length - (g + 1))) (i + 1) = cs (fun g => tC α x k (2 ^ (hlA α).length - (g + 1))) i + tC α x k (2 ^ (hlA α).length - (i + 1)) := rfl
      unfold f_X6_customOf_6_6b f_X6_customOf_40_6
      rw [e11, li_1, sh, if_neg (fun r => by rw [nI_leI (by omega) (by omega)] at r; omega), d1, bind_sm, i1, bind_sm, t1, ← nZ_add, nI_add, lz_0, lz_1, li_0, wg, wg, bind_sm, bind_sm, Nat.zero_mul, Nat.one_mul]
      rcases i2 with ⟨rfl, i2⟩ | ⟨rfl, i2⟩
      · have tt : tC α x k (2 ^ (hlA α).length - (i + 1)) = wt x (2 ^ (hlA α).length - (i + 1)) (hlA α).length := if_pos (bit.mpr i2)
        rw [tt, if_neg (by decide)]
      · have tt : tC α x k (2 ^ (hlA α).length - (i + 1)) = 0 := if_neg (fun r => i2 (bit.mp r))
        rw [tt, if_pos rfl])
    (by
      rintro ⟨y, z, N⟩ ⟨hy, hz, c1, c3⟩
      dsimp only at hy hz c1 c3 ⊢
      subst hz
      have e11 : N 49 11 = nI (hlA α).length := by rw [c1 11 (by omega)]; exact h.1.2.2.1.1
      refine ⟨(y, nI (2 ^ (hlA α).length), N), ?_, hy, c1, c3⟩
      unfold f_X6_customOf_6_6b
      rw [e11, li_1, sh, if_pos ((nI_leI (by omega) (by omega)).mpr (Nat.le_refl _))])
  rw [cs_rev] at l2
  have cl := cT_le (k := k) ok hx
  have sl := shlL_4 (hlA α).length (by omega)
  have f4 : (4 : Int32) * nI (hlA α).length = nI (4 * (hlA α).length) := by rw [li_4, pk_mul]
  have p32 : 2 ^ (4 * (hlA α).length) ≤ 2 ^ 32 := Nat.pow_le_pow_right (by decide) (by omega)
  have p0 : 0 < 2 ^ (4 * (hlA α).length) := Nat.pow_pos (by decide)
  refine ⟨upM e.2.2 49 13 (nI 0), ?_, h.back2 (fun j hj => by rw [upM_m hj]; exact l3 j hj) upM_s (fun k h1 h2 => by rw [upM_n h1]; exact l4 k h1 h2), fun k hk => by rw [upM_n (by omega), l4 k (by omega) (by omega)]⟩
  have e11 : upM e.2.2 49 13 (nI 0) 49 11 = nI (hlA α).length := by rw [upM_m (by omega), l3 11 (by omega)]; exact h.1.2.2.1.1
  unfold f_X6_customOf customV
  rw [show ((0 : Int64), (0 : Int32), M) = (nZ 0, nI 0, M) from rfl, l1, bind_sm, li_0, e11, f4, sl, l2, show cs (tC α x k) (2 ^ (hlA α).length) = cT α x k from rfl, m_part (by omega) (by omega) p0 hw, bind_sm]
theorem m_custom {α : AS} {M : Mem} (ok : OKA α) (h : MI α M) : (∀ x k w, x < 17 → k < nP (sA α) → w < 2 → ∃ M', f_X6_custom (nI x) (nI k) (nI w) M = some (customV α x k w, M') ∧ MJ α M' ∧ Fr 49 71 M M') ∧ ∀ x1 x2 x3, ¬ (In x1 17 ∧ In x2 (nP (sA α)) ∧ In x3 2) → ∃ M', f_X6_custom x1 x2 x3 M = some (cN2, M') ∧ MJ α M' ∧ Fr 49 71 M M' := by
  obtain ⟨M1, g1, g2, g3⟩ := m_find ok h
  have ok2 := ok.s.1.2.1
  have e9 := g2.2.1.1.2
  have mj : MJ α M1 := ⟨g2.1, g2.2.1⟩
  have no : f_X6_custom_41 M1 = some (cN2, M1) := rfl
  refine ⟨fun x k w hx hk hw => ?_, fun x1 x2 x3 hh => ⟨M1, ?_, mj, g3⟩⟩
  · have e1 := m_isP (i := k) e9 (show nP (sA α) < 100 by omega) (show k < 100 by omega)
    obtain ⟨M', a1, a2, a3⟩ := m_customOf ok mj (show x ≤ 16 by omega) hk hw
    refine ⟨M', ?_, a2, g3.tr a3⟩
    unfold f_X6_custom
    rw [g1, bind_sm, show (0 : Int64) = (nI 0).toInt64 from rfl, show (16 : Int64) = (nI 16).toInt64 from rfl, m_in_in (by omega) (by omega), bind_sm, if_neg (c := nI 1 = 0) (by decide), e1, if_pos hk, bind_sm, if_neg (c := nI 1 = 0) (by decide), m_two_in hw, bind_sm, if_neg (c := nI 1 = 0) (by decide), a1]
    rfl
  · unfold f_X6_custom
    rw [g1, bind_sm, show (0 : Int64) = (nI 0).toInt64 from rfl, show (16 : Int64) = (nI 16).toInt64 from rfl]
    by_cases r1 : In x1 17
    · obtain ⟨j1, q1, rfl⟩ := r1
      rw [m_in_in (by omega) (by omega), bind_sm, if_neg (c := nI 1 = 0) (by decide)]
      by_cases r2 : In x2 (nP (sA α))
      · obtain ⟨k, hk, rfl⟩ := r2
        have e1 := m_isP (i := k) e9 (show nP (sA α) < 100 by omega) (show k < 100 by omega)
        have r3 : ¬ In x3 2 := fun r => hh ⟨⟨j1, q1, rfl⟩, ⟨k, hk, rfl⟩, r⟩
        rw [e1, if_pos hk, bind_sm, if_neg (c := nI 1 = 0) (by decide), m_two_out r3, bind_sm, if_pos (c := nI 0 = 0) rfl, no]
      · rw [isP_out e9 (show nP (sA α) < 100 by omega) r2, bind_sm, if_pos (c := nI 0 = 0) rfl, no]
    · rw [m_in_out (by omega) r1, bind_sm, if_pos (c := nI 0 = 0) rfl, no]
