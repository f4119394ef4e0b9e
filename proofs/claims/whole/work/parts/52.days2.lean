-- THE DAYS ASKED: becomes, how many, crowd
def cs (f : Nat → Nat) : Nat → Nat
  | 0 => 0
  | n + 1 => cs f n + f n
theorem cs_s {f : Nat → Nat} {n : Nat} : cs f (n + 1) = cs f n + f n := rfl
theorem cs_congr {f g : Nat → Nat} : ∀ {n : Nat}, (∀ i, i < n → f i = g i) → cs f n = cs g n := by
  intro n
  induction n with
  | zero => intro _; rfl
  | succ n ih => intro h; rw [cs_s, cs_s, ih (fun i hi => h i (by omega)), h n (by omega)]
theorem cs_le {f : Nat → Nat} (h : ∀ i, f i ≤ 1) : ∀ n, cs f n ≤ n := by
  intro n
  induction n with
  | zero => exact Nat.le_refl 0
  | succ n ih => have := h n; rw [cs_s]; omega
theorem cs_one {f g : Nat → Nat} {i : Nat} : ∀ {n : Nat}, i < n → (∀ j, j ≠ i → f j = g j) → cs g n + f i = cs f n + g i := by
  intro n
  induction n with
  | zero => intro h; omega
  | succ n ih =>
    intro h hj
    rw [cs_s, cs_s]
    by_cases q : i = n
    · subst q
      rw [cs_congr (f := g) (g := f) (fun j hj' => (hj j (by omega)).symm)]
      omega
    · have := ih (by omega) hj
      rw [hj n (fun e => q e.symm)]
      omega
def bq (σ : SS) (p n : Nat) : Nat := if bec σ p n = none then 0 else 1
theorem bq_le {σ : SS} {p n : Nat} : bq σ p n ≤ 1 := by unfold bq; split <;> omega
/-- how many become another -/
def becM (σ : SS) : Nat := cs (fun p => bq σ p 30) (nP σ)
theorem becM_le {σ : SS} (ok : OKS σ) : becM σ ≤ 8 := Nat.le_trans (cs_le (fun i => bq_le) _) ok.1.2.1
theorem c_first {w c : Nat} {σ : SS} {M : Mem} (hw : WI w c) (hw2 : w = 21 ∨ w = 26) (ok : OKS σ) (hS : SR c σ M) : ∃ M', f_X5_findFirstDays w M = some (nI (becM σ), M') ∧ (∀ p, p < nP σ → M' 46 p = oi (bec σ p 30)) ∧ WD w σ 30 M' ∧ ∀ k, (k < w ∨ w + 5 ≤ k) → k ≠ 46 → M' k = M k := by
  have hw' := hw
  obtain ⟨⟨w0, w2, w3, w4, w5⟩, -, hcw⟩ := hw'
  have ok2 := ok.1.2.1
  unfold f_X5_findFirstDays
  have l1 : loop (fun s1 : Int32 × Mem => f_X5_findFirstDays_4_4b w (nI 0) s1.1 s1.2) (nI 0, M) = some (nI 8, filM M 46 0 8 (fun _ => m1)) := by
    have := loop_for (B := fun s1 : Int32 × Mem => f_X5_findFirstDays_4_4b w (nI 0) s1.1 s1.2) (fun j => (nI j, filM M 46 0 j (fun _ => m1))) 8 (e := (nI 8, filM M 46 0 8 (fun _ => m1)))
      (by
        intro j hj
        dsimp only
        unfold f_X5_findFirstDays_4_4b
        simp (disch := omega) only [li_0, li_1, li_2, li_3, li_4, li_5, li_6, li_7, li_8, li_9, li_10, li_11, li_12, li_14, li_15, li_16, li_18, li_20, li_22, li_23, li_24, li_29, li_30, li_31, li_32, li_33, li_40, li_48, li_54, li_55, li_56, li_57, li_59, li_60, li_63, li_64, li_97, li_98, li_99, li_100, li_103, li_107, li_108, li_112, li_121, li_206, li_212, li_232, li_240, li_255, li_256, li_261, li_270, ng_1, ng_2, ng_3, ng_4, ng_9, ng_10, m1_1, nI_m1, m1_nI, if_true, if_false, nI_add, pk_mul, pk_sub, nI_div, nI_rem, nI_eq, nI_leI, nI_ltI, nI_clamp, ck_in, ck_nz, bind_sm, upM_n, upM_m, upM_s, if_pos, if_neg]
        rw [← filM_up0])
      (by
        dsimp only
        unfold f_X5_findFirstDays_4_4b
        simp (disch := omega) only [li_0, li_1, li_2, li_3, li_4, li_5, li_6, li_7, li_8, li_9, li_10, li_11, li_12, li_14, li_15, li_16, li_18, li_20, li_22, li_23, li_24, li_29, li_30, li_31, li_32, li_33, li_40, li_48, li_54, li_55, li_56, li_57, li_59, li_60, li_63, li_64, li_97, li_98, li_99, li_100, li_103, li_107, li_108, li_112, li_121, li_206, li_212, li_232, li_240, li_255, li_256, li_261, li_270, ng_1, ng_2, ng_3, ng_4, ng_9, ng_10, m1_1, nI_m1, m1_nI, if_true, if_false, nI_add, pk_mul, pk_sub, nI_div, nI_rem, nI_eq, nI_leI, nI_ltI, nI_clamp, ck_in, ck_nz, bind_sm, upM_n, upM_m, upM_s, if_pos, if_neg])
    rw [filM_0] at this
    exact this
  have hS1 : SR c σ (filM M 46 0 8 (fun _ => m1)) := hS.fr (fun k _ _ => filM_n (by omega))
  obtain ⟨M0, b1, b2, b3⟩ := c_begin hw ok hS1
  obtain ⟨e, g1, g2, g3, g4, g5⟩ := loop_inv (B := fun s8 : Int32 × Int32 × Mem => f_X5_findFirstDays_29_29b w s8.1 s8.2.1 s8.2.2) (fun d q => q.1 = nI (cs (fun p => bq σ p d) (nP σ)) ∧ q.2.1 = nI d ∧ WD w σ d q.2.2 ∧ SR c σ q.2.2 ∧ (∀ p, p < nP σ → q.2.2 46 p = oi (bec σ p d)) ∧ ∀ k, (k < w ∨ w + 5 ≤ k) → k ≠ 46 → q.2.2 k = M k)
    (fun q => q.1 = nI (becM σ) ∧ WD w σ 30 q.2.2 ∧ (∀ p, p < nP σ → q.2.2 46 p = oi (bec σ p 30)) ∧ ∀ k, (k < w ∨ w + 5 ≤ k) → k ≠ 46 → q.2.2 k = M k) 30 (s := (nI 0, nI 0, M0))
    (by
      refine ⟨?_, rfl, b2, hS1.fr (fun k _ _ => b3 k (by omega)), fun p hp => ?_, fun k hk hk2 => ?_⟩
      · show nI 0 = _
        congr 1
        have : ∀ n, cs (fun p => bq σ p 0) n = 0 := by
          intro n
          induction n with
          | zero => rfl
          | succ n ih => rw [cs_s, ih]; rfl
        exact (this _).symm
      · show M0 46 p = m1
        rw [b3 46 (by omega), filM_in (by omega) (by omega)]
      · show M0 k = M k
        rw [b3 k (by omega), filM_n hk2])
    (by
      rintro d ⟨x, y, N⟩ hd ⟨hx, hy, c1, c2, c3, c4⟩
      dsimp only at hx hy c1 c2 c3 c4 ⊢
      subst hx hy
      obtain ⟨N1, d1, d2, d3⟩ := c_go (u := d) hw ok c2 hd (by omega) c1
      have okd := ok.wk (d + 1)
      have s1 : SR c σ N1 := c2.fr (fun k _ _ => d3 k (by omega))
      obtain ⟨e, i1, i2, i3, i4⟩ := loop_inv (B := fun s6 : Int32 × Int32 × Mem => f_X5_findFirstDays_43_43b w s6.1 (nI d) s6.2.1 s6.2.2) (fun i q => q.1 = nI (cs (fun p => bq σ p (if p < i then d + 1 else d)) (nP σ)) ∧ q.2.1 = nI i ∧ (∀ k, k ≠ 46 → q.2.2 k = N1 k) ∧ ∀ p, p < nP σ → q.2.2 46 p = oi (bec σ p (if p < i then d + 1 else d)))
        (fun q => q.1 = nI (cs (fun p => bq σ p (d + 1)) (nP σ)) ∧ (∀ k, k ≠ 46 → q.2.2 k = N1 k) ∧ ∀ p, p < nP σ → q.2.2 46 p = oi (bec σ p (d + 1))) (nP σ) (s := (nI (cs (fun p => bq σ p d) (nP σ)), nI 0, N1))
        (by
          refine ⟨?_, rfl, fun _ _ => rfl, fun p hp => ?_⟩
          · show nI _ = nI _
            congr 1
          · rw [if_neg (by omega)]
            show N1 46 p = _
            rw [d3 46 (by omega)]
            exact c3 p hp)
        (by
          rintro i ⟨x, y, N'⟩ hi ⟨hx, hy, e1, e2⟩
          dsimp only at hx hy e1 e2 ⊢
          subst hx hy
          have t3 : N' c 3 = nI (nP σ) := by rw [e1 c (by omega)]; exact s1.1.2.1
          have t46 := e2 i hi
          rw [if_neg (by omega)] at t46
          have wr : WR w σ (wk σ (d + 1)) N' := (d2.fr (M' := N') (fun k h1 h2 => e1 k (by omega))).1
          obtain ⟨r, r1, r2⟩ := c_another (p := i) hw ok okd (s1.fr (M' := N') (fun k h1 h2 => e1 k (by omega))) hi wr
          have csl := cs_le (f := fun p => bq σ p (if p < i then d + 1 else d)) (fun j => bq_le) (nP σ)
          have upd : cs (fun p => bq σ p (if p < i + 1 then d + 1 else d)) (nP σ) + bq σ i d = cs (fun p => bq σ p (if p < i then d + 1 else d)) (nP σ) + bq σ i (d + 1) := by
            have := cs_one (f := fun p => bq σ p (if p < i then d + 1 else d)) (g := fun p => bq σ p (if p < i + 1 then d + 1 else d)) (i := i) hi (fun j hj => by
              by_cases q : j < i
              · rw [if_pos q, if_pos (by omega)]
              · rw [if_neg q, if_neg (by omega)])
            rw [if_neg (show ¬ i < i by omega), if_pos (show i < i + 1 by omega)] at this
            exact this
          have other : ∀ p, p ≠ i → bec σ p (if p < i then d + 1 else d) = bec σ p (if p < i + 1 then d + 1 else d) := fun p hp => by
            by_cases q : p < i
            · rw [if_pos q, if_pos (by omega)]
            · rw [if_neg q, if_neg (by omega)]
          unfold f_X5_findFirstDays_43_43b f_X5_findFirstDays_86_43
          cases hbe : bec σ i d with
          | some t =>
            have tl := bec_lt hbe
            rw [hbe] at t46
            have same : bec σ i (d + 1) = some t := by rw [bec_s, hbe]; rfl
            have bqe : bq σ i d = bq σ i (d + 1) := by unfold bq; rw [hbe, same]
            refine ⟨(nI (cs (fun p => bq σ p (if p < i then d + 1 else d)) (nP σ)), nI (i + 1), N'), ?_, ?_, rfl, e1, fun p hp => ?_⟩
            · simp (disch := omega) only [li_0, li_1, li_2, li_3, li_4, li_5, li_6, li_7, li_8, li_9, li_10, li_11, li_12, li_14, li_15, li_16, li_18, li_20, li_22, li_23, li_24, li_29, li_30, li_31, li_32, li_33, li_40, li_48, li_54, li_55, li_56, li_57, li_59, li_60, li_63, li_64, li_97, li_98, li_99, li_100, li_103, li_107, li_108, li_112, li_121, li_206, li_212, li_232, li_240, li_255, li_256, li_261, li_270, ng_1, ng_2, ng_3, ng_4, ng_9, ng_10, m1_1, nI_m1, m1_nI, if_true, if_false, nI_add, pk_mul, pk_sub, nI_div, nI_rem, nI_eq, nI_leI, nI_ltI, nI_clamp, ck_in, ck_nz, bind_sm, upM_n, upM_m, upM_s, if_pos, if_neg, w0, t3, t46, oi_s]
            · dsimp only; congr 1; omega
            · dsimp only
              by_cases q : p = i
              · subst q
                rw [if_pos (by omega), same]
                exact t46
              · rw [e2 p hp, other p q]
          | none =>
            rw [hbe] at t46
            rcases r2 with ⟨rfl, r2⟩ | ⟨rfl, r2⟩
            · have same : bec σ i (d + 1) = some d := by rw [bec_s, hbe, orB_n, if_pos r2]
              have bq0 : bq σ i d = 0 := by unfold bq; rw [hbe]; rfl
              have bq1 : bq σ i (d + 1) = 1 := by unfold bq; rw [same]; rfl
              refine ⟨(nI (cs (fun p => bq σ p (if p < i then d + 1 else d)) (nP σ) + 1), nI (i + 1), upM N' 46 i (nI d)), ?_, ?_, rfl, fun k hk => by dsimp only; rw [upM_n hk]; exact e1 k hk, fun p hp => ?_⟩
              · simp (disch := omega) only [li_0, li_1, li_2, li_3, li_4, li_5, li_6, li_7, li_8, li_9, li_10, li_11, li_12, li_14, li_15, li_16, li_18, li_20, li_22, li_23, li_24, li_29, li_30, li_31, li_32, li_33, li_40, li_48, li_54, li_55, li_56, li_57, li_59, li_60, li_63, li_64, li_97, li_98, li_99, li_100, li_103, li_107, li_108, li_112, li_121, li_206, li_212, li_232, li_240, li_255, li_256, li_261, li_270, ng_1, ng_2, ng_3, ng_4, ng_9, ng_10, m1_1, nI_m1, m1_nI, if_true, if_false, nI_add, pk_mul, pk_sub, nI_div, nI_rem, nI_eq, nI_leI, nI_ltI, nI_clamp, ck_in, ck_nz, bind_sm, upM_n, upM_m, upM_s, if_pos, if_neg, w0, t3, t46, oi_n, r1]
              · dsimp only; congr 1; omega
              · dsimp only
                by_cases q : p = i
                · subst q
                  rw [upM_s, if_pos (by omega), same]
                  rfl
                · rw [upM_m q, e2 p hp, other p q]
            · have same : bec σ i (d + 1) = none := by rw [bec_s, hbe, orB_n, if_neg r2]
              have bqe : bq σ i d = bq σ i (d + 1) := by unfold bq; rw [hbe, same]
              refine ⟨(nI (cs (fun p => bq σ p (if p < i then d + 1 else d)) (nP σ)), nI (i + 1), N'), ?_, ?_, rfl, e1, fun p hp => ?_⟩
              · simp (disch := omega) only [li_0, li_1, li_2, li_3, li_4, li_5, li_6, li_7, li_8, li_9, li_10, li_11, li_12, li_14, li_15, li_16, li_18, li_20, li_22, li_23, li_24, li_29, li_30, li_31, li_32, li_33, li_40, li_48, li_54, li_55, li_56, li_57, li_59, li_60, li_63, li_64, li_97, li_98, li_99, li_100, li_103, li_107, li_108, li_112, li_121, li_206, li_212, li_232, li_240, li_255, li_256, li_261, li_270, ng_1, ng_2, ng_3, ng_4, ng_9, ng_10, m1_1, nI_m1, m1_nI, if_true, if_false, nI_add, pk_mul, pk_sub, nI_div, nI_rem, nI_eq, nI_leI, nI_ltI, nI_clamp, ck_in, ck_nz, bind_sm, upM_n, upM_m, upM_s, if_pos, if_neg, w0, t3, t46, oi_n, r1]
              · dsimp only; congr 1; omega
              · dsimp only
                by_cases q : p = i
                · subst q
                  rw [if_pos (by omega), same]
                  exact t46
                · rw [e2 p hp, other p q])
        (by
          rintro ⟨x, y, N'⟩ ⟨hx, hy, e1, e2⟩
          dsimp only at hx hy e1 e2 ⊢
          subst hx hy
          have t3 : N' c 3 = nI (nP σ) := by rw [e1 c (by omega)]; exact s1.1.2.1
          refine ⟨(nI (cs (fun p => bq σ p (if p < nP σ then d + 1 else d)) (nP σ)), nI (nP σ), N'), ?_, ?_, e1, fun p hp => ?_⟩
          · unfold f_X5_findFirstDays_43_43b
            simp (disch := omega) only [li_0, li_1, li_2, li_3, li_4, li_5, li_6, li_7, li_8, li_9, li_10, li_11, li_12, li_14, li_15, li_16, li_18, li_20, li_22, li_23, li_24, li_29, li_30, li_31, li_32, li_33, li_40, li_48, li_54, li_55, li_56, li_57, li_59, li_60, li_63, li_64, li_97, li_98, li_99, li_100, li_103, li_107, li_108, li_112, li_121, li_206, li_212, li_232, li_240, li_255, li_256, li_261, li_270, ng_1, ng_2, ng_3, ng_4, ng_9, ng_10, m1_1, nI_m1, m1_nI, if_true, if_false, nI_add, pk_mul, pk_sub, nI_div, nI_rem, nI_eq, nI_leI, nI_ltI, nI_clamp, ck_in, ck_nz, bind_sm, upM_n, upM_m, upM_s, if_pos, if_neg, w0, t3]
          · dsimp only
            rw [cs_congr (f := fun p => bq σ p (if p < nP σ then d + 1 else d)) (g := fun p => bq σ p (d + 1)) (fun i hi => by rw [if_pos hi])]
          · dsimp only
            rw [e2 p hp, if_pos hp])
      refine ⟨(nI (cs (fun p => bq σ p (d + 1)) (nP σ)), nI (d + 1), e.2.2), ?_, rfl, rfl, d2.fr (fun k h1 h2 => i3 k (by omega)), s1.fr (fun k h1 h2 => i3 k (by omega)), i4, fun k hk hk2 => ?_⟩
      · unfold f_X5_findFirstDays_29_29b
        simp (disch := omega) only [li_0, li_1, li_2, li_3, li_4, li_5, li_6, li_7, li_8, li_9, li_10, li_11, li_12, li_14, li_15, li_16, li_18, li_20, li_22, li_23, li_24, li_29, li_30, li_31, li_32, li_33, li_40, li_48, li_54, li_55, li_56, li_57, li_59, li_60, li_63, li_64, li_97, li_98, li_99, li_100, li_103, li_107, li_108, li_112, li_121, li_206, li_212, li_232, li_240, li_255, li_256, li_261, li_270, ng_1, ng_2, ng_3, ng_4, ng_9, ng_10, m1_1, nI_m1, m1_nI, if_true, if_false, nI_add, pk_mul, pk_sub, nI_div, nI_rem, nI_eq, nI_leI, nI_ltI, nI_clamp, ck_in, ck_nz, bind_sm, upM_n, upM_m, upM_s, if_pos, if_neg, d1, i1, i2]
      · dsimp only
        rw [i3 k hk2, d3 k (by omega)]
        exact c4 k hk hk2)
    (by
      rintro ⟨x, y, N⟩ ⟨hx, hy, c1, c2, c3, c4⟩
      dsimp only at hx hy c1 c2 c3 c4 ⊢
      subst hx hy
      refine ⟨(nI (cs (fun p => bq σ p 30) (nP σ)), nI 30, N), ?_, rfl, c1, c3, c4⟩
      unfold f_X5_findFirstDays_29_29b
      simp (disch := omega) only [li_0, li_1, li_2, li_3, li_4, li_5, li_6, li_7, li_8, li_9, li_10, li_11, li_12, li_14, li_15, li_16, li_18, li_20, li_22, li_23, li_24, li_29, li_30, li_31, li_32, li_33, li_40, li_48, li_54, li_55, li_56, li_57, li_59, li_60, li_63, li_64, li_97, li_98, li_99, li_100, li_103, li_107, li_108, li_112, li_121, li_206, li_212, li_232, li_240, li_255, li_256, li_261, li_270, ng_1, ng_2, ng_3, ng_4, ng_9, ng_10, m1_1, nI_m1, m1_nI, if_true, if_false, nI_add, pk_mul, pk_sub, nI_div, nI_rem, nI_eq, nI_leI, nI_ltI, nI_clamp, ck_in, ck_nz, bind_sm, upM_n, upM_m, upM_s, if_pos, if_neg])
  simp only [li_0, li_1, li_2, li_3, li_4, li_5, li_6, li_7, li_8, li_9, li_10, li_11, li_12, li_14, li_15, li_16, li_18, li_20, li_22, li_23, li_24, li_29, li_30, li_31, li_32, li_33, li_40, li_48, li_54, li_55, li_56, li_57, li_59, li_60, li_63, li_64, li_97, li_98, li_99, li_100, li_103, li_107, li_108, li_112, li_121, li_206, li_212, li_232, li_240, li_255, li_256, li_261, li_270, ng_1, ng_2, ng_3, ng_4, ng_9, ng_10, m1_1, nI_m1, m1_nI, if_true, if_false, nI_add, pk_mul, pk_sub, nI_div, nI_rem, nI_eq, nI_leI, nI_ltI, nI_clamp, ck_in, ck_nz, bind_sm, upM_n, upM_m, upM_s, if_pos, if_neg, l1, b1]
  simp only [g1, bind_sm, g2]
  exact ⟨_, rfl, g4, g3, g5⟩
theorem m_becM {σ : SS} {M : Mem} (ok : OKS σ) (hS : MS σ M) (hL : LV' σ M) : f_X6_becomeMany M = some (nI (becM σ)) := by
  have ok2 := ok.1.2.1
  have e9 := hS.1.2
  unfold f_X6_becomeMany becM
  have lp : loop (fun s1 : Int32 × Int32 => f_X6_becomeMany_4_4b s1.1 s1.2 M) (nI 0, nI 0) = some (nI (cs (fun p => bq σ p 30) (nP σ)), nI (nP σ)) := by
    refine loop_for (B := fun s1 : Int32 × Int32 => f_X6_becomeMany_4_4b s1.1 s1.2 M) (fun i => (nI (cs (fun p => bq σ p 30) i), nI i)) (nP σ)
      (by
        intro i hi
        dsimp only
        unfold f_X6_becomeMany_4_4b f_X6_becomeMany_28_4
        have e := hL.2.2 i hi
        have cl := cs_le (f := fun p => bq σ p 30) (fun j => bq_le) i
        rw [cs_s]
        cases hb : bec σ i 30 with
        | none =>
          rw [hb] at e
          have : bq σ i 30 = 0 := by unfold bq; rw [hb]; rfl
          simp (disch := omega) only [li_0, li_1, li_2, li_3, li_4, li_5, li_6, li_7, li_8, li_9, li_10, li_11, li_12, li_14, li_15, li_16, li_18, li_20, li_22, li_23, li_24, li_29, li_30, li_31, li_32, li_33, li_40, li_48, li_54, li_55, li_56, li_57, li_59, li_60, li_63, li_64, li_97, li_98, li_99, li_100, li_103, li_107, li_108, li_112, li_121, li_206, li_212, li_232, li_240, li_255, li_256, li_261, li_270, ng_1, ng_2, ng_3, ng_4, ng_9, ng_10, m1_1, nI_m1, m1_nI, if_true, if_false, nI_add, pk_mul, pk_sub, nI_div, nI_rem, nI_eq, nI_leI, nI_ltI, nI_clamp, ck_in, ck_nz, bind_sm, upM_n, upM_m, upM_s, if_pos, if_neg, e9, e, oi_n, this]
        | some t =>
          rw [hb] at e
          have tl := bec_lt hb
          have : bq σ i 30 = 1 := by unfold bq; rw [hb]; rfl
          simp (disch := omega) only [li_0, li_1, li_2, li_3, li_4, li_5, li_6, li_7, li_8, li_9, li_10, li_11, li_12, li_14, li_15, li_16, li_18, li_20, li_22, li_23, li_24, li_29, li_30, li_31, li_32, li_33, li_40, li_48, li_54, li_55, li_56, li_57, li_59, li_60, li_63, li_64, li_97, li_98, li_99, li_100, li_103, li_107, li_108, li_112, li_121, li_206, li_212, li_232, li_240, li_255, li_256, li_261, li_270, ng_1, ng_2, ng_3, ng_4, ng_9, ng_10, m1_1, nI_m1, m1_nI, if_true, if_false, nI_add, pk_mul, pk_sub, nI_div, nI_rem, nI_eq, nI_leI, nI_ltI, nI_clamp, ck_in, ck_nz, bind_sm, upM_n, upM_m, upM_s, if_pos, if_neg, e9, e, oi_s, this])
      (by
        dsimp only
        unfold f_X6_becomeMany_4_4b
        simp (disch := omega) only [li_0, li_1, li_2, li_3, li_4, li_5, li_6, li_7, li_8, li_9, li_10, li_11, li_12, li_14, li_15, li_16, li_18, li_20, li_22, li_23, li_24, li_29, li_30, li_31, li_32, li_33, li_40, li_48, li_54, li_55, li_56, li_57, li_59, li_60, li_63, li_64, li_97, li_98, li_99, li_100, li_103, li_107, li_108, li_112, li_121, li_206, li_212, li_232, li_240, li_255, li_256, li_261, li_270, ng_1, ng_2, ng_3, ng_4, ng_9, ng_10, m1_1, nI_m1, m1_nI, if_true, if_false, nI_add, pk_mul, pk_sub, nI_div, nI_rem, nI_eq, nI_leI, nI_ltI, nI_clamp, ck_in, ck_nz, bind_sm, upM_n, upM_m, upM_s, if_pos, if_neg, e9])
  simp only [li_0, li_1, li_2, li_3, li_4, li_5, li_6, li_7, li_8, li_9, li_10, li_11, li_12, li_14, li_15, li_16, li_18, li_20, li_22, li_23, li_24, li_29, li_30, li_31, li_32, li_33, li_40, li_48, li_54, li_55, li_56, li_57, li_59, li_60, li_63, li_64, li_97, li_98, li_99, li_100, li_103, li_107, li_108, li_112, li_121, li_206, li_212, li_232, li_240, li_255, li_256, li_261, li_270, ng_1, ng_2, ng_3, ng_4, ng_9, ng_10, m1_1, nI_m1, m1_nI, if_true, if_false, nI_add, pk_mul, pk_sub, nI_div, nI_rem, nI_eq, nI_leI, nI_ltI, nI_clamp, ck_in, ck_nz, bind_sm, upM_n, upM_m, upM_s, if_pos, if_neg, lp]
/-- how many bits -/
def pcn (v : Nat) : Nat := cs (fun i => if v.testBit i = true then 1 else 0) 8
theorem c_bitCount : ∀ {v : Nat}, v < 256 → f_J6_bitCount_0f7a4 (nI v) = some (nI (pcn v)) := by
  have h : ∀ v, v < 256 → f_J6_bitCount_0f7a4 (nI v) = some (nI (pcn v)) := by decide +kernel
  exact fun {v} hv => h v hv
theorem m_ones : ∀ {v : Nat}, v < 256 → f_X6_ones (nI v) = some (nI (pcn v)) := by
  have h : ∀ v, v < 256 → iter (fun s : Int32 × Int32 => f_X6_ones_4_4b s.1 s.2) 9 (nI 0, nI v) = some (nI (pcn v), nI 0) := by decide +kernel
  intro v hv
  unfold f_X6_ones
  rw [li_0, loop_of (h v hv)]
  rfl
theorem abits_lt {σ : SS} (ok : OKS σ) : abits σ < 256 := by
  unfold abits
  have := bitsOf_lt (P := ast σ (wk σ 30)) (nP σ)
  have h2 : 2 ^ nP σ ≤ 2 ^ 8 := Nat.pow_le_pow_right (by decide) ok.1.2.1
  omega
