-- PLANS: what a hiring more would do
/-- cells of what is tried may change -/
def FrT (M M' : Mem) : Prop := ∀ k, (k < 13 ∨ (21 ≤ k ∧ k < 26) ∨ 31 ≤ k) → M' k = M k
theorem FrT.tr {M M1 M2 : Mem} (h1 : FrT M M1) (h2 : FrT M1 M2) : FrT M M2 := fun k hk => (h2 k hk).trans (h1 k hk)
theorem FrT.rf {M : Mem} : FrT M M := fun _ _ => rfl
theorem Fr.t1 {M M' : Mem} (h : Fr 13 21 M M') : FrT M M' := fun k hk => h k (by omega)
theorem Fr.t2 {M M' : Mem} (h : Fr 26 31 M M') : FrT M M' := fun k hk => h k (by omega)
theorem FrT.w {M M' : Mem} (h : FrT M M') : Fr 0 49 M M' := fun k hk => h k (by omega)
theorem CI.frT {α : AS} {M M' : Mem} (h : CI α M) (hF : FrT M M') : CI α M' := by
  obtain ⟨n, h4, h5⟩ := h.2.2.1
  exact h.upd (h.2.1.fr (fun k _ _ => hF k (by omega))) ⟨n, h4, h5.fr (fun k _ _ => hF k (by omega))⟩ (fun k hk => hF k (by omega))
theorem withH_ok {σ : SS} {l : List (Nat × Nat × Nat)} (ok : OKS σ) (hl : l.length ≤ 9) (hh : ∀ h ∈ l, h.1 < 30 ∧ h.2.1 < 8 ∧ h.2.2 < 8) : OKS (withH σ l) := ⟨⟨ok.1.1, ok.1.2.1, hl⟩, ok.2.1, ok.2.2.1, ok.2.2.2.1, ok.2.2.2.2.1, hh⟩
/-- with one hiring more -/
def more (α : AS) (d k a : Nat) : SS := withH (sA α) (hlA α ++ [(d, k, a)])
theorem more_ok {α : AS} {d k a : Nat} (ok : OKA α) (hd : d < 30) (hk : k < 8) (ha : a < 8) : OKS (more α d k a) := by
  refine withH_ok ok.s ?_ fun h hh => ?_
  · rw [List.length_append]
    have := ok.2.2.1.1
    simp
    omega
  · rcases List.mem_append.mp hh with hh | hh
    · exact ok.2.2.1.2 h hh
    · rw [List.mem_singleton.mp hh]
      exact ⟨hd, hk, ha⟩
theorem c_try {α : AS} {M : Mem} {d k a : Nat} (ok : OKA α) (h : CI α M) (hd : d < 30) (hk : k < 8) (ha : a < 8) : ∃ M', f_X5_tryHiringMore (nI d) (nI k) (nI a) M = some M' ∧ WD 26 (more α d k a) 30 M' ∧ SR 13 (more α d k a) M' ∧ FrT M M' := by
  obtain ⟨M1, a1, a2, a3⟩ := c_become ok.s h.2.1
  have hl : (hs (sA α)).length ≤ 8 := ok.2.2.1.1
  obtain ⟨M2, b1, b2, b3⟩ := c_add (d := d) (k := k) (a := a) SI_13 (by omega) a2
  obtain ⟨M3, M4, c1, c2, c3, c4, c5⟩ := c_run (more_ok ok hd hk ha) b2
  refine ⟨M4, ?_, c3, c5, (a3.t1.tr b3.t1).tr c4.t2⟩
  unfold f_X5_tryHiringMore
  simp only [li_29, a1, b1, c1, c2, bind_sm]
/-- the reference: its texts read, in any life -/
def MJ (α : AS) (M : Mem) : Prop := MI α M ∧ MS (sA α) M
theorem FI.j {α : AS} {M : Mem} (h : FI α M) : MJ α M := ⟨h.1, h.2.1⟩
/-- a life with one hiring more -/
theorem m_more {α : AS} {M : Mem} {d k a : Nat} (ok : OKA α) (hd : d < 30) (hk : k < nP (sA α)) (ha : a < 8) (hS : MS (sA α) M) (hH : MH (hlA α) 0 (some (d, k, a)) M) : ∃ M', f_X6_lives M = some M' ∧ LV' (more α d k a) M' ∧ Fr 59 68 M M' := by
  have ok2 := ok.s.1.2.1
  refine m_lives (σ := more α d k a) (od := some (d, k, a)) (more_ok ok hd (by omega) ha) hS hH ⟨ok.2.2.1.1, by decide, ok.2.2.1.2, fun o ho => by cases ho; exact ⟨hd, hk, ha⟩⟩ ?_
  have := Eff_0 (α := α)
  unfold Eff at this ⊢
  show hlA α ++ [(d, k, a)] = keepB 0 (hlA α) 0 ++ [(d, k, a)]
  have e : hlA α = keepB 0 (hlA α) 0 ++ [] := this
  rw [List.append_nil] at e
  rw [← e]
/-- how far k would be from to -/
def dfar (α : AS) (k to d a : Nat) : Nat := far (wk (more α d k a) 30) k to
def dressV (α : AS) (k to d w : Nat) : Int32 := if to < nA (sA α) then (if w = 0 then oi (am (dfar α k to d) (nA (sA α))) else oi ((am (dfar α k to d) (nA (sA α))).map (dfar α k to d))) else m1
theorem c_dress_in {α : AS} {M : Mem} {k to d w : Nat} (ok : OKA α) (h : CI α M) (hk : k < nP (sA α)) (hto : to < 8) (hd : d < 30) (hw : w < 2) : ∃ M', f_X5_dress (nI k) (nI to) (nI d) (nI w) M = some (dressV α k to d w, M') ∧ CI α M' ∧ Fr 0 49 M M' := by
  have oks := ok.s
  have ok1 := oks.1.1
  have ok2 := oks.1.2.1
  have e1 := c_hasP (i := k) h.2.1.1.2.1 (show nP (sA α) < 100 by omega) (show k < 100 by omega)
  have e2 := c_hasA (i := to) h.2.1.1.1 (show nA (sA α) < 100 by omega) (show to < 100 by omega)
  unfold f_X5_dress dressV
  by_cases q : to < nA (sA α)
  · obtain ⟨e, l1, l2, l3, l4⟩ := loop_inv (B := fun s8 : Int32 × Int32 × Int32 × Mem => f_X5_dress_63_63b (nI k) (nI to) (nI d) (nI w) s8.1 s8.2.1 s8.2.2.1 s8.2.2.2) (fun i q => q.1 = oi (am (dfar α k to d) i) ∧ q.2.1 = oi ((am (dfar α k to d) i).map (dfar α k to d)) ∧ q.2.2.1 = nI i ∧ FrT M q.2.2.2)
      (fun q => q.1 = oi (am (dfar α k to d) (nA (sA α))) ∧ q.2.1 = oi ((am (dfar α k to d) (nA (sA α))).map (dfar α k to d)) ∧ FrT M q.2.2.2) (nA (sA α)) (s := (m1, m1, nI 0, M))
      (by exact ⟨rfl, rfl, rfl, FrT.rf⟩)
      (by
        rintro i ⟨x, y, z, N⟩ hi ⟨hx, hy, hz, c1⟩
        dsimp only at hx hy hz c1 ⊢
        subst hx hy hz
        have ci := h.frT c1
        obtain ⟨N', d1, d2, d3, d4⟩ := c_try (a := i) ok ci hd (show k < 8 by omega) (show i < 8 by omega)
        have okm := more_ok (a := i) ok hd (show k < 8 by omega) (show i < 8 by omega)
        have okv := okm.wk 30
        have ff : f_X4_far 26 (nI k) (nI to) N' = some (nI (dfar α k to d i)) := c_far' WI_26 okm okv hk q d2.1
        have fl : ∀ a, a < 8 → dfar α k to d a ≤ 45 := fun a ha => far_le ((more_ok (a := a) ok hd (show k < 8 by omega) ha).wk 30) k to
        have fi := fl i (by omega)
        unfold f_X5_dress_63_63b f_X5_dress_107_63 f_X5_dress_115_63
        rw [am_s]
        cases hm : am (dfar α k to d) i with
        | none =>
          refine ⟨(nI i, nI (dfar α k to d i), nI (i + 1), N'), ?_, rfl, rfl, rfl, c1.tr d4⟩
          simp (disch := omega) only [li_0, li_1, li_2, li_3, li_4, li_5, li_6, li_7, li_8, li_9, li_10, li_11, li_12, li_14, li_15, li_16, li_18, li_20, li_22, li_23, li_24, li_29, li_30, li_31, li_32, li_33, li_40, li_48, li_54, li_55, li_56, li_57, li_59, li_60, li_63, li_64, li_97, li_98, li_99, li_100, li_103, li_107, li_108, li_112, li_121, li_206, li_212, li_232, li_240, li_255, li_256, li_261, li_270, ng_1, ng_2, ng_3, ng_4, ng_9, ng_10, m1_1, nI_m1, m1_nI, if_true, if_false, nI_add, pk_mul, pk_sub, nI_div, nI_rem, nI_eq, nI_leI, nI_ltI, nI_clamp, ck_in, ck_nz, bind_sm, upM_n, upM_m, upM_s, if_pos, if_neg, ci.2.1.1.1, d1, ff, oi_n, Option.map]
        | some b =>
          have hb := am_lt hm
          have fb := fl b (by omega)
          by_cases q2 : dfar α k to d i < dfar α k to d b
          · refine ⟨(nI i, nI (dfar α k to d i), nI (i + 1), N'), ?_, ?_, ?_, rfl, c1.tr d4⟩
            · simp (disch := omega) only [li_0, li_1, li_2, li_3, li_4, li_5, li_6, li_7, li_8, li_9, li_10, li_11, li_12, li_14, li_15, li_16, li_18, li_20, li_22, li_23, li_24, li_29, li_30, li_31, li_32, li_33, li_40, li_48, li_54, li_55, li_56, li_57, li_59, li_60, li_63, li_64, li_97, li_98, li_99, li_100, li_103, li_107, li_108, li_112, li_121, li_206, li_212, li_232, li_240, li_255, li_256, li_261, li_270, ng_1, ng_2, ng_3, ng_4, ng_9, ng_10, m1_1, nI_m1, m1_nI, if_true, if_false, nI_add, pk_mul, pk_sub, nI_div, nI_rem, nI_eq, nI_leI, nI_ltI, nI_clamp, ck_in, ck_nz, bind_sm, upM_n, upM_m, upM_s, if_pos, if_neg, ci.2.1.1.1, d1, ff, oi_s, Option.map]
            · simp only [if_pos q2]; rfl
            · simp only [if_pos q2]; rfl
          · refine ⟨(nI b, nI (dfar α k to d b), nI (i + 1), N'), ?_, ?_, ?_, rfl, c1.tr d4⟩
            · simp (disch := omega) only [li_0, li_1, li_2, li_3, li_4, li_5, li_6, li_7, li_8, li_9, li_10, li_11, li_12, li_14, li_15, li_16, li_18, li_20, li_22, li_23, li_24, li_29, li_30, li_31, li_32, li_33, li_40, li_48, li_54, li_55, li_56, li_57, li_59, li_60, li_63, li_64, li_97, li_98, li_99, li_100, li_103, li_107, li_108, li_112, li_121, li_206, li_212, li_232, li_240, li_255, li_256, li_261, li_270, ng_1, ng_2, ng_3, ng_4, ng_9, ng_10, m1_1, nI_m1, m1_nI, if_true, if_false, nI_add, pk_mul, pk_sub, nI_div, nI_rem, nI_eq, nI_leI, nI_ltI, nI_clamp, ck_in, ck_nz, bind_sm, upM_n, upM_m, upM_s, if_pos, if_neg, ci.2.1.1.1, d1, ff, oi_s, Option.map]
            · simp only [if_neg q2]; rfl
            · simp only [if_neg q2]; rfl)
      (by
        rintro ⟨x, y, z, N⟩ ⟨hx, hy, hz, c1⟩
        dsimp only at hx hy hz c1 ⊢
        subst hx hy hz
        refine ⟨(oi (am (dfar α k to d) (nA (sA α))), oi ((am (dfar α k to d) (nA (sA α))).map (dfar α k to d)), nI (nA (sA α)), N), ?_, rfl, rfl, c1⟩
        unfold f_X5_dress_63_63b
        simp (disch := omega) only [li_0, li_1, li_2, li_3, li_4, li_5, li_6, li_7, li_8, li_9, li_10, li_11, li_12, li_14, li_15, li_16, li_18, li_20, li_22, li_23, li_24, li_29, li_30, li_31, li_32, li_33, li_40, li_48, li_54, li_55, li_56, li_57, li_59, li_60, li_63, li_64, li_97, li_98, li_99, li_100, li_103, li_107, li_108, li_112, li_121, li_206, li_212, li_232, li_240, li_255, li_256, li_261, li_270, ng_1, ng_2, ng_3, ng_4, ng_9, ng_10, m1_1, nI_m1, m1_nI, if_true, if_false, nI_add, pk_mul, pk_sub, nI_div, nI_rem, nI_eq, nI_leI, nI_ltI, nI_clamp, ck_in, ck_nz, bind_sm, upM_n, upM_m, upM_s, if_pos, if_neg, (h.frT c1).2.1.1.1])
    refine ⟨e.2.2.2, ?_, h.frT l4, l4.w⟩
    simp (disch := omega) only [li_0, li_1, li_2, li_3, li_4, li_5, li_6, li_7, li_8, li_9, li_10, li_11, li_12, li_14, li_15, li_16, li_18, li_20, li_22, li_23, li_24, li_29, li_30, li_31, li_32, li_33, li_40, li_48, li_54, li_55, li_56, li_57, li_59, li_60, li_63, li_64, li_97, li_98, li_99, li_100, li_103, li_107, li_108, li_112, li_121, li_206, li_212, li_232, li_240, li_255, li_256, li_261, li_270, ng_1, ng_2, ng_3, ng_4, ng_9, ng_10, m1_1, nI_m1, m1_nI, if_true, if_false, nI_add, pk_mul, pk_sub, nI_div, nI_rem, nI_eq, nI_leI, nI_ltI, nI_clamp, ck_in, ck_nz, bind_sm, upM_n, upM_m, upM_s, if_pos, if_neg, below_in, e1, e2, l1, l2, l3]
    by_cases q3 : w = 0
    · simp (disch := omega) only [li_0, li_1, li_2, li_3, li_4, li_5, li_6, li_7, li_8, li_9, li_10, li_11, li_12, li_14, li_15, li_16, li_18, li_20, li_22, li_23, li_24, li_29, li_30, li_31, li_32, li_33, li_40, li_48, li_54, li_55, li_56, li_57, li_59, li_60, li_63, li_64, li_97, li_98, li_99, li_100, li_103, li_107, li_108, li_112, li_121, li_206, li_212, li_232, li_240, li_255, li_256, li_261, li_270, ng_1, ng_2, ng_3, ng_4, ng_9, ng_10, m1_1, nI_m1, m1_nI, if_true, if_false, nI_add, pk_mul, pk_sub, nI_div, nI_rem, nI_eq, nI_leI, nI_ltI, nI_clamp, ck_in, ck_nz, bind_sm, upM_n, upM_m, upM_s, if_pos, if_neg]
    · simp (disch := omega) only [li_0, li_1, li_2, li_3, li_4, li_5, li_6, li_7, li_8, li_9, li_10, li_11, li_12, li_14, li_15, li_16, li_18, li_20, li_22, li_23, li_24, li_29, li_30, li_31, li_32, li_33, li_40, li_48, li_54, li_55, li_56, li_57, li_59, li_60, li_63, li_64, li_97, li_98, li_99, li_100, li_103, li_107, li_108, li_112, li_121, li_206, li_212, li_232, li_240, li_255, li_256, li_261, li_270, ng_1, ng_2, ng_3, ng_4, ng_9, ng_10, m1_1, nI_m1, m1_nI, if_true, if_false, nI_add, pk_mul, pk_sub, nI_div, nI_rem, nI_eq, nI_leI, nI_ltI, nI_clamp, ck_in, ck_nz, bind_sm, upM_n, upM_m, upM_s, if_pos, if_neg]
  · refine ⟨M, ?_, h, fun _ _ => rfl⟩
    simp (disch := omega) only [li_0, li_1, li_2, li_3, li_4, li_5, li_6, li_7, li_8, li_9, li_10, li_11, li_12, li_14, li_15, li_16, li_18, li_20, li_22, li_23, li_24, li_29, li_30, li_31, li_32, li_33, li_40, li_48, li_54, li_55, li_56, li_57, li_59, li_60, li_63, li_64, li_97, li_98, li_99, li_100, li_103, li_107, li_108, li_112, li_121, li_206, li_212, li_232, li_240, li_255, li_256, li_261, li_270, ng_1, ng_2, ng_3, ng_4, ng_9, ng_10, m1_1, nI_m1, m1_nI, if_true, if_false, nI_add, pk_mul, pk_sub, nI_div, nI_rem, nI_eq, nI_leI, nI_ltI, nI_clamp, ck_in, ck_nz, bind_sm, upM_n, upM_m, upM_s, if_pos, if_neg, below_in, e1, e2]
theorem m_dressOf {α : AS} {M : Mem} {k to d w : Nat} (ok : OKA α) (h : MJ α M) (hk : k < nP (sA α)) (hto : to < 8) (hd : d < 30) (hw : w < 2) : ∃ M', f_X6_dressOf (nI k) (nI to) (nI d) (nI w) M = some (dressV α k to d w, M') ∧ MJ α M' ∧ Fr 49 71 M M' := by
  have oks := ok.s
  have ok1 := oks.1.1
  have ok2 := oks.1.2.1
  have e7 := h.2.1.1
  have ia := m_isA (i := to) e7 (show nA (sA α) < 100 by omega) (show to < 100 by omega)
  unfold f_X6_dressOf dressV
  by_cases q : to < nA (sA α)
  · obtain ⟨e, l1, l2, l3, l4, l5⟩ := loop_inv (B := fun s4 : Int32 × Int32 × Int32 × Mem => f_X6_dressOf_30_30b (nI k) (nI to) (nI w) s4.1 s4.2.1 s4.2.2.1 s4.2.2.2) (fun i q => q.1 = oi (am (dfar α k to d) i) ∧ q.2.1 = (match am (dfar α k to d) i with | none => nI 99 | some b => nI (dfar α k to d b)) ∧ q.2.2.1 = nI i ∧ (∀ j, j ≠ 14 → j ≠ 15 → j ≠ 16 → q.2.2.2 49 j = M 49 j) ∧ (q.2.2.2 49 14 = nI d ∧ q.2.2.2 49 15 = nI k) ∧ ∀ k, k ≠ 49 → (k < 59 ∨ 68 ≤ k) → q.2.2.2 k = M k)
      (fun q => q.1 = oi (am (dfar α k to d) (nA (sA α))) ∧ q.2.1 = (match am (dfar α k to d) (nA (sA α)) with | none => nI 99 | some b => nI (dfar α k to d b)) ∧ (∀ j, j ≠ 14 → j ≠ 15 → j ≠ 16 → q.2.2.2 49 j = M 49 j) ∧ ∀ k, k ≠ 49 → (k < 59 ∨ 68 ≤ k) → q.2.2.2 k = M k) (nA (sA α)) (s := (m1, nI 99, nI 0, upM (upM M 49 14 (nI d)) 49 15 (nI k)))
      (by
        refine ⟨rfl, rfl, rfl, fun j h1 h2 h3 => ?_, ⟨?_, ?_⟩, fun j h1 h2 => ?_⟩
        · dsimp only; rw [upM_m (by omega), upM_m (by omega)]
        · dsimp only; rw [upM_m (by omega), upM_s]
        · dsimp only; rw [upM_s]
        · dsimp only; rw [upM_n h1, upM_n h1])
      (by
        rintro i ⟨x, y, z, N⟩ hi ⟨hx, hy, hz, c1, c2, c3⟩
        dsimp only at hx hy hz c1 c2 c3 ⊢
        subst hx hy hz
        have hS : MS (sA α) (upM N 49 16 (nI i)) := by
          have := h.2
          unfold MS at this ⊢
          rw [upM_m (by omega), upM_m (by omega), upM_n (by omega), upM_n (by omega), c1 7 (by omega) (by omega) (by omega), c1 9 (by omega) (by omega) (by omega), c3 56 (by omega) (by omega), c3 57 (by omega) (by omega)]
          exact this
        have hH : MH (hlA α) 0 (some (d, k, i)) (upM N 49 16 (nI i)) := by
          obtain ⟨g1, g2, g3, -⟩ := h.1.2.2.1
          refine ⟨?_, fun j h hj => ?_, ?_, ?_, ?_, ?_⟩
          · rw [upM_m (by omega), c1 11 (by omega) (by omega) (by omega)]; exact g1
          · rw [upM_n (by omega), c3 58 (by omega) (by omega)]; exact g2 j h hj
          · rw [upM_m (by omega), c1 13 (by omega) (by omega) (by omega)]; exact g3
          · rw [upM_m (by omega)]; exact c2.1
          · rw [upM_m (by omega)]; exact c2.2
          · exact upM_s
        obtain ⟨N', d1, d2, d3⟩ := m_more (a := i) ok hd hk (show i < 8 by omega) hS hH
        have okm := more_ok (a := i) ok hd (show k < 8 by omega) (show i < 8 by omega)
        have okv := okm.wk 30
        have ff : f_X6_farOf (nI k) (nI to) N' = some (nI (dfar α k to d i)) := m_far okm okv hk q (fun s hs => d2.1.1 to s q hs) (fun s hs => d2.1.2.1 k s hk hs)
        have fl : ∀ a, a < 8 → dfar α k to d a ≤ 45 := fun a ha => far_le ((more_ok (a := a) ok hd (show k < 8 by omega) ha).wk 30) k to
        have fi := fl i (by omega)
        have n7 : N 49 7 = nI (nA (sA α)) := by rw [c1 7 (by omega) (by omega) (by omega)]; exact e7
        have keep : (∀ j, j ≠ 14 → j ≠ 15 → j ≠ 16 → N' 49 j = M 49 j) ∧ (N' 49 14 = nI d ∧ N' 49 15 = nI k) ∧ ∀ k, k ≠ 49 → (k < 59 ∨ 68 ≤ k) → N' k = M k := by
          refine ⟨fun j h1 h2 h3 => ?_, ⟨?_, ?_⟩, fun j h1 h2 => ?_⟩
          · rw [d3 49 (by omega), upM_m h3]; exact c1 j h1 h2 h3
          · rw [d3 49 (by omega), upM_m (by omega)]; exact c2.1
          · rw [d3 49 (by omega), upM_m (by omega)]; exact c2.2
          · rw [d3 j h2, upM_n h1]; exact c3 j h1 h2
        unfold f_X6_dressOf_30_30b f_X6_dressOf_71_30
        rw [am_s]
        cases hm : am (dfar α k to d) i with
        | none =>
          refine ⟨(nI i, nI (dfar α k to d i), nI (i + 1), N'), ?_, rfl, rfl, rfl, keep⟩
          simp (disch := omega) only [li_0, li_1, li_2, li_3, li_4, li_5, li_6, li_7, li_8, li_9, li_10, li_11, li_12, li_14, li_15, li_16, li_18, li_20, li_22, li_23, li_24, li_29, li_30, li_31, li_32, li_33, li_40, li_48, li_54, li_55, li_56, li_57, li_59, li_60, li_63, li_64, li_97, li_98, li_99, li_100, li_103, li_107, li_108, li_112, li_121, li_206, li_212, li_232, li_240, li_255, li_256, li_261, li_270, ng_1, ng_2, ng_3, ng_4, ng_9, ng_10, m1_1, nI_m1, m1_nI, if_true, if_false, nI_add, pk_mul, pk_sub, nI_div, nI_rem, nI_eq, nI_leI, nI_ltI, nI_clamp, ck_in, ck_nz, bind_sm, upM_n, upM_m, upM_s, if_pos, if_neg, n7, d1, ff, oi_n, m_lesser, Nat.min_eq_left]
        | some b =>
          have hb := am_lt hm
          have fb := fl b (by omega)
          by_cases q2 : dfar α k to d i < dfar α k to d b
          · refine ⟨(nI i, nI (dfar α k to d i), nI (i + 1), N'), ?_, ?_, ?_, rfl, keep⟩
            · simp (disch := omega) only [li_0, li_1, li_2, li_3, li_4, li_5, li_6, li_7, li_8, li_9, li_10, li_11, li_12, li_14, li_15, li_16, li_18, li_20, li_22, li_23, li_24, li_29, li_30, li_31, li_32, li_33, li_40, li_48, li_54, li_55, li_56, li_57, li_59, li_60, li_63, li_64, li_97, li_98, li_99, li_100, li_103, li_107, li_108, li_112, li_121, li_206, li_212, li_232, li_240, li_255, li_256, li_261, li_270, ng_1, ng_2, ng_3, ng_4, ng_9, ng_10, m1_1, nI_m1, m1_nI, if_true, if_false, nI_add, pk_mul, pk_sub, nI_div, nI_rem, nI_eq, nI_leI, nI_ltI, nI_clamp, ck_in, ck_nz, bind_sm, upM_n, upM_m, upM_s, if_pos, if_neg, n7, d1, ff, oi_s, m_lesser, Nat.min_eq_left]
            · simp only [if_pos q2]; rfl
            · simp only [if_pos q2]
          · refine ⟨(nI b, nI (dfar α k to d b), nI (i + 1), N'), ?_, ?_, ?_, rfl, keep⟩
            · simp (disch := omega) only [li_0, li_1, li_2, li_3, li_4, li_5, li_6, li_7, li_8, li_9, li_10, li_11, li_12, li_14, li_15, li_16, li_18, li_20, li_22, li_23, li_24, li_29, li_30, li_31, li_32, li_33, li_40, li_48, li_54, li_55, li_56, li_57, li_59, li_60, li_63, li_64, li_97, li_98, li_99, li_100, li_103, li_107, li_108, li_112, li_121, li_206, li_212, li_232, li_240, li_255, li_256, li_261, li_270, ng_1, ng_2, ng_3, ng_4, ng_9, ng_10, m1_1, nI_m1, m1_nI, if_true, if_false, nI_add, pk_mul, pk_sub, nI_div, nI_rem, nI_eq, nI_leI, nI_ltI, nI_clamp, ck_in, ck_nz, bind_sm, upM_n, upM_m, upM_s, if_pos, if_neg, n7, d1, ff, oi_s, m_lesser, Nat.min_eq_right]
            · simp only [if_neg q2]; rfl
            · simp only [if_neg q2])
      (by
        rintro ⟨x, y, z, N⟩ ⟨hx, hy, hz, c1, c2, c3⟩
        dsimp only at hx hy hz c1 c2 c3 ⊢
        have n7 : N 49 7 = nI (nA (sA α)) := by rw [c1 7 (by omega) (by omega) (by omega)]; exact e7
        subst hz
        refine ⟨(x, y, nI (nA (sA α)), N), ?_, hx, hy, c1, c3⟩
        unfold f_X6_dressOf_30_30b
        simp (disch := omega) only [li_0, li_1, li_2, li_3, li_4, li_5, li_6, li_7, li_8, li_9, li_10, li_11, li_12, li_14, li_15, li_16, li_18, li_20, li_22, li_23, li_24, li_29, li_30, li_31, li_32, li_33, li_40, li_48, li_54, li_55, li_56, li_57, li_59, li_60, li_63, li_64, li_97, li_98, li_99, li_100, li_103, li_107, li_108, li_112, li_121, li_206, li_212, li_232, li_240, li_255, li_256, li_261, li_270, ng_1, ng_2, ng_3, ng_4, ng_9, ng_10, m1_1, nI_m1, m1_nI, if_true, if_false, nI_add, pk_mul, pk_sub, nI_div, nI_rem, nI_eq, nI_leI, nI_ltI, nI_clamp, ck_in, ck_nz, bind_sm, upM_n, upM_m, upM_s, if_pos, if_neg, n7])
    have mj : MJ α (upM e.2.2.2 49 14 m1) := by
      refine ⟨?_, ?_⟩
      · obtain ⟨h1, h2, h3, h4, h5, h6⟩ := h.1
        have z := fun j (hj : j ≠ 14) (h15 : j ≠ 15) (h16 : j ≠ 16) => (upM_m (M := e.2.2.2) (k := 49) (x := m1) hj).trans (l4 j hj h15 h16)
        have zz := fun k (hk : k ≠ 49) (h2 : k < 59 ∨ 68 ≤ k) => (upM_n (M := e.2.2.2) (i := 14) (x := m1) hk).trans (l5 k hk h2)
        unfold MI
        rw [zz 50 (by omega) (by omega), zz 51 (by omega) (by omega), zz 52 (by omega) (by omega), zz 54 (by omega) (by omega), zz 55 (by omega) (by omega), zz 68 (by omega) (by omega), z 26 (by omega) (by omega) (by omega), z 4 (by omega) (by omega) (by omega)]
        refine ⟨h1, h2, ?_, h4, h5, h6⟩
        obtain ⟨g1, g2, g3, -⟩ := h3
        unfold MH
        rw [zz 58 (by omega) (by omega), z 11 (by omega) (by omega) (by omega), z 13 (by omega) (by omega) (by omega)]
        exact ⟨g1, g2, g3, upM_s⟩
      · have := h.2
        unfold MS at this ⊢
        rw [upM_m (by omega), upM_m (by omega), upM_n (by omega), upM_n (by omega), l4 7 (by omega) (by omega) (by omega), l4 9 (by omega) (by omega) (by omega), l5 56 (by omega) (by omega), l5 57 (by omega) (by omega)]
        exact this
    refine ⟨upM e.2.2.2 49 14 m1, ?_, mj, fun k hk => ?_⟩
    · simp (disch := omega) only [li_0, li_1, li_2, li_3, li_4, li_5, li_6, li_7, li_8, li_9, li_10, li_11, li_12, li_14, li_15, li_16, li_18, li_20, li_22, li_23, li_24, li_29, li_30, li_31, li_32, li_33, li_40, li_48, li_54, li_55, li_56, li_57, li_59, li_60, li_63, li_64, li_97, li_98, li_99, li_100, li_103, li_107, li_108, li_112, li_121, li_206, li_212, li_232, li_240, li_255, li_256, li_261, li_270, ng_1, ng_2, ng_3, ng_4, ng_9, ng_10, m1_1, nI_m1, m1_nI, if_true, if_false, nI_add, pk_mul, pk_sub, nI_div, nI_rem, nI_eq, nI_leI, nI_ltI, nI_clamp, ck_in, ck_nz, bind_sm, upM_n, upM_m, upM_s, if_pos, if_neg, ia, l1, l2, l3]
      cases hm : am (dfar α k to d) (nA (sA α)) with
      | none =>
        exfalso
        obtain ⟨n, hn⟩ : ∃ n, nA (sA α) = n + 1 := ⟨nA (sA α) - 1, by omega⟩
        rw [hn] at hm
        exact am_none hm
      | some b =>
        by_cases q3 : w = 0
        · simp (disch := omega) only [li_0, li_1, li_2, li_3, li_4, li_5, li_6, li_7, li_8, li_9, li_10, li_11, li_12, li_14, li_15, li_16, li_18, li_20, li_22, li_23, li_24, li_29, li_30, li_31, li_32, li_33, li_40, li_48, li_54, li_55, li_56, li_57, li_59, li_60, li_63, li_64, li_97, li_98, li_99, li_100, li_103, li_107, li_108, li_112, li_121, li_206, li_212, li_232, li_240, li_255, li_256, li_261, li_270, ng_1, ng_2, ng_3, ng_4, ng_9, ng_10, m1_1, nI_m1, m1_nI, if_true, if_false, nI_add, pk_mul, pk_sub, nI_div, nI_rem, nI_eq, nI_leI, nI_ltI, nI_clamp, ck_in, ck_nz, bind_sm, upM_n, upM_m, upM_s, if_pos, if_neg, oi_s]
        · simp (disch := omega) only [li_0, li_1, li_2, li_3, li_4, li_5, li_6, li_7, li_8, li_9, li_10, li_11, li_12, li_14, li_15, li_16, li_18, li_20, li_22, li_23, li_24, li_29, li_30, li_31, li_32, li_33, li_40, li_48, li_54, li_55, li_56, li_57, li_59, li_60, li_63, li_64, li_97, li_98, li_99, li_100, li_103, li_107, li_108, li_112, li_121, li_206, li_212, li_232, li_240, li_255, li_256, li_261, li_270, ng_1, ng_2, ng_3, ng_4, ng_9, ng_10, m1_1, nI_m1, m1_nI, if_true, if_false, nI_add, pk_mul, pk_sub, nI_div, nI_rem, nI_eq, nI_leI, nI_ltI, nI_clamp, ck_in, ck_nz, bind_sm, upM_n, upM_m, upM_s, if_pos, if_neg, oi_s, Option.map]
    · rw [upM_n (by omega), l5 k (by omega) (by omega)]
  · refine ⟨M, ?_, h, fun _ _ => rfl⟩
    simp (disch := omega) only [li_0, li_1, li_2, li_3, li_4, li_5, li_6, li_7, li_8, li_9, li_10, li_11, li_12, li_14, li_15, li_16, li_18, li_20, li_22, li_23, li_24, li_29, li_30, li_31, li_32, li_33, li_40, li_48, li_54, li_55, li_56, li_57, li_59, li_60, li_63, li_64, li_97, li_98, li_99, li_100, li_103, li_107, li_108, li_112, li_121, li_206, li_212, li_232, li_240, li_255, li_256, li_261, li_270, ng_1, ng_2, ng_3, ng_4, ng_9, ng_10, m1_1, nI_m1, m1_nI, if_true, if_false, nI_add, pk_mul, pk_sub, nI_div, nI_rem, nI_eq, nI_leI, nI_ltI, nI_clamp, ck_in, ck_nz, bind_sm, upM_n, upM_m, upM_s, if_pos, if_neg, ia]
