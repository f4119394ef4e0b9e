-- THE HIRINGS THAT HAD BETTER NOT BE: the reference
/-- only 'gone' was written, and put back, and lives were lived -/
def RB (M N : Mem) : Prop := (∀ j, j ≠ 13 → N 49 j = M 49 j) ∧ N 49 13 = nI 0 ∧ ∀ k, k ≠ 49 → (k < 59 ∨ 68 ≤ k) → N k = M k
theorem RB.rf {α : AS} {M : Mem} (h : MJ α M) : RB M M := ⟨fun _ _ => rfl, h.1.2.2.1.2.2.1, fun _ _ _ => rfl⟩
theorem RB.j {α : AS} {M N : Mem} (h : RB M N) (hj : MJ α M) : MJ α N := hj.back2 h.1 h.2.1 h.2.2
theorem RB.w {M N : Mem} (h : RB M N) : Fr 49 71 M N := fun k hk => h.2.2 k (by omega) (by omega)
theorem RB.tr {M N L : Mem} (h1 : RB M N) (h2 : RB N L) : RB M L := ⟨fun j hj => (h2.1 j hj).trans (h1.1 j hj), h2.2.1, fun k h3 h4 => (h2.2.2 k h3 h4).trans (h1.2.2 k h3 h4)⟩
/-- lives without some hirings -/
theorem m_without {α : AS} {M : Mem} {g : Nat} {l : List (Nat × Nat × Nat)} (ok : OKA α) (h : MJ α M) (okt : OKS (withH (sA α) l)) (hg : g < 256) (he : l = keepB g (hlA α) 0) : ∃ N, f_X6_lives (upM M 49 13 (nI g)) = some N ∧ LV' (withH (sA α) l) N ∧ MS (withH (sA α) l) N ∧ Fr 59 68 (upM M 49 13 (nI g)) N := by
  have hS : MS (withH (sA α) l) (upM M 49 13 (nI g)) := by
    have := h.2
    show MS (sA α) _
    unfold MS at this ⊢
    rw [upM_m (by omega), upM_m (by omega), upM_n (by omega), upM_n (by omega)]
    exact this
  have hH : MH (hlA α) g none (upM M 49 13 (nI g)) := by
    obtain ⟨g1, g2, g3, g4⟩ := h.1.2.2.1
    refine ⟨?_, fun j h hj => ?_, upM_s, ?_⟩
    · rw [upM_m (by omega)]; exact g1
    · rw [upM_n (by omega)]; exact g2 j h hj
    · show upM M 49 13 (nI g) 49 14 = m1
      rw [upM_m (by omega)]
      exact g4
  have eff : Eff (withH (sA α) l) (hlA α) g none := by
    show l = keepB g (hlA α) 0 ++ []
    rw [List.append_nil]
    exact he
  obtain ⟨N, d1, d2, d3⟩ := m_lives okt hS hH ⟨ok.2.2.1.1, hg, ok.2.2.1.2, fun o ho => by cases ho⟩ eff
  exact ⟨N, d1, d2, hS.fr (d3 49 (by omega)) (d3 56 (by omega)) (d3 57 (by omega)), d3⟩
theorem m_isRight {α : AS} {M : Mem} {g : Nat} {l : List (Nat × Nat × Nat)} (ok : OKA α) (h : MJ α M) (okt : OKS (withH (sA α) l)) (hg : g < 256) (he : l = keepB g (hlA α) 0) : ∃ N, f_X6_isRight (nI g) M = some (bb (abits (withH (sA α) l) = 0), N) ∧ RB M N := by
  obtain ⟨N, d1, d2, d3, d4⟩ := m_without ok h okt hg he
  have ms : MS (withH (sA α) l) (upM N 49 13 (nI 0)) := by
    unfold MS at d3 ⊢
    rw [upM_m (by omega), upM_m (by omega), upM_n (by omega), upM_n (by omega)]
    exact d3
  have lv : LV' (withH (sA α) l) (upM N 49 13 (nI 0)) := by
    unfold LV' MW DB BE at d2 ⊢
    simp only [upM_n (M := N) (k := 49) (i := 13) (x := nI 0) (show 59 ≠ 49 by decide), upM_n (M := N) (k := 49) (i := 13) (x := nI 0) (show 60 ≠ 49 by decide), upM_n (M := N) (k := 49) (i := 13) (x := nI 0) (show 61 ≠ 49 by decide), upM_n (M := N) (k := 49) (i := 13) (x := nI 0) (show 62 ≠ 49 by decide), upM_n (M := N) (k := 49) (i := 13) (x := nI 0) (show 63 ≠ 49 by decide), upM_n (M := N) (k := 49) (i := 13) (x := nI 0) (show 64 ≠ 49 by decide), upM_n (M := N) (k := 49) (i := 13) (x := nI 0) (show 65 ≠ 49 by decide), upM_n (M := N) (k := 49) (i := 13) (x := nI 0) (show 66 ≠ 49 by decide), upM_n (M := N) (k := 49) (i := 13) (x := nI 0) (show 67 ≠ 49 by decide)]
    exact d2
  have an := m_astrayNow okt ms lv
  have al := abits_lt okt
  refine ⟨upM N 49 13 (nI 0), ?_, fun j hj => ?_, upM_s, fun k h1 h2 => ?_⟩
  · unfold f_X6_isRight
    rw [d1, bind_sm, li_0, an, bind_sm]
    by_cases q : abits (withH (sA α) l) = 0
    · rw [bb_t q, q, if_pos rfl]
      rfl
    · rw [bb_f q, if_neg (fun r => q ((nI_eq (by omega) (by omega)).mp r))]
  · rw [upM_m hj, d4 49 (by omega), upM_m hj]
  · rw [upM_n h1, d4 k h2, upM_n h1]
theorem keepB_two : ∀ (l : List (Nat × Nat × Nat)) (i k j : Nat), i < k → keepB (2 ^ i ||| 2 ^ k) l j = if j ≤ i then (l.eraseIdx (k - j)).eraseIdx (i - j) else if j ≤ k then l.eraseIdx (k - j) else l := by
  intro l
  induction l with
  | nil => intro i k j _; simp [keepB]
  | cons x l ih =>
    intro i k j hik
    show (if (2 ^ i ||| 2 ^ k).testBit j = true then keepB (2 ^ i ||| 2 ^ k) l (j + 1) else x :: keepB (2 ^ i ||| 2 ^ k) l (j + 1)) = _
    rw [ih i k (j + 1) hik, Nat.testBit_or, Nat.testBit_two_pow, Nat.testBit_two_pow]
    by_cases q1 : i = j
    · subst q1
      rw [if_pos (by simp), if_neg (by omega), if_pos (by omega), if_pos (Nat.le_refl i), Nat.sub_self, show k - i = (k - (i + 1)) + 1 by omega]
      rfl
    · by_cases q2 : k = j
      · subst q2
        rw [if_pos (by simp), if_neg (by omega), if_neg (by omega), if_neg (by omega), if_pos (Nat.le_refl k), Nat.sub_self]
        rfl
      · rw [if_neg (by simp [q1, q2])]
        by_cases q3 : j ≤ i
        · rw [if_pos (by omega), if_pos q3, show i - j = (i - (j + 1)) + 1 by omega, show k - j = (k - (j + 1)) + 1 by omega]
          rfl
        · rw [if_neg (by omega), if_neg q3]
          by_cases q4 : j ≤ k
          · rw [if_pos (by omega), if_pos q4, show k - j = (k - (j + 1)) + 1 by omega]
            rfl
          · rw [if_neg (by omega), if_neg q4]
theorem or_two : ∀ i, i < 9 → ∀ k, k < 9 → shlI (nI 1) (nI i) ||| shlI (nI 1) (nI k) = nI (2 ^ i ||| 2 ^ k) := by decide +kernel
theorem or_lt : ∀ i, i < 8 → ∀ k, k < 8 → 2 ^ i ||| 2 ^ k < 256 := by decide +kernel
theorem p2_lt {i : Nat} (h : i < 8) : 2 ^ i < 256 := by
  have : 2 ^ i < 2 ^ 8 := Nat.pow_lt_pow_right (by decide) (by omega)
  exact this
theorem withH_self {α : AS} : withH (sA α) (hlA α) = sA α := rfl
theorem m_refuseOf {α : AS} {M : Mem} {x : Int32} (ok : OKA α) (h : MJ α M) (hx : x = m1 ∨ In x 2) : ∃ M', f_X6_refuseOf x M = some (refV α x, M') ∧ MJ α M' ∧ Fr 49 71 M M' := by
  have h8 : (hlA α).length ≤ 8 := ok.2.2.1.1
  suffices ∃ M', f_X6_refuseOf x M = some (refV α x, M') ∧ RB M M' by
    obtain ⟨M', a1, a2⟩ := this
    exact ⟨M', a1, a2.j h, a2.w⟩
  have xx : (x = m1 ∨ x = nI 0 ∨ x = nI 1) := by
    rcases hx with rfl | ⟨j, hj, rfl⟩
    · exact Or.inl rfl
    · have : j = 0 ∨ j = 1 := by omega
      rcases this with rfl | rfl
      · exact Or.inr (Or.inl rfl)
      · exact Or.inr (Or.inr rfl)
  obtain ⟨M1, a1, a2⟩ := m_isRight (g := 0) (l := hlA α) ok h ok.s (by decide) (keepB_0 _ _).symm
  rw [withH_self] at a1
  unfold f_X6_refuseOf
  by_cases q : abits (sA α) = 0
  · rw [bb_t q] at a1
    refine ⟨M1, ?_, a2⟩
    unfold refV
    rw [ref_0 q]
    rcases xx with rfl | rfl | rfl
    · simp (disch := omega) only [li_0, li_1, li_2, li_3, li_4, li_5, li_6, li_7, li_8, li_9, li_10, li_11, li_12, li_14, li_15, li_16, li_18, li_20, li_22, li_23, li_24, li_29, li_30, li_31, li_32, li_33, li_40, li_48, li_54, li_55, li_56, li_57, li_59, li_60, li_63, li_64, li_97, li_98, li_99, li_100, li_103, li_107, li_108, li_112, li_121, li_206, li_212, li_232, li_240, li_255, li_256, li_261, li_270, ng_1, ng_2, ng_3, ng_4, ng_9, ng_10, m1_1, nI_m1, m1_nI, if_true, if_false, nI_add, pk_mul, pk_sub, nI_div, nI_rem, nI_eq, nI_leI, nI_ltI, nI_clamp, ck_in, ck_nz, bind_sm, upM_n, upM_m, upM_s, if_pos, if_neg, a1]
    · simp (disch := omega) only [li_0, li_1, li_2, li_3, li_4, li_5, li_6, li_7, li_8, li_9, li_10, li_11, li_12, li_14, li_15, li_16, li_18, li_20, li_22, li_23, li_24, li_29, li_30, li_31, li_32, li_33, li_40, li_48, li_54, li_55, li_56, li_57, li_59, li_60, li_63, li_64, li_97, li_98, li_99, li_100, li_103, li_107, li_108, li_112, li_121, li_206, li_212, li_232, li_240, li_255, li_256, li_261, li_270, ng_1, ng_2, ng_3, ng_4, ng_9, ng_10, m1_1, nI_m1, m1_nI, if_true, if_false, nI_add, pk_mul, pk_sub, nI_div, nI_rem, nI_eq, nI_leI, nI_ltI, nI_clamp, ck_in, ck_nz, bind_sm, upM_n, upM_m, upM_s, if_pos, if_neg, a1]
    · simp (disch := omega) only [li_0, li_1, li_2, li_3, li_4, li_5, li_6, li_7, li_8, li_9, li_10, li_11, li_12, li_14, li_15, li_16, li_18, li_20, li_22, li_23, li_24, li_29, li_30, li_31, li_32, li_33, li_40, li_48, li_54, li_55, li_56, li_57, li_59, li_60, li_63, li_64, li_97, li_98, li_99, li_100, li_103, li_107, li_108, li_112, li_121, li_206, li_212, li_232, li_240, li_255, li_256, li_261, li_270, ng_1, ng_2, ng_3, ng_4, ng_9, ng_10, m1_1, nI_m1, m1_nI, if_true, if_false, nI_add, pk_mul, pk_sub, nI_div, nI_rem, nI_eq, nI_leI, nI_ltI, nI_clamp, ck_in, ck_nz, bind_sm, upM_n, upM_m, upM_s, if_pos, if_neg, a1]
  · rw [bb_f q] at a1
    have one := loop_find (B := fun s3 : Int32 × Mem => f_X6_refuseOf_21_21b x s3.1 s3.2) (q1 α) (fun i s => s.1 = nI i ∧ RB M s.2) (fun e => RB M e.2) (fun k v => v.1 = (if x = m1 then nI 1 else if x = nI 0 then nI k else m1) ∧ RB M v.2) (hlA α).length
      (by
        rintro i ⟨y, N⟩ hi ⟨hy, c1⟩
        dsimp only at hy c1
        subst hy
        have jN := c1.j h
        have e11 : N 49 11 = nI (hlA α).length := jN.1.2.2.1.1
        obtain ⟨N1, d1, d2⟩ := m_isRight (g := 2 ^ i) (l := (hlA α).eraseIdx i) ok jN (less_ok (k := i) ok) (p2_lt (by omega)) (by rw [keepB_one, if_pos (Nat.zero_le i), Nat.sub_zero])
        have d1 : f_X6_isRight (nI (2 ^ i)) N = some (bb (q1 α i), N1) := d1
        unfold f_X6_refuseOf_21_21b
        by_cases p : q1 α i
        · rw [bb_t p] at d1
          refine Or.inl ⟨p, ((if x = m1 then nI 1 else if x = nI 0 then nI i else m1), N1), ?_, rfl, c1.tr d2⟩
          rcases xx with rfl | rfl | rfl
          · simp (disch := omega) only [li_0, li_1, li_2, li_3, li_4, li_5, li_6, li_7, li_8, li_9, li_10, li_11, li_12, li_14, li_15, li_16, li_18, li_20, li_22, li_23, li_24, li_29, li_30, li_31, li_32, li_33, li_40, li_48, li_54, li_55, li_56, li_57, li_59, li_60, li_63, li_64, li_97, li_98, li_99, li_100, li_103, li_107, li_108, li_112, li_121, li_206, li_212, li_232, li_240, li_255, li_256, li_261, li_270, ng_1, ng_2, ng_3, ng_4, ng_9, ng_10, m1_1, nI_m1, m1_nI, if_true, if_false, nI_add, pk_mul, pk_sub, nI_div, nI_rem, nI_eq, nI_leI, nI_ltI, nI_clamp, ck_in, ck_nz, bind_sm, upM_n, upM_m, upM_s, if_pos, if_neg, e11, shl1, d1]
          · simp (disch := omega) only [li_0, li_1, li_2, li_3, li_4, li_5, li_6, li_7, li_8, li_9, li_10, li_11, li_12, li_14, li_15, li_16, li_18, li_20, li_22, li_23, li_24, li_29, li_30, li_31, li_32, li_33, li_40, li_48, li_54, li_55, li_56, li_57, li_59, li_60, li_63, li_64, li_97, li_98, li_99, li_100, li_103, li_107, li_108, li_112, li_121, li_206, li_212, li_232, li_240, li_255, li_256, li_261, li_270, ng_1, ng_2, ng_3, ng_4, ng_9, ng_10, m1_1, nI_m1, m1_nI, if_true, if_false, nI_add, pk_mul, pk_sub, nI_div, nI_rem, nI_eq, nI_leI, nI_ltI, nI_clamp, ck_in, ck_nz, bind_sm, upM_n, upM_m, upM_s, if_pos, if_neg, e11, shl1, d1]
          · simp (disch := omega) only [li_0, li_1, li_2, li_3, li_4, li_5, li_6, li_7, li_8, li_9, li_10, li_11, li_12, li_14, li_15, li_16, li_18, li_20, li_22, li_23, li_24, li_29, li_30, li_31, li_32, li_33, li_40, li_48, li_54, li_55, li_56, li_57, li_59, li_60, li_63, li_64, li_97, li_98, li_99, li_100, li_103, li_107, li_108, li_112, li_121, li_206, li_212, li_232, li_240, li_255, li_256, li_261, li_270, ng_1, ng_2, ng_3, ng_4, ng_9, ng_10, m1_1, nI_m1, m1_nI, if_true, if_false, nI_add, pk_mul, pk_sub, nI_div, nI_rem, nI_eq, nI_leI, nI_ltI, nI_clamp, ck_in, ck_nz, bind_sm, upM_n, upM_m, upM_s, if_pos, if_neg, e11, shl1, d1]
        · rw [bb_f p] at d1
          refine Or.inr ⟨p, (nI (i + 1), N1), ?_, rfl, c1.tr d2⟩
          simp (disch := omega) only [li_0, li_1, li_2, li_3, li_4, li_5, li_6, li_7, li_8, li_9, li_10, li_11, li_12, li_14, li_15, li_16, li_18, li_20, li_22, li_23, li_24, li_29, li_30, li_31, li_32, li_33, li_40, li_48, li_54, li_55, li_56, li_57, li_59, li_60, li_63, li_64, li_97, li_98, li_99, li_100, li_103, li_107, li_108, li_112, li_121, li_206, li_212, li_232, li_240, li_255, li_256, li_261, li_270, ng_1, ng_2, ng_3, ng_4, ng_9, ng_10, m1_1, nI_m1, m1_nI, if_true, if_false, nI_add, pk_mul, pk_sub, nI_div, nI_rem, nI_eq, nI_leI, nI_ltI, nI_clamp, ck_in, ck_nz, bind_sm, upM_n, upM_m, upM_s, if_pos, if_neg, e11, shl1, d1])
      (by
        rintro ⟨y, N⟩ ⟨hy, c1⟩
        dsimp only at hy c1
        subst hy
        have e11 : N 49 11 = nI (hlA α).length := (c1.j h).1.2.2.1.1
        refine ⟨(nI (hlA α).length, N), ?_, c1⟩
        unfold f_X6_refuseOf_21_21b
        simp (disch := omega) only [li_0, li_1, li_2, li_3, li_4, li_5, li_6, li_7, li_8, li_9, li_10, li_11, li_12, li_14, li_15, li_16, li_18, li_20, li_22, li_23, li_24, li_29, li_30, li_31, li_32, li_33, li_40, li_48, li_54, li_55, li_56, li_57, li_59, li_60, li_63, li_64, li_97, li_98, li_99, li_100, li_103, li_107, li_108, li_112, li_121, li_206, li_212, li_232, li_240, li_255, li_256, li_261, li_270, ng_1, ng_2, ng_3, ng_4, ng_9, ng_10, m1_1, nI_m1, m1_nI, if_true, if_false, nI_add, pk_mul, pk_sub, nI_div, nI_rem, nI_eq, nI_leI, nI_ltI, nI_clamp, ck_in, ck_nz, bind_sm, upM_n, upM_m, upM_s, if_pos, if_neg, e11]) (hlA α).length 0 (nI 0, M1) (by omega) ⟨rfl, a2⟩
    rcases one with ⟨k, ⟨v1, v2⟩, r1, r2, r3, r4⟩ | ⟨r1, e, r2, r3⟩
    · dsimp only at r3 r4
      subst r3
      refine ⟨v2, ?_, r4⟩
      unfold refV
      rw [ref_1 q r1]
      simp (disch := omega) only [li_0, li_1, li_2, li_3, li_4, li_5, li_6, li_7, li_8, li_9, li_10, li_11, li_12, li_14, li_15, li_16, li_18, li_20, li_22, li_23, li_24, li_29, li_30, li_31, li_32, li_33, li_40, li_48, li_54, li_55, li_56, li_57, li_59, li_60, li_63, li_64, li_97, li_98, li_99, li_100, li_103, li_107, li_108, li_112, li_121, li_206, li_212, li_232, li_240, li_255, li_256, li_261, li_270, ng_1, ng_2, ng_3, ng_4, ng_9, ng_10, m1_1, nI_m1, m1_nI, if_true, if_false, nI_add, pk_mul, pk_sub, nI_div, nI_rem, nI_eq, nI_leI, nI_ltI, nI_clamp, ck_in, ck_nz, bind_sm, upM_n, upM_m, upM_s, if_pos, if_neg, a1, r2, eo]
    · have two := loop_find (B := fun s9 : Int32 × Mem => f_X6_refuseOf_66_66b x s9.1 s9.2) (fun a => fb α a ≠ none) (fun i s => s.1 = nI i ∧ RB M s.2) (fun e => RB M e.2) (fun a v => RB M v.2 ∧ ∃ b, fb α a = some b ∧ v.1 = (if x = m1 then nI 2 else if x = nI 0 then nI a else nI b)) (hlA α).length
        (by
          rintro i ⟨y, N⟩ hi ⟨hy, c1⟩
          dsimp only at hy c1
          subst hy
          have e11 : N 49 11 = nI (hlA α).length := (c1.j h).1.2.2.1.1
          have inn := loop_find (B := fun s6 : Int32 × Mem => f_X6_refuseOf_78_78b x (nI i) s6.1 s6.2) (q2 α i) (fun j s => i < j ∧ s.1 = nI j ∧ RB M s.2) (fun e => RB M e.2) (fun b v => v.1 = (if x = m1 then nI 2 else if x = nI 0 then nI i else nI b) ∧ RB M v.2) (hlA α).length
            (by
              rintro j ⟨y, N⟩ hj ⟨hij, hy, c1⟩
              dsimp only at hy c1
              subst hy
              have jN := c1.j h
              have e11 : N 49 11 = nI (hlA α).length := jN.1.2.2.1.1
              obtain ⟨N1, d1, d2⟩ := m_isRight (g := 2 ^ i ||| 2 ^ j) (l := ((hlA α).eraseIdx j).eraseIdx i) ok jN (less2_ok (a := i) (b := j) ok) (or_lt i (by omega) j (by omega)) (by rw [keepB_two _ _ _ _ hij, if_pos (Nat.zero_le i), Nat.sub_zero, Nat.sub_zero])
              have o2 := or_two i (by omega) j (by omega)
              have d1 : f_X6_isRight (nI (2 ^ i ||| 2 ^ j)) N = some (bb (q2 α i j), N1) := d1
              unfold f_X6_refuseOf_78_78b
              by_cases p : q2 α i j
              · rw [bb_t p] at d1
                refine Or.inl ⟨p, ((if x = m1 then nI 2 else if x = nI 0 then nI i else nI j), N1), ?_, rfl, c1.tr d2⟩
                rcases xx with rfl | rfl | rfl
                · simp (disch := omega) only [li_0, li_1, li_2, li_3, li_4, li_5, li_6, li_7, li_8, li_9, li_10, li_11, li_12, li_14, li_15, li_16, li_18, li_20, li_22, li_23, li_24, li_29, li_30, li_31, li_32, li_33, li_40, li_48, li_54, li_55, li_56, li_57, li_59, li_60, li_63, li_64, li_97, li_98, li_99, li_100, li_103, li_107, li_108, li_112, li_121, li_206, li_212, li_232, li_240, li_255, li_256, li_261, li_270, ng_1, ng_2, ng_3, ng_4, ng_9, ng_10, m1_1, nI_m1, m1_nI, if_true, if_false, nI_add, pk_mul, pk_sub, nI_div, nI_rem, nI_eq, nI_leI, nI_ltI, nI_clamp, ck_in, ck_nz, bind_sm, upM_n, upM_m, upM_s, if_pos, if_neg, e11, o2, d1]
                · simp (disch := omega) only [li_0, li_1, li_2, li_3, li_4, li_5, li_6, li_7, li_8, li_9, li_10, li_11, li_12, li_14, li_15, li_16, li_18, li_20, li_22, li_23, li_24, li_29, li_30, li_31, li_32, li_33, li_40, li_48, li_54, li_55, li_56, li_57, li_59, li_60, li_63, li_64, li_97, li_98, li_99, li_100, li_103, li_107, li_108, li_112, li_121, li_206, li_212, li_232, li_240, li_255, li_256, li_261, li_270, ng_1, ng_2, ng_3, ng_4, ng_9, ng_10, m1_1, nI_m1, m1_nI, if_true, if_false, nI_add, pk_mul, pk_sub, nI_div, nI_rem, nI_eq, nI_leI, nI_ltI, nI_clamp, ck_in, ck_nz, bind_sm, upM_n, upM_m, upM_s, if_pos, if_neg, e11, o2, d1]
                · simp (disch := omega) only [li_0, li_1, li_2, li_3, li_4, li_5, li_6, li_7, li_8, li_9, li_10, li_11, li_12, li_14, li_15, li_16, li_18, li_20, li_22, li_23, li_24, li_29, li_30, li_31, li_32, li_33, li_40, li_48, li_54, li_55, li_56, li_57, li_59, li_60, li_63, li_64, li_97, li_98, li_99, li_100, li_103, li_107, li_108, li_112, li_121, li_206, li_212, li_232, li_240, li_255, li_256, li_261, li_270, ng_1, ng_2, ng_3, ng_4, ng_9, ng_10, m1_1, nI_m1, m1_nI, if_true, if_false, nI_add, pk_mul, pk_sub, nI_div, nI_rem, nI_eq, nI_leI, nI_ltI, nI_clamp, ck_in, ck_nz, bind_sm, upM_n, upM_m, upM_s, if_pos, if_neg, e11, o2, d1]
              · rw [bb_f p] at d1
                refine Or.inr ⟨p, (nI (j + 1), N1), ?_, by omega, rfl, c1.tr d2⟩
                simp (disch := omega) only [li_0, li_1, li_2, li_3, li_4, li_5, li_6, li_7, li_8, li_9, li_10, li_11, li_12, li_14, li_15, li_16, li_18, li_20, li_22, li_23, li_24, li_29, li_30, li_31, li_32, li_33, li_40, li_48, li_54, li_55, li_56, li_57, li_59, li_60, li_63, li_64, li_97, li_98, li_99, li_100, li_103, li_107, li_108, li_112, li_121, li_206, li_212, li_232, li_240, li_255, li_256, li_261, li_270, ng_1, ng_2, ng_3, ng_4, ng_9, ng_10, m1_1, nI_m1, m1_nI, if_true, if_false, nI_add, pk_mul, pk_sub, nI_div, nI_rem, nI_eq, nI_leI, nI_ltI, nI_clamp, ck_in, ck_nz, bind_sm, upM_n, upM_m, upM_s, if_pos, if_neg, e11, o2, d1])
            (by
              rintro ⟨y, N⟩ ⟨hij, hy, c1⟩
              dsimp only at hy c1
              subst hy
              have e11 : N 49 11 = nI (hlA α).length := (c1.j h).1.2.2.1.1
              refine ⟨(nI (hlA α).length, N), ?_, c1⟩
              unfold f_X6_refuseOf_78_78b
              simp (disch := omega) only [li_0, li_1, li_2, li_3, li_4, li_5, li_6, li_7, li_8, li_9, li_10, li_11, li_12, li_14, li_15, li_16, li_18, li_20, li_22, li_23, li_24, li_29, li_30, li_31, li_32, li_33, li_40, li_48, li_54, li_55, li_56, li_57, li_59, li_60, li_63, li_64, li_97, li_98, li_99, li_100, li_103, li_107, li_108, li_112, li_121, li_206, li_212, li_232, li_240, li_255, li_256, li_261, li_270, ng_1, ng_2, ng_3, ng_4, ng_9, ng_10, m1_1, nI_m1, m1_nI, if_true, if_false, nI_add, pk_mul, pk_sub, nI_div, nI_rem, nI_eq, nI_leI, nI_ltI, nI_clamp, ck_in, ck_nz, bind_sm, upM_n, upM_m, upM_s, if_pos, if_neg, e11]) ((hlA α).length - (i + 1)) (i + 1) (nI (i + 1), N) (by omega) ⟨by omega, rfl, c1⟩
          unfold f_X6_refuseOf_66_66b
          rcases inn with ⟨b, v, r1, r2, r3, r4⟩ | ⟨r1, e, r2, r3⟩
          · have hb : fb α i = some b := r1
            refine Or.inl ⟨by rw [hb]; simp, v, ?_, r4, b, hb, r3⟩
            simp (disch := omega) only [li_0, li_1, li_2, li_3, li_4, li_5, li_6, li_7, li_8, li_9, li_10, li_11, li_12, li_14, li_15, li_16, li_18, li_20, li_22, li_23, li_24, li_29, li_30, li_31, li_32, li_33, li_40, li_48, li_54, li_55, li_56, li_57, li_59, li_60, li_63, li_64, li_97, li_98, li_99, li_100, li_103, li_107, li_108, li_112, li_121, li_206, li_212, li_232, li_240, li_255, li_256, li_261, li_270, ng_1, ng_2, ng_3, ng_4, ng_9, ng_10, m1_1, nI_m1, m1_nI, if_true, if_false, nI_add, pk_mul, pk_sub, nI_div, nI_rem, nI_eq, nI_leI, nI_ltI, nI_clamp, ck_in, ck_nz, bind_sm, upM_n, upM_m, upM_s, if_pos, if_neg, e11, r2, eo]
          · have hb : fb α i = none := r1
            refine Or.inr ⟨fun z => z hb, (nI (i + 1), e.2), ?_, rfl, r3⟩
            simp (disch := omega) only [li_0, li_1, li_2, li_3, li_4, li_5, li_6, li_7, li_8, li_9, li_10, li_11, li_12, li_14, li_15, li_16, li_18, li_20, li_22, li_23, li_24, li_29, li_30, li_31, li_32, li_33, li_40, li_48, li_54, li_55, li_56, li_57, li_59, li_60, li_63, li_64, li_97, li_98, li_99, li_100, li_103, li_107, li_108, li_112, li_121, li_206, li_212, li_232, li_240, li_255, li_256, li_261, li_270, ng_1, ng_2, ng_3, ng_4, ng_9, ng_10, m1_1, nI_m1, m1_nI, if_true, if_false, nI_add, pk_mul, pk_sub, nI_div, nI_rem, nI_eq, nI_leI, nI_ltI, nI_clamp, ck_in, ck_nz, bind_sm, upM_n, upM_m, upM_s, if_pos, if_neg, e11, r2, eo])
        (by
          rintro ⟨y, N⟩ ⟨hy, c1⟩
          dsimp only at hy c1
          subst hy
          have e11 : N 49 11 = nI (hlA α).length := (c1.j h).1.2.2.1.1
          refine ⟨(nI (hlA α).length, N), ?_, c1⟩
          unfold f_X6_refuseOf_66_66b
          simp (disch := omega) only [li_0, li_1, li_2, li_3, li_4, li_5, li_6, li_7, li_8, li_9, li_10, li_11, li_12, li_14, li_15, li_16, li_18, li_20, li_22, li_23, li_24, li_29, li_30, li_31, li_32, li_33, li_40, li_48, li_54, li_55, li_56, li_57, li_59, li_60, li_63, li_64, li_97, li_98, li_99, li_100, li_103, li_107, li_108, li_112, li_121, li_206, li_212, li_232, li_240, li_255, li_256, li_261, li_270, ng_1, ng_2, ng_3, ng_4, ng_9, ng_10, m1_1, nI_m1, m1_nI, if_true, if_false, nI_add, pk_mul, pk_sub, nI_div, nI_rem, nI_eq, nI_leI, nI_ltI, nI_clamp, ck_in, ck_nz, bind_sm, upM_n, upM_m, upM_s, if_pos, if_neg, e11]) (hlA α).length 0 (nI 0, e.2) (by omega) ⟨rfl, r3⟩
      rcases two with ⟨a, ⟨v1, v2⟩, t1, t2, t3, b, t4, t5⟩ | ⟨t1, e', t2, t3⟩
      · dsimp only at t3 t5
        subst t5
        refine ⟨v2, ?_, t3⟩
        unfold refV
        rw [ref_2 q r1 t1 t4]
        simp (disch := omega) only [li_0, li_1, li_2, li_3, li_4, li_5, li_6, li_7, li_8, li_9, li_10, li_11, li_12, li_14, li_15, li_16, li_18, li_20, li_22, li_23, li_24, li_29, li_30, li_31, li_32, li_33, li_40, li_48, li_54, li_55, li_56, li_57, li_59, li_60, li_63, li_64, li_97, li_98, li_99, li_100, li_103, li_107, li_108, li_112, li_121, li_206, li_212, li_232, li_240, li_255, li_256, li_261, li_270, ng_1, ng_2, ng_3, ng_4, ng_9, ng_10, m1_1, nI_m1, m1_nI, if_true, if_false, nI_add, pk_mul, pk_sub, nI_div, nI_rem, nI_eq, nI_leI, nI_ltI, nI_clamp, ck_in, ck_nz, bind_sm, upM_n, upM_m, upM_s, if_pos, if_neg, a1, r2, t2, eo]
      · refine ⟨e'.2, ?_, t3⟩
        unfold refV
        rw [ref_n q r1 t1]
        have : (if x = m1 then m1 else if x = nI 0 then m1 else m1) = m1 := by split <;> (try split) <;> rfl
        simp (disch := omega) only [li_0, li_1, li_2, li_3, li_4, li_5, li_6, li_7, li_8, li_9, li_10, li_11, li_12, li_14, li_15, li_16, li_18, li_20, li_22, li_23, li_24, li_29, li_30, li_31, li_32, li_33, li_40, li_48, li_54, li_55, li_56, li_57, li_59, li_60, li_63, li_64, li_97, li_98, li_99, li_100, li_103, li_107, li_108, li_112, li_121, li_206, li_212, li_232, li_240, li_255, li_256, li_261, li_270, ng_1, ng_2, ng_3, ng_4, ng_9, ng_10, m1_1, nI_m1, m1_nI, if_true, if_false, nI_add, pk_mul, pk_sub, nI_div, nI_rem, nI_eq, nI_leI, nI_ltI, nI_clamp, ck_in, ck_nz, bind_sm, upM_n, upM_m, upM_s, if_pos, if_neg, a1, r2, t2, eo]
        rw [this]
theorem m_refuse {α : AS} {M : Mem} (ok : OKA α) (h : MI α M) : (∀ x, (x = m1 ∨ In x 2) → ∃ M', f_X6_refuse x M = some (refV α x, M') ∧ MJ α M' ∧ Fr 49 71 M M') ∧ ∀ x, ¬ (x = m1 ∨ In x 2) → ∃ M', f_X6_refuse x M = some (m2, M') ∧ MJ α M' ∧ Fr 49 71 M M' := by
  obtain ⟨M1, g1, g2, g3⟩ := m_find ok h
  have mj : MJ α M1 := ⟨g2.1, g2.2.1⟩
  have key : ∀ x, (m1 ≤ x ∧ x ≤ nI 1) ↔ (x = m1 ∨ In x 2) := by
    intro x
    constructor
    · rintro ⟨h1, h2⟩
      by_cases h0 : x < 0
      · refine Or.inl ?_
        rw [Int32.lt_iff_toInt_lt] at h0
        rw [Int32.le_iff_toInt_le] at h1
        have e1 : m1.toInt = -1 := by decide
        have e2 : (0 : Int32).toInt = 0 := by decide
        exact Int32.toInt_inj.mp (by omega)
      · obtain ⟨i, hi, rfl⟩ := nI_of h0
        exact Or.inr ⟨i, by have := (nI_leI hi (by omega)).mp h2; omega, rfl⟩
    · rintro (rfl | ⟨j, hj, rfl⟩)
      · exact ⟨by decide, by decide⟩
      · exact ⟨by
          rw [Int32.le_iff_toInt_le, nI_toInt (by omega)]
          have : m1.toInt = -1 := by decide
          omega, (nI_leI (by omega) (by omega)).mpr (by omega)⟩
  refine ⟨fun x hx => ?_, fun x hx => ⟨M1, ?_, mj, g3⟩⟩
  · obtain ⟨M', a1, a2, a3⟩ := m_refuseOf ok mj hx
    refine ⟨M', ?_, a2, g3.tr a3⟩
    unfold f_X6_refuse
    rw [g1, bind_sm, show (-1 : Int64) = m1.toInt64 from rfl, show (1 : Int64) = (nI 1).toInt64 from rfl, m_in, if_pos ((key x).mpr hx), bind_sm]
    simp (disch := omega) only [li_0, li_1, li_2, li_3, li_4, li_5, li_6, li_7, li_8, li_9, li_10, li_11, li_12, li_14, li_15, li_16, li_18, li_20, li_22, li_23, li_24, li_29, li_30, li_31, li_32, li_33, li_40, li_48, li_54, li_55, li_56, li_57, li_59, li_60, li_63, li_64, li_97, li_98, li_99, li_100, li_103, li_107, li_108, li_112, li_121, li_206, li_212, li_232, li_240, li_255, li_256, li_261, li_270, ng_1, ng_2, ng_3, ng_4, ng_9, ng_10, m1_1, nI_m1, m1_nI, if_true, if_false, nI_add, pk_mul, pk_sub, nI_div, nI_rem, nI_eq, nI_leI, nI_ltI, nI_clamp, ck_in, ck_nz, bind_sm, upM_n, upM_m, upM_s, if_pos, if_neg, a1]
  · unfold f_X6_refuse
    rw [g1, bind_sm, show (-1 : Int64) = m1.toInt64 from rfl, show (1 : Int64) = (nI 1).toInt64 from rfl, m_in, if_neg (fun r => hx ((key x).mp r)), bind_sm]
    simp (disch := omega) only [li_0, li_1, li_2, li_3, li_4, li_5, li_6, li_7, li_8, li_9, li_10, li_11, li_12, li_14, li_15, li_16, li_18, li_20, li_22, li_23, li_24, li_29, li_30, li_31, li_32, li_33, li_40, li_48, li_54, li_55, li_56, li_57, li_59, li_60, li_63, li_64, li_97, li_98, li_99, li_100, li_103, li_107, li_108, li_112, li_121, li_206, li_212, li_232, li_240, li_255, li_256, li_261, li_270, ng_1, ng_2, ng_3, ng_4, ng_9, ng_10, m1_1, nI_m1, m1_nI, if_true, if_false, nI_add, pk_mul, pk_sub, nI_div, nI_rem, nI_eq, nI_leI, nI_ltI, nI_clamp, ck_in, ck_nz, bind_sm, upM_n, upM_m, upM_s, if_pos, if_neg]
