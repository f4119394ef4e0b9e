-- THE REFERENCE's digest
def PM (α : AS) (M0 M : Mem) : Prop := MJ α M ∧ Fr 49 71 M0 M
theorem m_liveJ {α : AS} {M : Mem} (ok : OKA α) (h : MJ α M) : ∃ M', f_X6_lives M = some M' ∧ FI α M' ∧ Fr 49 71 M M' := by
  obtain ⟨M3, b1, b2, b3⟩ := m_lives ok.s h.2 h.1.2.2.1 ok.h Eff_0
  exact ⟨M3, b1, ⟨h.1.fr (fun j _ _ => by rw [b3 49 (by omega)]) (fun k hk => b3 k (by omega)), h.2.fr (b3 49 (by omega)) (b3 56 (by omega)) (b3 57 (by omega)), b2⟩, fun k hk => b3 k (by omega)⟩
theorem m_acc {α : AS} {M : Mem} {a j : Nat} (h : MS (sA α) M) (ha : a < nA (sA α)) (hj : j < 6) : M 56 (6 * a + j) = accV α a j := by
  unfold accV
  by_cases q : j = 0
  · rw [if_pos q, q]; exact h.2.1 a ha
  · rw [if_neg q, show 6 * a + j = 6 * a + 1 + (j - 1) by omega]; exact h.2.2.1 a (j - 1) ha (by omega)
theorem m_tellsD {α : AS} {M : Mem} {d a : Nat} {x : Int64} (ok : OKA α) (h : FI α M) (hd : d < 30) (ha : a < nA (sA α)) : f_X6_tellsDrawer x (nI d) (nI a) M = some (it (drS α d a) 6 x) := by
  have l := mix_loop0 (B := fun s2 : Int64 × Int32 => f_X6_tellsDrawer_6_6b (nI d) (nI a) s2.1 s2.2 M) (n := 6) (h := x) (drS α d a)
    (by
      intro i y hi
      dsimp only
      unfold f_X6_tellsDrawer_6_6b
      simp (disch := omega) only [li_0, li_1, li_2, li_3, li_4, li_5, li_6, li_7, li_8, li_9, li_10, li_11, li_12, li_14, li_15, li_16, li_18, li_20, li_22, li_23, li_24, li_29, li_30, li_31, li_32, li_33, li_40, li_48, li_54, li_55, li_56, li_57, li_59, li_60, li_63, li_64, li_97, li_98, li_99, li_100, li_103, li_107, li_108, li_112, li_121, li_206, li_212, li_232, li_240, li_255, li_256, li_261, li_270, ng_1, ng_2, ng_3, ng_4, ng_9, ng_10, m1_1, nI_m1, m1_nI, if_true, if_false, nI_add, pk_mul, pk_sub, nI_div, nI_rem, nI_eq, nI_leI, nI_ltI, nI_clamp, ck_in, ck_nz, bind_sm, upM_n, upM_m, upM_s, if_pos, if_neg, m_dr_in ok h hd ha hi]
      rfl)
    (by
      intro y
      dsimp only
      unfold f_X6_tellsDrawer_6_6b
      simp (disch := omega) only [li_0, li_1, li_2, li_3, li_4, li_5, li_6, li_7, li_8, li_9, li_10, li_11, li_12, li_14, li_15, li_16, li_18, li_20, li_22, li_23, li_24, li_29, li_30, li_31, li_32, li_33, li_40, li_48, li_54, li_55, li_56, li_57, li_59, li_60, li_63, li_64, li_97, li_98, li_99, li_100, li_103, li_107, li_108, li_112, li_121, li_206, li_212, li_232, li_240, li_255, li_256, li_261, li_270, ng_1, ng_2, ng_3, ng_4, ng_9, ng_10, m1_1, nI_m1, m1_nI, if_true, if_false, nI_add, pk_mul, pk_sub, nI_div, nI_rem, nI_eq, nI_leI, nI_ltI, nI_clamp, ck_in, ck_nz, bind_sm, upM_n, upM_m, upM_s, if_pos, if_neg])
  unfold f_X6_tellsDrawer
  rw [li_0, l, bind_sm]
theorem m_tellsY {α : AS} {M : Mem} {d p : Nat} {x : Int64} (ok : OKA α) (h : FI α M) (hd : d < 30) (hp : p < nP (sA α)) : f_X6_tellsDay x (nI d) (nI p) M = some (it (atS α d p) 8 x) := by
  have l := mix_loop0 (B := fun s2 : Int64 × Int32 => f_X6_tellsDay_6_6b (nI d) (nI p) s2.1 s2.2 M) (n := 8) (h := x) (atS α d p)
    (by
      intro i y hi
      dsimp only
      unfold f_X6_tellsDay_6_6b
      simp (disch := omega) only [li_0, li_1, li_2, li_3, li_4, li_5, li_6, li_7, li_8, li_9, li_10, li_11, li_12, li_14, li_15, li_16, li_18, li_20, li_22, li_23, li_24, li_29, li_30, li_31, li_32, li_33, li_40, li_48, li_54, li_55, li_56, li_57, li_59, li_60, li_63, li_64, li_97, li_98, li_99, li_100, li_103, li_107, li_108, li_112, li_121, li_206, li_212, li_232, li_240, li_255, li_256, li_261, li_270, ng_1, ng_2, ng_3, ng_4, ng_9, ng_10, m1_1, nI_m1, m1_nI, if_true, if_false, nI_add, pk_mul, pk_sub, nI_div, nI_rem, nI_eq, nI_leI, nI_ltI, nI_clamp, ck_in, ck_nz, bind_sm, upM_n, upM_m, upM_s, if_pos, if_neg, m_at_in ok h hd hp hi]
      rfl)
    (by
      intro y
      dsimp only
      unfold f_X6_tellsDay_6_6b
      simp (disch := omega) only [li_0, li_1, li_2, li_3, li_4, li_5, li_6, li_7, li_8, li_9, li_10, li_11, li_12, li_14, li_15, li_16, li_18, li_20, li_22, li_23, li_24, li_29, li_30, li_31, li_32, li_33, li_40, li_48, li_54, li_55, li_56, li_57, li_59, li_60, li_63, li_64, li_97, li_98, li_99, li_100, li_103, li_107, li_108, li_112, li_121, li_206, li_212, li_232, li_240, li_255, li_256, li_261, li_270, ng_1, ng_2, ng_3, ng_4, ng_9, ng_10, m1_1, nI_m1, m1_nI, if_true, if_false, nI_add, pk_mul, pk_sub, nI_div, nI_rem, nI_eq, nI_leI, nI_ltI, nI_clamp, ck_in, ck_nz, bind_sm, upM_n, upM_m, upM_s, if_pos, if_neg])
  unfold f_X6_tellsDay
  rw [li_0, l, bind_sm]
theorem it3 {g : Nat → Int64 → Int64} {h : Int64} : it g 3 h = g 2 (g 1 (g 0 h)) := rfl
theorem it4 {g : Nat → Int64 → Int64} {h : Int64} : it g 4 h = g 3 (g 2 (g 1 (g 0 h))) := rfl
theorem dA0 : dA 0 = 6 := rfl
theorem dA1 : dA 1 = 20 := rfl
theorem dA2 : dA 2 = 29 := rfl
theorem dP0 : dP 0 = 0 := rfl
theorem dP1 : dP 1 = 7 := rfl
theorem dP2 : dP 2 = 15 := rfl
theorem dP3 : dP 3 = 29 := rfl
theorem mixA_eq {α : AS} {a : Nat} {x : Int64} : mixA α a x = it (drS α 29 a) 6 (it (drS α 20 a) 6 (it (drS α 6 a) 6 (it (acS α a) 6 x))) := by
  unfold mixA
  rw [it3]
  simp only [dA0, dA1, dA2]
theorem mixP_eq {α : AS} {p : Nat} {x : Int64} : mixP α p x = it (atS α 29 p) 8 (it (atS α 15 p) 8 (it (atS α 7 p) 8 (it (atS α 0 p) 8 (31 * (31 * x + (perV α p 0).toInt64) + (perV α p 1).toInt64)))) := by
  unfold mixP
  rw [it4]
  simp only [dP0, dP1, dP2, dP3]
theorem per0 {α : AS} {p : Nat} : perV α p 0 = nI (ki (sA α) p) := rfl
theorem per1 {α : AS} {p : Nat} : perV α p 1 = nI (ow (sA α) p) := rfl
theorem m_mixA {α : AS} {M : Mem} {a : Nat} {x : Int64} (ok : OKA α) (h : FI α M) (ha : a < nA (sA α)) : f_X6_digest_63_63b x (nI a) M = some (.inl (mixA α a x, nI (a + 1))) := by
  have oka := ok.s.1.1
  have e := h.2.1.1.1
  have l := mix_loop0 (B := fun s7 : Int64 × Int32 => f_X6_digest_74_74b s7.1 (nI a) s7.2 M) (n := 6) (h := x) (acS α a)
    (by
      intro i y hi
      have e := m_acc h.2.1 ha hi
      dsimp only
      unfold f_X6_digest_74_74b
      simp (disch := omega) only [li_0, li_1, li_2, li_3, li_4, li_5, li_6, li_7, li_8, li_9, li_10, li_11, li_12, li_14, li_15, li_16, li_18, li_20, li_22, li_23, li_24, li_29, li_30, li_31, li_32, li_33, li_40, li_48, li_54, li_55, li_56, li_57, li_59, li_60, li_63, li_64, li_97, li_98, li_99, li_100, li_103, li_107, li_108, li_112, li_121, li_206, li_212, li_232, li_240, li_255, li_256, li_261, li_270, ng_1, ng_2, ng_3, ng_4, ng_9, ng_10, m1_1, nI_m1, m1_nI, if_true, if_false, nI_add, pk_mul, pk_sub, nI_div, nI_rem, nI_eq, nI_leI, nI_ltI, nI_clamp, ck_in, ck_nz, bind_sm, upM_n, upM_m, upM_s, if_pos, if_neg, e]
      rfl)
    (by
      intro y
      dsimp only
      unfold f_X6_digest_74_74b
      simp (disch := omega) only [li_0, li_1, li_2, li_3, li_4, li_5, li_6, li_7, li_8, li_9, li_10, li_11, li_12, li_14, li_15, li_16, li_18, li_20, li_22, li_23, li_24, li_29, li_30, li_31, li_32, li_33, li_40, li_48, li_54, li_55, li_56, li_57, li_59, li_60, li_63, li_64, li_97, li_98, li_99, li_100, li_103, li_107, li_108, li_112, li_121, li_206, li_212, li_232, li_240, li_255, li_256, li_261, li_270, ng_1, ng_2, ng_3, ng_4, ng_9, ng_10, m1_1, nI_m1, m1_nI, if_true, if_false, nI_add, pk_mul, pk_sub, nI_div, nI_rem, nI_eq, nI_leI, nI_ltI, nI_clamp, ck_in, ck_nz, bind_sm, upM_n, upM_m, upM_s, if_pos, if_neg])
  unfold f_X6_digest_63_63b
  simp (disch := omega) only [li_0, li_1, li_2, li_3, li_4, li_5, li_6, li_7, li_8, li_9, li_10, li_11, li_12, li_14, li_15, li_16, li_18, li_20, li_22, li_23, li_24, li_29, li_30, li_31, li_32, li_33, li_40, li_48, li_54, li_55, li_56, li_57, li_59, li_60, li_63, li_64, li_97, li_98, li_99, li_100, li_103, li_107, li_108, li_112, li_121, li_206, li_212, li_232, li_240, li_255, li_256, li_261, li_270, ng_1, ng_2, ng_3, ng_4, ng_9, ng_10, m1_1, nI_m1, m1_nI, if_true, if_false, nI_add, pk_mul, pk_sub, nI_div, nI_rem, nI_eq, nI_leI, nI_ltI, nI_clamp, ck_in, ck_nz, bind_sm, upM_n, upM_m, upM_s, if_pos, if_neg, e, l, m_tellsD ok h (show 6 < 30 by omega) ha, m_tellsD ok h (show 20 < 30 by omega) ha, m_tellsD ok h (show 29 < 30 by omega) ha, mixA_eq]
theorem m_tellsP {α : AS} {M0 M : Mem} {p : Nat} {x : Int64} (ok : OKA α) (h : PM α M0 M) (hp : p < nP (sA α)) : ∃ M', f_X6_tellsPerson x (nI p) M = some (perS α p x, M') ∧ PM α M0 M' := by
  have okp := ok.s.1.2.1
  obtain ⟨M1, a1, b1, f1⟩ := m_liveJ ok h.1
  obtain ⟨M3, a3, b3, f3⟩ := m_dressOf (to := 1) (d := 12) (w := 0) ok b1.j hp (by omega) (by omega) (by omega)
  obtain ⟨M4, a4, b4, f4⟩ := m_dressOf (to := 1) (d := 12) (w := 1) ok b3 hp (by omega) (by omega) (by omega)
  obtain ⟨M5, a5, b5, f5⟩ := m_homeOf ok b4 hp
  obtain ⟨M6, a6, b6, f6, -⟩ := m_whoseOf ok b5 hp
  obtain ⟨M7, a7, b7, f7⟩ := m_sortOf ok b6 hp
  obtain ⟨M8, a8, b8, f8⟩ := m_askOf ok b7 hp
  obtain ⟨M9, a9, b9, f9⟩ := m_customOf (x := 5) (w := 0) ok b8 (by omega) hp (by omega)
  obtain ⟨M10, a10, b10, f10⟩ := m_customOf (x := 5) (w := 1) ok b9 (by omega) hp (by omega)
  refine ⟨M10, ?_, b10, (((((((((h.2.tr f1).tr f3).tr f4).tr f5).tr f6).tr f7).tr f8).tr f9).tr f10)⟩
  have c0 := b1.2.1.2.2.2.1 p hp
  have c1 := b1.2.1.2.2.2.2 p hp
  have c2 := b1.2.2.2.2 p hp
  unfold f_X6_tellsPerson
  simp (disch := omega) only [li_0, li_1, li_2, li_3, li_4, li_5, li_6, li_7, li_8, li_9, li_10, li_11, li_12, li_14, li_15, li_16, li_18, li_20, li_22, li_23, li_24, li_29, li_30, li_31, li_32, li_33, li_40, li_48, li_54, li_55, li_56, li_57, li_59, li_60, li_63, li_64, li_97, li_98, li_99, li_100, li_103, li_107, li_108, li_112, li_121, li_206, li_212, li_232, li_240, li_255, li_256, li_261, li_270, ng_1, ng_2, ng_3, ng_4, ng_9, ng_10, m1_1, nI_m1, m1_nI, if_true, if_false, nI_add, pk_mul, pk_sub, nI_div, nI_rem, nI_eq, nI_leI, nI_ltI, nI_clamp, ck_in, ck_nz, bind_sm, upM_n, upM_m, upM_s, if_pos, if_neg, a1, c0, c1, m_tellsY ok b1 (show 0 < 30 by omega) hp, m_tellsY ok b1 (show 7 < 30 by omega) hp, m_tellsY ok b1 (show 15 < 30 by omega) hp, m_tellsY ok b1 (show 29 < 30 by omega) hp, c2, a3, a4, a5, a6, a7, a8, a9, a10]
  unfold perS
  rw [mixP_eq, per0, per1]
theorem m_digest {α : AS} {M : Mem} (ok : OKA α) (h : MI α M) : ∃ M', f_X6_digest M = some (digV α, M') ∧ MI α M' ∧ Fr 49 71 M M' := by
  have okp := ok.s.1.2.1
  have oka := ok.s.1.1
  obtain ⟨M1, l1, p1⟩ := mix_loop (B := fun s2 : Int64 × Int32 × Mem => f_X6_digest_6_6b s2.1 s2.2.1 s2.2.2) (n := 8) (P := fun N => MI α N ∧ Fr 49 71 M N) (h := 17) (M := M) (cnS α)
    (by
      intro i z L hi hL
      obtain ⟨L', b1, b2, b3⟩ := m_count_in (w := i) ok hL.1 (by omega)
      refine ⟨L', ?_, b2.1, hL.2.tr b3⟩
      dsimp only
      unfold f_X6_digest_6_6b
      simp (disch := omega) only [li_0, li_1, li_2, li_3, li_4, li_5, li_6, li_7, li_8, li_9, li_10, li_11, li_12, li_14, li_15, li_16, li_18, li_20, li_22, li_23, li_24, li_29, li_30, li_31, li_32, li_33, li_40, li_48, li_54, li_55, li_56, li_57, li_59, li_60, li_63, li_64, li_97, li_98, li_99, li_100, li_103, li_107, li_108, li_112, li_121, li_206, li_212, li_232, li_240, li_255, li_256, li_261, li_270, ng_1, ng_2, ng_3, ng_4, ng_9, ng_10, m1_1, nI_m1, m1_nI, if_true, if_false, nI_add, pk_mul, pk_sub, nI_div, nI_rem, nI_eq, nI_leI, nI_ltI, nI_clamp, ck_in, ck_nz, bind_sm, upM_n, upM_m, upM_s, if_pos, if_neg, b1]
      rfl)
    (by
      intro z L hL
      dsimp only
      unfold f_X6_digest_6_6b
      simp (disch := omega) only [li_0, li_1, li_2, li_3, li_4, li_5, li_6, li_7, li_8, li_9, li_10, li_11, li_12, li_14, li_15, li_16, li_18, li_20, li_22, li_23, li_24, li_29, li_30, li_31, li_32, li_33, li_40, li_48, li_54, li_55, li_56, li_57, li_59, li_60, li_63, li_64, li_97, li_98, li_99, li_100, li_103, li_107, li_108, li_112, li_121, li_206, li_212, li_232, li_240, li_255, li_256, li_261, li_270, ng_1, ng_2, ng_3, ng_4, ng_9, ng_10, m1_1, nI_m1, m1_nI, if_true, if_false, nI_add, pk_mul, pk_sub, nI_div, nI_rem, nI_eq, nI_leI, nI_ltI, nI_clamp, ck_in, ck_nz, bind_sm, upM_n, upM_m, upM_s, if_pos, if_neg])
    ⟨h, Fr.rf⟩
  obtain ⟨N1, N2, n1, n2, n3, n4, n5, n6, n7, -⟩ := m_reads ok p1.1
  have r0 : f_X6_readsText (nI 0) M1 = some (fauV α 0, N1) := by
    unfold f_X6_readsText
    simp (disch := omega) only [li_0, li_1, li_2, li_3, li_4, li_5, li_6, li_7, li_8, li_9, li_10, li_11, li_12, li_14, li_15, li_16, li_18, li_20, li_22, li_23, li_24, li_29, li_30, li_31, li_32, li_33, li_40, li_48, li_54, li_55, li_56, li_57, li_59, li_60, li_63, li_64, li_97, li_98, li_99, li_100, li_103, li_107, li_108, li_112, li_121, li_206, li_212, li_232, li_240, li_255, li_256, li_261, li_270, ng_1, ng_2, ng_3, ng_4, ng_9, ng_10, m1_1, nI_m1, m1_nI, if_true, if_false, nI_add, pk_mul, pk_sub, nI_div, nI_rem, nI_eq, nI_leI, nI_ltI, nI_clamp, ck_in, ck_nz, bind_sm, upM_n, upM_m, upM_s, if_pos, if_neg, n1]
    rfl
  have r1 : f_X6_readsText (nI 1) N1 = some (fauV α 1, N2) := by
    unfold f_X6_readsText
    simp (disch := omega) only [li_0, li_1, li_2, li_3, li_4, li_5, li_6, li_7, li_8, li_9, li_10, li_11, li_12, li_14, li_15, li_16, li_18, li_20, li_22, li_23, li_24, li_29, li_30, li_31, li_32, li_33, li_40, li_48, li_54, li_55, li_56, li_57, li_59, li_60, li_63, li_64, li_97, li_98, li_99, li_100, li_103, li_107, li_108, li_112, li_121, li_206, li_212, li_232, li_240, li_255, li_256, li_261, li_270, ng_1, ng_2, ng_3, ng_4, ng_9, ng_10, m1_1, nI_m1, m1_nI, if_true, if_false, nI_add, pk_mul, pk_sub, nI_div, nI_rem, nI_eq, nI_leI, nI_ltI, nI_clamp, ck_in, ck_nz, bind_sm, upM_n, upM_m, upM_s, if_pos, if_neg, n2]
    rfl
  obtain ⟨M2, a2, b2, f2⟩ := m_liveJ ok (⟨n4, n5⟩ : MJ α N2)
  have F2 : Fr 49 71 M M2 := fun k hk => by rw [f2 k hk, n7 k (by omega), p1.2 k hk]
  have l3 := mix_loop0 (B := fun s12 : Int64 × Int32 => f_X6_digest_63_63b s12.1 s12.2 M2) (n := nA (sA α)) (h := it (faS α) 2 (it (cnS α) 8 17)) (mixA α)
    (by
      intro i y hi
      exact m_mixA ok b2 hi)
    (by
      intro y
      have e := b2.2.1.1.1
      dsimp only
      unfold f_X6_digest_63_63b
      simp (disch := omega) only [li_0, li_1, li_2, li_3, li_4, li_5, li_6, li_7, li_8, li_9, li_10, li_11, li_12, li_14, li_15, li_16, li_18, li_20, li_22, li_23, li_24, li_29, li_30, li_31, li_32, li_33, li_40, li_48, li_54, li_55, li_56, li_57, li_59, li_60, li_63, li_64, li_97, li_98, li_99, li_100, li_103, li_107, li_108, li_112, li_121, li_206, li_212, li_232, li_240, li_255, li_256, li_261, li_270, ng_1, ng_2, ng_3, ng_4, ng_9, ng_10, m1_1, nI_m1, m1_nI, if_true, if_false, nI_add, pk_mul, pk_sub, nI_div, nI_rem, nI_eq, nI_leI, nI_ltI, nI_clamp, ck_in, ck_nz, bind_sm, upM_n, upM_m, upM_s, if_pos, if_neg, e])
  obtain ⟨M4, l4, p4⟩ := mix_loop (B := fun s15 : Int64 × Int32 × Mem => f_X6_digest_138_138b s15.1 s15.2.1 s15.2.2) (n := nP (sA α)) (P := PM α M) (h := it (mixA α) (nA (sA α)) (it (faS α) 2 (it (cnS α) 8 17))) (M := M2) (perS α)
    (by
      intro i z L hi hL
      obtain ⟨L', b1, b2⟩ := m_tellsP (x := z) ok hL hi
      refine ⟨L', ?_, b2⟩
      have e := hL.1.2.1.2
      dsimp only
      unfold f_X6_digest_138_138b
      simp (disch := omega) only [li_0, li_1, li_2, li_3, li_4, li_5, li_6, li_7, li_8, li_9, li_10, li_11, li_12, li_14, li_15, li_16, li_18, li_20, li_22, li_23, li_24, li_29, li_30, li_31, li_32, li_33, li_40, li_48, li_54, li_55, li_56, li_57, li_59, li_60, li_63, li_64, li_97, li_98, li_99, li_100, li_103, li_107, li_108, li_112, li_121, li_206, li_212, li_232, li_240, li_255, li_256, li_261, li_270, ng_1, ng_2, ng_3, ng_4, ng_9, ng_10, m1_1, nI_m1, m1_nI, if_true, if_false, nI_add, pk_mul, pk_sub, nI_div, nI_rem, nI_eq, nI_leI, nI_ltI, nI_clamp, ck_in, ck_nz, bind_sm, upM_n, upM_m, upM_s, if_pos, if_neg, e, b1])
    (by
      intro z L hL
      have e := hL.1.2.1.2
      dsimp only
      unfold f_X6_digest_138_138b
      simp (disch := omega) only [li_0, li_1, li_2, li_3, li_4, li_5, li_6, li_7, li_8, li_9, li_10, li_11, li_12, li_14, li_15, li_16, li_18, li_20, li_22, li_23, li_24, li_29, li_30, li_31, li_32, li_33, li_40, li_48, li_54, li_55, li_56, li_57, li_59, li_60, li_63, li_64, li_97, li_98, li_99, li_100, li_103, li_107, li_108, li_112, li_121, li_206, li_212, li_232, li_240, li_255, li_256, li_261, li_270, ng_1, ng_2, ng_3, ng_4, ng_9, ng_10, m1_1, nI_m1, m1_nI, if_true, if_false, nI_add, pk_mul, pk_sub, nI_div, nI_rem, nI_eq, nI_leI, nI_ltI, nI_clamp, ck_in, ck_nz, bind_sm, upM_n, upM_m, upM_s, if_pos, if_neg, e])
    ⟨b2.j, F2⟩
  obtain ⟨M5, a5, b5, f5⟩ := m_liveJ ok p4.1
  have e5 := m_astrayNow ok.s b5.2.1 b5.2.2
  have e6 := m_crowd ok b5
  obtain ⟨M7, l7, p7⟩ := mix_loop (B := fun s21 : Int64 × Int32 × Mem => f_X6_digest_189_189b s21.1 s21.2.1 s21.2.2) (n := 3) (P := PM α M) (h := 31 * (31 * it (perS α) (nP (sA α)) (it (mixA α) (nA (sA α)) (it (faS α) 2 (it (cnS α) 8 17))) + (nI (abits (sA α))).toInt64) + (oi (crowdV (sA α))).toInt64) (M := M5) (trS α)
    (by
      intro i z L hi hL
      obtain ⟨L', b1, b2, b3⟩ := m_trayBy (w := i) ok hL.1 hi
      refine ⟨L', ?_, b2, hL.2.tr b3⟩
      dsimp only
      unfold f_X6_digest_189_189b
      simp (disch := omega) only [li_0, li_1, li_2, li_3, li_4, li_5, li_6, li_7, li_8, li_9, li_10, li_11, li_12, li_14, li_15, li_16, li_18, li_20, li_22, li_23, li_24, li_29, li_30, li_31, li_32, li_33, li_40, li_48, li_54, li_55, li_56, li_57, li_59, li_60, li_63, li_64, li_97, li_98, li_99, li_100, li_103, li_107, li_108, li_112, li_121, li_206, li_212, li_232, li_240, li_255, li_256, li_261, li_270, ng_1, ng_2, ng_3, ng_4, ng_9, ng_10, m1_1, nI_m1, m1_nI, if_true, if_false, nI_add, pk_mul, pk_sub, nI_div, nI_rem, nI_eq, nI_leI, nI_ltI, nI_clamp, ck_in, ck_nz, bind_sm, upM_n, upM_m, upM_s, if_pos, if_neg, b1]
      rfl)
    (by
      intro z L hL
      dsimp only
      unfold f_X6_digest_189_189b
      simp (disch := omega) only [li_0, li_1, li_2, li_3, li_4, li_5, li_6, li_7, li_8, li_9, li_10, li_11, li_12, li_14, li_15, li_16, li_18, li_20, li_22, li_23, li_24, li_29, li_30, li_31, li_32, li_33, li_40, li_48, li_54, li_55, li_56, li_57, li_59, li_60, li_63, li_64, li_97, li_98, li_99, li_100, li_103, li_107, li_108, li_112, li_121, li_206, li_212, li_232, li_240, li_255, li_256, li_261, li_270, ng_1, ng_2, ng_3, ng_4, ng_9, ng_10, m1_1, nI_m1, m1_nI, if_true, if_false, nI_add, pk_mul, pk_sub, nI_div, nI_rem, nI_eq, nI_leI, nI_ltI, nI_clamp, ck_in, ck_nz, bind_sm, upM_n, upM_m, upM_s, if_pos, if_neg])
    ⟨b5.j, p4.2.tr f5⟩
  obtain ⟨M8, a8, b8, f8⟩ := m_refuseOf (x := m1) ok p7.1 (Or.inl rfl)
  obtain ⟨M9, a9, b9, f9⟩ := m_refuseOf (x := nI 0) ok b8 (Or.inr ⟨0, by omega, rfl⟩)
  obtain ⟨M10, a10, b10, f10⟩ := m_neverNow ok b9
  obtain ⟨M11, a11, b11, f11⟩ := m_yearOf (s := nI 7) (n := 6) (w := 0) ok b10 (by omega) (by omega)
  obtain ⟨M12, a12, b12, f12⟩ := m_yearOf (s := nI 7) (n := 6) (w := 1) ok b11 (by omega) (by omega)
  refine ⟨M12, ?_, b12.1, ((((p7.2.tr f8).tr f9).tr f10).tr f11).tr f12⟩
  have l3' : loop (fun s12 : Int64 × Int32 => f_X6_digest_63_63b s12.1 s12.2 M2) (31 * (31 * it (cnS α) 8 17 + (fauV α 0).toInt64) + (fauV α 1).toInt64, nI 0) = some (it (mixA α) (nA (sA α)) (it (faS α) 2 (it (cnS α) 8 17)), nI (nA (sA α))) := l3
  unfold f_X6_digest
  simp only [li_0, li_1, li_6, li_7, ng_1, l1, r0, r1, a2, l3', l4, a5, e5, e6, l7, a8, a9, a10, a11, a12, bind_sm]
  rfl
theorem s_digest {α : AS} (ok : OKA α) : St α f_X5_digest f_X6_digest := St.same ok (digV α) (fun _ h => c_digest ok h) (fun _ h => m_digest ok h)
