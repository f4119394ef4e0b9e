-- THE CALLS: digest
def it (g : Nat → Int64 → Int64) : Nat → Int64 → Int64
  | 0, h => h
  | n + 1, h => g n (it g n h)
theorem mix_loop {B : Int64 × Int32 × Mem → Option ((Int64 × Int32 × Mem) ⊕ (Int64 × Int32 × Mem))} {n : Nat} {P : Mem → Prop} (g : Nat → Int64 → Int64) (hs : ∀ i h M, i < n → P M → ∃ M', B (h, nI i, M) = some (.inl (g i h, nI (i + 1), M')) ∧ P M') (he : ∀ h M, P M → B (h, nI n, M) = some (.inr (h, nI n, M))) {h : Int64} {M : Mem} (hP : P M) : ∃ M', loop B (h, nI 0, M) = some (it g n h, nI n, M') ∧ P M' := by
  obtain ⟨e, l1, l2, l3⟩ := loop_inv (B := B) (fun i st => st.1 = it g i h ∧ st.2.1 = nI i ∧ P st.2.2) (fun e => e = (it g n h, nI n, e.2.2) ∧ P e.2.2) n (s := (h, nI 0, M)) ⟨rfl, rfl, hP⟩
    (by
      rintro i ⟨y1, y2, N⟩ hi ⟨g1, g2, g3⟩
      dsimp only at g1 g2 g3 ⊢
      subst g1 g2
      obtain ⟨M', b1, b2⟩ := hs i (it g i h) N hi g3
      exact ⟨_, b1, rfl, rfl, b2⟩)
    (by
      rintro ⟨y1, y2, N⟩ ⟨g1, g2, g3⟩
      dsimp only at g1 g2 g3 ⊢
      subst g1 g2
      exact ⟨_, he _ _ g3, rfl, g3⟩)
  exact ⟨e.2.2, by rw [l1, ← l2], l3⟩
theorem mix_loop0 {B : Int64 × Int32 → Option ((Int64 × Int32) ⊕ (Int64 × Int32))} {n : Nat} (g : Nat → Int64 → Int64) (hs : ∀ i h, i < n → B (h, nI i) = some (.inl (g i h, nI (i + 1)))) (he : ∀ h, B (h, nI n) = some (.inr (h, nI n))) {h : Int64} : loop B (h, nI 0) = some (it g n h, nI n) :=
  loop_for (B := B) (fun i => (it g i h, nI i)) n (fun i hi => hs i _ hi) (he _)
noncomputable def cnS (α : AS) (i : Nat) (h : Int64) : Int64 := 31 * h + (countV α i).toInt64
def fauV (α : AS) (j : Nat) : Int32 := if j = 0 then oi (FV 71 5 57 α.1.1 α.1.2) else oi (FV 72 1 55 α.2.1.1 α.2.1.2)
def faS (α : AS) (i : Nat) (h : Int64) : Int64 := 31 * h + (fauV α i).toInt64
def acS (α : AS) (a i : Nat) (h : Int64) : Int64 := 31 * h + (accV α a i).toInt64
def drS (α : AS) (d a i : Nat) (h : Int64) : Int64 := 31 * h + (drV (sA α) d a i).toInt64
def atS (α : AS) (d p i : Nat) (h : Int64) : Int64 := 31 * h + (atV (sA α) d p i).toInt64
def dA : Nat → Nat
  | 0 => 6
  | 1 => 20
  | _ => 29
def dP : Nat → Nat
  | 0 => 0
  | 1 => 7
  | 2 => 15
  | _ => 29
def mixA (α : AS) (a : Nat) (h : Int64) : Int64 := it (fun i => it (drS α (dA i) a) 6) 3 (it (acS α a) 6 h)
def mixP (α : AS) (p : Nat) (h : Int64) : Int64 := it (fun i => it (atS α (dP i) p) 8) 4 (31 * (31 * h + (perV α p 0).toInt64) + (perV α p 1).toInt64)
noncomputable def perS (α : AS) (p : Nat) (h : Int64) : Int64 := 31 * (31 * (31 * (31 * (31 * (31 * (31 * (31 * (31 * mixP α p h + (oi (bec (sA α) p 30)).toInt64) + (dressV α p 1 12 0).toInt64) + (dressV α p 1 12 1).toInt64) + (oi (homeV α p)).toInt64) + (nI (whoseV α p)).toInt64) + (nI (sortV α p)).toInt64) + (oi (askV α p)).toInt64) + customV α 5 p 0) + customV α 5 p 1
noncomputable def trS (α : AS) (i : Nat) (h : Int64) : Int64 := 31 * h + (trayV α i).toInt64
noncomputable def digV (α : AS) : Int64 := 31 * (31 * (31 * (31 * (31 * it (trS α) 3 (31 * (31 * it (perS α) (nP (sA α)) (it (mixA α) (nA (sA α)) (it (faS α) 2 (it (cnS α) 8 17))) + (nI (abits (sA α))).toInt64) + (oi (crowdV (sA α))).toInt64) + (refV α m1).toInt64) + (refV α (nI 0)).toInt64) + (nI (neverV α)).toInt64) + (yearV α (nI 7) 6 0).toInt64) + (yearV α (nI 7) 6 1).toInt64
theorem Fr.tr' {lo hi : Nat} {M M1 M2 : Mem} (h1 : Fr lo hi M M1) (h2 : Fr lo hi M1 M2) : Fr lo hi M M2 := h1.tr h2
/-- the class as it was, after whatever it asked itself -/
def PC (α : AS) (M0 M : Mem) : Prop := CI α M ∧ Fr 0 49 M0 M
theorem PC.go {α : AS} {M0 M N : Mem} (h : PC α M0 M) (h1 : CI α N) (h2 : Fr 0 49 M N) : PC α M0 N := ⟨h1, h.2.tr h2⟩
theorem c_fau {α : AS} {M : Mem} {j : Nat} (ok : OKA α) (h : CI α M) (hj : j < 2) : f_X5_fault (nI j) M = some (fauV α j) := by
  rcases two_cases hj with rfl | rfl
  · have cf := c_fault (t := 1) (sid := 71) (L := 55) (Or.inl ⟨rfl, rfl, rfl, rfl, rfl⟩) h.1.1 ok.1.1 ok.1.2
    unfold f_X5_fault f_X5_textOf
    simp (disch := omega) only [li_0, li_1, li_2, li_3, li_4, li_5, li_6, li_7, li_8, li_9, li_10, li_11, li_12, li_14, li_15, li_16, li_18, li_20, li_22, li_23, li_24, li_29, li_30, li_31, li_32, li_33, li_40, li_48, li_54, li_55, li_56, li_57, li_59, li_60, li_63, li_64, li_97, li_98, li_99, li_100, li_103, li_107, li_108, li_112, li_121, li_206, li_212, li_232, li_240, li_255, li_256, li_261, li_270, ng_1, ng_2, ng_3, ng_4, ng_9, ng_10, m1_1, nI_m1, m1_nI, if_true, if_false, nI_add, pk_mul, pk_sub, nI_div, nI_rem, nI_eq, nI_leI, nI_ltI, nI_clamp, ck_in, ck_nz, bind_sm, upM_n, upM_m, upM_s, if_pos, if_neg, below_in, cf]
    rfl
  · have cf := c_fault (t := 3) (sid := 72) (L := 23) (Or.inr ⟨rfl, rfl, rfl, rfl, rfl⟩) h.1.2 ok.2.1.1 ok.2.1.2
    unfold f_X5_fault f_X5_textOf
    simp (disch := omega) only [li_0, li_1, li_2, li_3, li_4, li_5, li_6, li_7, li_8, li_9, li_10, li_11, li_12, li_14, li_15, li_16, li_18, li_20, li_22, li_23, li_24, li_29, li_30, li_31, li_32, li_33, li_40, li_48, li_54, li_55, li_56, li_57, li_59, li_60, li_63, li_64, li_97, li_98, li_99, li_100, li_103, li_107, li_108, li_112, li_121, li_206, li_212, li_232, li_240, li_255, li_256, li_261, li_270, ng_1, ng_2, ng_3, ng_4, ng_9, ng_10, m1_1, nI_m1, m1_nI, if_true, if_false, nI_add, pk_mul, pk_sub, nI_div, nI_rem, nI_eq, nI_leI, nI_ltI, nI_clamp, ck_in, ck_nz, bind_sm, upM_n, upM_m, upM_s, if_pos, if_neg, below_in, cf]
    rfl
theorem ro73 {i : Nat} (h : i < 3) : roF 73 i = nI (dA i) := by
  rcases (show i = 0 ∨ i = 1 ∨ i = 2 by omega) with rfl | rfl | rfl <;> rfl
theorem ro74 {i : Nat} (h : i < 4) : roF 74 i = nI (dP i) := by
  rcases (show i = 0 ∨ i = 1 ∨ i = 2 ∨ i = 3 by omega) with rfl | rfl | rfl | rfl <;> rfl
theorem dA_lt {i : Nat} : dA i < 30 := by
  unfold dA
  split <;> omega
theorem dP_lt {i : Nat} : dP i < 30 := by
  unfold dP
  split <;> omega
theorem c_mixA {α : AS} {M0 M : Mem} {a : Nat} {x : Int64} (ok : OKA α) (h : PC α M0 M) (ha : a < nA (sA α)) : ∃ M', f_X5_mixAccent x (nI a) M = some (mixA α a x, M') ∧ PC α M0 M' := by
  have l1 := mix_loop0 (B := fun s2 : Int64 × Int32 => f_X5_mixAccent_6_6b (nI a) s2.1 s2.2 M) (n := 6) (h := x) (acS α a)
    (by
      intro i y hi
      dsimp only
      unfold f_X5_mixAccent_6_6b
      simp (disch := omega) only [li_0, li_1, li_2, li_3, li_4, li_5, li_6, li_7, li_8, li_9, li_10, li_11, li_12, li_14, li_15, li_16, li_18, li_20, li_22, li_23, li_24, li_29, li_30, li_31, li_32, li_33, li_40, li_48, li_54, li_55, li_56, li_57, li_59, li_60, li_63, li_64, li_97, li_98, li_99, li_100, li_103, li_107, li_108, li_112, li_121, li_206, li_212, li_232, li_240, li_255, li_256, li_261, li_270, ng_1, ng_2, ng_3, ng_4, ng_9, ng_10, m1_1, nI_m1, m1_nI, if_true, if_false, nI_add, pk_mul, pk_sub, nI_div, nI_rem, nI_eq, nI_leI, nI_ltI, nI_clamp, ck_in, ck_nz, bind_sm, upM_n, upM_m, upM_s, if_pos, if_neg, c_acc_in ok h.1 ha hi]
      rfl)
    (by
      intro y
      dsimp only
      unfold f_X5_mixAccent_6_6b
      simp (disch := omega) only [li_0, li_1, li_2, li_3, li_4, li_5, li_6, li_7, li_8, li_9, li_10, li_11, li_12, li_14, li_15, li_16, li_18, li_20, li_22, li_23, li_24, li_29, li_30, li_31, li_32, li_33, li_40, li_48, li_54, li_55, li_56, li_57, li_59, li_60, li_63, li_64, li_97, li_98, li_99, li_100, li_103, li_107, li_108, li_112, li_121, li_206, li_212, li_232, li_240, li_255, li_256, li_261, li_270, ng_1, ng_2, ng_3, ng_4, ng_9, ng_10, m1_1, nI_m1, m1_nI, if_true, if_false, nI_add, pk_mul, pk_sub, nI_div, nI_rem, nI_eq, nI_leI, nI_ltI, nI_clamp, ck_in, ck_nz, bind_sm, upM_n, upM_m, upM_s, if_pos, if_neg])
  have inn : ∀ d, d < 30 → ∀ (y : Int64) (N : Mem) (x7 x8 : Int32), PC α M0 N → ∃ M', loop (fun s5 : Int64 × Int32 × Mem => f_X5_mixAccent_65_65b (nI a) s5.1 x7 x8 (nI d) s5.2.1 s5.2.2) (y, nI 0, N) = some (it (drS α d a) 6 y, nI 6, M') ∧ PC α M0 M' := by
    intro d hd y N x7 x8 hN
    refine mix_loop (n := 6) (drS α d a) (fun i z L hi hL => ?_) (fun z L hL => ?_) hN
    · obtain ⟨L', b1, b2, b3⟩ := c_dr_in ok hL.1 hd ha hi
      refine ⟨L', ?_, hL.go b2 b3⟩
      dsimp only
      unfold f_X5_mixAccent_65_65b
      simp (disch := omega) only [li_0, li_1, li_2, li_3, li_4, li_5, li_6, li_7, li_8, li_9, li_10, li_11, li_12, li_14, li_15, li_16, li_18, li_20, li_22, li_23, li_24, li_29, li_30, li_31, li_32, li_33, li_40, li_48, li_54, li_55, li_56, li_57, li_59, li_60, li_63, li_64, li_97, li_98, li_99, li_100, li_103, li_107, li_108, li_112, li_121, li_206, li_212, li_232, li_240, li_255, li_256, li_261, li_270, ng_1, ng_2, ng_3, ng_4, ng_9, ng_10, m1_1, nI_m1, m1_nI, if_true, if_false, nI_add, pk_mul, pk_sub, nI_div, nI_rem, nI_eq, nI_leI, nI_ltI, nI_clamp, ck_in, ck_nz, bind_sm, upM_n, upM_m, upM_s, if_pos, if_neg, b1]
      rfl
    · dsimp only
      unfold f_X5_mixAccent_65_65b
      simp (disch := omega) only [li_0, li_1, li_2, li_3, li_4, li_5, li_6, li_7, li_8, li_9, li_10, li_11, li_12, li_14, li_15, li_16, li_18, li_20, li_22, li_23, li_24, li_29, li_30, li_31, li_32, li_33, li_40, li_48, li_54, li_55, li_56, li_57, li_59, li_60, li_63, li_64, li_97, li_98, li_99, li_100, li_103, li_107, li_108, li_112, li_121, li_206, li_212, li_232, li_240, li_255, li_256, li_261, li_270, ng_1, ng_2, ng_3, ng_4, ng_9, ng_10, m1_1, nI_m1, m1_nI, if_true, if_false, nI_add, pk_mul, pk_sub, nI_div, nI_rem, nI_eq, nI_leI, nI_ltI, nI_clamp, ck_in, ck_nz, bind_sm, upM_n, upM_m, upM_s, if_pos, if_neg]
  obtain ⟨M', l2, l3⟩ := mix_loop (B := fun s7 : Int64 × Int32 × Mem => f_X5_mixAccent_48_48b (nI a) s7.1 (nI 3) s7.2.1 s7.2.2) (n := 3) (P := PC α M0) (h := it (acS α a) 6 x) (M := M) (fun i => it (drS α (dA i) a) 6)
    (by
      intro i z L hi hL
      obtain ⟨L', b1, b2⟩ := inn (dA i) dA_lt z L (nI 3) (nI i) hL
      refine ⟨L', ?_, b2⟩
      dsimp only
      unfold f_X5_mixAccent_48_48b
      simp (disch := omega) only [li_0, li_1, li_2, li_3, li_4, li_5, li_6, li_7, li_8, li_9, li_10, li_11, li_12, li_14, li_15, li_16, li_18, li_20, li_22, li_23, li_24, li_29, li_30, li_31, li_32, li_33, li_40, li_48, li_54, li_55, li_56, li_57, li_59, li_60, li_63, li_64, li_97, li_98, li_99, li_100, li_103, li_107, li_108, li_112, li_121, li_206, li_212, li_232, li_240, li_255, li_256, li_261, li_270, ng_1, ng_2, ng_3, ng_4, ng_9, ng_10, m1_1, nI_m1, m1_nI, if_true, if_false, nI_add, pk_mul, pk_sub, nI_div, nI_rem, nI_eq, nI_leI, nI_ltI, nI_clamp, ck_in, ck_nz, bind_sm, upM_n, upM_m, upM_s, if_pos, if_neg, ro73, b1])
    (by
      intro z L hL
      dsimp only
      unfold f_X5_mixAccent_48_48b
      simp (disch := omega) only [li_0, li_1, li_2, li_3, li_4, li_5, li_6, li_7, li_8, li_9, li_10, li_11, li_12, li_14, li_15, li_16, li_18, li_20, li_22, li_23, li_24, li_29, li_30, li_31, li_32, li_33, li_40, li_48, li_54, li_55, li_56, li_57, li_59, li_60, li_63, li_64, li_97, li_98, li_99, li_100, li_103, li_107, li_108, li_112, li_121, li_206, li_212, li_232, li_240, li_255, li_256, li_261, li_270, ng_1, ng_2, ng_3, ng_4, ng_9, ng_10, m1_1, nI_m1, m1_nI, if_true, if_false, nI_add, pk_mul, pk_sub, nI_div, nI_rem, nI_eq, nI_leI, nI_ltI, nI_clamp, ck_in, ck_nz, bind_sm, upM_n, upM_m, upM_s, if_pos, if_neg])
    h
  refine ⟨M', ?_, l3⟩
  unfold f_X5_mixAccent
  simp only [li_0, li_3, l1, l2, bind_sm]
  rfl
theorem c_mixP {α : AS} {M0 M : Mem} {p : Nat} {x : Int64} (ok : OKA α) (h : PC α M0 M) (hp : p < nP (sA α)) : ∃ M', f_X5_mixSpeech x (nI p) M = some (mixP α p x, M') ∧ PC α M0 M' := by
  have inn : ∀ d, d < 30 → ∀ (y : Int64) (N : Mem) (x7 x8 : Int32), PC α M0 N → ∃ M', loop (fun s4 : Int64 × Int32 × Mem => f_X5_mixSpeech_65_65b (nI p) s4.1 x7 x8 (nI d) s4.2.1 s4.2.2) (y, nI 0, N) = some (it (atS α d p) 8 y, nI 8, M') ∧ PC α M0 M' := by
    intro d hd y N x7 x8 hN
    refine mix_loop (n := 8) (atS α d p) (fun i z L hi hL => ?_) (fun z L hL => ?_) hN
    · obtain ⟨L', b1, b2, b3⟩ := c_at_in ok hL.1 hd hp hi
      refine ⟨L', ?_, hL.go b2 b3⟩
      dsimp only
      unfold f_X5_mixSpeech_65_65b
      simp (disch := omega) only [li_0, li_1, li_2, li_3, li_4, li_5, li_6, li_7, li_8, li_9, li_10, li_11, li_12, li_14, li_15, li_16, li_18, li_20, li_22, li_23, li_24, li_29, li_30, li_31, li_32, li_33, li_40, li_48, li_54, li_55, li_56, li_57, li_59, li_60, li_63, li_64, li_97, li_98, li_99, li_100, li_103, li_107, li_108, li_112, li_121, li_206, li_212, li_232, li_240, li_255, li_256, li_261, li_270, ng_1, ng_2, ng_3, ng_4, ng_9, ng_10, m1_1, nI_m1, m1_nI, if_true, if_false, nI_add, pk_mul, pk_sub, nI_div, nI_rem, nI_eq, nI_leI, nI_ltI, nI_clamp, ck_in, ck_nz, bind_sm, upM_n, upM_m, upM_s, if_pos, if_neg, b1]
      rfl
    · dsimp only
      unfold f_X5_mixSpeech_65_65b
      simp (disch := omega) only [li_0, li_1, li_2, li_3, li_4, li_5, li_6, li_7, li_8, li_9, li_10, li_11, li_12, li_14, li_15, li_16, li_18, li_20, li_22, li_23, li_24, li_29, li_30, li_31, li_32, li_33, li_40, li_48, li_54, li_55, li_56, li_57, li_59, li_60, li_63, li_64, li_97, li_98, li_99, li_100, li_103, li_107, li_108, li_112, li_121, li_206, li_212, li_232, li_240, li_255, li_256, li_261, li_270, ng_1, ng_2, ng_3, ng_4, ng_9, ng_10, m1_1, nI_m1, m1_nI, if_true, if_false, nI_add, pk_mul, pk_sub, nI_div, nI_rem, nI_eq, nI_leI, nI_ltI, nI_clamp, ck_in, ck_nz, bind_sm, upM_n, upM_m, upM_s, if_pos, if_neg]
  obtain ⟨M', l2, l3⟩ := mix_loop (B := fun s6 : Int64 × Int32 × Mem => f_X5_mixSpeech_48_48b (nI p) s6.1 (nI 4) s6.2.1 s6.2.2) (n := 4) (P := PC α M0) (h := 31 * (31 * x + (perV α p 0).toInt64) + (perV α p 1).toInt64) (M := M) (fun i => it (atS α (dP i) p) 8)
    (by
      intro i z L hi hL
      obtain ⟨L', b1, b2⟩ := inn (dP i) dP_lt z L (nI 4) (nI i) hL
      refine ⟨L', ?_, b2⟩
      dsimp only
      unfold f_X5_mixSpeech_48_48b
      simp (disch := omega) only [li_0, li_1, li_2, li_3, li_4, li_5, li_6, li_7, li_8, li_9, li_10, li_11, li_12, li_14, li_15, li_16, li_18, li_20, li_22, li_23, li_24, li_29, li_30, li_31, li_32, li_33, li_40, li_48, li_54, li_55, li_56, li_57, li_59, li_60, li_63, li_64, li_97, li_98, li_99, li_100, li_103, li_107, li_108, li_112, li_121, li_206, li_212, li_232, li_240, li_255, li_256, li_261, li_270, ng_1, ng_2, ng_3, ng_4, ng_9, ng_10, m1_1, nI_m1, m1_nI, if_true, if_false, nI_add, pk_mul, pk_sub, nI_div, nI_rem, nI_eq, nI_leI, nI_ltI, nI_clamp, ck_in, ck_nz, bind_sm, upM_n, upM_m, upM_s, if_pos, if_neg, ro74, b1])
    (by
      intro z L hL
      dsimp only
      unfold f_X5_mixSpeech_48_48b
      simp (disch := omega) only [li_0, li_1, li_2, li_3, li_4, li_5, li_6, li_7, li_8, li_9, li_10, li_11, li_12, li_14, li_15, li_16, li_18, li_20, li_22, li_23, li_24, li_29, li_30, li_31, li_32, li_33, li_40, li_48, li_54, li_55, li_56, li_57, li_59, li_60, li_63, li_64, li_97, li_98, li_99, li_100, li_103, li_107, li_108, li_112, li_121, li_206, li_212, li_232, li_240, li_255, li_256, li_261, li_270, ng_1, ng_2, ng_3, ng_4, ng_9, ng_10, m1_1, nI_m1, m1_nI, if_true, if_false, nI_add, pk_mul, pk_sub, nI_div, nI_rem, nI_eq, nI_leI, nI_ltI, nI_clamp, ck_in, ck_nz, bind_sm, upM_n, upM_m, upM_s, if_pos, if_neg])
    h
  refine ⟨M', ?_, l3⟩
  unfold f_X5_mixSpeech
  simp only [li_0, li_1, li_4, c_per_in ok h.1 hp (show 0 < 2 by omega), c_per_in ok h.1 hp (show 1 < 2 by omega), l2, bind_sm]
  rfl
theorem c_perS {α : AS} {M0 M : Mem} {p : Nat} {x : Int64} (ok : OKA α) (h : PC α M0 M) (hp : p < nP (sA α)) : ∃ M', f_X5_digest_85_85b x (nI p) M = some (.inl (perS α p x, nI (p + 1), M')) ∧ PC α M0 M' := by
  have okp := ok.s.1.2.1
  have e3 := h.1.2.1.1.2.1
  obtain ⟨M1, a1, p1⟩ := c_mixP (x := x) ok h hp
  obtain ⟨M2, a2, b2, f2⟩ := c_be_in ok p1.1 hp
  obtain ⟨M3, a3, b3, f3⟩ := c_dress_in (to := 1) (d := 12) (w := 0) ok b2 hp (by omega) (by omega) (by omega)
  obtain ⟨M4, a4, b4, f4⟩ := c_dress_in (to := 1) (d := 12) (w := 1) ok b3 hp (by omega) (by omega) (by omega)
  obtain ⟨M5, a5, b5, f5⟩ := c_home_in ok b4 hp
  obtain ⟨M6, a6, b6, f6⟩ := c_was_in (w := 0) ok b5 hp (by omega)
  obtain ⟨M7, a7, b7, f7⟩ := c_was_in (w := 1) ok b6 hp (by omega)
  obtain ⟨M8, a8, b8, f8⟩ := c_ask_in ok b7 hp
  obtain ⟨M9, a9, b9, f9⟩ := c_custom_in (x := 5) (w := 0) ok b8 (by omega) hp (by omega)
  obtain ⟨M10, a10, b10, f10⟩ := c_custom_in (x := 5) (w := 1) ok b9 (by omega) hp (by omega)
  refine ⟨M10, ?_, b10, (((((((((p1.2.tr f2).tr f3).tr f4).tr f5).tr f6).tr f7).tr f8).tr f9).tr f10)⟩
  rw [if_pos rfl] at a6
  rw [if_neg (by omega)] at a7
  unfold f_X5_digest_85_85b
  simp (disch := omega) only [li_0, li_1, li_2, li_3, li_4, li_5, li_6, li_7, li_8, li_9, li_10, li_11, li_12, li_14, li_15, li_16, li_18, li_20, li_22, li_23, li_24, li_29, li_30, li_31, li_32, li_33, li_40, li_48, li_54, li_55, li_56, li_57, li_59, li_60, li_63, li_64, li_97, li_98, li_99, li_100, li_103, li_107, li_108, li_112, li_121, li_206, li_212, li_232, li_240, li_255, li_256, li_261, li_270, ng_1, ng_2, ng_3, ng_4, ng_9, ng_10, m1_1, nI_m1, m1_nI, if_true, if_false, nI_add, pk_mul, pk_sub, nI_div, nI_rem, nI_eq, nI_leI, nI_ltI, nI_clamp, ck_in, ck_nz, bind_sm, upM_n, upM_m, upM_s, if_pos, if_neg, e3, a1, a2, a3, a4, a5, a6, a7, a8, a9, a10]
  rfl
theorem c_digest {α : AS} {M : Mem} (ok : OKA α) (h : CI α M) : ∃ M', f_X5_digest M = some (digV α, M') ∧ CI α M' ∧ Fr 0 49 M M' := by
  have okp := ok.s.1.2.1
  have oka := ok.s.1.1
  have h0 : PC α M M := ⟨h, Fr.rf⟩
  obtain ⟨M1, l1, p1⟩ := mix_loop (B := fun s2 : Int64 × Int32 × Mem => f_X5_digest_6_6b s2.1 s2.2.1 s2.2.2) (n := 8) (P := PC α M) (h := 17) (M := M) (cnS α)
    (by
      intro i z L hi hL
      obtain ⟨L', b1, b2, b3⟩ := c_count_in (w := i) ok hL.1 (by omega)
      refine ⟨L', ?_, hL.go b2 b3⟩
      dsimp only
      unfold f_X5_digest_6_6b
      simp (disch := omega) only [li_0, li_1, li_2, li_3, li_4, li_5, li_6, li_7, li_8, li_9, li_10, li_11, li_12, li_14, li_15, li_16, li_18, li_20, li_22, li_23, li_24, li_29, li_30, li_31, li_32, li_33, li_40, li_48, li_54, li_55, li_56, li_57, li_59, li_60, li_63, li_64, li_97, li_98, li_99, li_100, li_103, li_107, li_108, li_112, li_121, li_206, li_212, li_232, li_240, li_255, li_256, li_261, li_270, ng_1, ng_2, ng_3, ng_4, ng_9, ng_10, m1_1, nI_m1, m1_nI, if_true, if_false, nI_add, pk_mul, pk_sub, nI_div, nI_rem, nI_eq, nI_leI, nI_ltI, nI_clamp, ck_in, ck_nz, bind_sm, upM_n, upM_m, upM_s, if_pos, if_neg, b1]
      rfl)
    (by
      intro z L hL
      dsimp only
      unfold f_X5_digest_6_6b
      simp (disch := omega) only [li_0, li_1, li_2, li_3, li_4, li_5, li_6, li_7, li_8, li_9, li_10, li_11, li_12, li_14, li_15, li_16, li_18, li_20, li_22, li_23, li_24, li_29, li_30, li_31, li_32, li_33, li_40, li_48, li_54, li_55, li_56, li_57, li_59, li_60, li_63, li_64, li_97, li_98, li_99, li_100, li_103, li_107, li_108, li_112, li_121, li_206, li_212, li_232, li_240, li_255, li_256, li_261, li_270, ng_1, ng_2, ng_3, ng_4, ng_9, ng_10, m1_1, nI_m1, m1_nI, if_true, if_false, nI_add, pk_mul, pk_sub, nI_div, nI_rem, nI_eq, nI_leI, nI_ltI, nI_clamp, ck_in, ck_nz, bind_sm, upM_n, upM_m, upM_s, if_pos, if_neg])
    h0
  have l2 := mix_loop0 (B := fun s5 : Int64 × Int32 => f_X5_digest_33_33b s5.1 s5.2 M1) (n := 2) (h := it (cnS α) 8 17) (faS α)
    (by
      intro i y hi
      dsimp only
      unfold f_X5_digest_33_33b
      simp (disch := omega) only [li_0, li_1, li_2, li_3, li_4, li_5, li_6, li_7, li_8, li_9, li_10, li_11, li_12, li_14, li_15, li_16, li_18, li_20, li_22, li_23, li_24, li_29, li_30, li_31, li_32, li_33, li_40, li_48, li_54, li_55, li_56, li_57, li_59, li_60, li_63, li_64, li_97, li_98, li_99, li_100, li_103, li_107, li_108, li_112, li_121, li_206, li_212, li_232, li_240, li_255, li_256, li_261, li_270, ng_1, ng_2, ng_3, ng_4, ng_9, ng_10, m1_1, nI_m1, m1_nI, if_true, if_false, nI_add, pk_mul, pk_sub, nI_div, nI_rem, nI_eq, nI_leI, nI_ltI, nI_clamp, ck_in, ck_nz, bind_sm, upM_n, upM_m, upM_s, if_pos, if_neg, c_fau ok p1.1 hi]
      rfl)
    (by
      intro y
      dsimp only
      unfold f_X5_digest_33_33b
      simp (disch := omega) only [li_0, li_1, li_2, li_3, li_4, li_5, li_6, li_7, li_8, li_9, li_10, li_11, li_12, li_14, li_15, li_16, li_18, li_20, li_22, li_23, li_24, li_29, li_30, li_31, li_32, li_33, li_40, li_48, li_54, li_55, li_56, li_57, li_59, li_60, li_63, li_64, li_97, li_98, li_99, li_100, li_103, li_107, li_108, li_112, li_121, li_206, li_212, li_232, li_240, li_255, li_256, li_261, li_270, ng_1, ng_2, ng_3, ng_4, ng_9, ng_10, m1_1, nI_m1, m1_nI, if_true, if_false, nI_add, pk_mul, pk_sub, nI_div, nI_rem, nI_eq, nI_leI, nI_ltI, nI_clamp, ck_in, ck_nz, bind_sm, upM_n, upM_m, upM_s, if_pos, if_neg])
  obtain ⟨M3, l3, p3⟩ := mix_loop (B := fun s8 : Int64 × Int32 × Mem => f_X5_digest_59_59b s8.1 s8.2.1 s8.2.2) (n := nA (sA α)) (P := PC α M) (h := it (faS α) 2 (it (cnS α) 8 17)) (M := M1) (mixA α)
    (by
      intro i z L hi hL
      obtain ⟨L', b1, b2⟩ := c_mixA (x := z) ok hL hi
      refine ⟨L', ?_, b2⟩
      have e := hL.1.2.1.1.1
      dsimp only
      unfold f_X5_digest_59_59b
      simp (disch := omega) only [li_0, li_1, li_2, li_3, li_4, li_5, li_6, li_7, li_8, li_9, li_10, li_11, li_12, li_14, li_15, li_16, li_18, li_20, li_22, li_23, li_24, li_29, li_30, li_31, li_32, li_33, li_40, li_48, li_54, li_55, li_56, li_57, li_59, li_60, li_63, li_64, li_97, li_98, li_99, li_100, li_103, li_107, li_108, li_112, li_121, li_206, li_212, li_232, li_240, li_255, li_256, li_261, li_270, ng_1, ng_2, ng_3, ng_4, ng_9, ng_10, m1_1, nI_m1, m1_nI, if_true, if_false, nI_add, pk_mul, pk_sub, nI_div, nI_rem, nI_eq, nI_leI, nI_ltI, nI_clamp, ck_in, ck_nz, bind_sm, upM_n, upM_m, upM_s, if_pos, if_neg, e, b1])
    (by
      intro z L hL
      have e := hL.1.2.1.1.1
      dsimp only
      unfold f_X5_digest_59_59b
      simp (disch := omega) only [li_0, li_1, li_2, li_3, li_4, li_5, li_6, li_7, li_8, li_9, li_10, li_11, li_12, li_14, li_15, li_16, li_18, li_20, li_22, li_23, li_24, li_29, li_30, li_31, li_32, li_33, li_40, li_48, li_54, li_55, li_56, li_57, li_59, li_60, li_63, li_64, li_97, li_98, li_99, li_100, li_103, li_107, li_108, li_112, li_121, li_206, li_212, li_232, li_240, li_255, li_256, li_261, li_270, ng_1, ng_2, ng_3, ng_4, ng_9, ng_10, m1_1, nI_m1, m1_nI, if_true, if_false, nI_add, pk_mul, pk_sub, nI_div, nI_rem, nI_eq, nI_leI, nI_ltI, nI_clamp, ck_in, ck_nz, bind_sm, upM_n, upM_m, upM_s, if_pos, if_neg, e])
    p1
  obtain ⟨M4, l4, p4⟩ := mix_loop (B := fun s20 : Int64 × Int32 × Mem => f_X5_digest_85_85b s20.1 s20.2.1 s20.2.2) (n := nP (sA α)) (P := PC α M) (h := it (mixA α) (nA (sA α)) (it (faS α) 2 (it (cnS α) 8 17))) (M := M3) (perS α)
    (by
      intro i z L hi hL
      exact c_perS ok hL hi)
    (by
      intro z L hL
      have e := hL.1.2.1.1.2.1
      dsimp only
      unfold f_X5_digest_85_85b
      simp (disch := omega) only [li_0, li_1, li_2, li_3, li_4, li_5, li_6, li_7, li_8, li_9, li_10, li_11, li_12, li_14, li_15, li_16, li_18, li_20, li_22, li_23, li_24, li_29, li_30, li_31, li_32, li_33, li_40, li_48, li_54, li_55, li_56, li_57, li_59, li_60, li_63, li_64, li_97, li_98, li_99, li_100, li_103, li_107, li_108, li_112, li_121, li_206, li_212, li_232, li_240, li_255, li_256, li_261, li_270, ng_1, ng_2, ng_3, ng_4, ng_9, ng_10, m1_1, nI_m1, m1_nI, if_true, if_false, nI_add, pk_mul, pk_sub, nI_div, nI_rem, nI_eq, nI_leI, nI_ltI, nI_clamp, ck_in, ck_nz, bind_sm, upM_n, upM_m, upM_s, if_pos, if_neg, e])
    p3
  obtain ⟨M5, a5, b5, f5⟩ := c_as ok p4.1
  obtain ⟨M6, a6, b6, f6⟩ := c_crowd ok b5
  obtain ⟨M7, l7, p7⟩ := mix_loop (B := fun s25 : Int64 × Int32 × Mem => f_X5_digest_264_264b s25.1 s25.2.1 s25.2.2) (n := 3) (P := PC α M) (h := 31 * (31 * it (perS α) (nP (sA α)) (it (mixA α) (nA (sA α)) (it (faS α) 2 (it (cnS α) 8 17))) + (nI (abits (sA α))).toInt64) + (oi (crowdV (sA α))).toInt64) (M := M6) (trS α)
    (by
      intro i z L hi hL
      obtain ⟨L', b1, b2, b3⟩ := c_tray_in (w := i) ok hL.1 hi
      refine ⟨L', ?_, hL.go b2 b3⟩
      dsimp only
      unfold f_X5_digest_264_264b
      simp (disch := omega) only [li_0, li_1, li_2, li_3, li_4, li_5, li_6, li_7, li_8, li_9, li_10, li_11, li_12, li_14, li_15, li_16, li_18, li_20, li_22, li_23, li_24, li_29, li_30, li_31, li_32, li_33, li_40, li_48, li_54, li_55, li_56, li_57, li_59, li_60, li_63, li_64, li_97, li_98, li_99, li_100, li_103, li_107, li_108, li_112, li_121, li_206, li_212, li_232, li_240, li_255, li_256, li_261, li_270, ng_1, ng_2, ng_3, ng_4, ng_9, ng_10, m1_1, nI_m1, m1_nI, if_true, if_false, nI_add, pk_mul, pk_sub, nI_div, nI_rem, nI_eq, nI_leI, nI_ltI, nI_clamp, ck_in, ck_nz, bind_sm, upM_n, upM_m, upM_s, if_pos, if_neg, b1]
      rfl)
    (by
      intro z L hL
      dsimp only
      unfold f_X5_digest_264_264b
      simp (disch := omega) only [li_0, li_1, li_2, li_3, li_4, li_5, li_6, li_7, li_8, li_9, li_10, li_11, li_12, li_14, li_15, li_16, li_18, li_20, li_22, li_23, li_24, li_29, li_30, li_31, li_32, li_33, li_40, li_48, li_54, li_55, li_56, li_57, li_59, li_60, li_63, li_64, li_97, li_98, li_99, li_100, li_103, li_107, li_108, li_112, li_121, li_206, li_212, li_232, li_240, li_255, li_256, li_261, li_270, ng_1, ng_2, ng_3, ng_4, ng_9, ng_10, m1_1, nI_m1, m1_nI, if_true, if_false, nI_add, pk_mul, pk_sub, nI_div, nI_rem, nI_eq, nI_leI, nI_ltI, nI_clamp, ck_in, ck_nz, bind_sm, upM_n, upM_m, upM_s, if_pos, if_neg])
    ⟨b6, (p4.2.tr f5).tr f6⟩
  obtain ⟨M8, a8, b8, f8⟩ := c_ref_in (x := m1) ok p7.1 (Or.inl rfl)
  obtain ⟨M9, a9, b9, f9⟩ := c_ref_in (x := nI 0) ok b8 (Or.inr ⟨0, by omega, rfl⟩)
  obtain ⟨M10, a10, b10, f10⟩ := c_never ok b9
  obtain ⟨M11, a11, b11, f11⟩ := c_year_in (s := nI 7) (n := 6) (w := 0) ok b10 (by omega) (by omega)
  obtain ⟨M12, a12, b12, f12⟩ := c_year_in (s := nI 7) (n := 6) (w := 1) ok b11 (by omega) (by omega)
  refine ⟨M12, ?_, b12, ((((p7.2.tr f8).tr f9).tr f10).tr f11).tr f12⟩
  unfold f_X5_digest
  simp only [li_0, li_1, li_6, li_7, ng_1, l1, l2, l3, l4, a5, a6, l7, a8, a9, a10, a11, a12, bind_sm]
  rfl
