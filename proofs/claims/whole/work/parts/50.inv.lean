-- WHAT HOLDS BETWEEN CALLS
/-- texts (how many bytes, which), hirings, things heard, sheets (form, size, items), the latest finding -/
abbrev AS : Type := (Nat × (Nat → Nat)) × (Nat × (Nat → Nat)) × List (Nat × Nat × Nat) × List (Nat × Nat × Nat × Nat) × (Nat → Int32 × Nat × (Nat → Int32)) × Int32
abbrev hlA (α : AS) : List (Nat × Nat × Nat) := α.2.2.1
abbrev heA (α : AS) : List (Nat × Nat × Nat × Nat) := α.2.2.2.1
abbrev shA (α : AS) : Nat → Int32 × Nat × (Nat → Int32) := α.2.2.2.2.1
abbrev fdA (α : AS) : Int32 := α.2.2.2.2.2
/-- what is told -/
def sA (α : AS) : SS := sg α.1.1 α.1.2 α.2.1.1 α.2.1.2 (hlA α)
def OKA (α : AS) : Prop := (α.1.1 ≤ 55 ∧ ∀ i, α.1.2 i < 256) ∧ (α.2.1.1 ≤ 23 ∧ ∀ i, α.2.1.2 i < 256) ∧ ((hlA α).length ≤ 8 ∧ ∀ h ∈ hlA α, h.1 < 30 ∧ h.2.1 < 8 ∧ h.2.2 < 8) ∧ ((heA α).length ≤ 8 ∧ ∀ h ∈ heA α, h.1 < 30 ∧ h.2.1 < 8 ∧ h.2.2.1 < 5 ∧ h.2.2.2 < 10) ∧ ∀ s, s < 4 → ((shA α s).1 = m1 ∨ ∃ f, f < 3 ∧ (shA α s).1 = nI f) ∧ (shA α s).2.1 ≤ 60
theorem OKA.s {α : AS} (h : OKA α) : OKS (sA α) := by
  obtain ⟨⟨h1, -⟩, ⟨h2, -⟩, ⟨h3, h4⟩, -⟩ := h
  exact sg_ok h1 h2 (by omega) h4
/-- who is astray at the end -/
noncomputable def abits (σ : SS) : Nat := bitsOf (ast σ (wk σ 30)) (nP σ)
def StI (α : AS) (M : Mem) : Prop := M 0 9 = nI 0 ∨ (M 0 9 = nI 1 ∧ ∀ sub, sub < 2 ^ (hlA α).length → M 45 sub = nI (abits (withH (sA α) (keepI sub.testBit (hlA α) 0))))
def HeI (α : AS) (M : Mem) : Prop := M 31 0 = nI (heA α).length ∧ ∀ (i : Nat) (h : Nat × Nat × Nat × Nat), (heA α)[i]? = some h → M 32 i = nI h.1 ∧ M 33 i = nI h.2.1 ∧ M 34 i = nI h.2.2.1 ∧ M 35 i = nI h.2.2.2
def ShI (α : AS) (M : Mem) : Prop := ∀ s, s < 4 → M (37 + 2 * s) 0 = (shA α s).1 ∧ M (37 + 2 * s) 1 = nI (shA α s).2.1 ∧ ∀ i, i < (shA α s).2.1 → M (38 + 2 * s) i = (shA α s).2.2 i
/-- the class -/
def CI (α : AS) (M : Mem) : Prop := (TX 1 5 57 α.1.1 α.1.2 M ∧ TX 3 1 55 α.2.1.1 α.2.1.2 M) ∧ SR 5 (sA α) M ∧ (∃ n, n ≤ 30 ∧ WD 21 (sA α) n M) ∧ StI α M ∧ HeI α M ∧ ShI α M ∧ M 0 13 = fdA α
/-- the reference -/
def MI (α : AS) (M : Mem) : Prop := (M 55 0 = nI α.1.1 ∧ ∀ i, i < α.1.1 → M 54 i = nI (α.1.2 i)) ∧ (M 55 1 = nI α.2.1.1 ∧ ∀ i, i < α.2.1.1 → M 54 (56 + i) = nI (α.2.1.2 i)) ∧ MH (hlA α) 0 none M ∧ (M 49 26 = nI (heA α).length ∧ ∀ (i : Nat) (h : Nat × Nat × Nat × Nat), (heA α)[i]? = some h → M 68 (4 * i) = nI h.1 ∧ M 68 (4 * i + 1) = nI h.2.1 ∧ M 68 (4 * i + 2) = nI h.2.2.1 ∧ M 68 (4 * i + 3) = nI h.2.2.2) ∧ (∀ s, s < 4 → M 50 s = (shA α s).1 ∧ M 51 s = nI (shA α s).2.1 ∧ ∀ i, i < (shA α s).2.1 → M 52 (60 * s + i) = (shA α s).2.2 i) ∧ M 49 4 = fdA α
theorem CI.fr {α : AS} {M M' : Mem} (h : CI α M) (hF : ∀ k, k < 49 → M' k = M k) : CI α M' := by
  obtain ⟨⟨h1, h2⟩, h3, ⟨n, h4, h5⟩, h6, h7, h8, h9⟩ := h
  refine ⟨⟨h1.fr (hF 1 (by omega)) (hF 2 (by omega)), h2.fr (hF 3 (by omega)) (hF 4 (by omega))⟩, h3.fr (fun k _ _ => hF k (by omega)), ⟨n, h4, h5.fr (fun k _ _ => hF k (by omega))⟩, ?_, ?_, ?_, ?_⟩
  · unfold StI at h6 ⊢
    rw [hF 0 (by omega), hF 45 (by omega)]
    exact h6
  · unfold HeI at h7 ⊢
    rw [hF 31 (by omega), hF 32 (by omega), hF 33 (by omega), hF 34 (by omega), hF 35 (by omega)]
    exact h7
  · intro s hs
    rw [hF _ (by omega), hF _ (by omega)]
    exact h8 s hs
  · rw [hF 0 (by omega)]
    exact h9
theorem MI.fr {α : AS} {M M' : Mem} (h : MI α M) (h49 : ∀ j, j ≠ 7 → j ≠ 9 → M' 49 j = M 49 j) (hF : ∀ k, (k = 50 ∨ k = 51 ∨ k = 52 ∨ k = 54 ∨ k = 55 ∨ k = 58 ∨ k = 68) → M' k = M k) : MI α M' := by
  obtain ⟨h1, h2, h3, h4, h5, h6⟩ := h
  unfold MI
  rw [hF 50 (by omega), hF 51 (by omega), hF 52 (by omega), hF 54 (by omega), hF 55 (by omega), hF 68 (by omega), h49 26 (by omega) (by omega), h49 4 (by omega) (by omega)]
  refine ⟨h1, h2, ?_, h4, h5, h6⟩
  unfold MH at h3 ⊢
  rw [hF 58 (by omega), h49 11 (by omega) (by omega), h49 13 (by omega) (by omega), h49 14 (by omega) (by omega), h49 15 (by omega) (by omega), h49 16 (by omega) (by omega)]
  exact h3
theorem MI.fr0 {α : AS} {M M' : Mem} (h : MI α M) (hF : ∀ k, 49 ≤ k → M' k = M k) : MI α M' := h.fr (fun j _ _ => by rw [hF 49 (by omega)]) (fun k hk => hF k (by omega))
/-- what a find leaves -/
def FI (α : AS) (M : Mem) : Prop := MI α M ∧ MS (sA α) M ∧ LV' (sA α) M
theorem Eff_0 {α : AS} : Eff (sA α) (hlA α) 0 none := by
  unfold Eff
  show hlA α = keepB 0 (hlA α) 0 ++ []
  rw [List.append_nil]
  have : ∀ (l : List (Nat × Nat × Nat)) (i : Nat), keepB 0 l i = l := by
    intro l
    induction l with
    | nil => intro i; rfl
    | cons x l ih =>
      intro i
      unfold keepB
      rw [Nat.zero_testBit, if_neg (by decide), ih]
  rw [this]
theorem OKA.h {α : AS} (h : OKA α) : OKH (nP (sA α)) (hlA α) 0 none := ⟨h.2.2.1.1, by decide, h.2.2.1.2, fun o ho => by cases ho⟩
theorem m_reads {α : AS} {M : Mem} (ok : OKA α) (h : MI α M) : ∃ M1 M2, f_X6_readsAccents M = some (oi (FV 71 5 57 α.1.1 α.1.2), M1) ∧ f_X6_readsPeople M1 = some (oi (FV 72 1 55 α.2.1.1 α.2.1.2), M2) ∧ MI α M1 ∧ MI α M2 ∧ MS (sA α) M2 ∧ (∀ k, (k ≠ 49 ∧ k ≠ 56) → M1 k = M k) ∧ (∀ k, (k ≠ 49 ∧ k ≠ 56 ∧ k ≠ 57) → M2 k = M k) ∧ (M1 49 7 = nI (nA (sA α)) ∧ (∀ a, a < nA (sA α) → M1 56 (6 * a) = nI (so (sA α) a)) ∧ ∀ a s, a < nA (sA α) → s < 5 → M1 56 (6 * a + 1 + s) = nI (mk0 (sA α) a s)) := by
  obtain ⟨⟨o1, o2⟩, ⟨o3, o4⟩, -⟩ := ok
  have h' := h
  obtain ⟨⟨h1, h2⟩, ⟨h3, h4⟩, -⟩ := h'
  obtain ⟨M1, a1, a2, a3, a4, a5, a6⟩ := m_readsA h1 h2 o1 o2
  have i1 : MI α M1 := h.fr (fun j h7 _ => a3 j h7) (fun k hk => a6 k (by omega))
  obtain ⟨M2, b1, b2, b3, b4, b5, b6⟩ := m_readsP (M := M1) (n := α.2.1.1) (b := α.2.1.2) i1.2.1.1 i1.2.1.2 o3 o4
  refine ⟨M1, M2, a1, b1, i1, i1.fr (fun j _ h9 => b3 j h9) (fun k hk => b6 k (by omega)), ⟨⟨?_, b2⟩, fun a ha => ?_, fun a s ha hs => ?_, b4, b5⟩, a6, fun k hk => by rw [b6 k (by omega), a6 k (by omega)], a2, a4, a5⟩
  · rw [b3 7 (by omega)]; exact a2
  · rw [b6 56 (by omega)]; exact a4 a ha
  · rw [b6 56 (by omega)]; exact a5 a s ha hs
theorem m_find {α : AS} {M : Mem} (ok : OKA α) (h : MI α M) : ∃ M', f_X6_find M = some M' ∧ FI α M' ∧ Fr 49 71 M M' := by
  obtain ⟨M1, M2, a1, a2, a3, a4, a5, a6, a7, -⟩ := m_reads ok h
  obtain ⟨M3, b1, b2, b3⟩ := m_lives ok.s a5 a4.2.2.1 ok.h Eff_0
  refine ⟨M3, ?_, ⟨a4.fr (fun j _ _ => by rw [b3 49 (by omega)]) (fun k hk => b3 k (by omega)), a5.fr (b3 49 (by omega)) (b3 56 (by omega)) (b3 57 (by omega)), b2⟩, fun k hk => by rw [b3 k (by omega), a7 k (by omega)]⟩
  unfold f_X6_find
  simp only [a1, a2, b1, bind_sm]
/-- the walk through what was told stands behind a day -/
theorem c_stand {α : AS} {M : Mem} {d : Nat} (ok : OKA α) (h : CI α M) (hd : d < 30) : ∃ M', f_X5_standBehind (nI d) M = some M' ∧ WD 21 (sA α) (d + 1) M' ∧ CI α M' ∧ Fr 21 26 M M' := by
  have h' := h
  obtain ⟨⟨h1, h2⟩, h3, ⟨n, h4, h5⟩, h6, h7, h8, h9⟩ := h'
  have fin : ∀ N, SR 5 (sA α) N → WD 21 (sA α) (d + 1) N → Fr 21 26 M N → CI α N := by
    intro N s w F
    refine ⟨⟨h1.fr (F 1 (by omega)) (F 2 (by omega)), h2.fr (F 3 (by omega)) (F 4 (by omega))⟩, s, ⟨d + 1, by omega, w⟩, ?_, ?_, ?_, ?_⟩
    · unfold StI at h6 ⊢
      rw [F 0 (by omega), F 45 (by omega)]
      exact h6
    · unfold HeI at h7 ⊢
      rw [F 31 (by omega), F 32 (by omega), F 33 (by omega), F 34 (by omega), F 35 (by omega)]
      exact h7
    · intro s hs
      rw [F _ (by omega), F _ (by omega)]
      exact h8 s hs
    · rw [F 0 (by omega)]
      exact h9
  have day : M 21 1 = nI n - nI 1 := by
    have := h5.2.1
    rw [← this]
    have e : ∀ x : Int32, x = x + nI 1 - nI 1 := fun x => by rw [Int32.add_sub_cancel]
    exact e _
  have le : (M 21 1 ≤ nI d) = (n ≤ d + 1) := by
    rw [day]
    cases n with
    | zero =>
      have : nI 0 - nI 1 = m1 := rfl
      rw [this]
      have : m1 ≤ nI d := by
        rw [Int32.le_iff_toInt_le, nI_toInt (by omega)]
        have : m1.toInt = -1 := by decide
        omega
      simp [this]
    | succ n => rw [nI_pred', nI_leI (by omega) (by omega)]; simp
  unfold f_X5_standBehind f_X5_standBehind_18
  by_cases q : n ≤ d + 1
  · obtain ⟨M1, g1, g2, g3⟩ := c_go (u := d) WI_21 ok.s h3 hd q h5
    refine ⟨M1, ?_, g2, fin M1 (h3.fr (fun k _ _ => g3 k (by omega))) g2 g3, g3⟩
    simp only [le, q, if_true, g1, bind_sm]
  · obtain ⟨M0, b1, b2, b3⟩ := c_begin WI_21 ok.s h3
    have s0 : SR 5 (sA α) M0 := h3.fr (fun k _ _ => b3 k (by omega))
    obtain ⟨M1, g1, g2, g3⟩ := c_go (u := d) WI_21 ok.s s0 hd (by omega) b2
    refine ⟨M1, ?_, g2, fin M1 (s0.fr (fun k _ _ => g3 k (by omega))) g2 (b3.tr g3), b3.tr g3⟩
    simp only [le, q, if_false, b1, g1, bind_sm]
/-- a number in range, or not -/
def In (x : Int32) (n : Nat) : Prop := ∃ j, j < n ∧ x = nI j
theorem below_out {x : Int32} {n : Nat} (hn : n < 2147483648) (h : ¬ In x n) : f_X5_isBelow x (nI n) = some (nI 0) := by
  unfold f_X5_isBelow
  by_cases h0 : x < 0
  · rw [if_pos h0]; rfl
  · rw [if_neg h0]
    obtain ⟨i, hi, rfl⟩ := nI_of h0
    have : n ≤ i := Nat.not_lt.mp fun q => h ⟨i, q, rfl⟩
    rw [if_pos ((nI_leI hn hi).mpr this)]
    rfl
theorem below_in {j n : Nat} (hj : j < n) (hn : n < 2147483648) : f_X5_isBelow (nI j) (nI n) = some (nI 1) := by
  unfold f_X5_isBelow
  simp (disch := omega) only [li_0, li_1, li_2, li_3, li_4, li_5, li_6, li_7, li_8, li_9, li_10, li_11, li_12, li_14, li_15, li_16, li_18, li_20, li_22, li_23, li_24, li_29, li_30, li_31, li_32, li_33, li_40, li_48, li_54, li_55, li_56, li_57, li_59, li_60, li_63, li_64, li_97, li_98, li_99, li_100, li_103, li_107, li_108, li_112, li_121, li_206, li_212, li_232, li_240, li_255, li_256, li_261, li_270, ng_1, ng_2, ng_3, ng_4, ng_9, ng_10, m1_1, nI_m1, m1_nI, if_true, if_false, nI_add, pk_mul, pk_sub, nI_div, nI_rem, nI_eq, nI_leI, nI_ltI, nI_clamp, ck_in, ck_nz, bind_sm, upM_n, upM_m, upM_s, if_pos, if_neg]
theorem hasP_out {x : Int32} {c n : Nat} {M : Mem} (h3 : M c 3 = nI n) (hn : n < 2147483648) (h : ¬ In x n) : f_X1_hasPerson c x M = some (nI 0) := by
  have := below_out hn h
  unfold f_X5_isBelow at this
  unfold f_X1_hasPerson
  rw [h3]
  exact this
theorem hasA_out {x : Int32} {c n : Nat} {M : Mem} (h3 : M c 0 = nI n) (hn : n < 2147483648) (h : ¬ In x n) : f_X1_hasAccent c x M = some (nI 0) := by
  have := below_out hn h
  unfold f_X5_isBelow at this
  unfold f_X1_hasAccent
  rw [h3]
  exact this
theorem m_rng {x : Int32} {n : Nat} (hn : n < 2147483647) : (nI 0 ≤ x ∧ x ≤ nI (n + 1) - nI 1) ↔ In x (n + 1) := by
  rw [nI_pred']
  constructor
  · rintro ⟨h1, h2⟩
    have h0 : ¬ x < 0 := by
      rw [Int32.lt_iff_toInt_lt]
      rw [Int32.le_iff_toInt_le] at h1
      have : (nI 0).toInt = 0 := by decide
      have : (0 : Int32).toInt = 0 := by decide
      omega
    obtain ⟨i, hi, rfl⟩ := nI_of h0
    exact ⟨i, by have := (nI_leI hi (by omega)).mp h2; omega, rfl⟩
  · rintro ⟨j, hj, rfl⟩
    exact ⟨(nI_leI (by omega) (by omega)).mpr (by omega), (nI_leI (by omega) (by omega)).mpr (by omega)⟩
theorem m_in_in {j n : Nat} (hj : j ≤ n) (hn : n < 2147483647) : f_X6_in (nI j).toInt64 (nI 0).toInt64 (nI n).toInt64 = some (nI 1) := by
  rw [m_in, if_pos ⟨(nI_leI (by omega) (by omega)).mpr (by omega), (nI_leI (by omega) (by omega)).mpr hj⟩]
theorem m_in_out {x : Int32} {n : Nat} (hn : n < 2147483647) (h : ¬ In x (n + 1)) : f_X6_in x.toInt64 (nI 0).toInt64 (nI n).toInt64 = some (nI 0) := by
  rw [m_in, if_neg]
  intro r
  exact h ((m_rng hn).mp (by rw [nI_pred']; exact r))
theorem isA_out {x : Int32} {n : Nat} {M : Mem} (h3 : M 49 7 = nI n) (hn : n < 100) (h : ¬ In x n) : f_X6_isAccent x M = some (nI 0) := by
  unfold f_X6_isAccent
  rw [h3, show (0 : Int64) = (nI 0).toInt64 from rfl, li_1]
  cases n with
  | zero =>
    rw [show nI 0 - nI 1 = m1 from rfl, m_in, if_neg]
    · rfl
    · rintro ⟨r1, r2⟩
      rw [Int32.le_iff_toInt_le] at r1 r2
      have : m1.toInt = -1 := by decide
      have : (nI 0).toInt = 0 := by decide
      omega
  | succ n =>
    rw [nI_pred', m_in_out (by omega) h]
    rfl
theorem isP_out {x : Int32} {n : Nat} {M : Mem} (h3 : M 49 9 = nI n) (hn : n < 100) (h : ¬ In x n) : f_X6_isPerson x M = some (nI 0) := by
  have := isA_out (M := fun a b => if a = 49 ∧ b = 7 then nI n else M a b) (n := n) (x := x) (by simp) hn h
  unfold f_X6_isAccent at this
  unfold f_X6_isPerson
  rw [h3]
  simpa using this
