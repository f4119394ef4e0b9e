-- THE CALLS, one by one: class and reference side by side
/-- from what is told, both answer alike, and what is told then is the same for both -/
def St {V : Type} (α : AS) (c m : Mem → Option (V × Mem)) : Prop := ∃ (r : V) (α' : AS), OKA α' ∧ (∀ M, CI α M → ∃ M', c M = some (r, M') ∧ CI α' M' ∧ Fr 0 49 M M') ∧ ∀ M, MI α M → ∃ M', m M = some (r, M') ∧ MI α' M' ∧ Fr 49 71 M M'
abbrev setT0 (α : AS) (n : Nat) (b : Nat → Nat) : AS := ((n, b), α.2)
abbrev setT1 (α : AS) (n : Nat) (b : Nat → Nat) : AS := (α.1, (n, b), α.2.2)
abbrev setH (α : AS) (l : List (Nat × Nat × Nat)) : AS := (α.1, α.2.1, l, α.2.2.2)
abbrev setE (α : AS) (l : List (Nat × Nat × Nat × Nat)) : AS := (α.1, α.2.1, α.2.2.1, l, α.2.2.2.2)
abbrev setS (α : AS) (f : Nat → Int32 × Nat × (Nat → Int32)) : AS := (α.1, α.2.1, α.2.2.1, α.2.2.2.1, f, α.2.2.2.2.2)
abbrev setF (α : AS) (x : Int32) : AS := (α.1, α.2.1, α.2.2.1, α.2.2.2.1, α.2.2.2.2.1, x)
theorem c_bag {α : AS} {M : Mem} (ok : OKA α) (h1 : TX 1 5 57 α.1.1 α.1.2 M) (h2 : TX 3 1 55 α.2.1.1 α.2.1.2 M) (h3 : SR 5 (sA α) M) (h7 : HeI α M) (h8 : ShI α M) (h9 : M 0 13 = fdA α) : ∃ M', f_X5_beginAgain M = some M' ∧ CI α M' ∧ (∀ k, k ≠ 0 → (k < 21 ∨ 26 ≤ k) → M' k = M k) := by
  obtain ⟨M1, b1, b2, b3⟩ := c_begin WI_21 ok.s h3
  have F : ∀ k, k ≠ 0 → (k < 21 ∨ 26 ≤ k) → upM M1 0 9 (nI 0) k = M k := fun k hk h => by rw [upM_n hk, b3 k (by omega)]
  refine ⟨upM M1 0 9 (nI 0), ?_, ⟨⟨h1.fr (F 1 (by omega) (by omega)) (F 2 (by omega) (by omega)), h2.fr (F 3 (by omega) (by omega)) (F 4 (by omega) (by omega))⟩, h3.fr (fun k _ _ => F k (by omega) (by omega)), ⟨0, by omega, b2.fr (fun k _ _ => upM_n (by omega))⟩, Or.inl upM_s, ?_, ?_, ?_⟩, F⟩
  · unfold f_X5_beginAgain
    rw [b1, bind_sm]
    rfl
  · unfold HeI at h7 ⊢
    rw [F 31 (by omega) (by omega), F 32 (by omega) (by omega), F 33 (by omega) (by omega), F 34 (by omega) (by omega), F 35 (by omega) (by omega)]
    exact h7
  · intro s hs
    rw [F _ (by omega) (by omega), F _ (by omega) (by omega)]
    exact h8 s hs
  · rw [upM_m (by omega), b3 0 (by omega)]
    exact h9
theorem c_tell {α : AS} {M : Mem} (ok : OKA α) (h1 : TX 1 5 57 α.1.1 α.1.2 M) (h2 : TX 3 1 55 α.2.1.1 α.2.1.2 M) (h3 : M 5 6 = nI (hlA α).length ∧ ∀ (i : Nat) (h : Nat × Nat × Nat), (hlA α)[i]? = some h → M 10 i = nI h.1 ∧ M 11 i = nI h.2.1 ∧ M 12 i = nI h.2.2) (h7 : HeI α M) (h8 : ShI α M) (h9 : M 0 13 = fdA α) : ∃ M', f_X5_tellAgain M = some M' ∧ CI α M' ∧ Fr 0 49 M M' := by
  obtain ⟨M1, a1, a2, a3, a4, a5, a6⟩ := c_takeA h1 ok.1.1 ok.1.2
  obtain ⟨M2, b1, b2, b3, b4, b5⟩ := c_takeP (M := M1) (h2.fr (a6 3 (by omega)) (a6 4 (by omega))) ok.2.1.1 ok.2.1.2
  have F : ∀ k, (k < 5 ∨ 10 ≤ k) → M2 k = M k := fun k hk => by rw [b5 k (by omega), a6 k (by omega)]
  have s5 : SR 5 (sA α) M2 := by
    refine ⟨⟨?_, b2, ?_⟩, fun a ha => ?_, fun a s ha hs => ?_, fun p hp => (b4 p hp).1, fun p hp => (b4 p hp).2, fun i h hi => ?_⟩
    · rw [b3 0 (by omega)]; exact a2
    · rw [b3 6 (by omega), a3 6 (by omega)]; exact h3.1
    · rw [b5 6 (by omega)]; exact a4 a ha
    · rw [b5 7 (by omega)]; exact a5 a s ha hs
    · rw [F 10 (by omega), F 11 (by omega), F 12 (by omega)]; exact h3.2 i h hi
  obtain ⟨M3, d1, d2, d3⟩ := c_bag (M := M2) ok (h1.fr (F 1 (by omega)) (F 2 (by omega))) (h2.fr (F 3 (by omega)) (F 4 (by omega))) s5 (by
      unfold HeI at h7 ⊢
      rw [F 31 (by omega), F 32 (by omega), F 33 (by omega), F 34 (by omega), F 35 (by omega)]
      exact h7) (by
      intro s hs
      rw [F _ (by omega), F _ (by omega)]
      exact h8 s hs) (by rw [F 0 (by omega)]; exact h9)
  refine ⟨M3, ?_, d2, fun k hk => by rw [d3 k (by omega) (by omega), F k (by omega)]⟩
  unfold f_X5_tellAgain
  rw [a1, bind_sm, b1, bind_sm, d1, bind_sm]
theorem CI.hir {α : AS} {M : Mem} (h : CI α M) : M 5 6 = nI (hlA α).length ∧ ∀ (i : Nat) (h : Nat × Nat × Nat), (hlA α)[i]? = some h → M 10 i = nI h.1 ∧ M 11 i = nI h.2.1 ∧ M 12 i = nI h.2.2 := ⟨h.2.1.1.2.2, h.2.1.2.2.2.2.2⟩
def upb (b : Nat → Nat) (n x : Nat) : Nat → Nat := fun i => if i = n then x else b i
theorem upb_lt {b : Nat → Nat} {n x : Nat} (h : ∀ i, b i < 256) (hx : x < 256) : ∀ i, upb b n x i < 256 := by
  intro i
  unfold upb
  split
  · exact hx
  · exact h i
/-- no call whose numbers are wrong changes anything -/
theorem St.same {V : Type} {α : AS} {c m : Mem → Option (V × Mem)} (ok : OKA α) (r : V) (h1 : ∀ M, CI α M → ∃ M', c M = some (r, M') ∧ CI α M' ∧ Fr 0 49 M M') (h2 : ∀ M, MI α M → ∃ M', m M = some (r, M') ∧ MI α M' ∧ Fr 49 71 M M') : St α c m := ⟨r, α, ok, h1, h2⟩
theorem below_2 {x : Int32} : f_X5_isBelow x (2 : Int32) = f_X5_isBelow x (nI 2) := rfl
theorem m_in_0 {x : Int32} {n : Nat} {z : Int64} (hz : z = (nI n).toInt64) (hn : n < 2147483647) : (∀ j, j ≤ n → x = nI j → f_X6_in x.toInt64 (0 : Int64) z = some (nI 1)) ∧ (¬ In x (n + 1) → f_X6_in x.toInt64 (0 : Int64) z = some (nI 0)) := by
  subst hz
  refine ⟨fun j hj hx => ?_, fun h => ?_⟩
  · rw [hx, show (0 : Int64) = (nI 0).toInt64 from rfl]
    exact m_in_in hj hn
  · rw [show (0 : Int64) = (nI 0).toInt64 from rfl]
    exact m_in_out hn h
theorem TX.app {t g lf n x : Nat} {b : Nat → Nat} {M M' : Mem} (h : TX t g lf n b M) (h1 : ∀ j, j ≠ 4 → M' t j = M t j) (h2 : M' t 4 = nI (n + 1)) (h3 : M' (t + 1) n = nI x) (h4 : ∀ j, j ≠ n → M' (t + 1) j = M (t + 1) j) : TX t g lf (n + 1) (upb b n x) M' := by
  obtain ⟨a1, a2, a3, a4⟩ := h
  refine ⟨by rw [h1 2 (by omega)]; exact a1, by rw [h1 3 (by omega)]; exact a2, h2, fun i hi => ?_⟩
  unfold upb
  by_cases q : i = n
  · subst q; rw [if_pos rfl]; exact h3
  · rw [if_neg q, h4 i q]; exact a4 i (by omega)
theorem TX.cut {t g lf n k : Nat} {b : Nat → Nat} {M M' : Mem} (h : TX t g lf n b M) (hk : k ≤ n) (h1 : ∀ j, j ≠ 4 → M' t j = M t j) (h2 : M' t 4 = nI k) (h3 : M' (t + 1) = M (t + 1)) : TX t g lf k b M' := by
  obtain ⟨a1, a2, a3, a4⟩ := h
  refine ⟨by rw [h1 2 (by omega)]; exact a1, by rw [h1 3 (by omega)]; exact a2, h2, fun i hi => ?_⟩
  rw [h3]
  exact a4 i (by omega)
theorem HeI.fr {α β : AS} {M M' : Mem} (h : HeI α M) (e : heA β = heA α) (F : ∀ k, 31 ≤ k → k < 36 → M' k = M k) : HeI β M' := by
  unfold HeI at h ⊢
  rw [e, F 31 (by omega) (by omega), F 32 (by omega) (by omega), F 33 (by omega) (by omega), F 34 (by omega) (by omega), F 35 (by omega) (by omega)]
  exact h
theorem ShI.fr {α β : AS} {M M' : Mem} (h : ShI α M) (e : shA β = shA α) (F : ∀ k, 37 ≤ k → k < 45 → M' k = M k) : ShI β M' := by
  intro s hs
  rw [e, F _ (by omega) (by omega), F _ (by omega) (by omega)]
  exact h s hs
/-- a text is written: the class tells itself all again -/
theorem c_text0 {α : AS} {M N : Mem} {n : Nat} {b : Nat → Nat} (h : CI α M) (ok : OKA (setT0 α n b)) (hT : TX 1 5 57 n b N) (F : ∀ k, k ≠ 1 → k ≠ 2 → N k = M k) : ∃ M', f_X5_tellAgain N = some M' ∧ CI (setT0 α n b) M' ∧ Fr 0 49 M M' := by
  obtain ⟨M', d1, d2, d3⟩ := c_tell (α := setT0 α n b) (M := N) ok hT (h.1.2.fr (F 3 (by omega) (by omega)) (F 4 (by omega) (by omega))) (by
    rw [F 5 (by omega) (by omega), F 10 (by omega) (by omega), F 11 (by omega) (by omega), F 12 (by omega) (by omega)]
    exact h.hir) (h.2.2.2.2.1.fr rfl (fun k _ _ => F k (by omega) (by omega))) (h.2.2.2.2.2.1.fr rfl (fun k _ _ => F k (by omega) (by omega))) (by rw [F 0 (by omega) (by omega)]; exact h.2.2.2.2.2.2)
  exact ⟨M', d1, d2, fun k hk => by rw [d3 k hk, F k (by omega) (by omega)]⟩
theorem c_text1 {α : AS} {M N : Mem} {n : Nat} {b : Nat → Nat} (h : CI α M) (ok : OKA (setT1 α n b)) (hT : TX 3 1 55 n b N) (F : ∀ k, k ≠ 3 → k ≠ 4 → N k = M k) : ∃ M', f_X5_tellAgain N = some M' ∧ CI (setT1 α n b) M' ∧ Fr 0 49 M M' := by
  obtain ⟨M', d1, d2, d3⟩ := c_tell (α := setT1 α n b) (M := N) ok (h.1.1.fr (F 1 (by omega) (by omega)) (F 2 (by omega) (by omega))) hT (by
    rw [F 5 (by omega) (by omega), F 10 (by omega) (by omega), F 11 (by omega) (by omega), F 12 (by omega) (by omega)]
    exact h.hir) (h.2.2.2.2.1.fr rfl (fun k _ _ => F k (by omega) (by omega))) (h.2.2.2.2.2.1.fr rfl (fun k _ _ => F k (by omega) (by omega))) (by rw [F 0 (by omega) (by omega)]; exact h.2.2.2.2.2.2)
  exact ⟨M', d1, d2, fun k hk => by rw [d3 k hk, F k (by omega) (by omega)]⟩
theorem OKA.t0 {α : AS} {n : Nat} {b : Nat → Nat} (ok : OKA α) (h1 : n ≤ 55) (h2 : ∀ i, b i < 256) : OKA (setT0 α n b) := ⟨⟨h1, h2⟩, ok.2⟩
theorem OKA.t1 {α : AS} {n : Nat} {b : Nat → Nat} (ok : OKA α) (h1 : n ≤ 23) (h2 : ∀ i, b i < 256) : OKA (setT1 α n b) := ⟨ok.1, ⟨h1, h2⟩, ok.2.2⟩
/-- the reference's texts are written -/
theorem MI.text {α β : AS} {M N : Mem} (h : MI α M) (e : β.2.2 = α.2.2) (h1 : N 55 0 = nI β.1.1 ∧ ∀ i, i < β.1.1 → N 54 i = nI (β.1.2 i)) (h2 : N 55 1 = nI β.2.1.1 ∧ ∀ i, i < β.2.1.1 → N 54 (56 + i) = nI (β.2.1.2 i)) (F : ∀ k, k ≠ 54 → k ≠ 55 → N k = M k) : MI β N := by
  obtain ⟨-, -, h3, h4, h5, h6⟩ := h
  refine ⟨h1, h2, ?_, ?_, ?_, ?_⟩
  · show MH β.2.2.1 0 none N
    rw [e]
    exact h3.fr (F 49 (by omega) (by omega)) (F 58 (by omega) (by omega))
  · show N 49 26 = nI (β.2.2.2.1).length ∧ ∀ (i : Nat) (h : Nat × Nat × Nat × Nat), (β.2.2.2.1)[i]? = some h → _
    rw [e, F 49 (by omega) (by omega), F 68 (by omega) (by omega)]
    exact h4
  · show ∀ s, s < 4 → N 50 s = (β.2.2.2.2.1 s).1 ∧ N 51 s = nI (β.2.2.2.2.1 s).2.1 ∧ ∀ i, i < (β.2.2.2.2.1 s).2.1 → N 52 (60 * s + i) = (β.2.2.2.2.1 s).2.2 i
    rw [e, F 50 (by omega) (by omega), F 51 (by omega) (by omega), F 52 (by omega) (by omega)]
    exact h5
  · show N 49 4 = β.2.2.2.2.2
    rw [e, F 49 (by omega) (by omega)]
    exact h6
theorem ck_2 {α : Type} {t : Option α} {k : Nat} (h : k < 2) : ck (inb (nI k) 2) t = t := ck_in h (by omega)
theorem two_cases {j : Nat} (h : j < 2) : j = 0 ∨ j = 1 := by omega
theorem s_type {α : AS} (ok : OKA α) (x1 x2 : Int32) : St α (f_X5_type x1 x2) (f_X6_type x1 x2) := by
  obtain ⟨⟨o1, o2⟩, ⟨o3, o4⟩, o5⟩ := id ok
  by_cases r1 : In x1 2
  · by_cases r2 : In x2 256
    · obtain ⟨j, hj, rfl⟩ := r1
      obtain ⟨v, hv, rfl⟩ := r2
      have iv := (m_in_0 (x := nI v) (n := 255) (z := 255) rfl (by omega)).1 v (by omega) rfl
      rcases two_cases hj with rfl | rfl
      · by_cases q : α.1.1 < 55
        · refine ⟨nI (α.1.1 + 1), setT0 α (α.1.1 + 1) (upb α.1.2 α.1.1 v), ok.t0 (by omega) (upb_lt o2 hv), fun M h => ?_, fun M h => ?_⟩
          · have e4 := h.1.1.2.2.1
            obtain ⟨M', d1, d2, d3⟩ := c_text0 (N := upM (upM M 2 α.1.1 (nI v)) 1 4 (nI (α.1.1 + 1))) h (ok.t0 (n := α.1.1 + 1) (by omega) (upb_lt (n := α.1.1) o2 hv)) (h.1.1.app (fun j hj => by rw [upM_m hj, upM_n (by omega)]) (by rw [upM_s]) (by rw [upM_n (by omega), upM_s]) (fun j hj => by rw [upM_n (by omega), upM_m hj])) (fun k h1 h2 => by rw [upM_n h1, upM_n h2])
            refine ⟨M', ?_, d2, d3⟩
            have e5 := d2.1.1.2.2.1
            unfold f_X5_type f_X5_textOf f_X3_append
            have e55 : Int32.ofNat 55 = nI 55 := rfl
            have l55 : ln 2 = 55 := rfl
            simp (disch := omega) only [li_0, li_1, li_2, li_3, li_4, li_5, li_6, li_7, li_8, li_9, li_10, li_11, li_12, li_14, li_15, li_16, li_18, li_20, li_22, li_23, li_24, li_29, li_30, li_31, li_32, li_33, li_40, li_48, li_54, li_55, li_56, li_57, li_59, li_60, li_63, li_64, li_97, li_98, li_99, li_100, li_103, li_107, li_108, li_112, li_121, li_206, li_212, li_232, li_240, li_255, li_256, li_261, li_270, ng_1, ng_2, ng_3, ng_4, ng_9, ng_10, m1_1, nI_m1, m1_nI, if_true, if_false, nI_add, pk_mul, pk_sub, nI_div, nI_rem, nI_eq, nI_leI, nI_ltI, nI_clamp, ck_in, ck_nz, bind_sm, upM_n, upM_m, upM_s, if_pos, if_neg, rf_1_0, below_in, e55, l55, e4, d1, e5]
          · have e4 := h.1.1
            refine ⟨upM (upM M 54 α.1.1 (nI v)) 55 0 (nI (α.1.1 + 1)), ?_, h.text (β := setT0 α (α.1.1 + 1) (upb α.1.2 α.1.1 v)) rfl ⟨?_, fun i hi => ?_⟩ ⟨?_, fun i hi => ?_⟩ (fun k h1 h2 => by rw [upM_n h2, upM_n h1]), fun k hk => by rw [upM_n (by omega), upM_n (by omega)]⟩
            · unfold f_X6_type f_X6_type_39
              rw [m_two_in (by omega), bind_sm, if_neg (c := nI 1 = 0) (by decide), iv, bind_sm, if_neg (c := nI 1 = 0) (by decide)]
              simp (disch := omega) only [li_0, li_1, li_2, li_3, li_4, li_5, li_6, li_7, li_8, li_9, li_10, li_11, li_12, li_14, li_15, li_16, li_18, li_20, li_22, li_23, li_24, li_29, li_30, li_31, li_32, li_33, li_40, li_48, li_54, li_55, li_56, li_57, li_59, li_60, li_63, li_64, li_97, li_98, li_99, li_100, li_103, li_107, li_108, li_112, li_121, li_206, li_212, li_232, li_240, li_255, li_256, li_261, li_270, ng_1, ng_2, ng_3, ng_4, ng_9, ng_10, m1_1, nI_m1, m1_nI, if_true, if_false, nI_add, pk_mul, pk_sub, nI_div, nI_rem, nI_eq, nI_leI, nI_ltI, nI_clamp, ck_in, ck_nz, bind_sm, upM_n, upM_m, upM_s, if_pos, if_neg, e4, Nat.mul_zero, Nat.zero_add]
            · rw [upM_s]
            · rw [upM_n (by omega)]
              show _ = nI (if i = α.1.1 then v else α.1.2 i)
              by_cases q2 : i = α.1.1
              · rw [q2, upM_s, if_pos rfl]
              · rw [upM_m q2, if_neg q2]; exact h.1.2 i (by have : i < α.1.1 + 1 := hi; omega)
            · rw [upM_m (by omega), upM_n (by omega)]; exact h.2.1.1
            · rw [upM_n (by omega), upM_m (by omega)]; exact h.2.1.2 i hi
        · refine St.same ok m4 (fun M h => ⟨M, ?_, h, Fr.rf⟩) (fun M h => ⟨M, ?_, h, Fr.rf⟩)
          · have e4 := h.1.1.2.2.1
            unfold f_X5_type f_X5_textOf f_X3_append
            have e55 : Int32.ofNat 55 = nI 55 := rfl
            have l55 : ln 2 = 55 := rfl
            have bo : f_X5_isBelow (nI α.1.1) (nI 55) = some (nI 0) := below_out (by omega) (by rintro ⟨i, hi, e⟩; have := (nI_eq (by omega) (by omega)).mp e; omega)
            simp (disch := omega) only [li_0, li_1, li_2, li_3, li_4, li_5, li_6, li_7, li_8, li_9, li_10, li_11, li_12, li_14, li_15, li_16, li_18, li_20, li_22, li_23, li_24, li_29, li_30, li_31, li_32, li_33, li_40, li_48, li_54, li_55, li_56, li_57, li_59, li_60, li_63, li_64, li_97, li_98, li_99, li_100, li_103, li_107, li_108, li_112, li_121, li_206, li_212, li_232, li_240, li_255, li_256, li_261, li_270, ng_1, ng_2, ng_3, ng_4, ng_9, ng_10, m1_1, nI_m1, m1_nI, if_true, if_false, nI_add, pk_mul, pk_sub, nI_div, nI_rem, nI_eq, nI_leI, nI_ltI, nI_clamp, ck_in, ck_nz, bind_sm, upM_n, upM_m, upM_s, if_pos, if_neg, rf_1_0, below_in, l55, e55, e4, bo]
          · have e4 := h.1.1
            unfold f_X6_type f_X6_type_39
            rw [m_two_in (by omega), bind_sm, if_neg (c := nI 1 = 0) (by decide), iv, bind_sm, if_neg (c := nI 1 = 0) (by decide)]
            simp (disch := omega) only [li_0, li_1, li_2, li_3, li_4, li_5, li_6, li_7, li_8, li_9, li_10, li_11, li_12, li_14, li_15, li_16, li_18, li_20, li_22, li_23, li_24, li_29, li_30, li_31, li_32, li_33, li_40, li_48, li_54, li_55, li_56, li_57, li_59, li_60, li_63, li_64, li_97, li_98, li_99, li_100, li_103, li_107, li_108, li_112, li_121, li_206, li_212, li_232, li_240, li_255, li_256, li_261, li_270, ng_1, ng_2, ng_3, ng_4, ng_9, ng_10, m1_1, nI_m1, m1_nI, if_true, if_false, nI_add, pk_mul, pk_sub, nI_div, nI_rem, nI_eq, nI_leI, nI_ltI, nI_clamp, ck_in, ck_nz, bind_sm, upM_n, upM_m, upM_s, if_pos, if_neg, e4]
      · by_cases q : α.2.1.1 < 23
        · refine ⟨nI (α.2.1.1 + 1), setT1 α (α.2.1.1 + 1) (upb α.2.1.2 α.2.1.1 v), ok.t1 (by omega) (upb_lt o4 hv), fun M h => ?_, fun M h => ?_⟩
          · have e4 := h.1.2.2.2.1
            obtain ⟨M', d1, d2, d3⟩ := c_text1 (N := upM (upM M 4 α.2.1.1 (nI v)) 3 4 (nI (α.2.1.1 + 1))) h (ok.t1 (n := α.2.1.1 + 1) (by omega) (upb_lt (n := α.2.1.1) o4 hv)) (h.1.2.app (fun j hj => by rw [upM_m hj, upM_n (by omega)]) (by rw [upM_s]) (by rw [upM_n (by omega), upM_s]) (fun j hj => by rw [upM_n (by omega), upM_m hj])) (fun k h1 h2 => by rw [upM_n h1, upM_n h2])
            refine ⟨M', ?_, d2, d3⟩
            have e5 := d2.1.2.2.2.1
            unfold f_X5_type f_X5_textOf f_X3_append
            have e55 : Int32.ofNat 23 = nI 23 := rfl
            have l55 : ln 4 = 23 := rfl
            simp (disch := omega) only [li_0, li_1, li_2, li_3, li_4, li_5, li_6, li_7, li_8, li_9, li_10, li_11, li_12, li_14, li_15, li_16, li_18, li_20, li_22, li_23, li_24, li_29, li_30, li_31, li_32, li_33, li_40, li_48, li_54, li_55, li_56, li_57, li_59, li_60, li_63, li_64, li_97, li_98, li_99, li_100, li_103, li_107, li_108, li_112, li_121, li_206, li_212, li_232, li_240, li_255, li_256, li_261, li_270, ng_1, ng_2, ng_3, ng_4, ng_9, ng_10, m1_1, nI_m1, m1_nI, if_true, if_false, nI_add, pk_mul, pk_sub, nI_div, nI_rem, nI_eq, nI_leI, nI_ltI, nI_clamp, ck_in, ck_nz, bind_sm, upM_n, upM_m, upM_s, if_pos, if_neg, rf_3_0, below_in, e55, l55, e4, d1, e5]
          · have e4 := h.2.1.1
            refine ⟨upM (upM M 54 (56 + α.2.1.1) (nI v)) 55 1 (nI (α.2.1.1 + 1)), ?_, h.text (β := setT1 α (α.2.1.1 + 1) (upb α.2.1.2 α.2.1.1 v)) rfl ⟨?_, fun i hi => ?_⟩ ⟨?_, fun i hi => ?_⟩ (fun k h1 h2 => by rw [upM_n h2, upM_n h1]), fun k hk => by rw [upM_n (by omega), upM_n (by omega)]⟩
            · unfold f_X6_type f_X6_type_39
              rw [m_two_in (by omega), bind_sm, if_neg (c := nI 1 = 0) (by decide), iv, bind_sm, if_neg (c := nI 1 = 0) (by decide)]
              simp (disch := omega) only [li_0, li_1, li_2, li_3, li_4, li_5, li_6, li_7, li_8, li_9, li_10, li_11, li_12, li_14, li_15, li_16, li_18, li_20, li_22, li_23, li_24, li_29, li_30, li_31, li_32, li_33, li_40, li_48, li_54, li_55, li_56, li_57, li_59, li_60, li_63, li_64, li_97, li_98, li_99, li_100, li_103, li_107, li_108, li_112, li_121, li_206, li_212, li_232, li_240, li_255, li_256, li_261, li_270, ng_1, ng_2, ng_3, ng_4, ng_9, ng_10, m1_1, nI_m1, m1_nI, if_true, if_false, nI_add, pk_mul, pk_sub, nI_div, nI_rem, nI_eq, nI_leI, nI_ltI, nI_clamp, ck_in, ck_nz, bind_sm, upM_n, upM_m, upM_s, if_pos, if_neg, e4, Nat.mul_one]
            · rw [upM_m (by omega), upM_n (by omega)]; exact h.1.1
            · have hi : i < α.1.1 := hi
              rw [upM_n (by omega), upM_m (by omega)]; exact h.1.2 i hi
            · rw [upM_s]
            · rw [upM_n (by omega)]
              show _ = nI (if i = α.2.1.1 then v else α.2.1.2 i)
              by_cases q2 : i = α.2.1.1
              · rw [q2, upM_s, if_pos rfl]
              · rw [upM_m (by omega), if_neg q2]; exact h.2.1.2 i (by have : i < α.2.1.1 + 1 := hi; omega)
        · refine St.same ok m4 (fun M h => ⟨M, ?_, h, Fr.rf⟩) (fun M h => ⟨M, ?_, h, Fr.rf⟩)
          · have e4 := h.1.2.2.2.1
            unfold f_X5_type f_X5_textOf f_X3_append
            have e55 : Int32.ofNat 23 = nI 23 := rfl
            have l55 : ln 4 = 23 := rfl
            have bo : f_X5_isBelow (nI α.2.1.1) (nI 23) = some (nI 0) := below_out (by omega) (by rintro ⟨i, hi, e⟩; have := (nI_eq (by omega) (by omega)).mp e; omega)
            simp (disch := omega) only [li_0, li_1, li_2, li_3, li_4, li_5, li_6, li_7, li_8, li_9, li_10, li_11, li_12, li_14, li_15, li_16, li_18, li_20, li_22, li_23, li_24, li_29, li_30, li_31, li_32, li_33, li_40, li_48, li_54, li_55, li_56, li_57, li_59, li_60, li_63, li_64, li_97, li_98, li_99, li_100, li_103, li_107, li_108, li_112, li_121, li_206, li_212, li_232, li_240, li_255, li_256, li_261, li_270, ng_1, ng_2, ng_3, ng_4, ng_9, ng_10, m1_1, nI_m1, m1_nI, if_true, if_false, nI_add, pk_mul, pk_sub, nI_div, nI_rem, nI_eq, nI_leI, nI_ltI, nI_clamp, ck_in, ck_nz, bind_sm, upM_n, upM_m, upM_s, if_pos, if_neg, rf_3_0, below_in, l55, e55, e4, bo]
          · have e4 := h.2.1.1
            unfold f_X6_type f_X6_type_39
            rw [m_two_in (by omega), bind_sm, if_neg (c := nI 1 = 0) (by decide), iv, bind_sm, if_neg (c := nI 1 = 0) (by decide)]
            simp (disch := omega) only [li_0, li_1, li_2, li_3, li_4, li_5, li_6, li_7, li_8, li_9, li_10, li_11, li_12, li_14, li_15, li_16, li_18, li_20, li_22, li_23, li_24, li_29, li_30, li_31, li_32, li_33, li_40, li_48, li_54, li_55, li_56, li_57, li_59, li_60, li_63, li_64, li_97, li_98, li_99, li_100, li_103, li_107, li_108, li_112, li_121, li_206, li_212, li_232, li_240, li_255, li_256, li_261, li_270, ng_1, ng_2, ng_3, ng_4, ng_9, ng_10, m1_1, nI_m1, m1_nI, if_true, if_false, nI_add, pk_mul, pk_sub, nI_div, nI_rem, nI_eq, nI_leI, nI_ltI, nI_clamp, ck_in, ck_nz, bind_sm, upM_n, upM_m, upM_s, if_pos, if_neg, e4]
    · obtain ⟨j, hj, rfl⟩ := r1
      refine St.same ok m2 (fun M h => ⟨M, ?_, h, Fr.rf⟩) (fun M h => ⟨M, ?_, h, Fr.rf⟩)
      · unfold f_X5_type
        simp (disch := omega) only [li_0, li_1, li_2, li_3, li_4, li_5, li_6, li_7, li_8, li_9, li_10, li_11, li_12, li_14, li_15, li_16, li_18, li_20, li_22, li_23, li_24, li_29, li_30, li_31, li_32, li_33, li_40, li_48, li_54, li_55, li_56, li_57, li_59, li_60, li_63, li_64, li_97, li_98, li_99, li_100, li_103, li_107, li_108, li_112, li_121, li_206, li_212, li_232, li_240, li_255, li_256, li_261, li_270, ng_1, ng_2, ng_3, ng_4, ng_9, ng_10, m1_1, nI_m1, m1_nI, if_true, if_false, nI_add, pk_mul, pk_sub, nI_div, nI_rem, nI_eq, nI_leI, nI_ltI, nI_clamp, ck_in, ck_nz, bind_sm, upM_n, upM_m, upM_s, if_pos, if_neg, below_in, below_out _ r2]
      · unfold f_X6_type
        rw [m_two_in hj, bind_sm, if_neg (c := nI 1 = 0) (by decide), (m_in_0 (x := x2) (n := 255) (z := 255) rfl (by omega)).2 r2, bind_sm, if_pos (c := nI 0 = 0) rfl]
        rfl
  · refine St.same ok m2 (fun M h => ⟨M, ?_, h, Fr.rf⟩) (fun M h => ⟨M, ?_, h, Fr.rf⟩)
    · unfold f_X5_type
      simp (disch := omega) only [li_0, li_1, li_2, li_3, li_4, li_5, li_6, li_7, li_8, li_9, li_10, li_11, li_12, li_14, li_15, li_16, li_18, li_20, li_22, li_23, li_24, li_29, li_30, li_31, li_32, li_33, li_40, li_48, li_54, li_55, li_56, li_57, li_59, li_60, li_63, li_64, li_97, li_98, li_99, li_100, li_103, li_107, li_108, li_112, li_121, li_206, li_212, li_232, li_240, li_255, li_256, li_261, li_270, ng_1, ng_2, ng_3, ng_4, ng_9, ng_10, m1_1, nI_m1, m1_nI, if_true, if_false, nI_add, pk_mul, pk_sub, nI_div, nI_rem, nI_eq, nI_leI, nI_ltI, nI_clamp, ck_in, ck_nz, bind_sm, upM_n, upM_m, upM_s, if_pos, if_neg, below_out _ r1]
    · unfold f_X6_type
      rw [m_two_out r1, bind_sm, if_pos (c := nI 0 = 0) rfl]
      rfl
