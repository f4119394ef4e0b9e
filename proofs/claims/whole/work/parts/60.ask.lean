-- WHAT WAS HEARD: the reference's whose; the next day to listen
def tkO (α : AS) (k v d : Nat) : Option Nat := tk (setO (sA α) k v) (wk (setO (sA α) k v) (d + 1)) k
theorem m_whoseIn {k v : Nat} {N : Mem} {x2 x3 : Int32} (hk : k < 8) (hv : v < 8) : loop (fun s2 : Int32 × Mem => f_X6_whoseOf_56_56b (nI k) x2 x3 (nI v) s2.1 s2.2) (nI 0, N) = some (nI 30, filM N 69 (30 * v) 30 (fun d => N 65 (8 * d + k))) := by
  have := loop_for (B := fun s2 : Int32 × Mem => f_X6_whoseOf_56_56b (nI k) x2 x3 (nI v) s2.1 s2.2) (fun j => (nI j, filM N 69 (30 * v) j (fun d => N 65 (8 * d + k)))) 30 (e := (nI 30, filM N 69 (30 * v) 30 (fun d => N 65 (8 * d + k))))
    (by
      intro j hj
      dsimp only
      unfold f_X6_whoseOf_56_56b
      simp (disch := omega) only [li_0, li_1, li_2, li_3, li_4, li_5, li_6, li_7, li_8, li_9, li_10, li_11, li_12, li_14, li_15, li_16, li_18, li_20, li_22, li_23, li_24, li_29, li_30, li_31, li_32, li_33, li_40, li_48, li_54, li_55, li_56, li_57, li_59, li_60, li_63, li_64, li_97, li_98, li_99, li_100, li_103, li_107, li_108, li_112, li_121, li_206, li_212, li_232, li_240, li_255, li_256, li_261, li_270, ng_1, ng_2, ng_3, ng_4, ng_9, ng_10, m1_1, nI_m1, m1_nI, if_true, if_false, nI_add, pk_mul, pk_sub, nI_div, nI_rem, nI_eq, nI_leI, nI_ltI, nI_clamp, ck_in, ck_nz, bind_sm, upM_n, upM_m, upM_s, if_pos, if_neg, filM_n]
      rw [← filM_up])
    (by
      dsimp only
      unfold f_X6_whoseOf_56_56b
      simp (disch := omega) only [li_0, li_1, li_2, li_3, li_4, li_5, li_6, li_7, li_8, li_9, li_10, li_11, li_12, li_14, li_15, li_16, li_18, li_20, li_22, li_23, li_24, li_29, li_30, li_31, li_32, li_33, li_40, li_48, li_54, li_55, li_56, li_57, li_59, li_60, li_63, li_64, li_97, li_98, li_99, li_100, li_103, li_107, li_108, li_112, li_121, li_206, li_212, li_232, li_240, li_255, li_256, li_261, li_270, ng_1, ng_2, ng_3, ng_4, ng_9, ng_10, m1_1, nI_m1, m1_nI, if_true, if_false, nI_add, pk_mul, pk_sub, nI_div, nI_rem, nI_eq, nI_leI, nI_ltI, nI_clamp, ck_in, ck_nz, bind_sm, upM_n, upM_m, upM_s, if_pos, if_neg])
  rw [filM_0] at this
  exact this
theorem m_whoseOf {α : AS} {M : Mem} {k : Nat} (ok : OKA α) (h : MJ α M) (hk : k < nP (sA α)) : ∃ M', f_X6_whoseOf (nI k) M = some (nI (whoseV α k), M') ∧ MJ α M' ∧ Fr 49 71 M M' ∧ ∀ v d, v < 8 → d < 30 → M' 69 (30 * v + d) = oi (tkO α k v d) := by
  have ok2 := ok.s.1.2.1
  unfold f_X6_whoseOf whoseV
  obtain ⟨e, l1, l2, l3, l4, l5⟩ := loop_inv (B := fun s4 : Int32 × Int32 × Mem => f_X6_whoseOf_16_16b (nI k) (M 57 (2 * k + 1)) s4.1 s4.2.1 s4.2.2) (fun i q => q.1 = nI (bitsOf (fun v => hears α (setO (sA α) k v)) i) ∧ q.2.1 = nI i ∧ (∀ j, j ≠ 2 * k + 1 → q.2.2 57 j = M 57 j) ∧ (∀ k, k ≠ 57 → (k < 59 ∨ k = 68 ∨ 70 ≤ k) → q.2.2 k = M k) ∧ ∀ v d, v < i → d < 30 → q.2.2 69 (30 * v + d) = oi (tkO α k v d))
    (fun q => q.1 = nI (bitsOf (fun v => hears α (setO (sA α) k v)) 8) ∧ (∀ j, j ≠ 2 * k + 1 → q.2.2 57 j = M 57 j) ∧ (∀ k, k ≠ 57 → (k < 59 ∨ k = 68 ∨ 70 ≤ k) → q.2.2 k = M k) ∧ ∀ v d, v < 8 → d < 30 → q.2.2 69 (30 * v + d) = oi (tkO α k v d)) 8 (s := (nI 0, nI 0, M))
    (by exact ⟨rfl, rfl, fun _ _ => rfl, fun _ _ _ => rfl, fun _ _ h => by omega⟩)
    (by
      rintro i ⟨x, y, N⟩ hi ⟨hx, hy, c1, c3, c5⟩
      dsimp only at hx hy c1 c3 c5 ⊢
      subst hx hy
      have eqU : ∀ j, upM N 57 (2 * k + 1) (nI i) 57 j = upM M 57 (2 * k + 1) (nI i) 57 j := fun j => by
        by_cases q : j = 2 * k + 1
        · subst q; rw [upM_s, upM_s]
        · rw [upM_m q, upM_m q]; exact c1 j q
      have hS : MS (setO (sA α) k i) (upM N 57 (2 * k + 1) (nI i)) := (MS_setO (k := k) (v := i) h.2).fr (by rw [upM_n (by omega), upM_n (by omega)]; exact c3 49 (by omega) (by omega)) (by rw [upM_n (by omega), upM_n (by omega)]; exact c3 56 (by omega) (by omega)) (funext eqU)
      have hH : MH (hlA α) 0 none (upM N 57 (2 * k + 1) (nI i)) := h.1.2.2.1.fr (by rw [upM_n (by omega)]; exact c3 49 (by omega) (by omega)) (by rw [upM_n (by omega)]; exact c3 58 (by omega) (by omega))
      obtain ⟨N', d1, d2, d3⟩ := m_isHeard ok (setO_ok (k := k) ok.s hi) hS hH ok.h Eff_0 (by rw [upM_n (by omega), c3 49 (by omega) (by omega)]; exact h.1.2.2.2.1.1) (by rw [upM_n (by omega), c3 68 (by omega) (by omega)]; exact h.1.2.2.2.1.2)
      have tks : ∀ d, d < 30 → N' 65 (8 * d + k) = oi (tkO α k i d) := fun d hd => ((d2.2.1 d hd).2.2 k hk).2.1
      have keep : (∀ j, j ≠ 2 * k + 1 → filM N' 69 (30 * i) 30 (fun d => N' 65 (8 * d + k)) 57 j = M 57 j) ∧ (∀ j, j ≠ 57 → (j < 59 ∨ j = 68 ∨ 70 ≤ j) → filM N' 69 (30 * i) 30 (fun d => N' 65 (8 * d + k)) j = M j) ∧ ∀ v d, v < i + 1 → d < 30 → filM N' 69 (30 * i) 30 (fun d => N' 65 (8 * d + k)) 69 (30 * v + d) = oi (tkO α k v d) := by
        refine ⟨fun j hj => ?_, fun k h1 h2 => ?_, fun v d hv hd => ?_⟩
        · rw [filM_n (by omega), d3 57 (by omega), upM_m hj]; exact c1 j hj
        · rw [filM_n (by omega), d3 k (by omega), upM_n h1]; exact c3 k h1 h2
        · by_cases q : v = i
          · subst q
            rw [filM_in (by omega) (by omega), show 30 * v + d - 30 * v = d by omega]
            exact tks d hd
          · rw [filM_out (by omega), d3 69 (by omega), upM_n (by omega)]
            exact c5 v d (by omega) hd
      unfold f_X6_whoseOf_16_16b f_X6_whoseOf_51_16
      refine ⟨(nI (bitsOf (fun v => hears α (setO (sA α) k v)) (i + 1)), nI (i + 1), filM N' 69 (30 * i) 30 (fun d => N' 65 (8 * d + k))), ?_, rfl, rfl, keep⟩
      have inn := fun x2 x3 => m_whoseIn (N := N') (x2 := x2) (x3 := x3) (show k < 8 by omega) hi
      by_cases q : hears α (setO (sA α) k i)
      · rw [bb_t q] at d1
        rw [bitsOf_t (P := fun v => hears α (setO (sA α) k v)) q, ← nI_or2 (bitsOf_lt i) (by omega)]
        simp (disch := omega) only [li_0, li_1, li_2, li_3, li_4, li_5, li_6, li_7, li_8, li_9, li_10, li_11, li_12, li_14, li_15, li_16, li_18, li_20, li_22, li_23, li_24, li_29, li_30, li_31, li_32, li_33, li_40, li_48, li_54, li_55, li_56, li_57, li_59, li_60, li_63, li_64, li_97, li_98, li_99, li_100, li_103, li_107, li_108, li_112, li_121, li_206, li_212, li_232, li_240, li_255, li_256, li_261, li_270, ng_1, ng_2, ng_3, ng_4, ng_9, ng_10, m1_1, nI_m1, m1_nI, if_true, if_false, nI_add, pk_mul, pk_sub, nI_div, nI_rem, nI_eq, nI_leI, nI_ltI, nI_clamp, ck_in, ck_nz, bind_sm, upM_n, upM_m, upM_s, if_pos, if_neg, d1, inn]
      · rw [bb_f q] at d1
        rw [bitsOf_f (P := fun v => hears α (setO (sA α) k v)) q]
        simp (disch := omega) only [li_0, li_1, li_2, li_3, li_4, li_5, li_6, li_7, li_8, li_9, li_10, li_11, li_12, li_14, li_15, li_16, li_18, li_20, li_22, li_23, li_24, li_29, li_30, li_31, li_32, li_33, li_40, li_48, li_54, li_55, li_56, li_57, li_59, li_60, li_63, li_64, li_97, li_98, li_99, li_100, li_103, li_107, li_108, li_112, li_121, li_206, li_212, li_232, li_240, li_255, li_256, li_261, li_270, ng_1, ng_2, ng_3, ng_4, ng_9, ng_10, m1_1, nI_m1, m1_nI, if_true, if_false, nI_add, pk_mul, pk_sub, nI_div, nI_rem, nI_eq, nI_leI, nI_ltI, nI_clamp, ck_in, ck_nz, bind_sm, upM_n, upM_m, upM_s, if_pos, if_neg, d1, inn]
        rw [or_0])
    (by
      rintro ⟨x, y, N⟩ ⟨hx, hy, c1, c3, c5⟩
      dsimp only at hx hy c1 c3 c5 ⊢
      subst hy
      refine ⟨(x, nI 8, N), ?_, hx, c1, c3, c5⟩
      unfold f_X6_whoseOf_16_16b
      simp (disch := omega) only [li_0, li_1, li_2, li_3, li_4, li_5, li_6, li_7, li_8, li_9, li_10, li_11, li_12, li_14, li_15, li_16, li_18, li_20, li_22, li_23, li_24, li_29, li_30, li_31, li_32, li_33, li_40, li_48, li_54, li_55, li_56, li_57, li_59, li_60, li_63, li_64, li_97, li_98, li_99, li_100, li_103, li_107, li_108, li_112, li_121, li_206, li_212, li_232, li_240, li_255, li_256, li_261, li_270, ng_1, ng_2, ng_3, ng_4, ng_9, ng_10, m1_1, nI_m1, m1_nI, if_true, if_false, nI_add, pk_mul, pk_sub, nI_div, nI_rem, nI_eq, nI_leI, nI_ltI, nI_clamp, ck_in, ck_nz, bind_sm, upM_n, upM_m, upM_s, if_pos, if_neg])
  have e57 : upM e.2.2 57 (2 * k + 1) (M 57 (2 * k + 1)) 57 = M 57 := by
    funext j
    by_cases q : j = 2 * k + 1
    · subst q; rw [upM_s]
    · rw [upM_m q]; exact l3 j q
  refine ⟨upM e.2.2 57 (2 * k + 1) (M 57 (2 * k + 1)), ?_, h.back3 (fun j hj => ?_), fun j hj => ?_, fun v d hv hd => ?_⟩
  · simp (disch := omega) only [li_0, li_1, li_2, li_3, li_4, li_5, li_6, li_7, li_8, li_9, li_10, li_11, li_12, li_14, li_15, li_16, li_18, li_20, li_22, li_23, li_24, li_29, li_30, li_31, li_32, li_33, li_40, li_48, li_54, li_55, li_56, li_57, li_59, li_60, li_63, li_64, li_97, li_98, li_99, li_100, li_103, li_107, li_108, li_112, li_121, li_206, li_212, li_232, li_240, li_255, li_256, li_261, li_270, ng_1, ng_2, ng_3, ng_4, ng_9, ng_10, m1_1, nI_m1, m1_nI, if_true, if_false, nI_add, pk_mul, pk_sub, nI_div, nI_rem, nI_eq, nI_leI, nI_ltI, nI_clamp, ck_in, ck_nz, bind_sm, upM_n, upM_m, upM_s, if_pos, if_neg, l1, l2]
  · by_cases q : j = 57
    · subst q; exact e57
    · rw [upM_n q]; exact l4 j q (by omega)
  · rw [upM_n (by omega)]; exact l4 j (by omega) (by omega)
  · rw [upM_n (by omega)]; exact l5 v d hv hd
theorem m_was {α : AS} {M : Mem} (ok : OKA α) (h : MI α M) : (∀ k w, k < nP (sA α) → w < 2 → ∃ M', f_X6_was (nI k) (nI w) M = some (nI (if w = 0 then whoseV α k else sortV α k), M') ∧ MJ α M' ∧ Fr 49 71 M M') ∧ ∀ x1 x2, ¬ (In x1 (nP (sA α)) ∧ In x2 2) → ∃ M', f_X6_was x1 x2 M = some (m2, M') ∧ MJ α M' ∧ Fr 49 71 M M' := by
  obtain ⟨M1, g1, g2, g3⟩ := m_find ok h
  have ok2 := ok.s.1.2.1
  have e9 := g2.2.1.1.2
  have mj : MJ α M1 := ⟨g2.1, g2.2.1⟩
  refine ⟨fun k w hk hw => ?_, fun x1 x2 hx => ⟨M1, ?_, mj, g3⟩⟩
  · have e1 := m_isP (i := k) e9 (show nP (sA α) < 100 by omega) (show k < 100 by omega)
    unfold f_X6_was f_X6_wasOf
    by_cases q : w = 0
    · obtain ⟨M', a1, a2, a3, -⟩ := m_whoseOf ok mj hk
      refine ⟨M', ?_, a2, g3.tr a3⟩
      simp (disch := omega) only [li_0, li_1, li_2, li_3, li_4, li_5, li_6, li_7, li_8, li_9, li_10, li_11, li_12, li_14, li_15, li_16, li_18, li_20, li_22, li_23, li_24, li_29, li_30, li_31, li_32, li_33, li_40, li_48, li_54, li_55, li_56, li_57, li_59, li_60, li_63, li_64, li_97, li_98, li_99, li_100, li_103, li_107, li_108, li_112, li_121, li_206, li_212, li_232, li_240, li_255, li_256, li_261, li_270, ng_1, ng_2, ng_3, ng_4, ng_9, ng_10, m1_1, nI_m1, m1_nI, if_true, if_false, nI_add, pk_mul, pk_sub, nI_div, nI_rem, nI_eq, nI_leI, nI_ltI, nI_clamp, ck_in, ck_nz, bind_sm, upM_n, upM_m, upM_s, if_pos, if_neg, g1, e1, m_two_in, a1]
    · obtain ⟨M', a1, a2, a3⟩ := m_sortOf ok mj hk
      refine ⟨M', ?_, a2, g3.tr a3⟩
      simp (disch := omega) only [li_0, li_1, li_2, li_3, li_4, li_5, li_6, li_7, li_8, li_9, li_10, li_11, li_12, li_14, li_15, li_16, li_18, li_20, li_22, li_23, li_24, li_29, li_30, li_31, li_32, li_33, li_40, li_48, li_54, li_55, li_56, li_57, li_59, li_60, li_63, li_64, li_97, li_98, li_99, li_100, li_103, li_107, li_108, li_112, li_121, li_206, li_212, li_232, li_240, li_255, li_256, li_261, li_270, ng_1, ng_2, ng_3, ng_4, ng_9, ng_10, m1_1, nI_m1, m1_nI, if_true, if_false, nI_add, pk_mul, pk_sub, nI_div, nI_rem, nI_eq, nI_leI, nI_ltI, nI_clamp, ck_in, ck_nz, bind_sm, upM_n, upM_m, upM_s, if_pos, if_neg, g1, e1, m_two_in, a1]
  · unfold f_X6_was
    by_cases q1 : In x1 (nP (sA α))
    · obtain ⟨k, hk, rfl⟩ := q1
      have e1 := m_isP (i := k) e9 (show nP (sA α) < 100 by omega) (show k < 100 by omega)
      have q2 : ¬ In x2 2 := fun r => hx ⟨⟨k, hk, rfl⟩, r⟩
      simp (disch := omega) only [li_0, li_1, li_2, li_3, li_4, li_5, li_6, li_7, li_8, li_9, li_10, li_11, li_12, li_14, li_15, li_16, li_18, li_20, li_22, li_23, li_24, li_29, li_30, li_31, li_32, li_33, li_40, li_48, li_54, li_55, li_56, li_57, li_59, li_60, li_63, li_64, li_97, li_98, li_99, li_100, li_103, li_107, li_108, li_112, li_121, li_206, li_212, li_232, li_240, li_255, li_256, li_261, li_270, ng_1, ng_2, ng_3, ng_4, ng_9, ng_10, m1_1, nI_m1, m1_nI, if_true, if_false, nI_add, pk_mul, pk_sub, nI_div, nI_rem, nI_eq, nI_leI, nI_ltI, nI_clamp, ck_in, ck_nz, bind_sm, upM_n, upM_m, upM_s, if_pos, if_neg, g1, e1, m_two_out q2]
    · simp (disch := omega) only [li_0, li_1, li_2, li_3, li_4, li_5, li_6, li_7, li_8, li_9, li_10, li_11, li_12, li_14, li_15, li_16, li_18, li_20, li_22, li_23, li_24, li_29, li_30, li_31, li_32, li_33, li_40, li_48, li_54, li_55, li_56, li_57, li_59, li_60, li_63, li_64, li_97, li_98, li_99, li_100, li_103, li_107, li_108, li_112, li_121, li_206, li_212, li_232, li_240, li_255, li_256, li_261, li_270, ng_1, ng_2, ng_3, ng_4, ng_9, ng_10, m1_1, nI_m1, m1_nI, if_true, if_false, nI_add, pk_mul, pk_sub, nI_div, nI_rem, nI_eq, nI_leI, nI_ltI, nI_clamp, ck_in, ck_nz, bind_sm, upM_n, upM_m, upM_s, if_pos, if_neg, g1, isP_out e9 (show nP (sA α) < 100 by omega) q1]
