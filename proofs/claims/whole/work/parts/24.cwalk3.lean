-- THE CLASS'S WALK: learning, going
theorem wdn_s {u v : Nat → Nat} {n : Nat} : wdn u v (n + 1) = if (wdn u v n).2 < dist (u n) (v n) then (some n, dist (u n) (v n)) else wdn u v n := rfl
theorem wdn_lt {u v : Nat → Nat} (hu : ∀ s, u s < 10) (hv : ∀ s, v s < 10) : ∀ n, (wdn u v n).2 < 10 ∧ ∀ t, (wdn u v n).1 = some t → t < n := by
  intro n
  induction n with
  | zero => exact ⟨show (0 : Nat) < 10 by decide, fun t h => by cases h⟩
  | succ n ih =>
    rw [wdn_s]
    have := dist_lt (hu n) (hv n)
    split
    · exact ⟨this, fun t h => by cases h; omega⟩
    · exact ⟨ih.1, fun t h => by have := ih.2 t h; omega⟩
theorem c_learn43 {w c p d : Nat} {σ : SS} {M : Mem} {we : Nat → Nat} {mk sp : Nat → Nat → Nat} (hw : WI w c) (ok : OKS σ) (hp : p < nP σ) (hmk : ∀ a s, mk a s < 10) (hsp : ∀ p s, sp p s < 10) (hwp : we p < nA σ) (hk : ¬ (ki σ p = 2 ∧ d % 2 ≠ 0)) (hm : ∀ a s, a < nA σ → s < 5 → M (w + 1) (a * 5 + s) = nI (mk a s)) (hs : ∀ s, s < 5 → M (w + 2) (p * 5 + s) = nI (sp p s)) :
    ∃ M', f_X4_learn_43 w (nI p) (nI (we p)) (nI (ki σ p)) M = some M' ∧ (∀ s, s < 5 → M' (w + 2) (p * 5 + s) = nI (learnS σ d we mk sp p s)) ∧ (∀ q, (q < p * 5 ∨ p * 5 + 5 ≤ q) → M' (w + 2) q = M (w + 2) q) ∧ Fr (w + 2) (w + 3) M M' := by
  obtain ⟨⟨ok1, ok2, ok3⟩, ok4, ok5, ok6, ok7, ok8⟩ := ok
  obtain ⟨⟨w0, w2, w3, w4, w5⟩, -, hcw⟩ := hw
  have o6 := ok6 p
  unfold f_X4_learn_43
  by_cases q1 : ki σ p = 1
  · have lp : loop (fun s3 : Int32 × Int32 × Int32 × Mem => f_X4_learn_52_52b w (nI p) (nI (we p)) (nI (ki σ p)) s3.1 s3.2.1 s3.2.2.1 s3.2.2.2) (m1, nI 0, nI 0, M) = some (m1, nI 0, nI 5, filM M (w + 2) (p * 5) 5 (fun s => nI (tw (sp p s) (mk (we p) s) 1))) := by
      have := loop_for (B := fun s3 : Int32 × Int32 × Int32 × Mem => f_X4_learn_52_52b w (nI p) (nI (we p)) (nI (ki σ p)) s3.1 s3.2.1 s3.2.2.1 s3.2.2.2) (fun i => (m1, nI 0, nI i, filM M (w + 2) (p * 5) i (fun s => nI (tw (sp p s) (mk (we p) s) 1)))) 5 (e := (m1, nI 0, nI 5, filM M (w + 2) (p * 5) 5 (fun s => nI (tw (sp p s) (mk (we p) s) 1))))
        (by
          intro i hi
          dsimp only
          unfold f_X4_learn_52_52b f_X4_learn_141_52
          have e1 : filM M (w + 2) (p * 5) i (fun s => nI (tw (sp p s) (mk (we p) s) 1)) (w + 2) (p * 5 + i) = nI (sp p i) := by rw [filM_out (by omega)]; exact hs i hi
          have e2 : filM M (w + 2) (p * 5) i (fun s => nI (tw (sp p s) (mk (we p) s) 1)) (w + 1) (we p * 5 + i) = nI (mk (we p) i) := by rw [filM_n (by omega)]; exact hm _ i hwp hi
          simp (disch := omega) only [li_0, li_1, li_2, li_3, li_4, li_5, li_6, li_7, li_8, li_9, li_10, li_11, li_12, li_14, li_15, li_16, li_18, li_20, li_22, li_23, li_24, li_29, li_30, li_31, li_32, li_33, li_40, li_48, li_54, li_55, li_56, li_57, li_59, li_60, li_63, li_64, li_97, li_98, li_99, li_100, li_103, li_107, li_108, li_112, li_121, li_206, li_212, li_232, li_240, li_255, li_256, li_261, li_270, ng_1, ng_2, ng_3, ng_4, ng_9, ng_10, m1_1, nI_m1, m1_nI, if_true, if_false, nI_add, pk_mul, pk_sub, nI_div, nI_rem, nI_eq, nI_leI, nI_ltI, nI_clamp, ck_in, ck_nz, bind_sm, upM_n, upM_m, upM_s, if_pos, if_neg, w2, w3, q1, e1, e2, c_towards (hsp p i) (hmk (we p) i) (show 1 < 3 by omega)]
          rw [← filM_up])
        (by
          dsimp only
          unfold f_X4_learn_52_52b
          simp (disch := omega) only [li_0, li_1, li_2, li_3, li_4, li_5, li_6, li_7, li_8, li_9, li_10, li_11, li_12, li_14, li_15, li_16, li_18, li_20, li_22, li_23, li_24, li_29, li_30, li_31, li_32, li_33, li_40, li_48, li_54, li_55, li_56, li_57, li_59, li_60, li_63, li_64, li_97, li_98, li_99, li_100, li_103, li_107, li_108, li_112, li_121, li_206, li_212, li_232, li_240, li_255, li_256, li_261, li_270, ng_1, ng_2, ng_3, ng_4, ng_9, ng_10, m1_1, nI_m1, m1_nI, if_true, if_false, nI_add, pk_mul, pk_sub, nI_div, nI_rem, nI_eq, nI_leI, nI_ltI, nI_clamp, ck_in, ck_nz, bind_sm, upM_n, upM_m, upM_s, if_pos, if_neg])
      rw [filM_0] at this
      exact this
    simp (disch := omega) only [li_0, li_1, li_2, li_3, li_4, li_5, li_6, li_7, li_8, li_9, li_10, li_11, li_12, li_14, li_15, li_16, li_18, li_20, li_22, li_23, li_24, li_29, li_30, li_31, li_32, li_33, li_40, li_48, li_54, li_55, li_56, li_57, li_59, li_60, li_63, li_64, li_97, li_98, li_99, li_100, li_103, li_107, li_108, li_112, li_121, li_206, li_212, li_232, li_240, li_255, li_256, li_261, li_270, ng_1, ng_2, ng_3, ng_4, ng_9, ng_10, m1_1, nI_m1, m1_nI, if_true, if_false, nI_add, pk_mul, pk_sub, nI_div, nI_rem, nI_eq, nI_leI, nI_ltI, nI_clamp, ck_in, ck_nz, bind_sm, upM_n, upM_m, upM_s, if_pos, if_neg, lp]
    refine ⟨_, rfl, fun s h => ?_, fun q hq => ?_, fun k hk => ?_⟩
    · rw [filM_in (by omega) (by omega), Nat.add_sub_cancel_left]
      unfold learnS
      rw [if_pos ⟨hwp, hk, Or.inl q1⟩]
    · rw [filM_out (by omega)]
    · rw [filM_n (by omega)]
  · have wl := wdn_lt (hmk (we p)) (hsp p)
    have lp : loop (fun s3 : Int32 × Int32 × Int32 × Mem => f_X4_learn_52_52b w (nI p) (nI (we p)) (nI (ki σ p)) s3.1 s3.2.1 s3.2.2.1 s3.2.2.2) (m1, nI 0, nI 0, M) = some (oi (wdn (mk (we p)) (sp p) 5).1, nI (wdn (mk (we p)) (sp p) 5).2, nI 5, M) := by
      refine loop_for (B := fun s3 : Int32 × Int32 × Int32 × Mem => f_X4_learn_52_52b w (nI p) (nI (we p)) (nI (ki σ p)) s3.1 s3.2.1 s3.2.2.1 s3.2.2.2) (fun i => (oi (wdn (mk (we p)) (sp p) i).1, nI (wdn (mk (we p)) (sp p) i).2, nI i, M)) 5
        (by
          intro i hi
          dsimp only
          unfold f_X4_learn_52_52b f_X4_learn_141_52
          have e1 := hs i hi
          have e2 := hm (we p) i hwp hi
          have l1 := (wl i).1
          have l2 := dist_lt (hmk (we p) i) (hsp p i)
          rw [wdn_s]
          by_cases q2 : (wdn (mk (we p)) (sp p) i).2 < dist (mk (we p) i) (sp p i)
          · simp (disch := omega) only [li_0, li_1, li_2, li_3, li_4, li_5, li_6, li_7, li_8, li_9, li_10, li_11, li_12, li_14, li_15, li_16, li_18, li_20, li_22, li_23, li_24, li_29, li_30, li_31, li_32, li_33, li_40, li_48, li_54, li_55, li_56, li_57, li_59, li_60, li_63, li_64, li_97, li_98, li_99, li_100, li_103, li_107, li_108, li_112, li_121, li_206, li_212, li_232, li_240, li_255, li_256, li_261, li_270, ng_1, ng_2, ng_3, ng_4, ng_9, ng_10, m1_1, nI_m1, m1_nI, if_true, if_false, nI_add, pk_mul, pk_sub, nI_div, nI_rem, nI_eq, nI_leI, nI_ltI, nI_clamp, ck_in, ck_nz, bind_sm, upM_n, upM_m, upM_s, if_pos, if_neg, w2, w3, e1, e2, abs_nI _ _ (hmk (we p) i) (hsp p i), oi_s]
          · simp (disch := omega) only [li_0, li_1, li_2, li_3, li_4, li_5, li_6, li_7, li_8, li_9, li_10, li_11, li_12, li_14, li_15, li_16, li_18, li_20, li_22, li_23, li_24, li_29, li_30, li_31, li_32, li_33, li_40, li_48, li_54, li_55, li_56, li_57, li_59, li_60, li_63, li_64, li_97, li_98, li_99, li_100, li_103, li_107, li_108, li_112, li_121, li_206, li_212, li_232, li_240, li_255, li_256, li_261, li_270, ng_1, ng_2, ng_3, ng_4, ng_9, ng_10, m1_1, nI_m1, m1_nI, if_true, if_false, nI_add, pk_mul, pk_sub, nI_div, nI_rem, nI_eq, nI_leI, nI_ltI, nI_clamp, ck_in, ck_nz, bind_sm, upM_n, upM_m, upM_s, if_pos, if_neg, w2, w3, e1, e2, abs_nI _ _ (hmk (we p) i) (hsp p i)])
        (by
          dsimp only
          unfold f_X4_learn_52_52b
          simp (disch := omega) only [li_0, li_1, li_2, li_3, li_4, li_5, li_6, li_7, li_8, li_9, li_10, li_11, li_12, li_14, li_15, li_16, li_18, li_20, li_22, li_23, li_24, li_29, li_30, li_31, li_32, li_33, li_40, li_48, li_54, li_55, li_56, li_57, li_59, li_60, li_63, li_64, li_97, li_98, li_99, li_100, li_103, li_107, li_108, li_112, li_121, li_206, li_212, li_232, li_240, li_255, li_256, li_261, li_270, ng_1, ng_2, ng_3, ng_4, ng_9, ng_10, m1_1, nI_m1, m1_nI, if_true, if_false, nI_add, pk_mul, pk_sub, nI_div, nI_rem, nI_eq, nI_leI, nI_ltI, nI_clamp, ck_in, ck_nz, bind_sm, upM_n, upM_m, upM_s, if_pos, if_neg])
    simp (disch := omega) only [li_0, li_1, li_2, li_3, li_4, li_5, li_6, li_7, li_8, li_9, li_10, li_11, li_12, li_14, li_15, li_16, li_18, li_20, li_22, li_23, li_24, li_29, li_30, li_31, li_32, li_33, li_40, li_48, li_54, li_55, li_56, li_57, li_59, li_60, li_63, li_64, li_97, li_98, li_99, li_100, li_103, li_107, li_108, li_112, li_121, li_206, li_212, li_232, li_240, li_255, li_256, li_261, li_270, ng_1, ng_2, ng_3, ng_4, ng_9, ng_10, m1_1, nI_m1, m1_nI, if_true, if_false, nI_add, pk_mul, pk_sub, nI_div, nI_rem, nI_eq, nI_leI, nI_ltI, nI_clamp, ck_in, ck_nz, bind_sm, upM_n, upM_m, upM_s, if_pos, if_neg, lp]
    cases hwd : (wdn (mk (we p)) (sp p) 5).1 with
    | none =>
      simp (disch := omega) only [li_0, li_1, li_2, li_3, li_4, li_5, li_6, li_7, li_8, li_9, li_10, li_11, li_12, li_14, li_15, li_16, li_18, li_20, li_22, li_23, li_24, li_29, li_30, li_31, li_32, li_33, li_40, li_48, li_54, li_55, li_56, li_57, li_59, li_60, li_63, li_64, li_97, li_98, li_99, li_100, li_103, li_107, li_108, li_112, li_121, li_206, li_212, li_232, li_240, li_255, li_256, li_261, li_270, ng_1, ng_2, ng_3, ng_4, ng_9, ng_10, m1_1, nI_m1, m1_nI, if_true, if_false, nI_add, pk_mul, pk_sub, nI_div, nI_rem, nI_eq, nI_leI, nI_ltI, nI_clamp, ck_in, ck_nz, bind_sm, upM_n, upM_m, upM_s, if_pos, if_neg, oi_n]
      refine ⟨_, rfl, fun s h => ?_, fun q hq => rfl, Fr.rf⟩
      unfold learnS
      rw [if_neg, hs s h]
      rintro ⟨-, -, h1 | h1⟩
      · exact q1 h1
      · rw [hwd] at h1; cases h1
    | some t =>
      have ht := (wl 5).2 t hwd
      have e1 := hs t ht
      have e2 := hm (we p) t hwp ht
      simp (disch := omega) only [li_0, li_1, li_2, li_3, li_4, li_5, li_6, li_7, li_8, li_9, li_10, li_11, li_12, li_14, li_15, li_16, li_18, li_20, li_22, li_23, li_24, li_29, li_30, li_31, li_32, li_33, li_40, li_48, li_54, li_55, li_56, li_57, li_59, li_60, li_63, li_64, li_97, li_98, li_99, li_100, li_103, li_107, li_108, li_112, li_121, li_206, li_212, li_232, li_240, li_255, li_256, li_261, li_270, ng_1, ng_2, ng_3, ng_4, ng_9, ng_10, m1_1, nI_m1, m1_nI, if_true, if_false, nI_add, pk_mul, pk_sub, nI_div, nI_rem, nI_eq, nI_leI, nI_ltI, nI_clamp, ck_in, ck_nz, bind_sm, upM_n, upM_m, upM_s, if_pos, if_neg, oi_s, w2, w3, e1, e2, c_towards (hsp p t) (hmk (we p) t) (show 1 < 3 by omega)]
      refine ⟨_, rfl, fun s h => ?_, fun q hq => ?_, fun k hk => ?_⟩
      · unfold learnS
        by_cases q3 : s = t
        · subst q3
          rw [upM_s, if_pos ⟨hwp, hk, Or.inr hwd⟩]
        · rw [upM_m (by omega), if_neg, hs s h]
          rintro ⟨-, -, h1 | h1⟩
          · exact q1 h1
          · rw [hwd] at h1; cases h1; exact q3 rfl
      · rw [upM_m (by omega)]
      · rw [upM_n (by omega)]
theorem c_learn {w c p d : Nat} {σ : SS} {M : Mem} {we : Nat → Nat} {mk sp : Nat → Nat → Nat} (hw : WI w c) (ok : OKS σ) (hS : SR c σ M) (hd : M w 1 = nI d) (hd2 : d < 30) (hp : p < nP σ) (hmk : ∀ a s, mk a s < 10) (hsp : ∀ p s, sp p s < 10) (hwe : ∀ p, we p < 8) (hv : M (w + 3) p = nI (we p)) (hm : ∀ a s, a < nA σ → s < 5 → M (w + 1) (a * 5 + s) = nI (mk a s)) (hs : ∀ s, s < 5 → M (w + 2) (p * 5 + s) = nI (sp p s)) :
    ∃ M', f_X4_learn w (nI p) M = some M' ∧ (∀ s, s < 5 → M' (w + 2) (p * 5 + s) = nI (learnS σ d we mk sp p s)) ∧ (∀ q, (q < p * 5 ∨ p * 5 + 5 ≤ q) → M' (w + 2) q = M (w + 2) q) ∧ Fr (w + 2) (w + 3) M M' := by
  have l43 := fun h1 h2 => c_learn43 (d := d) (we := we) hw ok hp hmk hsp h1 h2 hm hs
  obtain ⟨⟨ok1, ok2, ok3⟩, ok4, ok5, ok6, ok7, ok8⟩ := ok
  obtain ⟨⟨w0, w2, w3, w4, w5⟩, ⟨s1, s2, s4, s5, s7, s8, s9⟩, hcw⟩ := hw
  obtain ⟨⟨a1, a2, a3⟩, a4, a5, a6, a7, a8⟩ := hS
  have o6 := ok6 p
  have owe := hwe p
  have e6 := a6 p hp
  have nop : ¬ (we p < nA σ ∧ ¬ (ki σ p = 2 ∧ d % 2 ≠ 0)) → (∀ s, s < 5 → M (w + 2) (p * 5 + s) = nI (learnS σ d we mk sp p s)) := by
    intro h s hs5
    unfold learnS
    rw [if_neg (fun r => h ⟨r.1, r.2.1⟩)]
    exact hs s hs5
  unfold f_X4_learn
  by_cases q1 : we p < nA σ
  · by_cases q2 : ki σ p = 2
    · by_cases q3 : d % 2 = 0
      · have := l43 q1 (by omega)
        simp (disch := omega) only [li_0, li_1, li_2, li_3, li_4, li_5, li_6, li_7, li_8, li_9, li_10, li_11, li_12, li_14, li_15, li_16, li_18, li_20, li_22, li_23, li_24, li_29, li_30, li_31, li_32, li_33, li_40, li_48, li_54, li_55, li_56, li_57, li_59, li_60, li_63, li_64, li_97, li_98, li_99, li_100, li_103, li_107, li_108, li_112, li_121, li_206, li_212, li_232, li_240, li_255, li_256, li_261, li_270, ng_1, ng_2, ng_3, ng_4, ng_9, ng_10, m1_1, nI_m1, m1_nI, if_true, if_false, nI_add, pk_mul, pk_sub, nI_div, nI_rem, nI_eq, nI_leI, nI_ltI, nI_clamp, ck_in, ck_nz, bind_sm, upM_n, upM_m, upM_s, if_pos, if_neg, w0, w4, s4, hv, e6, hd, c_hasA a1 (show nA σ < 100 by omega) (show we p < 100 by omega)]
        exact this
      · simp (disch := omega) only [li_0, li_1, li_2, li_3, li_4, li_5, li_6, li_7, li_8, li_9, li_10, li_11, li_12, li_14, li_15, li_16, li_18, li_20, li_22, li_23, li_24, li_29, li_30, li_31, li_32, li_33, li_40, li_48, li_54, li_55, li_56, li_57, li_59, li_60, li_63, li_64, li_97, li_98, li_99, li_100, li_103, li_107, li_108, li_112, li_121, li_206, li_212, li_232, li_240, li_255, li_256, li_261, li_270, ng_1, ng_2, ng_3, ng_4, ng_9, ng_10, m1_1, nI_m1, m1_nI, if_true, if_false, nI_add, pk_mul, pk_sub, nI_div, nI_rem, nI_eq, nI_leI, nI_ltI, nI_clamp, ck_in, ck_nz, bind_sm, upM_n, upM_m, upM_s, if_pos, if_neg, w0, w4, s4, hv, e6, hd, c_hasA a1 (show nA σ < 100 by omega) (show we p < 100 by omega)]
        exact ⟨_, rfl, nop (by omega), fun _ _ => rfl, Fr.rf⟩
    · have := l43 q1 (by omega)
      simp (disch := omega) only [li_0, li_1, li_2, li_3, li_4, li_5, li_6, li_7, li_8, li_9, li_10, li_11, li_12, li_14, li_15, li_16, li_18, li_20, li_22, li_23, li_24, li_29, li_30, li_31, li_32, li_33, li_40, li_48, li_54, li_55, li_56, li_57, li_59, li_60, li_63, li_64, li_97, li_98, li_99, li_100, li_103, li_107, li_108, li_112, li_121, li_206, li_212, li_232, li_240, li_255, li_256, li_261, li_270, ng_1, ng_2, ng_3, ng_4, ng_9, ng_10, m1_1, nI_m1, m1_nI, if_true, if_false, nI_add, pk_mul, pk_sub, nI_div, nI_rem, nI_eq, nI_leI, nI_ltI, nI_clamp, ck_in, ck_nz, bind_sm, upM_n, upM_m, upM_s, if_pos, if_neg, w0, w4, s4, hv, e6, hd, c_hasA a1 (show nA σ < 100 by omega) (show we p < 100 by omega)]
      exact this
  · simp (disch := omega) only [li_0, li_1, li_2, li_3, li_4, li_5, li_6, li_7, li_8, li_9, li_10, li_11, li_12, li_14, li_15, li_16, li_18, li_20, li_22, li_23, li_24, li_29, li_30, li_31, li_32, li_33, li_40, li_48, li_54, li_55, li_56, li_57, li_59, li_60, li_63, li_64, li_97, li_98, li_99, li_100, li_103, li_107, li_108, li_112, li_121, li_206, li_212, li_232, li_240, li_255, li_256, li_261, li_270, ng_1, ng_2, ng_3, ng_4, ng_9, ng_10, m1_1, nI_m1, m1_nI, if_true, if_false, nI_add, pk_mul, pk_sub, nI_div, nI_rem, nI_eq, nI_leI, nI_ltI, nI_clamp, ck_in, ck_nz, bind_sm, upM_n, upM_m, upM_s, if_pos, if_neg, w0, w4, s4, hv, e6, hd, c_hasA a1 (show nA σ < 100 by omega) (show we p < 100 by omega)]
    exact ⟨_, rfl, nop (by omega), fun _ _ => rfl, Fr.rf⟩
theorem c_learns {w c d : Nat} {σ : SS} {M : Mem} {x1 x2 : Int32} {we : Nat → Nat} {mk sp : Nat → Nat → Nat} (hw : WI w c) (ok : OKS σ) (hS : SR c σ M) (hd : M w 1 = nI d) (hd2 : d < 30) (hmk : ∀ a s, mk a s < 10) (hsp : ∀ p s, sp p s < 10) (hwe : ∀ p, we p < 8) (hv : ∀ p, p < nP σ → M (w + 3) p = nI (we p)) (hm : ∀ a s, a < nA σ → s < 5 → M (w + 1) (a * 5 + s) = nI (mk a s)) (hs : ∀ p s, p < nP σ → s < 5 → M (w + 2) (p * 5 + s) = nI (sp p s)) :
    ∃ M', f_X4_go_48_7 w x1 x2 M = some (.inl (x2 + nI 1, M')) ∧ (∀ p s, p < nP σ → s < 5 → M' (w + 2) (p * 5 + s) = nI (learnS σ d we mk sp p s)) ∧ Fr (w + 2) (w + 3) M M' := by
  have hw' := hw
  obtain ⟨⟨w0, w2, w3, w4, w5⟩, ⟨s1, s2, s4, s5, s7, s8, s9⟩, hcw⟩ := hw'
  have a2 := hS.1.2.1
  have ok2 := ok.1.2.1
  unfold f_X4_go_48_7
  obtain ⟨e, h1, h2⟩ := loop_inv (B := fun s4 : Int32 × Mem => f_X4_go_50_50b w x1 x2 s4.1 s4.2) (fun i q => q.1 = nI i ∧ Fr (w + 2) (w + 3) M q.2 ∧ ∀ p s, p < nP σ → s < 5 → q.2 (w + 2) (p * 5 + s) = nI (if p < i then learnS σ d we mk sp p s else sp p s))
    (fun e => Fr (w + 2) (w + 3) M e.2 ∧ ∀ p s, p < nP σ → s < 5 → e.2 (w + 2) (p * 5 + s) = nI (learnS σ d we mk sp p s)) (nP σ) (s := (nI 0, M))
    (by
      refine ⟨rfl, Fr.rf, fun p s hp h => ?_⟩
      rw [if_neg (by omega)]
      exact hs p s hp h)
    (by
      rintro i ⟨x, N⟩ hi ⟨rfl, hF, b1⟩
      dsimp only at hF b1 ⊢
      have e3 : N c 3 = nI (nP σ) := by rw [hF c (by omega)]; exact a2
      obtain ⟨N', g1, g2, g3, g4⟩ := c_learn (d := d) (p := i) (we := we) (mk := mk) (sp := sp) hw ok (hS.fr (M' := N) (fun k h1 h2 => hF k (by omega))) (by rw [hF w (by omega)]; exact hd) hd2 hi hmk hsp hwe (by rw [hF (w + 3) (by omega)]; exact hv i hi) (fun a s ha h => by rw [hF (w + 1) (by omega)]; exact hm a s ha h) (fun s h => by rw [b1 i s hi h, if_neg (by omega)])
      refine ⟨(nI (i + 1), N'), ?_, rfl, hF.tr g4, fun p s hp h => ?_⟩
      · unfold f_X4_go_50_50b
        simp (disch := omega) only [li_0, li_1, li_2, li_3, li_4, li_5, li_6, li_7, li_8, li_9, li_10, li_11, li_12, li_14, li_15, li_16, li_18, li_20, li_22, li_23, li_24, li_29, li_30, li_31, li_32, li_33, li_40, li_48, li_54, li_55, li_56, li_57, li_59, li_60, li_63, li_64, li_97, li_98, li_99, li_100, li_103, li_107, li_108, li_112, li_121, li_206, li_212, li_232, li_240, li_255, li_256, li_261, li_270, ng_1, ng_2, ng_3, ng_4, ng_9, ng_10, m1_1, nI_m1, m1_nI, if_true, if_false, nI_add, pk_mul, pk_sub, nI_div, nI_rem, nI_eq, nI_leI, nI_ltI, nI_clamp, ck_in, ck_nz, bind_sm, upM_n, upM_m, upM_s, if_pos, if_neg, w0, e3, g1]
      · dsimp only
        by_cases q1 : p = i
        · subst q1
          rw [g2 s h, if_pos (by omega)]
        · rw [g3 _ (by omega), b1 p s hp h]
          by_cases q2 : p < i
          · rw [if_pos q2, if_pos (by omega)]
          · rw [if_neg q2, if_neg (by omega)])
    (by
      rintro ⟨x, N⟩ ⟨rfl, hF, b1⟩
      dsimp only at hF b1 ⊢
      have e3 : N c 3 = nI (nP σ) := by rw [hF c (by omega)]; exact a2
      refine ⟨(nI (nP σ), N), ?_, hF, fun p s hp h => ?_⟩
      · unfold f_X4_go_50_50b
        simp (disch := omega) only [li_0, li_1, li_2, li_3, li_4, li_5, li_6, li_7, li_8, li_9, li_10, li_11, li_12, li_14, li_15, li_16, li_18, li_20, li_22, li_23, li_24, li_29, li_30, li_31, li_32, li_33, li_40, li_48, li_54, li_55, li_56, li_57, li_59, li_60, li_63, li_64, li_97, li_98, li_99, li_100, li_103, li_107, li_108, li_112, li_121, li_206, li_212, li_232, li_240, li_255, li_256, li_261, li_270, ng_1, ng_2, ng_3, ng_4, ng_9, ng_10, m1_1, nI_m1, m1_nI, if_true, if_false, nI_add, pk_mul, pk_sub, nI_div, nI_rem, nI_eq, nI_leI, nI_ltI, nI_clamp, ck_in, ck_nz, bind_sm, upM_n, upM_m, upM_s, if_pos, if_neg, w0, e3]
      · dsimp only
        rw [b1 p s hp h, if_pos hp])
  simp only [li_0, li_1, h1, bind_sm]
  exact ⟨e.2, rfl, h2.2, h2.1⟩
/-- one day -/
theorem c_day {w c d u : Nat} {σ : SS} {M : Mem} (hw : WI w c) (ok : OKS σ) (hS : SR c σ M) (hd : d < 30) (hu : u < 30) (hdu : d ≤ u) (h : WD w σ d M) : ∃ M', f_X4_go_7_7b w (nI u) (nI d) M = some (.inl (nI (d + 1), M')) ∧ WD w σ (d + 1) M' ∧ Fr w (w + 5) M M' := by
  have hw' := hw
  obtain ⟨⟨w0, w2, w3, w4, w5⟩, ⟨s1, s2, s4, s5, s7, s8, s9⟩, hcw⟩ := hw'
  obtain ⟨⟨r1, r2, r3⟩, r4, r5⟩ := h
  have okv := ok.wk d
  have okd := ok.wk (d + 1)
  have F0 : Fr w (w + 5) M (upM M w 1 (nI d)) := Fr.rf.up (by omega) (by omega)
  obtain ⟨M1, f1, p1, F1⟩ := c_doH (d := d) (we := (wk σ d).2.2) hw ok (hS.fr (M' := upM M w 1 (nI d)) (fun k h1 h2 => F0 k (by omega))) upM_s hd (fun p hp => by rw [upM_n (by omega)]; exact r3 p hp)
  have G1 := F0.tr (F1.wide (by omega) (by omega))
  obtain ⟨M2, f2, p2, F2⟩ := c_cntW (we := hireS σ d (wk σ d).2.2) hw ok (hS.fr (M' := M1) (fun k h1 h2 => G1 k (by omega))) okd.2.2 p1
  have G2 := G1.tr (F2.wide (by omega) (by omega))
  have v2 : ∀ p, p < nP σ → M2 (w + 3) p = nI (hireS σ d (wk σ d).2.2 p) := fun p hp => by rw [F2 (w + 3) (by omega)]; exact p1 p hp
  have d2 : M2 w 1 = nI d := by rw [F2 w (by omega), F1 w (by omega)]; exact upM_s
  have k2 : ∀ a s, a < nA σ → s < 5 → M2 (w + 1) (a * 5 + s) = nI ((wk σ d).1 a s) := fun a s ha h => by rw [F2 (w + 1) (by omega), F1 (w + 1) (by omega), upM_n (by omega)]; exact r1 a s ha h
  have t2 : ∀ p s, p < nP σ → s < 5 → M2 (w + 2) (p * 5 + s) = nI ((wk σ d).2.1 p s) := fun p s hp h => by rw [F2 (w + 2) (by omega), F1 (w + 2) (by omega), upM_n (by omega)]; exact r2 p s hp h
  -- behind the talk
  have talk : ∃ M3, (if d % 7 = 6 then Option.bind (f_X4_talk w (nI (d / 7)) M2) (fun r6 => f_X4_go_48_7 w (nI u) (nI d) r6) else f_X4_go_48_7 w (nI u) (nI d) M2) = f_X4_go_48_7 w (nI u) (nI d) M3 ∧ (∀ a s, a < nA σ → s < 5 → M3 (w + 1) (a * 5 + s) = nI (talkS σ d (hireS σ d (wk σ d).2.2) (wk σ d).1 a s)) ∧ Fr (w + 1) (w + 2) M2 M3 := by
    by_cases q : d % 7 = 6
    · obtain ⟨M3, f3, p3, F3⟩ := c_talk (t := d / 7) (we := hireS σ d (wk σ d).2.2) (mk := (wk σ d).1) hw ok (hS.fr (M' := M2) (fun k h1 h2 => G2 k (by omega))) (by omega) okv.1 p2 k2
      refine ⟨M3, ?_, fun a s ha h => ?_, F3⟩
      · simp (disch := omega) only [li_0, li_1, li_2, li_3, li_4, li_5, li_6, li_7, li_8, li_9, li_10, li_11, li_12, li_14, li_15, li_16, li_18, li_20, li_22, li_23, li_24, li_29, li_30, li_31, li_32, li_33, li_40, li_48, li_54, li_55, li_56, li_57, li_59, li_60, li_63, li_64, li_97, li_98, li_99, li_100, li_103, li_107, li_108, li_112, li_121, li_206, li_212, li_232, li_240, li_255, li_256, li_261, li_270, ng_1, ng_2, ng_3, ng_4, ng_9, ng_10, m1_1, nI_m1, m1_nI, if_true, if_false, nI_add, pk_mul, pk_sub, nI_div, nI_rem, nI_eq, nI_leI, nI_ltI, nI_clamp, ck_in, ck_nz, bind_sm, upM_n, upM_m, upM_s, if_pos, if_neg, f3]
      · rw [p3 a s ha h]
        unfold talkS
        by_cases q4 : s = d / 7 ∧ a + 1 < nA σ ∧ cnt (hireS σ d (wk σ d).2.2) a (nP σ) = 0 ∧ cnt (hireS σ d (wk σ d).2.2) (a + 1) (nP σ) = 0
        · rw [if_pos q4, if_pos ⟨⟨q, q4.1⟩, q4.2⟩]
        · rw [if_neg q4, if_neg (fun r => q4 ⟨r.1.2, r.2⟩)]
    · refine ⟨M2, ?_, fun a s ha h => ?_, Fr.rf⟩
      · simp (disch := omega) only [li_0, li_1, li_2, li_3, li_4, li_5, li_6, li_7, li_8, li_9, li_10, li_11, li_12, li_14, li_15, li_16, li_18, li_20, li_22, li_23, li_24, li_29, li_30, li_31, li_32, li_33, li_40, li_48, li_54, li_55, li_56, li_57, li_59, li_60, li_63, li_64, li_97, li_98, li_99, li_100, li_103, li_107, li_108, li_112, li_121, li_206, li_212, li_232, li_240, li_255, li_256, li_261, li_270, ng_1, ng_2, ng_3, ng_4, ng_9, ng_10, m1_1, nI_m1, m1_nI, if_true, if_false, nI_add, pk_mul, pk_sub, nI_div, nI_rem, nI_eq, nI_leI, nI_ltI, nI_clamp, ck_in, ck_nz, bind_sm, upM_n, upM_m, upM_s, if_pos, if_neg]
      · rw [k2 a s ha h]
        unfold talkS
        rw [if_neg (fun r => q r.1.1)]
  obtain ⟨M3, f3, p3, F3⟩ := talk
  have G3 := G2.tr (F3.wide (by omega) (by omega))
  obtain ⟨M4, f4, p4, F4⟩ := c_learns (x1 := nI u) (x2 := nI d) (d := d) (we := hireS σ d (wk σ d).2.2) (mk := talkS σ d (hireS σ d (wk σ d).2.2) (wk σ d).1) (sp := (wk σ d).2.1) hw ok (hS.fr (M' := M3) (fun k h1 h2 => G3 k (by omega))) (by rw [F3 w (by omega)]; exact d2) hd okd.1 okv.2.1 okd.2.2 (fun p hp => by rw [F3 (w + 3) (by omega)]; exact v2 p hp) p3 (fun p s hp h => by rw [F3 (w + 2) (by omega)]; exact t2 p s hp h)
  refine ⟨M4, ?_, ⟨⟨fun a s ha h => ?_, p4, fun p hp => ?_⟩, ?_, fun _ a ha => ?_⟩, G3.tr (F4.wide (by omega) (by omega))⟩
  · unfold f_X4_go_7_7b
    simp (disch := omega) only [li_0, li_1, li_2, li_3, li_4, li_5, li_6, li_7, li_8, li_9, li_10, li_11, li_12, li_14, li_15, li_16, li_18, li_20, li_22, li_23, li_24, li_29, li_30, li_31, li_32, li_33, li_40, li_48, li_54, li_55, li_56, li_57, li_59, li_60, li_63, li_64, li_97, li_98, li_99, li_100, li_103, li_107, li_108, li_112, li_121, li_206, li_212, li_232, li_240, li_255, li_256, li_261, li_270, ng_1, ng_2, ng_3, ng_4, ng_9, ng_10, m1_1, nI_m1, m1_nI, if_true, if_false, nI_add, pk_mul, pk_sub, nI_div, nI_rem, nI_eq, nI_leI, nI_ltI, nI_clamp, ck_in, ck_nz, bind_sm, upM_n, upM_m, upM_s, if_pos, if_neg, w0, f1, f2]
    rw [f3, f4]
    simp only [li_0, li_1, li_2, li_3, li_4, li_5, li_6, li_7, li_8, li_9, li_10, li_11, li_12, li_14, li_15, li_16, li_18, li_20, li_22, li_23, li_24, li_29, li_30, li_31, li_32, li_33, li_40, li_48, li_54, li_55, li_56, li_57, li_59, li_60, li_63, li_64, li_97, li_98, li_99, li_100, li_103, li_107, li_108, li_112, li_121, li_206, li_212, li_232, li_240, li_255, li_256, li_261, li_270, ng_1, ng_2, ng_3, ng_4, ng_9, ng_10, m1_1, nI_m1, m1_nI, if_true, if_false, nI_add, pk_mul, pk_sub, nI_div, nI_rem, nI_eq, nI_leI, nI_ltI, nI_clamp, ck_in, ck_nz, bind_sm, upM_n, upM_m, upM_s, if_pos, if_neg]
  · rw [F4 (w + 1) (by omega)]; exact p3 a s ha h
  · rw [F4 (w + 3) (by omega), F3 (w + 3) (by omega)]; exact v2 p hp
  · rw [F4 w (by omega), F3 w (by omega), d2, nI_add]
  · rw [F4 (w + 4) (by omega), F3 (w + 4) (by omega)]; exact p2 a ha
theorem c_go {w c n u : Nat} {σ : SS} {M : Mem} (hw : WI w c) (ok : OKS σ) (hS : SR c σ M) (hu : u < 30) (hn : n ≤ u + 1) (h : WD w σ n M) : ∃ M', f_X4_go w (nI u) M = some M' ∧ WD w σ (u + 1) M' ∧ Fr w (w + 5) M M' := by
  have hcw := hw.2.2
  unfold f_X4_go
  rw [li_1, h.2.1]
  obtain ⟨e, h1, h2⟩ := loop_inv (B := fun s7 : Int32 × Mem => f_X4_go_7_7b w (nI u) s7.1 s7.2) (fun i q => q.1 = nI (n + i) ∧ Fr w (w + 5) M q.2 ∧ WD w σ (n + i) q.2)
    (fun e => Fr w (w + 5) M e.2 ∧ WD w σ (u + 1) e.2) (u + 1 - n) (s := (nI n, M))
    (by exact ⟨rfl, Fr.rf, h⟩)
    (by
      rintro i ⟨x, N⟩ hi ⟨rfl, hF, b1⟩
      dsimp only at hF b1 ⊢
      obtain ⟨N', g1, g2, g3⟩ := c_day (d := n + i) (u := u) hw ok (hS.fr (M' := N) (fun k h1 h2 => hF k (by omega))) (by omega) hu (by omega) b1
      exact ⟨(nI (n + i + 1), N'), g1, rfl, hF.tr g3, g2⟩)
    (by
      rintro ⟨x, N⟩ ⟨rfl, hF, b1⟩
      dsimp only at hF b1 ⊢
      have e : n + (u + 1 - n) = u + 1 := by omega
      rw [e] at b1 ⊢
      refine ⟨(nI (u + 1), N), ?_, hF, b1⟩
      unfold f_X4_go_7_7b
      simp (disch := omega) only [li_0, li_1, li_2, li_3, li_4, li_5, li_6, li_7, li_8, li_9, li_10, li_11, li_12, li_14, li_15, li_16, li_18, li_20, li_22, li_23, li_24, li_29, li_30, li_31, li_32, li_33, li_40, li_48, li_54, li_55, li_56, li_57, li_59, li_60, li_63, li_64, li_97, li_98, li_99, li_100, li_103, li_107, li_108, li_112, li_121, li_206, li_212, li_232, li_240, li_255, li_256, li_261, li_270, ng_1, ng_2, ng_3, ng_4, ng_9, ng_10, m1_1, nI_m1, m1_nI, if_true, if_false, nI_add, pk_mul, pk_sub, nI_div, nI_rem, nI_eq, nI_leI, nI_ltI, nI_clamp, ck_in, ck_nz, bind_sm, upM_n, upM_m, upM_s, if_pos, if_neg])
  rw [h1]
  exact ⟨e.2, rfl, h2.2, h2.1⟩
