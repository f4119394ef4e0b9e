-- THE CLASS'S SETTING: some hirings kept, two drawers changed
def keepI {α : Type} (f : Nat → Bool) : List α → Nat → List α
  | [], _ => []
  | x :: xs, i => if f i = true then x :: keepI f xs (i + 1) else keepI f xs (i + 1)
theorem keepI_app {α : Type} {f : Nat → Bool} {x : α} : ∀ (l : List α) (i : Nat), keepI f (l ++ [x]) i = keepI f l i ++ (if f (i + l.length) = true then [x] else []) := by
  intro l
  induction l with
  | nil => intro i; simp [keepI]
  | cons y l ih =>
    intro i
    show (if f i = true then y :: keepI f (l ++ [x]) (i + 1) else keepI f (l ++ [x]) (i + 1)) = (if f i = true then y :: keepI f l (i + 1) else keepI f l (i + 1)) ++ _
    rw [ih (i + 1)]
    have : i + 1 + l.length = i + (y :: l).length := by simp; omega
    rw [this]
    split <;> simp
theorem keepI_len {α : Type} {f : Nat → Bool} : ∀ (l : List α) (i : Nat), (keepI f l i).length ≤ l.length := by
  intro l
  induction l with
  | nil => intro i; exact Nat.le_refl 0
  | cons y l ih =>
    intro i
    have := ih (i + 1)
    unfold keepI
    split
    · simp; omega
    · simp; omega
theorem keepI_mem {α : Type} {f : Nat → Bool} {x : α} : ∀ (l : List α) (i : Nat), x ∈ keepI f l i → x ∈ l := by
  intro l
  induction l with
  | nil => intro i h; exact h
  | cons y l ih =>
    intro i h
    unfold keepI at h
    split at h
    · rcases List.mem_cons.mp h with h | h
      · rw [h]; exact List.mem_cons_self
      · exact List.mem_cons_of_mem _ (ih _ h)
    · exact List.mem_cons_of_mem _ (ih _ h)
theorem keepI_congr {α : Type} {f g : Nat → Bool} : ∀ (l : List α) (i : Nat), (∀ j, i ≤ j → j < i + l.length → f j = g j) → keepI f l i = keepI g l i := by
  intro l
  induction l with
  | nil => intro i _; rfl
  | cons y l ih =>
    intro i h
    have h0 := h i (Nat.le_refl i) (by simp)
    have h1 := ih (i + 1) (fun j h1 h2 => h j (by omega) (by simp; omega))
    unfold keepI
    rw [h0, h1]
theorem keepB_I {α : Type} {g : Nat} : ∀ (l : List α) (i : Nat), keepB g l i = keepI (fun j => !g.testBit j) l i := by
  intro l
  induction l with
  | nil => intro i; rfl
  | cons y l ih =>
    intro i
    unfold keepB keepI
    rw [ih (i + 1)]
    cases g.testBit i <;> rfl
theorem bit_0 {s i : Nat} (hs : s < 256) (hi : i < 9) : (nI s &&& shlI (nI 1) (nI i) = nI 0) = (s.testBit i = false) := by
  have key : ∀ s, s < 256 → ∀ i, i < 9 → (decide (nI s &&& shlI (nI 1) (nI i) = nI 0) = !s.testBit i) := by decide +kernel
  have h := key s hs i hi
  cases hb : s.testBit i with
  | false =>
    rw [hb] at h
    simp only [eq_iff_iff, iff_true]
    exact of_decide_eq_true h
  | true =>
    rw [hb] at h
    have := of_decide_eq_false h
    simp [this]
theorem c_keep {c sub : Nat} {σ : SS} {M : Mem} (hc : SI c) (hl : (hs σ).length ≤ 8) (hsub : sub < 256) (hS : SR c σ M) : ∃ M', f_X1_keepHirings c (nI sub) M = some M' ∧ SR c (withH σ (keepI sub.testBit (hs σ) 0)) M' ∧ Fr c (c + 8) M M' := by
  have hmv := fun i j (hi : i < 9) (hj : j < 9) (N : Mem) => c_move (M := N) hc hi hj
  obtain ⟨⟨a1, a2, a3⟩, a4, a5, a6, a7, a8⟩ := hS
  unfold f_X1_keepHirings
  obtain ⟨e, h1, h2, h3, h4⟩ := loop_inv (B := fun s2 : Int32 × Int32 × Mem => f_X1_keepHirings_4_4b c (nI sub) s2.1 s2.2.1 s2.2.2) (fun i q => q.1 = nI (keepI sub.testBit ((hs σ).take i) 0).length ∧ q.2.1 = nI i ∧ Fr (c + 5) (c + 8) M q.2.2 ∧ (∀ j h, (keepI sub.testBit ((hs σ).take i) 0)[j]? = some h → q.2.2 (c + 5) j = nI h.1 ∧ q.2.2 (c + 6) j = nI h.2.1 ∧ q.2.2 (c + 7) j = nI h.2.2) ∧ ∀ j, i ≤ j → q.2.2 (c + 5) j = M (c + 5) j ∧ q.2.2 (c + 6) j = M (c + 6) j ∧ q.2.2 (c + 7) j = M (c + 7) j)
    (fun e => e.1 = nI (keepI sub.testBit (hs σ) 0).length ∧ Fr (c + 5) (c + 8) M e.2.2 ∧ ∀ j h, (keepI sub.testBit (hs σ) 0)[j]? = some h → e.2.2 (c + 5) j = nI h.1 ∧ e.2.2 (c + 6) j = nI h.2.1 ∧ e.2.2 (c + 7) j = nI h.2.2) (hs σ).length (s := (nI 0, nI 0, M))
    (by
      refine ⟨rfl, rfl, Fr.rf, fun j h hj => ?_, fun j hj => ⟨rfl, rfl, rfl⟩⟩
      rw [List.take_zero] at hj
      cases hj)
    (by
      rintro i ⟨x, y, N⟩ hi ⟨hx, hy, hF, b1, b2⟩
      dsimp only at hx hy hF b1 b2 ⊢
      subst hx hy
      obtain ⟨h, hh⟩ : ∃ h, (hs σ)[i]? = some h := ⟨_, List.getElem?_eq_getElem hi⟩
      obtain ⟨c1, c2, c3⟩ := a8 i h hh
      have e6 : N c 6 = nI (hs σ).length := by rw [hF c (by omega)]; exact a3
      have kl : (keepI sub.testBit ((hs σ).take i) 0).length ≤ i := by
        have := keepI_len (f := sub.testBit) ((hs σ).take i) 0
        rw [List.length_take] at this
        omega
      have tk : keepI sub.testBit ((hs σ).take (i + 1)) 0 = keepI sub.testBit ((hs σ).take i) 0 ++ (if sub.testBit i = true then [h] else []) := by
        rw [List.take_add_one, hh]
        show keepI sub.testBit (List.take i (hs σ) ++ [h]) 0 = _
        rw [keepI_app, List.length_take, Nat.zero_add, Nat.min_eq_left (by omega)]
      have bz := bit_0 (s := sub) (i := i) hsub (by omega)
      unfold f_X1_keepHirings_4_4b f_X1_keepHirings_29_4
      rw [tk]
      cases hb : sub.testBit i with
      | false =>
        rw [hb] at bz
        refine ⟨(nI (keepI sub.testBit ((hs σ).take i) 0).length, nI (i + 1), N), ?_, ?_, rfl, hF, ?_, fun j hj => b2 j (by omega)⟩
        · simp (disch := omega) only [li_0, li_1, li_2, li_3, li_4, li_5, li_6, li_7, li_8, li_9, li_10, li_11, li_12, li_14, li_15, li_16, li_18, li_20, li_22, li_23, li_24, li_29, li_30, li_31, li_32, li_33, li_40, li_48, li_54, li_55, li_56, li_57, li_59, li_60, li_63, li_64, li_97, li_98, li_99, li_100, li_103, li_107, li_108, li_112, li_121, li_206, li_212, li_232, li_240, li_255, li_256, li_261, li_270, ng_1, ng_2, ng_3, ng_4, ng_9, ng_10, m1_1, nI_m1, m1_nI, if_true, if_false, nI_add, pk_mul, pk_sub, nI_div, nI_rem, nI_eq, nI_leI, nI_ltI, nI_clamp, ck_in, ck_nz, bind_sm, upM_n, upM_m, upM_s, if_pos, if_neg, e6, bz]
        · simp
        · simpa using b1
      | true =>
        rw [hb] at bz
        obtain ⟨d1, d2, d3⟩ := b2 i (Nat.le_refl i)
        generalize hkn : (keepI sub.testBit ((hs σ).take i) 0) = kn at kl b1 ⊢
        refine ⟨(nI (kn.length + 1), nI (i + 1), upM (upM (upM N (c + 5) kn.length (N (c + 5) i)) (c + 6) kn.length (N (c + 6) i)) (c + 7) kn.length (N (c + 7) i)), ?_, ?_, rfl, ((hF.up (by omega) (by omega)).up (by omega) (by omega)).up (by omega) (by omega), fun j h' hj => ?_, fun j hj => ?_⟩
        · simp (disch := omega) only [li_0, li_1, li_2, li_3, li_4, li_5, li_6, li_7, li_8, li_9, li_10, li_11, li_12, li_14, li_15, li_16, li_18, li_20, li_22, li_23, li_24, li_29, li_30, li_31, li_32, li_33, li_40, li_48, li_54, li_55, li_56, li_57, li_59, li_60, li_63, li_64, li_97, li_98, li_99, li_100, li_103, li_107, li_108, li_112, li_121, li_206, li_212, li_232, li_240, li_255, li_256, li_261, li_270, ng_1, ng_2, ng_3, ng_4, ng_9, ng_10, m1_1, nI_m1, m1_nI, if_true, if_false, nI_add, pk_mul, pk_sub, nI_div, nI_rem, nI_eq, nI_leI, nI_ltI, nI_clamp, ck_in, ck_nz, bind_sm, upM_n, upM_m, upM_s, if_pos, if_neg, e6, bz, hmv, Bool.true_eq_false]
        · simp
        · simp only [if_true] at hj
          dsimp only
          by_cases q : j < kn.length
          · rw [List.getElem?_append_left q] at hj
            simp (disch := omega) only [upM_n, upM_m]
            exact b1 j h' hj
          · rw [List.getElem?_append_right (by omega)] at hj
            have hj2 : j = kn.length := by
              have := (List.getElem?_eq_some_iff.mp hj).1
              simp at this
              omega
            subst hj2
            rw [Nat.sub_self] at hj
            cases hj
            simp (disch := omega) only [upM_n, upM_s]
            rw [d1, d2, d3]
            exact ⟨c1, c2, c3⟩
        · dsimp only
          simp (disch := omega) only [upM_n, upM_m]
          exact b2 j (by omega))
    (by
      rintro ⟨x, y, N⟩ ⟨hx, hy, hF, b1, b2⟩
      dsimp only at hx hy hF b1 b2 ⊢
      rw [List.take_length] at hx b1
      subst hx hy
      have e6 : N c 6 = nI (hs σ).length := by rw [hF c (by omega)]; exact a3
      refine ⟨(nI (keepI sub.testBit (hs σ) 0).length, nI (hs σ).length, N), ?_, rfl, hF, b1⟩
      unfold f_X1_keepHirings_4_4b
      simp (disch := omega) only [li_0, li_1, li_2, li_3, li_4, li_5, li_6, li_7, li_8, li_9, li_10, li_11, li_12, li_14, li_15, li_16, li_18, li_20, li_22, li_23, li_24, li_29, li_30, li_31, li_32, li_33, li_40, li_48, li_54, li_55, li_56, li_57, li_59, li_60, li_63, li_64, li_97, li_98, li_99, li_100, li_103, li_107, li_108, li_112, li_121, li_206, li_212, li_232, li_240, li_255, li_256, li_261, li_270, ng_1, ng_2, ng_3, ng_4, ng_9, ng_10, m1_1, nI_m1, m1_nI, if_true, if_false, nI_add, pk_mul, pk_sub, nI_div, nI_rem, nI_eq, nI_leI, nI_ltI, nI_clamp, ck_in, ck_nz, bind_sm, upM_n, upM_m, upM_s, if_pos, if_neg, e6])
  simp only [li_0, h1, bind_sm, h2]
  refine ⟨_, rfl, ⟨⟨?_, ?_, ?_⟩, fun a ha => ?_, fun a s ha h => ?_, fun p hp => ?_, fun p hp => ?_, fun i h hi => ?_⟩, fun k' hk' => ?_⟩
  · simp (disch := omega) only [upM_m]; rw [h3 c (by omega)]; exact a1
  · simp (disch := omega) only [upM_m]; rw [h3 c (by omega)]; exact a2
  · exact upM_s
  · rw [upM_n (by omega), h3 _ (by omega)]; exact a4 a ha
  · rw [upM_n (by omega), h3 _ (by omega)]; exact a5 a s ha h
  · rw [upM_n (by omega), h3 _ (by omega)]; exact a6 p hp
  · rw [upM_n (by omega), h3 _ (by omega)]; exact a7 p hp
  · rw [upM_n (by omega), upM_n (by omega), upM_n (by omega)]
    exact h4 i h hi
  · rw [upM_n (by omega), h3 k' (by omega)]
/-- two numbers change places -/
def sw (a b x : Nat) : Nat := if x = a then b else if x = b then a else x
theorem c_changed {a b x : Nat} (ha : a < 100) (hb : b < 100) (hx : x < 100) : f_X1_changed (nI x) (nI a) (nI b) = some (nI (sw a b x)) := by
  unfold f_X1_changed sw
  by_cases q1 : x = a
  · simp (disch := omega) only [li_0, li_1, li_2, li_3, li_4, li_5, li_6, li_7, li_8, li_9, li_10, li_11, li_12, li_14, li_15, li_16, li_18, li_20, li_22, li_23, li_24, li_29, li_30, li_31, li_32, li_33, li_40, li_48, li_54, li_55, li_56, li_57, li_59, li_60, li_63, li_64, li_97, li_98, li_99, li_100, li_103, li_107, li_108, li_112, li_121, li_206, li_212, li_232, li_240, li_255, li_256, li_261, li_270, ng_1, ng_2, ng_3, ng_4, ng_9, ng_10, m1_1, nI_m1, m1_nI, if_true, if_false, nI_add, pk_mul, pk_sub, nI_div, nI_rem, nI_eq, nI_leI, nI_ltI, nI_clamp, ck_in, ck_nz, bind_sm, upM_n, upM_m, upM_s, if_pos, if_neg]
  · by_cases q2 : x = b
    · simp (disch := omega) only [li_0, li_1, li_2, li_3, li_4, li_5, li_6, li_7, li_8, li_9, li_10, li_11, li_12, li_14, li_15, li_16, li_18, li_20, li_22, li_23, li_24, li_29, li_30, li_31, li_32, li_33, li_40, li_48, li_54, li_55, li_56, li_57, li_59, li_60, li_63, li_64, li_97, li_98, li_99, li_100, li_103, li_107, li_108, li_112, li_121, li_206, li_212, li_232, li_240, li_255, li_256, li_261, li_270, ng_1, ng_2, ng_3, ng_4, ng_9, ng_10, m1_1, nI_m1, m1_nI, if_true, if_false, nI_add, pk_mul, pk_sub, nI_div, nI_rem, nI_eq, nI_leI, nI_ltI, nI_clamp, ck_in, ck_nz, bind_sm, upM_n, upM_m, upM_s, if_pos, if_neg]
    · simp (disch := omega) only [li_0, li_1, li_2, li_3, li_4, li_5, li_6, li_7, li_8, li_9, li_10, li_11, li_12, li_14, li_15, li_16, li_18, li_20, li_22, li_23, li_24, li_29, li_30, li_31, li_32, li_33, li_40, li_48, li_54, li_55, li_56, li_57, li_59, li_60, li_63, li_64, li_97, li_98, li_99, li_100, li_103, li_107, li_108, li_112, li_121, li_206, li_212, li_232, li_240, li_255, li_256, li_261, li_270, ng_1, ng_2, ng_3, ng_4, ng_9, ng_10, m1_1, nI_m1, m1_nI, if_true, if_false, nI_add, pk_mul, pk_sub, nI_div, nI_rem, nI_eq, nI_leI, nI_ltI, nI_clamp, ck_in, ck_nz, bind_sm, upM_n, upM_m, upM_s, if_pos, if_neg]
def swS (σ : SS) (a b : Nat) : SS := (nA σ, fun x => so σ (sw a b x), fun x s => mk0 σ (sw a b x) s, nP σ, ki σ, fun p => sw a b (ow σ p), (hs σ).map fun h => (h.1, h.2.1, sw a b h.2.2))
theorem sw_lt {a b x n : Nat} (ha : a < n) (hb : b < n) (hx : x < n) : sw a b x < n := by
  unfold sw
  split
  · exact hb
  · split
    · exact ha
    · exact hx
theorem swS_ok {σ : SS} {a b : Nat} (ok : OKS σ) (ha : a < nA σ) (hb : b < nA σ) : OKS (swS σ a b) := by
  obtain ⟨⟨ok1, ok2, ok3⟩, ok4, ok5, ok6, ok7, ok8⟩ := ok
  refine ⟨⟨ok1, ok2, ?_⟩, fun x => ok4 _, fun x s => ok5 _ _, ok6, fun p => sw_lt (by omega) (by omega) (ok7 p), fun h hh => ?_⟩
  · show ((hs σ).map _).length ≤ 9
    rw [List.length_map]
    exact ok3
  · obtain ⟨h', hm, rfl⟩ := List.mem_map.mp hh
    obtain ⟨o1, o2, o3⟩ := ok8 h' hm
    exact ⟨o1, o2, sw_lt (by omega) (by omega) o3⟩
theorem c_change {c a b : Nat} {σ : SS} {M : Mem} (hc : SI c) (ok : OKS σ) (ha : a < nA σ) (hb : b < nA σ) (hab : a < b) (hS : SR c σ M) : ∃ M', f_X1_changeDrawers c (nI a) (nI b) M = some M' ∧ SR c (swS σ a b) M' ∧ Fr c (c + 8) M M' := by
  obtain ⟨⟨ok1, ok2, ok3⟩, ok4, ok5, ok6, ok7, ok8⟩ := ok
  obtain ⟨s1, s2, s4, s5, s7, s8, s9⟩ := hc
  obtain ⟨⟨a1, a2, a3⟩, a4, a5, a6, a7, a8⟩ := hS
  unfold f_X1_changeDrawers
  generalize hM0 : upM (upM M (c + 1) a (M (c + 1) b)) (c + 1) b (M (c + 1) a) = M0
  have F0 : Fr (c + 1) (c + 2) M M0 := by rw [← hM0]; exact (Fr.rf.up (by omega) (by omega)).up (by omega) (by omega)
  -- marks
  obtain ⟨e1, h1, F1, p1⟩ := loop_inv (B := fun s3 : Int32 × Mem => f_X1_changeDrawers_46_46b c (nI a) (nI b) s3.1 s3.2) (fun i q => q.1 = nI i ∧ Fr (c + 2) (c + 3) M0 q.2 ∧ ∀ x s, x < nA σ → s < 5 → q.2 (c + 2) (x * 5 + s) = nI (mk0 σ (if s < i then sw a b x else x) s))
    (fun e => Fr (c + 2) (c + 3) M0 e.2 ∧ ∀ x s, x < nA σ → s < 5 → e.2 (c + 2) (x * 5 + s) = nI (mk0 σ (sw a b x) s)) 5 (s := (nI 0, M0))
    (by
      refine ⟨rfl, Fr.rf, fun x s hx h => ?_⟩
      rw [if_neg (by omega)]
      show M0 (c + 2) _ = _
      rw [F0 _ (by omega)]
      exact a5 x s hx h)
    (by
      rintro i ⟨x, N⟩ hi ⟨rfl, hF, b1⟩
      dsimp only at hF b1 ⊢
      have ea := b1 a i ha hi
      have eb := b1 b i hb hi
      rw [if_neg (by omega)] at ea eb
      refine ⟨(nI (i + 1), upM (upM N (c + 2) (a * 5 + i) (nI (mk0 σ b i))) (c + 2) (b * 5 + i) (nI (mk0 σ a i))), ?_, rfl, (hF.up (by omega) (by omega)).up (by omega) (by omega), fun x s hx h => ?_⟩
      · unfold f_X1_changeDrawers_46_46b
        simp (disch := omega) only [li_0, li_1, li_2, li_3, li_4, li_5, li_6, li_7, li_8, li_9, li_10, li_11, li_12, li_14, li_15, li_16, li_18, li_20, li_22, li_23, li_24, li_29, li_30, li_31, li_32, li_33, li_40, li_48, li_54, li_55, li_56, li_57, li_59, li_60, li_63, li_64, li_97, li_98, li_99, li_100, li_103, li_107, li_108, li_112, li_121, li_206, li_212, li_232, li_240, li_255, li_256, li_261, li_270, ng_1, ng_2, ng_3, ng_4, ng_9, ng_10, m1_1, nI_m1, m1_nI, if_true, if_false, nI_add, pk_mul, pk_sub, nI_div, nI_rem, nI_eq, nI_leI, nI_ltI, nI_clamp, ck_in, ck_nz, bind_sm, upM_n, upM_m, upM_s, if_pos, if_neg, s2, ea, eb]
      · dsimp only
        by_cases q1 : s = i
        · subst q1
          rw [if_pos (by omega)]
          by_cases q2 : x = b
          · subst q2
            rw [upM_s]
            unfold sw
            rw [if_neg (by omega), if_pos rfl]
          · rw [upM_m (by omega)]
            by_cases q3 : x = a
            · subst q3
              rw [upM_s]
              unfold sw
              rw [if_pos rfl]
            · rw [upM_m (by omega), b1 x s hx h, if_neg (by omega)]
              unfold sw
              rw [if_neg q3, if_neg q2]
        · rw [upM_m (by omega), upM_m (by omega), b1 x s hx h]
          by_cases q2 : s < i
          · rw [if_pos q2, if_pos (by omega)]
          · rw [if_neg q2, if_neg (by omega)])
    (by
      rintro ⟨x, N⟩ ⟨rfl, hF, b1⟩
      dsimp only at hF b1 ⊢
      refine ⟨(nI 5, N), ?_, hF, fun x s hx h => ?_⟩
      · unfold f_X1_changeDrawers_46_46b
        simp (disch := omega) only [li_0, li_1, li_2, li_3, li_4, li_5, li_6, li_7, li_8, li_9, li_10, li_11, li_12, li_14, li_15, li_16, li_18, li_20, li_22, li_23, li_24, li_29, li_30, li_31, li_32, li_33, li_40, li_48, li_54, li_55, li_56, li_57, li_59, li_60, li_63, li_64, li_97, li_98, li_99, li_100, li_103, li_107, li_108, li_112, li_121, li_206, li_212, li_232, li_240, li_255, li_256, li_261, li_270, ng_1, ng_2, ng_3, ng_4, ng_9, ng_10, m1_1, nI_m1, m1_nI, if_true, if_false, nI_add, pk_mul, pk_sub, nI_div, nI_rem, nI_eq, nI_leI, nI_ltI, nI_clamp, ck_in, ck_nz, bind_sm, upM_n, upM_m, upM_s, if_pos, if_neg]
      · dsimp only
        rw [b1 x s hx h, if_pos h])
  have G1 : ∀ k, (k < c + 1 ∨ c + 3 ≤ k) → e1.2 k = M k := fun k hk => by rw [F1 k (by omega), F0 k (by omega)]
  -- people
  obtain ⟨e2, h2, F2, p2⟩ := loop_inv (B := fun s6 : Int32 × Mem => f_X1_changeDrawers_109_109b c (nI a) (nI b) s6.1 s6.2) (fun i q => q.1 = nI i ∧ Fr (c + 4) (c + 5) e1.2 q.2 ∧ ∀ p, p < nP σ → q.2 (c + 4) p = nI (if p < i then sw a b (ow σ p) else ow σ p))
    (fun e => Fr (c + 4) (c + 5) e1.2 e.2 ∧ ∀ p, p < nP σ → e.2 (c + 4) p = nI (sw a b (ow σ p))) (nP σ) (s := (nI 0, e1.2))
    (by
      refine ⟨rfl, Fr.rf, fun p hp => ?_⟩
      rw [if_neg (by omega)]
      show e1.2 (c + 4) p = _
      rw [G1 _ (by omega)]
      exact a7 p hp)
    (by
      rintro i ⟨x, N⟩ hi ⟨rfl, hF, b1⟩
      dsimp only at hF b1 ⊢
      have e3 : N c 3 = nI (nP σ) := by rw [hF c (by omega), G1 c (by omega)]; exact a2
      have eo := b1 i hi
      rw [if_neg (by omega)] at eo
      have o7 := ok7 i
      refine ⟨(nI (i + 1), upM N (c + 4) i (nI (sw a b (ow σ i)))), ?_, rfl, hF.up (by omega) (by omega), fun p hp => ?_⟩
      · unfold f_X1_changeDrawers_109_109b
        simp (disch := omega) only [li_0, li_1, li_2, li_3, li_4, li_5, li_6, li_7, li_8, li_9, li_10, li_11, li_12, li_14, li_15, li_16, li_18, li_20, li_22, li_23, li_24, li_29, li_30, li_31, li_32, li_33, li_40, li_48, li_54, li_55, li_56, li_57, li_59, li_60, li_63, li_64, li_97, li_98, li_99, li_100, li_103, li_107, li_108, li_112, li_121, li_206, li_212, li_232, li_240, li_255, li_256, li_261, li_270, ng_1, ng_2, ng_3, ng_4, ng_9, ng_10, m1_1, nI_m1, m1_nI, if_true, if_false, nI_add, pk_mul, pk_sub, nI_div, nI_rem, nI_eq, nI_leI, nI_ltI, nI_clamp, ck_in, ck_nz, bind_sm, upM_n, upM_m, upM_s, if_pos, if_neg, s5, e3, eo, c_changed]
      · dsimp only
        by_cases q : p = i
        · subst q
          rw [upM_s, if_pos (by omega)]
        · rw [upM_m q, b1 p hp]
          by_cases q2 : p < i
          · rw [if_pos q2, if_pos (by omega)]
          · rw [if_neg q2, if_neg (by omega)])
    (by
      rintro ⟨x, N⟩ ⟨rfl, hF, b1⟩
      dsimp only at hF b1 ⊢
      have e3 : N c 3 = nI (nP σ) := by rw [hF c (by omega), G1 c (by omega)]; exact a2
      refine ⟨(nI (nP σ), N), ?_, hF, fun p hp => ?_⟩
      · unfold f_X1_changeDrawers_109_109b
        simp (disch := omega) only [li_0, li_1, li_2, li_3, li_4, li_5, li_6, li_7, li_8, li_9, li_10, li_11, li_12, li_14, li_15, li_16, li_18, li_20, li_22, li_23, li_24, li_29, li_30, li_31, li_32, li_33, li_40, li_48, li_54, li_55, li_56, li_57, li_59, li_60, li_63, li_64, li_97, li_98, li_99, li_100, li_103, li_107, li_108, li_112, li_121, li_206, li_212, li_232, li_240, li_255, li_256, li_261, li_270, ng_1, ng_2, ng_3, ng_4, ng_9, ng_10, m1_1, nI_m1, m1_nI, if_true, if_false, nI_add, pk_mul, pk_sub, nI_div, nI_rem, nI_eq, nI_leI, nI_ltI, nI_clamp, ck_in, ck_nz, bind_sm, upM_n, upM_m, upM_s, if_pos, if_neg, e3]
      · dsimp only
        rw [b1 p hp, if_pos hp])
  have G2 : ∀ k, (k < c + 1 ∨ c + 5 ≤ k) → e2.2 k = M k := fun k hk => by rw [F2 k (by omega), G1 k (by omega)]
  -- hirings
  obtain ⟨e3, h3, F3, p3⟩ := loop_inv (B := fun s9 : Int32 × Mem => f_X1_changeDrawers_146_146b c (nI a) (nI b) s9.1 s9.2) (fun i q => q.1 = nI i ∧ Fr (c + 7) (c + 8) e2.2 q.2 ∧ ∀ j h, (hs σ)[j]? = some h → q.2 (c + 7) j = nI (if j < i then sw a b h.2.2 else h.2.2))
    (fun e => Fr (c + 7) (c + 8) e2.2 e.2 ∧ ∀ j h, (hs σ)[j]? = some h → e.2 (c + 7) j = nI (sw a b h.2.2)) (hs σ).length (s := (nI 0, e2.2))
    (by
      refine ⟨rfl, Fr.rf, fun j h hj => ?_⟩
      rw [if_neg (by omega)]
      show e2.2 (c + 7) j = _
      rw [G2 _ (by omega)]
      exact (a8 j h hj).2.2)
    (by
      rintro i ⟨x, N⟩ hi ⟨rfl, hF, b1⟩
      dsimp only at hF b1 ⊢
      obtain ⟨h, hh⟩ : ∃ h, (hs σ)[i]? = some h := ⟨_, List.getElem?_eq_getElem hi⟩
      obtain ⟨o1, o2, o3⟩ := ok8 h (List.mem_of_getElem? hh)
      have e6 : N c 6 = nI (hs σ).length := by rw [hF c (by omega), G2 c (by omega)]; exact a3
      have eo := b1 i h hh
      rw [if_neg (by omega)] at eo
      refine ⟨(nI (i + 1), upM N (c + 7) i (nI (sw a b h.2.2))), ?_, rfl, hF.up (by omega) (by omega), fun j h' hj => ?_⟩
      · unfold f_X1_changeDrawers_146_146b
        simp (disch := omega) only [li_0, li_1, li_2, li_3, li_4, li_5, li_6, li_7, li_8, li_9, li_10, li_11, li_12, li_14, li_15, li_16, li_18, li_20, li_22, li_23, li_24, li_29, li_30, li_31, li_32, li_33, li_40, li_48, li_54, li_55, li_56, li_57, li_59, li_60, li_63, li_64, li_97, li_98, li_99, li_100, li_103, li_107, li_108, li_112, li_121, li_206, li_212, li_232, li_240, li_255, li_256, li_261, li_270, ng_1, ng_2, ng_3, ng_4, ng_9, ng_10, m1_1, nI_m1, m1_nI, if_true, if_false, nI_add, pk_mul, pk_sub, nI_div, nI_rem, nI_eq, nI_leI, nI_ltI, nI_clamp, ck_in, ck_nz, bind_sm, upM_n, upM_m, upM_s, if_pos, if_neg, s9, e6, eo, c_changed]
      · dsimp only
        by_cases q : j = i
        · subst q
          rw [hh] at hj
          cases hj
          rw [upM_s, if_pos (by omega)]
        · rw [upM_m q, b1 j h' hj]
          by_cases q2 : j < i
          · rw [if_pos q2, if_pos (by omega)]
          · rw [if_neg q2, if_neg (by omega)])
    (by
      rintro ⟨x, N⟩ ⟨rfl, hF, b1⟩
      dsimp only at hF b1 ⊢
      have e6 : N c 6 = nI (hs σ).length := by rw [hF c (by omega), G2 c (by omega)]; exact a3
      refine ⟨(nI (hs σ).length, N), ?_, hF, fun j h hj => ?_⟩
      · unfold f_X1_changeDrawers_146_146b
        simp (disch := omega) only [li_0, li_1, li_2, li_3, li_4, li_5, li_6, li_7, li_8, li_9, li_10, li_11, li_12, li_14, li_15, li_16, li_18, li_20, li_22, li_23, li_24, li_29, li_30, li_31, li_32, li_33, li_40, li_48, li_54, li_55, li_56, li_57, li_59, li_60, li_63, li_64, li_97, li_98, li_99, li_100, li_103, li_107, li_108, li_112, li_121, li_206, li_212, li_232, li_240, li_255, li_256, li_261, li_270, ng_1, ng_2, ng_3, ng_4, ng_9, ng_10, m1_1, nI_m1, m1_nI, if_true, if_false, nI_add, pk_mul, pk_sub, nI_div, nI_rem, nI_eq, nI_leI, nI_ltI, nI_clamp, ck_in, ck_nz, bind_sm, upM_n, upM_m, upM_s, if_pos, if_neg, e6]
      · dsimp only
        rw [b1 j h hj, if_pos (List.getElem?_eq_some_iff.mp hj).1])
  have G3 : ∀ k, (k < c + 1 ∨ c + 3 = k ∨ c + 5 = k ∨ c + 6 = k ∨ c + 8 ≤ k) → e3.2 k = M k := fun k hk => by
    rw [F3 k (by omega), F2 k (by omega), G1 k (by omega)]
  refine ⟨e3.2, ?_, ⟨⟨?_, ?_, ?_⟩, fun x hx => ?_, fun x s hx h => ?_, fun p hp => ?_, fun p hp => ?_, fun i h hi => ?_⟩, fun k hk => ?_⟩
  · have ia := fun i (hi : i < 100) => c_hasA (i := i) a1 (by omega) hi
    simp (disch := omega) only [li_0, li_1, li_2, li_3, li_4, li_5, li_6, li_7, li_8, li_9, li_10, li_11, li_12, li_14, li_15, li_16, li_18, li_20, li_22, li_23, li_24, li_29, li_30, li_31, li_32, li_33, li_40, li_48, li_54, li_55, li_56, li_57, li_59, li_60, li_63, li_64, li_97, li_98, li_99, li_100, li_103, li_107, li_108, li_112, li_121, li_206, li_212, li_232, li_240, li_255, li_256, li_261, li_270, ng_1, ng_2, ng_3, ng_4, ng_9, ng_10, m1_1, nI_m1, m1_nI, if_true, if_false, nI_add, pk_mul, pk_sub, nI_div, nI_rem, nI_eq, nI_leI, nI_ltI, nI_clamp, ck_in, ck_nz, bind_sm, upM_n, upM_m, upM_s, if_pos, if_neg, ia, s1, hM0, h1, h2, h3]
  · rw [G3 c (by omega)]; exact a1
  · rw [G3 c (by omega)]; exact a2
  · rw [G3 c (by omega)]
    show M c 6 = nI ((hs σ).map _).length
    rw [List.length_map]
    exact a3
  · rw [F3 _ (by omega), F2 _ (by omega), F1 _ (by omega), ← hM0]
    show _ = nI (so σ (sw a b x))
    have hx : x < nA σ := hx
    unfold sw
    by_cases q2 : x = b
    · subst q2
      rw [upM_s, if_neg (by omega), if_pos rfl]
      exact a4 a ha
    · rw [upM_m q2]
      by_cases q3 : x = a
      · subst q3
        rw [upM_s, if_pos rfl]
        exact a4 b hb
      · rw [upM_m q3, if_neg q3, if_neg q2]
        exact a4 x hx
  · rw [F3 _ (by omega), F2 _ (by omega)]; exact p1 x s hx h
  · rw [G3 _ (by omega)]; exact a6 p hp
  · rw [F3 _ (by omega)]; exact p2 p hp
  · have hi : ((hs σ).map fun h => (h.1, h.2.1, sw a b h.2.2))[i]? = some h := hi
    rw [List.getElem?_map] at hi
    cases hg : (hs σ)[i]? with
    | none => rw [hg] at hi; cases hi
    | some h' =>
      rw [hg] at hi
      cases hi
      obtain ⟨c1, c2, c3⟩ := a8 i h' hg
      refine ⟨?_, ?_, p3 i h' hg⟩
      · rw [G3 _ (by omega)]; exact c1
      · rw [G3 _ (by omega)]; exact c2
  · exact G3 k (by omega)
