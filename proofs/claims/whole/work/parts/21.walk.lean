-- THE DAYS, told with plain numbers
abbrev SS : Type := Nat × (Nat → Nat) × (Nat → Nat → Nat) × Nat × (Nat → Nat) × (Nat → Nat) × List (Nat × Nat × Nat)
abbrev nA (σ : SS) : Nat := σ.1
abbrev so (σ : SS) : Nat → Nat := σ.2.1
abbrev mk0 (σ : SS) : Nat → Nat → Nat := σ.2.2.1
abbrev nP (σ : SS) : Nat := σ.2.2.2.1
abbrev ki (σ : SS) : Nat → Nat := σ.2.2.2.2.1
abbrev ow (σ : SS) : Nat → Nat := σ.2.2.2.2.2.1
abbrev hs (σ : SS) : List (Nat × Nat × Nat) := σ.2.2.2.2.2.2
abbrev WS : Type := (Nat → Nat → Nat) × (Nat → Nat → Nat) × (Nat → Nat)
def hire1 (n d : Nat) (we : Nat → Nat) (h : Nat × Nat × Nat) : Nat → Nat := if h.1 = d ∧ h.2.1 < n then (fun p => if p = h.2.1 then h.2.2 else we p) else we
def hireS (σ : SS) (d : Nat) (we : Nat → Nat) : Nat → Nat := (hs σ).foldl (hire1 (nP σ) d) we
def cnt (we : Nat → Nat) (a : Nat) : Nat → Nat
  | 0 => 0
  | n + 1 => cnt we a n + (if we n = a then 1 else 0)
def talkS (σ : SS) (d : Nat) (we : Nat → Nat) (mk : Nat → Nat → Nat) : Nat → Nat → Nat := fun a s =>
  if (d % 7 = 6 ∧ s = d / 7) ∧ a + 1 < nA σ ∧ cnt we a (nP σ) = 0 ∧ cnt we (a + 1) (nP σ) = 0 then tw (mk a s) (mk (a + 1) s) (so σ a) else mk a s
/-- the widest gap among the first n sounds, and how wide -/
def wdn (u v : Nat → Nat) : Nat → Option Nat × Nat
  | 0 => (none, 0)
  | n + 1 => if (wdn u v n).2 < dist (u n) (v n) then (some n, dist (u n) (v n)) else wdn u v n
def learnS (σ : SS) (d : Nat) (we : Nat → Nat) (mk sp : Nat → Nat → Nat) : Nat → Nat → Nat := fun p s =>
  if we p < nA σ ∧ ¬ (ki σ p = 2 ∧ d % 2 ≠ 0) ∧ (ki σ p = 1 ∨ (wdn (mk (we p)) (sp p) 5).1 = some s) then tw (sp p s) (mk (we p) s) 1 else sp p s
def dayS (σ : SS) (d : Nat) (v : WS) : WS := (talkS σ d (hireS σ d v.2.2) v.1, learnS σ d (hireS σ d v.2.2) (talkS σ d (hireS σ d v.2.2) v.1) v.2.1, hireS σ d v.2.2)
def bgS (σ : SS) : WS := (mk0 σ, fun p s => if ow σ p < nA σ then mk0 σ (ow σ p) s else 5, ow σ)
/-- behind n days -/
def wk (σ : SS) : Nat → WS
  | 0 => bgS σ
  | n + 1 => dayS σ n (wk σ n)
def OKS (σ : SS) : Prop := (nA σ ≤ 8 ∧ nP σ ≤ 8 ∧ (hs σ).length ≤ 9) ∧ (∀ a, so σ a < 3) ∧ (∀ a s, mk0 σ a s < 10) ∧ (∀ p, ki σ p < 3) ∧ (∀ p, ow σ p < 8) ∧ ∀ h ∈ hs σ, h.1 < 30 ∧ h.2.1 < 8 ∧ h.2.2 < 8
def OKW (v : WS) : Prop := (∀ a s, v.1 a s < 10) ∧ (∀ p s, v.2.1 p s < 10) ∧ ∀ p, v.2.2 p < 8
theorem OKS.bg {σ : SS} (h : OKS σ) : OKW (bgS σ) := by
  obtain ⟨h1, h2, h3, h4, h5, h6⟩ := h
  refine ⟨h3, fun p s => ?_, h5⟩
  show (if ow σ p < nA σ then mk0 σ (ow σ p) s else 5) < 10
  split
  · exact h3 _ _
  · decide
theorem hire1_lt {n d : Nat} {we : Nat → Nat} {h : Nat × Nat × Nat} (hw : ∀ p, we p < 8) (hh : h.2.2 < 8) : ∀ p, hire1 n d we h p < 8 := by
  intro p
  unfold hire1
  split
  · show (if p = h.2.1 then h.2.2 else we p) < 8
    split
    · exact hh
    · exact hw p
  · exact hw p
theorem hireL_lt {n d : Nat} : ∀ (l : List (Nat × Nat × Nat)) (we : Nat → Nat), (∀ p, we p < 8) → (∀ h ∈ l, h.2.2 < 8) → ∀ p, l.foldl (hire1 n d) we p < 8 := by
  intro l
  induction l with
  | nil => intro we hw _ p; exact hw p
  | cons a l ih =>
    intro we hw hl p
    exact ih _ (hire1_lt hw (hl a List.mem_cons_self)) (fun h hm => hl h (List.mem_cons_of_mem _ hm)) p
theorem OKS.day {σ : SS} (h : OKS σ) {v : WS} (hv : OKW v) (d : Nat) : OKW (dayS σ d v) := by
  obtain ⟨h1, h2, h3, h4, h5, h6⟩ := h
  have hm : ∀ a s, talkS σ d (hireS σ d v.2.2) v.1 a s < 10 := by
    intro a s
    unfold talkS
    split
    · exact tw_lt (hv.1 _ _) (hv.1 _ _)
    · exact hv.1 _ _
  refine ⟨hm, fun p s => ?_, hireL_lt _ _ hv.2.2 (fun h hm => (h6 h hm).2.2)⟩
  show learnS _ _ _ _ _ p s < 10
  unfold learnS
  split
  · exact tw_lt (hv.2.1 _ _) (hm _ _)
  · exact hv.2.1 _ _
theorem OKS.wk {σ : SS} (h : OKS σ) : ∀ n, OKW (wk σ n) := by
  intro n
  induction n with
  | zero => exact h.bg
  | succ n ih => exact h.day ih n
/-- the least of f below n: the first -/
def am (f : Nat → Nat) : Nat → Option Nat
  | 0 => none
  | n + 1 => match am f n with
    | none => some n
    | some b => if f n < f b then some n else some b
theorem am_lt {f : Nat → Nat} : ∀ {n b : Nat}, am f n = some b → b < n := by
  intro n
  induction n with
  | zero => intro b h; cases h
  | succ n ih =>
    intro b h
    unfold am at h
    split at h
    next => cases h; omega
    next c hc =>
      split at h
      · cases h; omega
      · cases h; have := ih hc; omega
theorem am_none {f : Nat → Nat} {n : Nat} : am f (n + 1) ≠ none := by
  unfold am
  split
  · simp
  · split <;> simp
/-- cells outside [lo, hi) stay -/
def Fr (lo hi : Nat) (M M' : Mem) : Prop := ∀ k, (k < lo ∨ hi ≤ k) → M' k = M k
theorem Fr.rf {lo hi : Nat} {M : Mem} : Fr lo hi M M := fun _ _ => rfl
theorem Fr.tr {lo hi : Nat} {M M1 M2 : Mem} (h1 : Fr lo hi M M1) (h2 : Fr lo hi M1 M2) : Fr lo hi M M2 := fun k hk => (h2 k hk).trans (h1 k hk)
theorem Fr.wide {lo hi lo' hi' : Nat} {M M' : Mem} (h : Fr lo hi M M') (h1 : lo' ≤ lo) (h2 : hi ≤ hi') : Fr lo' hi' M M' := fun k hk => h k (by omega)
theorem Fr.up {lo hi k i : Nat} {x : Int32} {M M' : Mem} (h : Fr lo hi M M') (h1 : lo ≤ k) (h2 : k < hi) : Fr lo hi M (upM M' k i x) := fun a ha => by rw [upM_n (by omega)]; exact h a ha
/-- where a walk and its setting lie -/
def WI (w c : Nat) : Prop := (rf w 0 = c ∧ rf w 2 = w + 1 ∧ rf w 3 = w + 2 ∧ rf w 4 = w + 3 ∧ rf w 5 = w + 4) ∧ (rf c 1 = c + 1 ∧ rf c 2 = c + 2 ∧ rf c 4 = c + 3 ∧ rf c 5 = c + 4 ∧ rf c 7 = c + 5 ∧ rf c 8 = c + 6 ∧ rf c 9 = c + 7) ∧ c + 8 ≤ w
theorem WI_21 : WI 21 5 := by unfold WI; decide
theorem WI_26 : WI 26 13 := by unfold WI; decide
/-- an object of Setting holds σ -/
def SR (c : Nat) (σ : SS) (M : Mem) : Prop :=
  (M c 0 = nI (nA σ) ∧ M c 3 = nI (nP σ) ∧ M c 6 = nI (hs σ).length) ∧ (∀ a, a < nA σ → M (c + 1) a = nI (so σ a)) ∧ (∀ a s, a < nA σ → s < 5 → M (c + 2) (a * 5 + s) = nI (mk0 σ a s)) ∧ (∀ p, p < nP σ → M (c + 3) p = nI (ki σ p)) ∧ (∀ p, p < nP σ → M (c + 4) p = nI (ow σ p)) ∧ ∀ (i : Nat) (h : Nat × Nat × Nat), (hs σ)[i]? = some h → M (c + 5) i = nI h.1 ∧ M (c + 6) i = nI h.2.1 ∧ M (c + 7) i = nI h.2.2
theorem SR.fr {c : Nat} {σ : SS} {M M' : Mem} (h : SR c σ M) (hF : ∀ k, c ≤ k → k < c + 8 → M' k = M k) : SR c σ M' := by
  unfold SR at h ⊢
  rw [hF c (by omega) (by omega), hF (c + 1) (by omega) (by omega), hF (c + 2) (by omega) (by omega), hF (c + 3) (by omega) (by omega), hF (c + 4) (by omega) (by omega), hF (c + 5) (by omega) (by omega), hF (c + 6) (by omega) (by omega), hF (c + 7) (by omega) (by omega)]
  exact h
/-- an object of Walk holds v -/
def WR (w : Nat) (σ : SS) (v : WS) (M : Mem) : Prop :=
  (∀ a s, a < nA σ → s < 5 → M (w + 1) (a * 5 + s) = nI (v.1 a s)) ∧ (∀ p s, p < nP σ → s < 5 → M (w + 2) (p * 5 + s) = nI (v.2.1 p s)) ∧ ∀ p, p < nP σ → M (w + 3) p = nI (v.2.2 p)
/-- ... behind n days -/
def WD (w : Nat) (σ : SS) (n : Nat) (M : Mem) : Prop := WR w σ (wk σ n) M ∧ M w 1 + nI 1 = nI n ∧ (0 < n → ∀ a, a < 8 → M (w + 4) a = nI (cnt (wk σ n).2.2 a (nP σ)))
theorem WD.fr {w n : Nat} {σ : SS} {M M' : Mem} (h : WD w σ n M) (hF : ∀ k, w ≤ k → k < w + 5 → M' k = M k) : WD w σ n M' := by
  unfold WD WR at h ⊢
  rw [hF w (by omega) (by omega), hF (w + 1) (by omega) (by omega), hF (w + 2) (by omega) (by omega), hF (w + 3) (by omega) (by omega), hF (w + 4) (by omega) (by omega)]
  exact h
/-- a run of places filled -/
def filM (M : Mem) (k b n : Nat) (g : Nat → Int32) : Mem := fun a => if a = k then (fun i => if b ≤ i ∧ i < b + n then g (i - b) else M k i) else M a
theorem filM_0 {M : Mem} {k b : Nat} {g : Nat → Int32} : filM M k b 0 g = M := by
  funext a i
  unfold filM
  by_cases h : a = k
  · subst h
    simp
    intro h1 h2
    omega
  · simp [h]
theorem filM_up {M : Mem} {k b n : Nat} {g : Nat → Int32} : upM (filM M k b n g) k (b + n) (g n) = filM M k b (n + 1) g := by
  funext a i
  by_cases h : a = k
  · subst h
    by_cases h2 : i = b + n
    · subst h2
      rw [upM_s]
      simp [filM]
    · rw [upM_m h2]
      simp only [filM, if_true]
      by_cases h3 : b ≤ i ∧ i < b + n
      · rw [if_pos h3, if_pos ⟨h3.1, by omega⟩]
      · rw [if_neg h3, if_neg (by omega)]
  · rw [upM_n h]
    simp [filM, h]
theorem filM_n {M : Mem} {k b n a : Nat} {g : Nat → Int32} (h : a ≠ k) : filM M k b n g a = M a := by simp [filM, h]
theorem filM_in {M : Mem} {k b n i : Nat} {g : Nat → Int32} (h1 : b ≤ i) (h2 : i < b + n) : filM M k b n g k i = g (i - b) := by simp [filM, h1, h2]
theorem filM_out {M : Mem} {k b n i : Nat} {g : Nat → Int32} (h : i < b ∨ b + n ≤ i) : filM M k b n g k i = M k i := by
  simp only [filM, if_true]
  rw [if_neg (by omega)]
theorem cpM_n {M : Mem} {k0 sp k1 dp n a : Nat} (h : a ≠ k1) : cpM M k0 sp k1 dp n a = M a := by simp [cpM, h]
theorem cpM_0 {M : Mem} {k0 k1 n i : Nat} (h : i < n) : cpM M k0 0 k1 0 n k1 i = M k0 i := by simp [cpM, va_cpy, h]
theorem c_has {c : Nat} {n j : Nat} {x : Int32} {M : Mem} (hn : n < 2147483648) (h : M c j = nI n) : (if x < 0 then some (0 : Int32) else (if M c j ≤ x then some (0 : Int32) else some (1 : Int32))) = some (if ∃ i : Nat, i < n ∧ x = nI i then 1 else 0) := by
  rw [h]
  by_cases h0 : x < 0
  · rw [if_pos h0, if_neg]
    rintro ⟨i, hi, rfl⟩
    exact nI_pos (by omega) h0
  · rw [if_neg h0]
    obtain ⟨i, hi, rfl⟩ := nI_of h0
    by_cases h1 : n ≤ i
    · rw [if_pos ((nI_leI hn hi).mpr h1), if_neg]
      rintro ⟨j, hj, e⟩
      have := (nI_eq hi (by omega)).mp e
      omega
    · rw [if_neg (fun q => h1 ((nI_leI hn hi).mp q)), if_pos ⟨i, by omega, rfl⟩]
theorem c_hasA {c i n : Nat} {M : Mem} (h : M c 0 = nI n) (hn : n < 100) (hi : i < 100) : f_X1_hasAccent c (nI i) M = some (if i < n then 1 else 0) := by
  unfold f_X1_hasAccent
  rw [h]
  by_cases h1 : i < n
  · simp (disch := omega) only [li_0, li_1, li_2, li_3, li_4, li_5, li_6, li_7, li_8, li_9, li_10, li_11, li_12, li_14, li_15, li_16, li_18, li_20, li_22, li_23, li_24, li_29, li_30, li_31, li_32, li_33, li_40, li_48, li_54, li_55, li_56, li_57, li_59, li_60, li_63, li_64, li_97, li_98, li_99, li_100, li_103, li_107, li_108, li_112, li_121, li_206, li_212, li_232, li_240, li_255, li_256, li_261, li_270, ng_1, ng_2, ng_3, ng_4, ng_9, ng_10, m1_1, nI_m1, m1_nI, if_true, if_false, nI_add, pk_mul, pk_sub, nI_div, nI_rem, nI_eq, nI_leI, nI_ltI, nI_clamp, ck_in, ck_nz, bind_sm, upM_n, upM_m, upM_s, if_pos, if_neg]
  · simp (disch := omega) only [li_0, li_1, li_2, li_3, li_4, li_5, li_6, li_7, li_8, li_9, li_10, li_11, li_12, li_14, li_15, li_16, li_18, li_20, li_22, li_23, li_24, li_29, li_30, li_31, li_32, li_33, li_40, li_48, li_54, li_55, li_56, li_57, li_59, li_60, li_63, li_64, li_97, li_98, li_99, li_100, li_103, li_107, li_108, li_112, li_121, li_206, li_212, li_232, li_240, li_255, li_256, li_261, li_270, ng_1, ng_2, ng_3, ng_4, ng_9, ng_10, m1_1, nI_m1, m1_nI, if_true, if_false, nI_add, pk_mul, pk_sub, nI_div, nI_rem, nI_eq, nI_leI, nI_ltI, nI_clamp, ck_in, ck_nz, bind_sm, upM_n, upM_m, upM_s, if_pos, if_neg]
theorem c_hasP {c i n : Nat} {M : Mem} (h : M c 3 = nI n) (hn : n < 100) (hi : i < 100) : f_X1_hasPerson c (nI i) M = some (if i < n then 1 else 0) := by
  unfold f_X1_hasPerson
  rw [h]
  by_cases h1 : i < n
  · simp (disch := omega) only [li_0, li_1, li_2, li_3, li_4, li_5, li_6, li_7, li_8, li_9, li_10, li_11, li_12, li_14, li_15, li_16, li_18, li_20, li_22, li_23, li_24, li_29, li_30, li_31, li_32, li_33, li_40, li_48, li_54, li_55, li_56, li_57, li_59, li_60, li_63, li_64, li_97, li_98, li_99, li_100, li_103, li_107, li_108, li_112, li_121, li_206, li_212, li_232, li_240, li_255, li_256, li_261, li_270, ng_1, ng_2, ng_3, ng_4, ng_9, ng_10, m1_1, nI_m1, m1_nI, if_true, if_false, nI_add, pk_mul, pk_sub, nI_div, nI_rem, nI_eq, nI_leI, nI_ltI, nI_clamp, ck_in, ck_nz, bind_sm, upM_n, upM_m, upM_s, if_pos, if_neg]
  · simp (disch := omega) only [li_0, li_1, li_2, li_3, li_4, li_5, li_6, li_7, li_8, li_9, li_10, li_11, li_12, li_14, li_15, li_16, li_18, li_20, li_22, li_23, li_24, li_29, li_30, li_31, li_32, li_33, li_40, li_48, li_54, li_55, li_56, li_57, li_59, li_60, li_63, li_64, li_97, li_98, li_99, li_100, li_103, li_107, li_108, li_112, li_121, li_206, li_212, li_232, li_240, li_255, li_256, li_261, li_270, ng_1, ng_2, ng_3, ng_4, ng_9, ng_10, m1_1, nI_m1, m1_nI, if_true, if_false, nI_add, pk_mul, pk_sub, nI_div, nI_rem, nI_eq, nI_leI, nI_ltI, nI_clamp, ck_in, ck_nz, bind_sm, upM_n, upM_m, upM_s, if_pos, if_neg]
