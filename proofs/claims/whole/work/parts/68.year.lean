-- YEARS BY A SEED
theorem u32_nI (x : UInt32) : x.toInt32 = nI x.toNat := by
  apply Int32.toBitVec_inj.mp
  show x.toBitVec = BitVec.ofNat 32 x.toNat
  rw [← UInt32.toNat_toBitVec, BitVec.ofNat_toNat, BitVec.setWidth_eq]
theorem shr_ex (s : Int32) : ∃ v, v < 65536 ∧ shrI s (nI 16) = nI v := by
  refine ⟨(s.toUInt32 >>> ((nI 16).toUInt32 &&& Int32.toUInt32 31)).toNat, ?_, u32_nI _⟩
  rw [show (nI 16).toUInt32 &&& Int32.toUInt32 31 = (16 : UInt32) by decide, UInt32.toNat_shiftRight, show (16 : UInt32).toNat % 32 = 16 by decide, Nat.shiftRight_eq_div_pow]
  have := s.toUInt32.toNat_lt
  omega
def shN (s : Int32) : Nat := (shrI s (nI 16)).toNatClampNeg
theorem shN_eq (s : Int32) : shrI s (nI 16) = nI (shN s) := by
  obtain ⟨v, h1, h2⟩ := shr_ex s
  unfold shN
  rw [h2, nI_clamp (by omega)]
theorem shN_lt (s : Int32) : shN s < 65536 := by
  obtain ⟨v, h1, h2⟩ := shr_ex s
  unfold shN
  rw [h2, nI_clamp (by omega)]
  exact h1
def sd (s : Int32) : Int32 := 1103515245 * s + 12345
def yst (P A : Nat) (s : Int32) : Nat → Int32 × List (Nat × Nat × Nat)
  | 0 => (s, [])
  | i + 1 => (sd (sd (sd (yst P A s i).1)), (yst P A s i).2 ++ [(shN (sd (yst P A s i).1) % 30, shN (sd (sd (yst P A s i).1)) % P, shN (sd (sd (sd (yst P A s i).1))) % A)])
theorem yst_len {P A : Nat} {s : Int32} : ∀ i, (yst P A s i).2.length = i := by
  intro i
  induction i with
  | zero => rfl
  | succ i ih =>
    show ((yst P A s i).2 ++ [_]).length = i + 1
    rw [List.length_append, ih]
    rfl
theorem yst_mem {P A : Nat} {s : Int32} (hP : 0 < P) (hA : 0 < A) (h8 : P ≤ 8) (h9 : A ≤ 8) : ∀ i h, h ∈ (yst P A s i).2 → h.1 < 30 ∧ h.2.1 < 8 ∧ h.2.2 < 8 := by
  intro i
  induction i with
  | zero => intro h hh; exact absurd hh List.not_mem_nil
  | succ i ih =>
    intro h hh
    rcases List.mem_append.mp hh with hh | hh
    · exact ih h hh
    · rw [List.mem_singleton.mp hh]
      have h1 := Nat.mod_lt (shN (sd (yst P A s i).1)) (show 30 > 0 by decide)
      have h2 := Nat.mod_lt (shN (sd (sd (yst P A s i).1))) hP
      have h3 := Nat.mod_lt (shN (sd (sd (sd (yst P A s i).1)))) hA
      exact ⟨h1, by dsimp only; omega, by dsimp only; omega⟩
def yH (σ : SS) (s : Int32) (n : Nat) : List (Nat × Nat × Nat) := if 0 < nP σ ∧ 0 < nA σ then (yst (nP σ) (nA σ) s n).2 else []
def yS (σ : SS) (s : Int32) (n : Nat) : SS := withH σ (yH σ s n)
theorem yH_t {σ : SS} {s : Int32} {n : Nat} (h : 0 < nP σ ∧ 0 < nA σ) : yH σ s n = (yst (nP σ) (nA σ) s n).2 := if_pos h
theorem yH_f {σ : SS} {s : Int32} {n : Nat} (h : ¬ (0 < nP σ ∧ 0 < nA σ)) : yH σ s n = [] := if_neg h
theorem yH_ok {σ : SS} {s : Int32} {n : Nat} (ok : OKS σ) (hn : n ≤ 8) : (yH σ s n).length ≤ 8 ∧ ∀ h ∈ yH σ s n, h.1 < 30 ∧ h.2.1 < 8 ∧ h.2.2 < 8 := by
  by_cases q : 0 < nP σ ∧ 0 < nA σ
  · rw [yH_t q, yst_len]
    exact ⟨hn, yst_mem q.1 q.2 ok.1.2.1 ok.1.1 n⟩
  · rw [yH_f q]
    exact ⟨by decide, fun h hh => absurd hh List.not_mem_nil⟩
theorem yS_ok {σ : SS} {s : Int32} {n : Nat} (ok : OKS σ) (hn : n ≤ 8) : OKS (yS σ s n) := by
  obtain ⟨h1, h2⟩ := yH_ok (s := s) ok hn
  exact withH_ok ok (by omega) h2
noncomputable def yearV (α : AS) (s : Int32) (n w : Nat) : Int32 := nI (if w = 0 then pcn (abits (yS (sA α) s n)) else becM (yS (sA α) s n))
theorem SR_none {σ : SS} {M : Mem} (h : SR 13 σ M) : SR 13 (withH σ []) (upM M 13 6 (nI 0)) := by
  obtain ⟨⟨a1, a2, a3⟩, a4, a5, a6, a7, a8⟩ := h
  refine ⟨⟨?_, ?_, ?_⟩, fun a ha => ?_, fun a s ha hs => ?_, fun p hp => ?_, fun p hp => ?_, fun i h hi => ?_⟩
  · rw [upM_m (by omega)]; exact a1
  · rw [upM_m (by omega)]; exact a2
  · rw [upM_s]; rfl
  · rw [upM_n (by omega)]; exact a4 a ha
  · rw [upM_n (by omega)]; exact a5 a s ha hs
  · rw [upM_n (by omega)]; exact a6 p hp
  · rw [upM_n (by omega)]; exact a7 p hp
  · have hi : ([] : List (Nat × Nat × Nat))[i]? = some h := hi
    rw [List.getElem?_nil] at hi
    cases hi
theorem c_lot {s : Int32} {n : Nat} (h0 : 0 < n) (hn : n < 100) : f_X5_lot s (nI n) = some (nI (shN s % n)) := by
  have h1 := shN_lt s
  unfold f_X5_lot
  rw [if_neg (c := nI n ≤ 0) (fun r => by rw [li_0, nI_leI (by omega) (by omega)] at r; omega), ck_nz h0 (by omega), li_16, shN_eq, nI_rem (by omega) h0 (by omega)]
theorem c_tryYear {α : AS} {M : Mem} {s : Int32} {n : Nat} (ok : OKA α) (h : CI α M) (hn : n ≤ 8) : ∃ M', f_X5_tryYear s (nI n) M = some M' ∧ SR 13 (yS (sA α) s n) M' ∧ Fr 13 21 M M' := by
  have ok1 := ok.s.1.1
  have ok2 := ok.s.1.2.1
  obtain ⟨M1, a1, a2, a3⟩ := c_become ok.s h.2.1
  have e0 : ∀ N : Mem, (∀ k, (k < 13 ∨ 21 ≤ k) → N k = M k) → N 5 0 = nI (nA (sA α)) := fun N hN => by rw [hN 5 (by omega)]; exact h.2.1.1.1
  have e3 : ∀ N : Mem, (∀ k, (k < 13 ∨ 21 ≤ k) → N k = M k) → N 5 3 = nI (nP (sA α)) := fun N hN => by rw [hN 5 (by omega)]; exact h.2.1.1.2.1
  have f1 : Fr 13 21 M (upM M1 13 6 (nI 0)) := fun k hk => by rw [upM_n (by omega)]; exact a3 k hk
  by_cases q : 0 < nP (sA α) ∧ 0 < nA (sA α)
  · obtain ⟨e, l1, l2, l3⟩ := loop_inv (B := fun s9 : Int32 × Int32 × Mem => f_X5_tryYear_24_24b (nI n) s9.1 s9.2.1 s9.2.2) (fun i t => t.1 = (yst (nP (sA α)) (nA (sA α)) s i).1 ∧ t.2.1 = nI i ∧ SR 13 (withH (sA α) (yst (nP (sA α)) (nA (sA α)) s i).2) t.2.2 ∧ Fr 13 21 M t.2.2)
      (fun t => SR 13 (yS (sA α) s n) t.2.2 ∧ Fr 13 21 M t.2.2) n (s := (s, nI 0, upM M1 13 6 (nI 0)))
      (by exact ⟨rfl, rfl, SR_none a2, f1⟩)
      (by
        rintro i ⟨x, y, N⟩ hi ⟨hx, hy, c1, c2⟩
        dsimp only at hx hy c1 c2 ⊢
        subst hx hy
        have n0 := e0 N c2
        have n3 := e3 N c2
        have len := yst_len (P := nP (sA α)) (A := nA (sA α)) (s := s) i
        obtain ⟨N1, b1, b2, b3⟩ := c_add (d := shN (sd (yst (nP (sA α)) (nA (sA α)) s i).1) % 30) (k := shN (sd (sd (yst (nP (sA α)) (nA (sA α)) s i).1)) % nP (sA α)) (a := shN (sd (sd (sd (yst (nP (sA α)) (nA (sA α)) s i).1))) % nA (sA α)) SI_13 (show (yst (nP (sA α)) (nA (sA α)) s i).2.length < 9 by omega) c1
        refine ⟨((yst (nP (sA α)) (nA (sA α)) s (i + 1)).1, nI (i + 1), N1), ?_, rfl, rfl, b2, c2.tr b3⟩
        have sda : ∀ x, f_X5_seedAfter x = some (sd x) := fun x => rfl
        unfold f_X5_tryYear_24_24b
        rw [n0, n3, if_neg (fun r => by rw [nI_leI (by omega) (by omega)] at r; omega), if_neg (c := nI (nP (sA α)) ≤ 0) (fun r => by rw [li_0, nI_leI (by omega) (by omega)] at r; omega), if_neg (c := nI (nA (sA α)) ≤ 0) (fun r => by rw [li_0, nI_leI (by omega) (by omega)] at r; omega), sda, bind_sm, li_30, c_lot (by decide) (by decide), bind_sm, sda, bind_sm, c_lot q.1 (by omega), bind_sm, sda, bind_sm, c_lot q.2 (by omega), bind_sm, b1, bind_sm, li_1, nI_add]
        rfl)
      (by
        rintro ⟨x, y, N⟩ ⟨hx, hy, c1, c2⟩
        dsimp only at hx hy c1 c2 ⊢
        subst hy
        refine ⟨(x, nI n, N), ?_, ?_, c2⟩
        · unfold f_X5_tryYear_24_24b
          rw [if_pos ((nI_leI (by omega) (by omega)).mpr (Nat.le_refl _))]
        · unfold yS
          rw [yH_t q]
          exact c1)
    refine ⟨e.2.2, ?_, l2, l3⟩
    unfold f_X5_tryYear
    rw [a1, bind_sm, li_0, l1, bind_sm]
  · refine ⟨upM M1 13 6 (nI 0), ?_, ?_, f1⟩
    · have n0 := e0 _ f1
      have n3 := e3 _ f1
      have st : f_X5_tryYear_24_24b (nI n) s (nI 0) (upM M1 13 6 (nI 0)) = some (.inr (s, nI 0, upM M1 13 6 (nI 0))) := by
        unfold f_X5_tryYear_24_24b
        rw [n0, n3]
        by_cases q1 : n ≤ 0
        · rw [if_pos ((nI_leI (by omega) (by omega)).mpr q1)]
        · rw [if_neg (fun r => by rw [nI_leI (by omega) (by omega)] at r; omega)]
          by_cases q2 : 0 < nP (sA α)
          · rw [if_neg (c := nI (nP (sA α)) ≤ 0) (fun r => by rw [li_0, nI_leI (by omega) (by omega)] at r; omega), if_pos (c := nI (nA (sA α)) ≤ 0) ((nI_leI (b := 0) (by omega) (by omega)).mpr (Nat.not_lt.mp fun r => q ⟨q2, r⟩))]
          · rw [if_pos (c := nI (nP (sA α)) ≤ 0) ((nI_leI (b := 0) (by omega) (by omega)).mpr (Nat.not_lt.mp q2))]
      unfold f_X5_tryYear
      rw [a1, bind_sm, li_0, loop_r (B := fun s9 : Int32 × Int32 × Mem => f_X5_tryYear_24_24b (nI n) s9.1 s9.2.1 s9.2.2) (s := (s, nI 0, upM M1 13 6 (nI 0))) st, bind_sm]
    · unfold yS
      rw [yH_f q]
      exact SR_none a2
theorem c_year_in {α : AS} {M : Mem} {s : Int32} {n w : Nat} (ok : OKA α) (h : CI α M) (hn : n < 9) (hw : w < 2) : ∃ M', f_X5_year s (nI n) (nI w) M = some (yearV α s n w, M') ∧ CI α M' ∧ Fr 0 49 M M' := by
  obtain ⟨M1, a1, a2, a3⟩ := c_tryYear (s := s) (n := n) ok h (by omega)
  have oky := yS_ok (s := s) (n := n) ok.s (by omega)
  unfold f_X5_year yearV
  rw [show (9 : Int32) = nI 9 from rfl, below_in hn (by omega), bind_sm, if_neg (c := nI 1 = 0) (by decide), li_2, below_in hw (by omega), bind_sm, if_neg (c := nI 1 = 0) (by decide), a1, bind_sm]
  by_cases q : w = 0
  · obtain ⟨M3, M4, d1, d2, d3, d4, d5⟩ := c_run oky a2
    have as := c_astray WI_26 oky (oky.wk 30) d5 d3.1
    have bc := c_bitCount (abits_lt oky)
    have fr : FrT M M4 := fun k hk => by rw [d4 k (by omega), a3 k (by omega)]
    refine ⟨M4, ?_, h.frT fr, fr.w⟩
    rw [if_pos (c := nI w = 0) (by rw [q]; rfl), if_pos q, d1, bind_sm, li_29, d2, bind_sm, as, bind_sm, show bitsOf (ast (yS (sA α) s n) (wk (yS (sA α) s n) 30)) (nP (yS (sA α) s n)) = abits (yS (sA α) s n) from rfl, bc, bind_sm]
  · obtain ⟨M', g1, g2, g3, g4⟩ := c_first WI_26 (Or.inr rfl) oky a2
    have fr : ∀ k, (k < 13 ∨ (21 ≤ k ∧ k < 26) ∨ 31 ≤ k) → k ≠ 46 → M' k = M k := fun k hk h46 => by rw [g4 k (by omega) h46, a3 k (by omega)]
    obtain ⟨m, w1, w2⟩ := h.2.2.1
    refine ⟨M', ?_, h.upd (h.2.1.fr (fun k _ _ => fr k (by omega) (by omega))) ⟨m, w1, w2.fr (fun k _ _ => fr k (by omega) (by omega))⟩ (fun k hk => fr k (by omega) (by omega)), fun k hk => fr k (by omega) (by omega)⟩
    rw [if_neg (c := nI w = 0) (fun r => q ((nI_eq (b := 0) (by omega) (by omega)).mp r)), if_neg q, g1, bind_sm]
theorem c_year_out {M : Mem} {x1 x2 x3 : Int32} (hx : ¬ (In x2 9 ∧ In x3 2)) : f_X5_year x1 x2 x3 M = some (m2, M) := by
  unfold f_X5_year
  rw [show (9 : Int32) = nI 9 from rfl]
  by_cases r1 : In x2 9
  · obtain ⟨j1, g1, rfl⟩ := r1
    rw [below_in g1 (by omega), bind_sm, if_neg (c := nI 1 = 0) (by decide), li_2, below_out (by omega) (fun r => hx ⟨⟨j1, g1, rfl⟩, r⟩), bind_sm, if_pos (c := nI 0 = 0) rfl]
    rfl
  · rw [below_out (by omega) r1, bind_sm, if_pos (c := nI 0 = 0) rfl]
    rfl
