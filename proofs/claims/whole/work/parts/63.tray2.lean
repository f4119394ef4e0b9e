-- TRAY
abbrev vP (n c : Nat) : Prop := c / 8 < c % 8 ∧ c % 8 < n
/-- the best pair among the first codes -/
def tb (n : Nat) (g : Nat → Nat) : Nat → Option Nat
  | 0 => none
  | c + 1 => if vP n c then (match tb n g c with
    | none => some c
    | some b => if g c < g b then some c else some b) else tb n g c
theorem tb_f {n c : Nat} {g : Nat → Nat} (h : ¬ vP n c) : tb n g (c + 1) = tb n g c := if_neg h
theorem tb_n {n c : Nat} {g : Nat → Nat} (h : vP n c) (e : tb n g c = none) : tb n g (c + 1) = some c := by
  show (if vP n c then _ else _) = _
  rw [if_pos h, e]
theorem tb_s {n c b : Nat} {g : Nat → Nat} (h : vP n c) (e : tb n g c = some b) : tb n g (c + 1) = if g c < g b then some c else some b := by
  show (if vP n c then _ else _) = _
  rw [if_pos h, e]
theorem tb_skip {n : Nat} {g : Nat → Nat} {lo : Nat} : ∀ {m : Nat}, (∀ c, lo ≤ c → c < lo + m → ¬ vP n c) → tb n g (lo + m) = tb n g lo := by
  intro m
  induction m with
  | zero => intro _; rfl
  | succ m ih =>
    intro h
    rw [← Nat.add_assoc, tb_f (h _ (by omega) (by omega))]
    exact ih fun c h1 h2 => h c h1 (by omega)
theorem tb_skip' {n : Nat} {g : Nat → Nat} {lo hi : Nat} (hh : lo ≤ hi) (h : ∀ c, lo ≤ c → c < hi → ¬ vP n c) : tb n g hi = tb n g lo := by
  have := tb_skip (n := n) (g := g) (lo := lo) (m := hi - lo) (fun c h1 h2 => h c h1 (by omega))
  rw [show lo + (hi - lo) = hi by omega] at this
  exact this
theorem tb_lt {n : Nat} {g : Nat → Nat} : ∀ {c b : Nat}, tb n g c = some b → b < c := by
  intro c
  induction c with
  | zero => intro b h; cases h
  | succ c ih =>
    intro b h
    by_cases q : vP n c
    · cases e : tb n g c with
      | none => rw [tb_n q e] at h; have := Option.some.inj h; omega
      | some d =>
        have hd := ih e
        rw [tb_s q e] at h
        split at h
        · have := Option.some.inj h; omega
        · have := Option.some.inj h; omega
    · rw [tb_f q] at h
      have := ih h
      omega
noncomputable def trayG (α : AS) (c : Nat) : Nat := pcn (abits (swS (sA α) (c / 8) (c % 8)))
noncomputable def trayO (α : AS) : Option Nat := tb (nA (sA α)) (trayG α) 64
noncomputable def trayV (α : AS) (w : Nat) : Int32 := oi ((trayO α).map fun c => if w = 0 then c / 8 else if w = 1 then c % 8 else trayG α c)
theorem oi_map {f : Nat → Nat} {c : Nat} : oi (Option.map f (some c)) = nI (f c) := rfl
theorem oi_mapn {f : Nat → Nat} : oi (Option.map f none) = m1 := rfl
theorem pcn_le {v : Nat} : pcn v ≤ 8 := cs_le (fun i => by split <;> omega) 8
theorem trayG_le {α : AS} {c : Nat} : trayG α c ≤ 8 := pcn_le
/-- one try of the class -/
theorem c_traySt {α : AS} {M : Mem} {a b : Nat} (ok : OKA α) (h : CI α M) (hb : b < nA (sA α)) (hab : a < b) : ∃ M1 M2 M3 M4 r, f_X1_become 13 5 M = some M1 ∧ f_X1_changeDrawers 13 (nI a) (nI b) M1 = some M2 ∧ f_X4_begin 26 M2 = some M3 ∧ f_X4_go 26 (nI 29) M3 = some M4 ∧ f_X4_astrayBits 26 M4 = some r ∧ f_J6_bitCount_0f7a4 r = some (nI (pcn (abits (swS (sA α) a b)))) ∧ FrT M M4 := by
  obtain ⟨M1, a1, a2, a3⟩ := c_become ok.s h.2.1
  obtain ⟨M2, b1, b2, b3⟩ := c_change SI_13 ok.s (show a < nA (sA α) by omega) hb hab a2
  have oks := swS_ok (a := a) (b := b) ok.s (by omega) hb
  obtain ⟨M3, M4, d1, d2, d3, d4, d5⟩ := c_run oks b2
  exact ⟨M1, M2, M3, M4, _, a1, b1, d1, d2, c_astray WI_26 oks (oks.wk 30) d5 d3.1, c_bitCount (abits_lt oks), fun k hk => by rw [d4 k (by omega), b3 k (by omega), a3 k (by omega)]⟩
theorem c_traySt2 {α : AS} {M : Mem} {a b : Nat} {x1 x2 x3 x4 : Int32} (ok : OKA α) (h : CI α M) (hb : b < nA (sA α)) (hab : a < b) : ∃ M4, FrT M M4 ∧ f_X5_tray_39_39b x1 x2 x3 x4 (nI a) (nI b) M = if x2 = m1 then some (.inl (nI a, nI b, nI (pcn (abits (swS (sA α) a b))), nI (b + 1), M4)) else if x4 ≤ nI (pcn (abits (swS (sA α) a b))) then some (.inl (x2, x3, x4, nI (b + 1), M4)) else some (.inl (nI a, nI b, nI (pcn (abits (swS (sA α) a b))), nI (b + 1), M4)) := by
  have ok1 := ok.s.1.1
  obtain ⟨M1, M2, M3, M4, r, d1, d2, d3, d4, d5, d6, d7⟩ := c_traySt (a := a) (b := b) ok h hb hab
  have n0 : M 5 0 = nI (nA (sA α)) := h.2.1.1.1
  refine ⟨M4, d7, ?_⟩
  have d4' : f_X4_go 26 (29 : Int32) M3 = some M4 := d4
  unfold f_X5_tray_39_39b f_X5_tray_113_39 f_X5_tray_123_39
  rw [if_neg (fun r => by rw [n0, nI_leI (by omega) (by omega)] at r; omega), d1, bind_sm, d2, bind_sm, d3, bind_sm, d4', bind_sm, d5, bind_sm, d6, bind_sm, li_1, nI_add]
  rfl
theorem c_trayIn {α : AS} {M : Mem} {a : Nat} {x1 : Int32} {g : Nat → Nat} (hg : ∀ c, g c = trayG α c) (ok : OKA α) (h : CI α M) (ha : a < nA (sA α)) : ∃ e, loop (fun s8 : Int32 × Int32 × Int32 × Int32 × Mem => f_X5_tray_39_39b x1 s8.1 s8.2.1 s8.2.2.1 (nI a) s8.2.2.2.1 s8.2.2.2.2) (oi ((tb (nA (sA α)) g (8 * a)).map (· / 8)), oi ((tb (nA (sA α)) g (8 * a)).map (· % 8)), oi ((tb (nA (sA α)) g (8 * a)).map g), nI (a + 1), M) = some e ∧ (e.1 = oi ((tb (nA (sA α)) g (8 * (a + 1))).map (· / 8)) ∧ e.2.1 = oi ((tb (nA (sA α)) g (8 * (a + 1))).map (· % 8)) ∧ e.2.2.1 = oi ((tb (nA (sA α)) g (8 * (a + 1))).map g) ∧ FrT M e.2.2.2.2) := by
  have ok1 := ok.s.1.1
  have start : tb (nA (sA α)) g (8 * a + (a + 1 + 0)) = tb (nA (sA α)) g (8 * a) := tb_skip' (by omega) (fun c h1 h2 => by unfold vP; omega)
  have stop : tb (nA (sA α)) g (8 * (a + 1)) = tb (nA (sA α)) g (8 * a + (a + 1 + (nA (sA α) - (a + 1)))) := tb_skip' (by omega) (fun c h1 h2 => by unfold vP; omega)
  refine loop_inv (B := fun s8 : Int32 × Int32 × Int32 × Int32 × Mem => f_X5_tray_39_39b x1 s8.1 s8.2.1 s8.2.2.1 (nI a) s8.2.2.2.1 s8.2.2.2.2) (fun j q => q.1 = oi ((tb (nA (sA α)) g (8 * a + (a + 1 + j))).map (· / 8)) ∧ q.2.1 = oi ((tb (nA (sA α)) g (8 * a + (a + 1 + j))).map (· % 8)) ∧ q.2.2.1 = oi ((tb (nA (sA α)) g (8 * a + (a + 1 + j))).map g) ∧ q.2.2.2.1 = nI (a + 1 + j) ∧ FrT M q.2.2.2.2)
    (fun e => e.1 = oi ((tb (nA (sA α)) g (8 * (a + 1))).map (· / 8)) ∧ e.2.1 = oi ((tb (nA (sA α)) g (8 * (a + 1))).map (· % 8)) ∧ e.2.2.1 = oi ((tb (nA (sA α)) g (8 * (a + 1))).map g) ∧ FrT M e.2.2.2.2) (nA (sA α) - (a + 1)) ?_ ?_ ?_
  · refine ⟨?_, ?_, ?_, ?_, FrT.rf⟩
    · dsimp only; rw [start]
    · dsimp only; rw [start]
    · dsimp only; rw [start]
    · rfl
  · rintro j ⟨x, y, z, u, N⟩ hj ⟨hx, hy, hz, hu, c1⟩
    dsimp only at hx hy hz hu c1 ⊢
    subst hx hy hz hu
    have cN := h.frT c1
    have n0 : N 5 0 = nI (nA (sA α)) := cN.2.1.1.1
    have vp : vP (nA (sA α)) (8 * a + (a + 1 + j)) := by unfold vP; omega
    have gg : pcn (abits (swS (sA α) a (a + 1 + j))) = g (8 * a + (a + 1 + j)) := by
      rw [hg]
      unfold trayG
      rw [show (8 * a + (a + 1 + j)) / 8 = a by omega, show (8 * a + (a + 1 + j)) % 8 = a + 1 + j by omega]
    have gl : g (8 * a + (a + 1 + j)) ≤ 8 := by rw [hg]; exact trayG_le
    have e8 : (8 * a + (a + 1 + j)) / 8 = a := by omega
    have e9 : (8 * a + (a + 1 + j)) % 8 = a + 1 + j := by omega
    rw [show a + 1 + (j + 1) = (a + 1 + j) + 1 by omega, show 8 * a + (a + 1 + j + 1) = 8 * a + (a + 1 + j) + 1 by omega]
    cases hm : tb (nA (sA α)) g (8 * a + (a + 1 + j)) with
    | none =>
      rw [tb_n vp hm, oi_mapn, oi_mapn, oi_mapn]
      obtain ⟨M4, f1, st⟩ := c_traySt2 (x1 := x1) (x2 := m1) (x3 := m1) (x4 := m1) (a := a) (b := a + 1 + j) ok cN (by omega) (by omega)
      rw [if_pos rfl, gg] at st
      exact ⟨_, st, by rw [oi_map, e8], by rw [oi_map, e9], by rw [oi_map], rfl, c1.tr f1⟩
    | some b =>
      rw [tb_s vp hm]
      have hb := tb_lt hm
      have gb : g b ≤ 8 := by rw [hg]; exact trayG_le
      obtain ⟨p, hp, hp2⟩ : ∃ p, b / 8 = p ∧ p < 100 := ⟨_, rfl, by clear e8 e9 vp; omega⟩
      obtain ⟨r', hr, hr2⟩ : ∃ r, b % 8 = r ∧ r < 100 := ⟨_, rfl, by clear e8 e9 vp; omega⟩
      have o1 : oi (Option.map (· / 8) (some b)) = nI p := by rw [oi_map, hp]
      have o2 : oi (Option.map (· % 8) (some b)) = nI r' := by rw [oi_map, hr]
      have o3 : oi (Option.map g (some b)) = nI (g b) := oi_map
      rw [o1, o2, o3]
      obtain ⟨M4, f1, st⟩ := c_traySt2 (x1 := x1) (x2 := nI p) (x3 := nI r') (x4 := nI (g b)) (a := a) (b := a + 1 + j) ok cN (by omega) (by omega)
      rw [if_neg (of_eq_true' (nI_m1 (by clear e8 e9 vp; omega))), gg] at st
      by_cases q : g (8 * a + (a + 1 + j)) < g b
      · rw [if_neg (fun r => by rw [nI_leI (by clear e8 e9 vp; omega) (by clear e8 e9 vp; omega)] at r; clear e8 e9 vp; omega)] at st
        rw [if_pos q]
        exact ⟨_, st, by rw [oi_map, e8], by rw [oi_map, e9], by rw [oi_map], rfl, c1.tr f1⟩
      · rw [if_pos ((nI_leI (by clear e8 e9 vp; omega) (by clear e8 e9 vp; omega)).mpr (by clear e8 e9 vp; omega))] at st
        rw [if_neg q]
        exact ⟨_, st, o1.symm, o2.symm, o3.symm, rfl, c1.tr f1⟩
  · rintro ⟨x, y, z, u, N⟩ ⟨hx, hy, hz, hu, c1⟩
    dsimp only at hx hy hz hu c1 ⊢
    rw [← stop] at hx hy hz
    subst hu
    have n0 : N 5 0 = nI (nA (sA α)) := (h.frT c1).2.1.1.1
    refine ⟨(x, y, z, nI (a + 1 + (nA (sA α) - (a + 1))), N), ?_, hx, hy, hz, c1⟩
    unfold f_X5_tray_39_39b
    simp (disch := omega) only [li_0, li_1, li_2, li_3, li_4, li_5, li_6, li_7, li_8, li_9, li_10, li_11, li_12, li_14, li_15, li_16, li_18, li_20, li_22, li_23, li_24, li_29, li_30, li_31, li_32, li_33, li_40, li_48, li_54, li_55, li_56, li_57, li_59, li_60, li_63, li_64, li_97, li_98, li_99, li_100, li_103, li_107, li_108, li_112, li_121, li_206, li_212, li_232, li_240, li_255, li_256, li_261, li_270, ng_1, ng_2, ng_3, ng_4, ng_9, ng_10, m1_1, nI_m1, m1_nI, if_true, if_false, nI_add, pk_mul, pk_sub, nI_div, nI_rem, nI_eq, nI_leI, nI_ltI, nI_clamp, ck_in, ck_nz, bind_sm, upM_n, upM_m, upM_s, if_pos, if_neg, n0]
theorem c_tray_in {α : AS} {M : Mem} {w : Nat} (ok : OKA α) (h : CI α M) (hw : w < 3) : ∃ M', f_X5_tray (nI w) M = some (trayV α w, M') ∧ CI α M' ∧ Fr 0 49 M M' := by
  have ok1 := ok.s.1.1
  have stop : tb (nA (sA α)) (trayG α) 64 = tb (nA (sA α)) (trayG α) (8 * nA (sA α)) := tb_skip' (by omega) (fun c h1 h2 => by unfold vP; omega)
  obtain ⟨e, l1, l2, l3, l4, l5⟩ := loop_inv (B := fun s10 : Int32 × Int32 × Int32 × Int32 × Mem => f_X5_tray_21_21b (nI w) s10.1 s10.2.1 s10.2.2.1 s10.2.2.2.1 s10.2.2.2.2) (fun a q => q.1 = oi ((tb (nA (sA α)) (trayG α) (8 * a)).map (· / 8)) ∧ q.2.1 = oi ((tb (nA (sA α)) (trayG α) (8 * a)).map (· % 8)) ∧ q.2.2.1 = oi ((tb (nA (sA α)) (trayG α) (8 * a)).map (trayG α)) ∧ q.2.2.2.1 = nI a ∧ FrT M q.2.2.2.2)
    (fun q => q.1 = oi ((trayO α).map (· / 8)) ∧ q.2.1 = oi ((trayO α).map (· % 8)) ∧ q.2.2.1 = oi ((trayO α).map (trayG α)) ∧ FrT M q.2.2.2.2) (nA (sA α)) (s := (m1, m1, m1, nI 0, M))
    (by exact ⟨rfl, rfl, rfl, rfl, FrT.rf⟩)
    (by
      rintro a ⟨x, y, z, u, N⟩ ha ⟨hx, hy, hz, hu, c1⟩
      dsimp only at hx hy hz hu c1 ⊢
      subst hx hy hz hu
      have cN := h.frT c1
      have n0 : N 5 0 = nI (nA (sA α)) := cN.2.1.1.1
      obtain ⟨e, d1, d2, d3, d4, d5⟩ := c_trayIn (x1 := nI w) (g := trayG α) (fun _ => rfl) ok cN ha
      refine ⟨(e.1, e.2.1, e.2.2.1, nI (a + 1), e.2.2.2.2), ?_, d2, d3, d4, rfl, c1.tr d5⟩
      unfold f_X5_tray_21_21b
      simp (disch := omega) only [li_0, li_1, li_2, li_3, li_4, li_5, li_6, li_7, li_8, li_9, li_10, li_11, li_12, li_14, li_15, li_16, li_18, li_20, li_22, li_23, li_24, li_29, li_30, li_31, li_32, li_33, li_40, li_48, li_54, li_55, li_56, li_57, li_59, li_60, li_63, li_64, li_97, li_98, li_99, li_100, li_103, li_107, li_108, li_112, li_121, li_206, li_212, li_232, li_240, li_255, li_256, li_261, li_270, ng_1, ng_2, ng_3, ng_4, ng_9, ng_10, m1_1, nI_m1, m1_nI, if_true, if_false, nI_add, pk_mul, pk_sub, nI_div, nI_rem, nI_eq, nI_leI, nI_ltI, nI_clamp, ck_in, ck_nz, bind_sm, upM_n, upM_m, upM_s, if_pos, if_neg, n0, d1])
    (by
      rintro ⟨x, y, z, u, N⟩ ⟨hx, hy, hz, hu, c1⟩
      dsimp only at hx hy hz hu c1 ⊢
      rw [← stop] at hx hy hz
      subst hu
      have n0 : N 5 0 = nI (nA (sA α)) := (h.frT c1).2.1.1.1
      refine ⟨(x, y, z, nI (nA (sA α)), N), ?_, hx, hy, hz, c1⟩
      unfold f_X5_tray_21_21b
      simp (disch := omega) only [li_0, li_1, li_2, li_3, li_4, li_5, li_6, li_7, li_8, li_9, li_10, li_11, li_12, li_14, li_15, li_16, li_18, li_20, li_22, li_23, li_24, li_29, li_30, li_31, li_32, li_33, li_40, li_48, li_54, li_55, li_56, li_57, li_59, li_60, li_63, li_64, li_97, li_98, li_99, li_100, li_103, li_107, li_108, li_112, li_121, li_206, li_212, li_232, li_240, li_255, li_256, li_261, li_270, ng_1, ng_2, ng_3, ng_4, ng_9, ng_10, m1_1, nI_m1, m1_nI, if_true, if_false, nI_add, pk_mul, pk_sub, nI_div, nI_rem, nI_eq, nI_leI, nI_ltI, nI_clamp, ck_in, ck_nz, bind_sm, upM_n, upM_m, upM_s, if_pos, if_neg, n0])
  refine ⟨e.2.2.2.2, ?_, h.frT l5, l5.w⟩
  unfold f_X5_tray trayV
  have : w = 0 ∨ w = 1 ∨ w = 2 := by omega
  rcases this with rfl | rfl | rfl
  · simp (disch := omega) only [li_0, li_1, li_2, li_3, li_4, li_5, li_6, li_7, li_8, li_9, li_10, li_11, li_12, li_14, li_15, li_16, li_18, li_20, li_22, li_23, li_24, li_29, li_30, li_31, li_32, li_33, li_40, li_48, li_54, li_55, li_56, li_57, li_59, li_60, li_63, li_64, li_97, li_98, li_99, li_100, li_103, li_107, li_108, li_112, li_121, li_206, li_212, li_232, li_240, li_255, li_256, li_261, li_270, ng_1, ng_2, ng_3, ng_4, ng_9, ng_10, m1_1, nI_m1, m1_nI, if_true, if_false, nI_add, pk_mul, pk_sub, nI_div, nI_rem, nI_eq, nI_leI, nI_ltI, nI_clamp, ck_in, ck_nz, bind_sm, upM_n, upM_m, upM_s, if_pos, if_neg, below_in, l1, l2]
  · simp (disch := omega) only [li_0, li_1, li_2, li_3, li_4, li_5, li_6, li_7, li_8, li_9, li_10, li_11, li_12, li_14, li_15, li_16, li_18, li_20, li_22, li_23, li_24, li_29, li_30, li_31, li_32, li_33, li_40, li_48, li_54, li_55, li_56, li_57, li_59, li_60, li_63, li_64, li_97, li_98, li_99, li_100, li_103, li_107, li_108, li_112, li_121, li_206, li_212, li_232, li_240, li_255, li_256, li_261, li_270, ng_1, ng_2, ng_3, ng_4, ng_9, ng_10, m1_1, nI_m1, m1_nI, if_true, if_false, nI_add, pk_mul, pk_sub, nI_div, nI_rem, nI_eq, nI_leI, nI_ltI, nI_clamp, ck_in, ck_nz, bind_sm, upM_n, upM_m, upM_s, if_pos, if_neg, below_in, l1, l3]
  · simp (disch := omega) only [li_0, li_1, li_2, li_3, li_4, li_5, li_6, li_7, li_8, li_9, li_10, li_11, li_12, li_14, li_15, li_16, li_18, li_20, li_22, li_23, li_24, li_29, li_30, li_31, li_32, li_33, li_40, li_48, li_54, li_55, li_56, li_57, li_59, li_60, li_63, li_64, li_97, li_98, li_99, li_100, li_103, li_107, li_108, li_112, li_121, li_206, li_212, li_232, li_240, li_255, li_256, li_261, li_270, ng_1, ng_2, ng_3, ng_4, ng_9, ng_10, m1_1, nI_m1, m1_nI, if_true, if_false, nI_add, pk_mul, pk_sub, nI_div, nI_rem, nI_eq, nI_leI, nI_ltI, nI_clamp, ck_in, ck_nz, bind_sm, upM_n, upM_m, upM_s, if_pos, if_neg, below_in, l1, l4]
theorem c_tray_out {α : AS} {M : Mem} {x : Int32} (hx : ¬ In x 3) : f_X5_tray x M = some (m2, M) := by
  unfold f_X5_tray
  simp (disch := omega) only [li_0, li_1, li_2, li_3, li_4, li_5, li_6, li_7, li_8, li_9, li_10, li_11, li_12, li_14, li_15, li_16, li_18, li_20, li_22, li_23, li_24, li_29, li_30, li_31, li_32, li_33, li_40, li_48, li_54, li_55, li_56, li_57, li_59, li_60, li_63, li_64, li_97, li_98, li_99, li_100, li_103, li_107, li_108, li_112, li_121, li_206, li_212, li_232, li_240, li_255, li_256, li_261, li_270, ng_1, ng_2, ng_3, ng_4, ng_9, ng_10, m1_1, nI_m1, m1_nI, if_true, if_false, nI_add, pk_mul, pk_sub, nI_div, nI_rem, nI_eq, nI_leI, nI_ltI, nI_clamp, ck_in, ck_nz, bind_sm, upM_n, upM_m, upM_s, if_pos, if_neg, below_out _ hx]
theorem keepB_0 : ∀ (l : List (Nat × Nat × Nat)) (i : Nat), keepB 0 l i = l := by
  intro l
  induction l with
  | nil => intro i; rfl
  | cons x l ih =>
    intro i
    unfold keepB
    rw [Nat.zero_testBit, if_neg (by decide), ih]
theorem MJ.back4 {α : AS} {M N : Mem} (h : MJ α M) (hS : MS (sA α) N) (hH : MH (hlA α) 0 none N) (c3 : ∀ k, k ≠ 56 → k ≠ 57 → k ≠ 58 → (k < 59 ∨ 68 ≤ k) → N k = M k) : MJ α N := by
  obtain ⟨⟨h1, h2, h3, h4, h5, h6⟩, -⟩ := h
  refine ⟨?_, hS⟩
  unfold MI
  rw [c3 50 (by omega) (by omega) (by omega) (by omega), c3 51 (by omega) (by omega) (by omega) (by omega), c3 52 (by omega) (by omega) (by omega) (by omega), c3 54 (by omega) (by omega) (by omega) (by omega), c3 55 (by omega) (by omega) (by omega) (by omega), c3 68 (by omega) (by omega) (by omega) (by omega), c3 49 (by omega) (by omega) (by omega) (by omega)]
  exact ⟨h1, h2, hH, h4, h5, h6⟩
theorem m_trayBy {α : AS} {M : Mem} {w : Nat} (ok : OKA α) (h : MJ α M) (hw : w < 3) : ∃ M', f_X6_trayBy (nI w) M = some (trayV α w, M') ∧ MJ α M' ∧ Fr 49 71 M M' := by
  have ok1 := ok.s.1.1
  obtain ⟨e, l1, l2, l3, l4, l5, l6⟩ := loop_inv (B := fun s7 : Int32 × Int32 × Int32 × Mem => f_X6_trayBy_8_8b (nI w) s7.1 s7.2.1 s7.2.2.1 s7.2.2.2) (fun c q => q.1 = oi (tb (nA (sA α)) (trayG α) c) ∧ q.2.1 = nI (match tb (nA (sA α)) (trayG α) c with | none => 99 | some b => trayG α b) ∧ q.2.2.1 = nI c ∧ MS (sA α) q.2.2.2 ∧ MH (hlA α) 0 none q.2.2.2 ∧ ∀ k, k ≠ 56 → k ≠ 57 → k ≠ 58 → (k < 59 ∨ 68 ≤ k) → q.2.2.2 k = M k)
    (fun q => q.1 = oi (trayO α) ∧ q.2.1 = nI (match trayO α with | none => 99 | some b => trayG α b) ∧ MS (sA α) q.2.2.2 ∧ MH (hlA α) 0 none q.2.2.2 ∧ ∀ k, k ≠ 56 → k ≠ 57 → k ≠ 58 → (k < 59 ∨ 68 ≤ k) → q.2.2.2 k = M k) 64 (s := (m1, nI 99, nI 0, M))
    (by exact ⟨rfl, rfl, rfl, h.2, h.1.2.2.1, fun _ _ _ _ _ => rfl⟩)
    (by
      rintro c ⟨x, y, z, N⟩ hc ⟨hx, hy, hz, c1, c2, c3⟩
      dsimp only at hx hy hz c1 c2 c3 ⊢
      subst hx hy hz
      have n7 : N 49 7 = nI (nA (sA α)) := c1.1.1
      unfold f_X6_trayBy_8_8b f_X6_trayBy_78_8 f_X6_trayBy_94_8
      by_cases q1 : c % 8 ≤ c / 8
      · have nv : ¬ vP (nA (sA α)) c := by unfold vP; omega
        rw [tb_f nv]
        refine ⟨(oi (tb (nA (sA α)) (trayG α) c), nI (match tb (nA (sA α)) (trayG α) c with | none => 99 | some b => trayG α b), nI (c + 1), N), ?_, rfl, rfl, rfl, c1, c2, c3⟩
        simp (disch := omega) only [li_0, li_1, li_2, li_3, li_4, li_5, li_6, li_7, li_8, li_9, li_10, li_11, li_12, li_14, li_15, li_16, li_18, li_20, li_22, li_23, li_24, li_29, li_30, li_31, li_32, li_33, li_40, li_48, li_54, li_55, li_56, li_57, li_59, li_60, li_63, li_64, li_97, li_98, li_99, li_100, li_103, li_107, li_108, li_112, li_121, li_206, li_212, li_232, li_240, li_255, li_256, li_261, li_270, ng_1, ng_2, ng_3, ng_4, ng_9, ng_10, m1_1, nI_m1, m1_nI, if_true, if_false, nI_add, pk_mul, pk_sub, nI_div, nI_rem, nI_eq, nI_leI, nI_ltI, nI_clamp, ck_in, ck_nz, bind_sm, upM_n, upM_m, upM_s, if_pos, if_neg, n7]
      · by_cases q2 : nA (sA α) ≤ c % 8
        · have nv : ¬ vP (nA (sA α)) c := by unfold vP; omega
          rw [tb_f nv]
          refine ⟨(oi (tb (nA (sA α)) (trayG α) c), nI (match tb (nA (sA α)) (trayG α) c with | none => 99 | some b => trayG α b), nI (c + 1), N), ?_, rfl, rfl, rfl, c1, c2, c3⟩
          simp (disch := omega) only [li_0, li_1, li_2, li_3, li_4, li_5, li_6, li_7, li_8, li_9, li_10, li_11, li_12, li_14, li_15, li_16, li_18, li_20, li_22, li_23, li_24, li_29, li_30, li_31, li_32, li_33, li_40, li_48, li_54, li_55, li_56, li_57, li_59, li_60, li_63, li_64, li_97, li_98, li_99, li_100, li_103, li_107, li_108, li_112, li_121, li_206, li_212, li_232, li_240, li_255, li_256, li_261, li_270, ng_1, ng_2, ng_3, ng_4, ng_9, ng_10, m1_1, nI_m1, m1_nI, if_true, if_false, nI_add, pk_mul, pk_sub, nI_div, nI_rem, nI_eq, nI_leI, nI_ltI, nI_clamp, ck_in, ck_nz, bind_sm, upM_n, upM_m, upM_s, if_pos, if_neg, n7]
        · have vp : vP (nA (sA α)) c := by unfold vP; omega
          obtain ⟨N1, d1, d2, d3, d4⟩ := m_changes (a := c / 8) (b := c % 8) ok.s c1 c2 ok.h (by omega) (by omega)
          have oks := swS_ok (a := c / 8) (b := c % 8) ok.s (by omega) (by omega)
          have okh : OKH (nP (swS (sA α) (c / 8) (c % 8))) (swL (c / 8) (c % 8) (hlA α)) 0 none := by
            refine ⟨by rw [List.length_map]; exact ok.2.2.1.1, by decide, fun h hh => ?_, fun o ho => by cases ho⟩
            obtain ⟨h', hm, rfl⟩ := List.mem_map.mp hh
            obtain ⟨o1, o2, o3⟩ := ok.2.2.1.2 h' hm
            exact ⟨o1, o2, sw_lt (by omega) (by omega) o3⟩
          have eff : Eff (swS (sA α) (c / 8) (c % 8)) (swL (c / 8) (c % 8) (hlA α)) 0 none := by
            unfold Eff
            rw [keepB_0]
            show swL _ _ (hlA α) = _ ++ []
            rw [List.append_nil]
          obtain ⟨N2, e1, e2, e3⟩ := m_lives oks d2 d3 okh eff
          have ms2 : MS (swS (sA α) (c / 8) (c % 8)) N2 := d2.fr (e3 49 (by omega)) (e3 56 (by omega)) (e3 57 (by omega))
          have mh2 : MH (swL (c / 8) (c % 8) (hlA α)) 0 none N2 := d3.fr (e3 49 (by omega)) (e3 58 (by omega))
          have an := m_astrayNow oks ms2 e2
          have on := m_ones (abits_lt oks)
          rw [show pcn (abits (swS (sA α) (c / 8) (c % 8))) = trayG α c from rfl] at on
          have gl := trayG_le (α := α) (c := c)
          obtain ⟨N3, f1, f2, f3, f4⟩ := m_changes (a := c / 8) (b := c % 8) oks ms2 mh2 okh (show c % 8 < nA (sA α) by omega) (by omega)
          rw [swS_swS] at f2
          rw [swL_swL] at f3
          have fin : ∀ k, k ≠ 56 → k ≠ 57 → k ≠ 58 → (k < 59 ∨ 68 ≤ k) → N3 k = M k := fun k h1 h2 h3 h4 => by rw [f4 k h1 h2 h3, e3 k h4, d4 k h1 h2 h3]; exact c3 k h1 h2 h3 h4
          cases hm : tb (nA (sA α)) (trayG α) c with
          | none =>
            rw [tb_n vp hm]
            refine ⟨(nI c, nI (trayG α c), nI (c + 1), N3), ?_, rfl, rfl, rfl, f2, f3, fin⟩
            simp (disch := omega) only [li_0, li_1, li_2, li_3, li_4, li_5, li_6, li_7, li_8, li_9, li_10, li_11, li_12, li_14, li_15, li_16, li_18, li_20, li_22, li_23, li_24, li_29, li_30, li_31, li_32, li_33, li_40, li_48, li_54, li_55, li_56, li_57, li_59, li_60, li_63, li_64, li_97, li_98, li_99, li_100, li_103, li_107, li_108, li_112, li_121, li_206, li_212, li_232, li_240, li_255, li_256, li_261, li_270, ng_1, ng_2, ng_3, ng_4, ng_9, ng_10, m1_1, nI_m1, m1_nI, if_true, if_false, nI_add, pk_mul, pk_sub, nI_div, nI_rem, nI_eq, nI_leI, nI_ltI, nI_clamp, ck_in, ck_nz, bind_sm, upM_n, upM_m, upM_s, if_pos, if_neg, n7, d1, e1, an, on, f1, m_lesser, Nat.min_eq_left]
          | some b =>
            rw [tb_s vp hm]
            have hb := tb_lt hm
            have gb := trayG_le (α := α) (c := b)
            by_cases q : trayG α c < trayG α b
            · rw [if_pos q]
              refine ⟨(nI c, nI (trayG α c), nI (c + 1), N3), ?_, rfl, rfl, rfl, f2, f3, fin⟩
              simp (disch := omega) only [li_0, li_1, li_2, li_3, li_4, li_5, li_6, li_7, li_8, li_9, li_10, li_11, li_12, li_14, li_15, li_16, li_18, li_20, li_22, li_23, li_24, li_29, li_30, li_31, li_32, li_33, li_40, li_48, li_54, li_55, li_56, li_57, li_59, li_60, li_63, li_64, li_97, li_98, li_99, li_100, li_103, li_107, li_108, li_112, li_121, li_206, li_212, li_232, li_240, li_255, li_256, li_261, li_270, ng_1, ng_2, ng_3, ng_4, ng_9, ng_10, m1_1, nI_m1, m1_nI, if_true, if_false, nI_add, pk_mul, pk_sub, nI_div, nI_rem, nI_eq, nI_leI, nI_ltI, nI_clamp, ck_in, ck_nz, bind_sm, upM_n, upM_m, upM_s, if_pos, if_neg, n7, d1, e1, an, on, f1, m_lesser, Nat.min_eq_left]
            · rw [if_neg q]
              refine ⟨(nI b, nI (trayG α b), nI (c + 1), N3), ?_, rfl, rfl, rfl, f2, f3, fin⟩
              simp (disch := omega) only [li_0, li_1, li_2, li_3, li_4, li_5, li_6, li_7, li_8, li_9, li_10, li_11, li_12, li_14, li_15, li_16, li_18, li_20, li_22, li_23, li_24, li_29, li_30, li_31, li_32, li_33, li_40, li_48, li_54, li_55, li_56, li_57, li_59, li_60, li_63, li_64, li_97, li_98, li_99, li_100, li_103, li_107, li_108, li_112, li_121, li_206, li_212, li_232, li_240, li_255, li_256, li_261, li_270, ng_1, ng_2, ng_3, ng_4, ng_9, ng_10, m1_1, nI_m1, m1_nI, if_true, if_false, nI_add, pk_mul, pk_sub, nI_div, nI_rem, nI_eq, nI_leI, nI_ltI, nI_clamp, ck_in, ck_nz, bind_sm, upM_n, upM_m, upM_s, if_pos, if_neg, n7, d1, e1, an, on, f1, m_lesser, Nat.min_eq_right, oi_s])
    (by
      rintro ⟨x, y, z, N⟩ ⟨hx, hy, hz, c1, c2, c3⟩
      dsimp only at hx hy hz c1 c2 c3 ⊢
      subst hz
      refine ⟨(x, y, nI 64, N), ?_, hx, hy, c1, c2, c3⟩
      unfold f_X6_trayBy_8_8b
      simp (disch := omega) only [li_0, li_1, li_2, li_3, li_4, li_5, li_6, li_7, li_8, li_9, li_10, li_11, li_12, li_14, li_15, li_16, li_18, li_20, li_22, li_23, li_24, li_29, li_30, li_31, li_32, li_33, li_40, li_48, li_54, li_55, li_56, li_57, li_59, li_60, li_63, li_64, li_97, li_98, li_99, li_100, li_103, li_107, li_108, li_112, li_121, li_206, li_212, li_232, li_240, li_255, li_256, li_261, li_270, ng_1, ng_2, ng_3, ng_4, ng_9, ng_10, m1_1, nI_m1, m1_nI, if_true, if_false, nI_add, pk_mul, pk_sub, nI_div, nI_rem, nI_eq, nI_leI, nI_ltI, nI_clamp, ck_in, ck_nz, bind_sm, upM_n, upM_m, upM_s, if_pos, if_neg])
  refine ⟨e.2.2.2, ?_, h.back4 l4 l5 l6, fun k hk => l6 k (by omega) (by omega) (by omega) (by omega)⟩
  unfold f_X6_trayBy trayV
  have w3 : w = 0 ∨ w = 1 ∨ w = 2 := by omega
  cases hm : trayO α with
  | none =>
    rw [hm] at l2 l3
    simp (disch := omega) only [li_0, li_1, li_2, li_3, li_4, li_5, li_6, li_7, li_8, li_9, li_10, li_11, li_12, li_14, li_15, li_16, li_18, li_20, li_22, li_23, li_24, li_29, li_30, li_31, li_32, li_33, li_40, li_48, li_54, li_55, li_56, li_57, li_59, li_60, li_63, li_64, li_97, li_98, li_99, li_100, li_103, li_107, li_108, li_112, li_121, li_206, li_212, li_232, li_240, li_255, li_256, li_261, li_270, ng_1, ng_2, ng_3, ng_4, ng_9, ng_10, m1_1, nI_m1, m1_nI, if_true, if_false, nI_add, pk_mul, pk_sub, nI_div, nI_rem, nI_eq, nI_leI, nI_ltI, nI_clamp, ck_in, ck_nz, bind_sm, upM_n, upM_m, upM_s, if_pos, if_neg, l1, l2, oi_n, Option.map]
  | some b =>
    rw [hm] at l2 l3
    have hb := tb_lt hm
    rcases w3 with rfl | rfl | rfl
    · simp (disch := omega) only [li_0, li_1, li_2, li_3, li_4, li_5, li_6, li_7, li_8, li_9, li_10, li_11, li_12, li_14, li_15, li_16, li_18, li_20, li_22, li_23, li_24, li_29, li_30, li_31, li_32, li_33, li_40, li_48, li_54, li_55, li_56, li_57, li_59, li_60, li_63, li_64, li_97, li_98, li_99, li_100, li_103, li_107, li_108, li_112, li_121, li_206, li_212, li_232, li_240, li_255, li_256, li_261, li_270, ng_1, ng_2, ng_3, ng_4, ng_9, ng_10, m1_1, nI_m1, m1_nI, if_true, if_false, nI_add, pk_mul, pk_sub, nI_div, nI_rem, nI_eq, nI_leI, nI_ltI, nI_clamp, ck_in, ck_nz, bind_sm, upM_n, upM_m, upM_s, if_pos, if_neg, l1, l2, oi_s, Option.map]
    · simp (disch := omega) only [li_0, li_1, li_2, li_3, li_4, li_5, li_6, li_7, li_8, li_9, li_10, li_11, li_12, li_14, li_15, li_16, li_18, li_20, li_22, li_23, li_24, li_29, li_30, li_31, li_32, li_33, li_40, li_48, li_54, li_55, li_56, li_57, li_59, li_60, li_63, li_64, li_97, li_98, li_99, li_100, li_103, li_107, li_108, li_112, li_121, li_206, li_212, li_232, li_240, li_255, li_256, li_261, li_270, ng_1, ng_2, ng_3, ng_4, ng_9, ng_10, m1_1, nI_m1, m1_nI, if_true, if_false, nI_add, pk_mul, pk_sub, nI_div, nI_rem, nI_eq, nI_leI, nI_ltI, nI_clamp, ck_in, ck_nz, bind_sm, upM_n, upM_m, upM_s, if_pos, if_neg, l1, l2, oi_s, Option.map]
    · simp (disch := omega) only [li_0, li_1, li_2, li_3, li_4, li_5, li_6, li_7, li_8, li_9, li_10, li_11, li_12, li_14, li_15, li_16, li_18, li_20, li_22, li_23, li_24, li_29, li_30, li_31, li_32, li_33, li_40, li_48, li_54, li_55, li_56, li_57, li_59, li_60, li_63, li_64, li_97, li_98, li_99, li_100, li_103, li_107, li_108, li_112, li_121, li_206, li_212, li_232, li_240, li_255, li_256, li_261, li_270, ng_1, ng_2, ng_3, ng_4, ng_9, ng_10, m1_1, nI_m1, m1_nI, if_true, if_false, nI_add, pk_mul, pk_sub, nI_div, nI_rem, nI_eq, nI_leI, nI_ltI, nI_clamp, ck_in, ck_nz, bind_sm, upM_n, upM_m, upM_s, if_pos, if_neg, l1, l2, l3, oi_s, Option.map]
theorem m_tray {α : AS} {M : Mem} (ok : OKA α) (h : MI α M) : (∀ w, w < 3 → ∃ M', f_X6_tray (nI w) M = some (trayV α w, M') ∧ MJ α M' ∧ Fr 49 71 M M') ∧ ∀ x, ¬ In x 3 → ∃ M', f_X6_tray x M = some (m2, M') ∧ MJ α M' ∧ Fr 49 71 M M' := by
  obtain ⟨M1, g1, g2, g3⟩ := m_find ok h
  have mj : MJ α M1 := ⟨g2.1, g2.2.1⟩
  refine ⟨fun w hw => ?_, fun x hx => ⟨M1, ?_, mj, g3⟩⟩
  · obtain ⟨M', a1, a2, a3⟩ := m_trayBy ok mj hw
    refine ⟨M', ?_, a2, g3.tr a3⟩
    have i2 := m_in_in (j := w) (n := 2) (by omega) (by omega)
    unfold f_X6_tray
    rw [g1, bind_sm, show (0 : Int64) = (nI 0).toInt64 from rfl, show (2 : Int64) = (nI 2).toInt64 from rfl, i2, bind_sm]
    simp (disch := omega) only [li_0, li_1, li_2, li_3, li_4, li_5, li_6, li_7, li_8, li_9, li_10, li_11, li_12, li_14, li_15, li_16, li_18, li_20, li_22, li_23, li_24, li_29, li_30, li_31, li_32, li_33, li_40, li_48, li_54, li_55, li_56, li_57, li_59, li_60, li_63, li_64, li_97, li_98, li_99, li_100, li_103, li_107, li_108, li_112, li_121, li_206, li_212, li_232, li_240, li_255, li_256, li_261, li_270, ng_1, ng_2, ng_3, ng_4, ng_9, ng_10, m1_1, nI_m1, m1_nI, if_true, if_false, nI_add, pk_mul, pk_sub, nI_div, nI_rem, nI_eq, nI_leI, nI_ltI, nI_clamp, ck_in, ck_nz, bind_sm, upM_n, upM_m, upM_s, if_pos, if_neg, a1]
  · have i2 := m_in_out (x := x) (n := 2) (by omega) hx
    unfold f_X6_tray
    rw [g1, bind_sm, show (0 : Int64) = (nI 0).toInt64 from rfl, show (2 : Int64) = (nI 2).toInt64 from rfl, i2, bind_sm]
    simp (disch := omega) only [li_0, li_1, li_2, li_3, li_4, li_5, li_6, li_7, li_8, li_9, li_10, li_11, li_12, li_14, li_15, li_16, li_18, li_20, li_22, li_23, li_24, li_29, li_30, li_31, li_32, li_33, li_40, li_48, li_54, li_55, li_56, li_57, li_59, li_60, li_63, li_64, li_97, li_98, li_99, li_100, li_103, li_107, li_108, li_112, li_121, li_206, li_212, li_232, li_240, li_255, li_256, li_261, li_270, ng_1, ng_2, ng_3, ng_4, ng_9, ng_10, m1_1, nI_m1, m1_nI, if_true, if_false, nI_add, pk_mul, pk_sub, nI_div, nI_rem, nI_eq, nI_leI, nI_ltI, nI_clamp, ck_in, ck_nz, bind_sm, upM_n, upM_m, upM_s, if_pos, if_neg]
