-- WHAT THE LAW KNOWS AT ITS ENTRY
set_option maxRecDepth 20000 in
theorem kw_ao : Cond.arrayOver (.object "AccentShop$Sheet") ∈ lw_tbl := List.mem_of_getElem? (i := 233) (by decide +kernel)
set_option maxRecDepth 20000 in
theorem kw_n0 : Cond.methodLinkNest RX3 29 yX5_isBelow "AccentShop" ∈ lw_tbl := List.mem_of_getElem? (i := 310) (by decide +kernel)
set_option maxRecDepth 20000 in
theorem kw_n1 : Cond.methodLinkNest RX1 65 yX5_isBelow "AccentShop" ∈ lw_tbl := List.mem_of_getElem? (i := 477) (by decide +kernel)
set_option maxRecDepth 20000 in
theorem kw_n2 : Cond.methodLinkNest RX4 79 yX5_isBelow "AccentShop" ∈ lw_tbl := List.mem_of_getElem? (i := 519) (by decide +kernel)
set_option maxRecDepth 20000 in
theorem kw_n3 : Cond.methodLinkNest RX0 28 yX5_isBelow "AccentShop" ∈ lw_tbl := List.mem_of_getElem? (i := 635) (by decide +kernel)
set_option maxRecDepth 20000 in
theorem kw_n4 : Cond.methodLinkNest RX2 22 yX5_isBelow "AccentShop" ∈ lw_tbl := List.mem_of_getElem? (i := 738) (by decide +kernel)
set_option maxRecDepth 20000 in
theorem kw_c0 : Cond.methodLinkNest "AccentShop" 27 yX1_init "AccentShop" ∈ lw_tbl := List.mem_of_getElem? (i := 123) (by decide +kernel)
set_option maxRecDepth 20000 in
theorem kw_c1 : Cond.methodLinkNest "AccentShop" 49 yX0_init "AccentShop" ∈ lw_tbl := List.mem_of_getElem? (i := 211) (by decide +kernel)
set_option maxRecDepth 20000 in
theorem kw_c2 : Cond.methodLinkNest "AccentShop" 60 yX2_init "AccentShop" ∈ lw_tbl := List.mem_of_getElem? (i := 235) (by decide +kernel)
set_option maxRecDepth 20000 in
theorem kw_s11 : Cond.stringRef "AccentShop" 11 "kyg" ∈ lw_tbl := List.mem_of_getElem? (i := 95) (by decide +kernel)
set_option maxRecDepth 20000 in
theorem kw_s20 : Cond.stringRef "AccentShop" 20 "pcl" ∈ lw_tbl := List.mem_of_getElem? (i := 120) (by decide +kernel)
set_option maxRecDepth 20000 in
theorem kw_z73 : Cond.laysStatic "AccentShop" "DIGEST_DRAWER_DAYS" "[I" ∈ lw_tbl := List.mem_of_getElem? (i := 780) (by decide +kernel)
set_option maxRecDepth 20000 in
theorem kw_z74 : Cond.laysStatic "AccentShop" "DIGEST_SPEECH_DAYS" "[I" ∈ lw_tbl := List.mem_of_getElem? (i := 788) (by decide +kernel)
set_option maxRecDepth 20000 in
theorem kw_zcs : Cond.laysStatic "java/lang/String" "COMPACT_STRINGS" "Z" ∈ lw_tbl := List.mem_of_getElem? (i := 340) (by decide +kernel)
set_option maxRecDepth 20000 in
theorem kw_iA : Cond.initialized "AccentShop" ∈ lw_tbl := List.mem_of_getElem? (i := 70) (by decide +kernel)
set_option maxRecDepth 20000 in
theorem kw_iS : Cond.initialized "java/lang/String" ∈ lw_tbl := List.mem_of_getElem? (i := 77) (by decide +kernel)
theorem known_c {own : String} {idx c : Nat} {args : Array Value} {s : State} (htg : ∀ w ∈ gT, w.before args s = true) (h : NW own idx c) : ∃ (cC : ClassId) (iS : Nat → Nat), ∀ r : vw_C, vwCl[c]? = some r → u_Kn s r.1 r.2.1 r.2.2 cC iS := by
  obtain ⟨r, h1, -, -, -, h5, -, h7, -⟩ := h
  obtain ⟨cC, iS, hk⟩ := u_known htg h7 (htg _ h5)
  exact ⟨cC, iS, fun r' hr' => by
    have e : r' = r := Option.some.inj (hr'.symm.trans h1)
    rw [e]
    exact hk⟩
theorem known_K {args : Array Value} {s : State} (htg : ∀ w ∈ gT, w.before args s = true) (hao : (Cond.arrayOver (.object "AccentShop$Sheet")).before args s = true) : ∃ (D : va_G) (cI cR : ClassId), va_K D vwCl [(cI, .int), (cR, .object "AccentShop$Sheet")] s := by
  obtain ⟨c0, i0, k0⟩ := known_c htg nw_X5_47
  obtain ⟨c1, i1, k1⟩ := known_c htg nw_X5_25
  obtain ⟨c2, i2, k2⟩ := known_c htg nw_X5_54
  obtain ⟨c3, i3, k3⟩ := known_c htg nw_X5_9
  obtain ⟨c4, i4, k4⟩ := known_c htg nw_X5_35
  obtain ⟨c5, i5, k5⟩ := known_c htg nw_L_7
  obtain ⟨c6, i6, k6⟩ := known_c htg nw_L_10
  obtain ⟨cI, kI, compI, f1, f2, f3⟩ := Cond.arrayClass_spec (type := .int) (htg _ ac_int)
  obtain ⟨comp, cR, kR, g1, -, g2, g3, g4⟩ := Cond.arrayOver_spec hao
  refine ⟨(fun k => match k with | 0 => c0 | 1 => c1 | 2 => c2 | 3 => c3 | 4 => c4 | 5 => c5 | _ => c6, fun k => match k with | 0 => i0 | 1 => i1 | 2 => i2 | 3 => i3 | 4 => i4 | 5 => i5 | _ => i6), cI, cR, fun c r hr => ?_, fun k q hq => ?_⟩
  · match c, hr with
    | 0, hr => exact k0 r hr
    | 1, hr => exact k1 r hr
    | 2, hr => exact k2 r hr
    | 3, hr => exact k3 r hr
    | 4, hr => exact k4 r hr
    | 5, hr => exact k5 r hr
    | 6, hr => exact k6 r hr
    | c + 7, hr => simp [vwCl] at hr
  · match k, hq with
    | 0, hq => cases hq; exact ⟨fun n z => ⟨fun k h => (by cases h), kI, f2, compI, f3⟩, f1⟩
    | 1, hq => cases hq; exact ⟨fun n z => ⟨fun k h => (by cases h), kR, g2, comp, g3⟩, kR, comp, g2, g3, g1, g4⟩
    | k + 2, hq => simp at hq
theorem known_73 {args : Array Value} {s : State} {A : Nat → Prop} (hs : ∀ c ∈ flatC (Jvm.Cond.and given_1 narrow_1), c.before args s = true) (hA : ∀ a : Nat, a < s.heap.size → ¬ A a) : ∃ t, (Term.static "AccentShop" "DIGEST_DRAWER_DAYS" "[I").eval args s none [] s = some (.ref t) ∧ va_T .int t 3 (fun j => .int (roF 73 j)) A s s.heap := by
  refine va_Tof (by decide) (hs _ (by decide +kernel)) (va_eqt (hs (Cond.eq (.length (.static "AccentShop" "DIGEST_DRAWER_DAYS" "[I")) (.int 3)) (by decide +kernel))) (fun j hj => ?_) hA
  rcases (show j = 0 ∨ j = 1 ∨ j = 2 by omega) with rfl | rfl | rfl
  · exact va_eqt (hs (Cond.eq (.elem (.static "AccentShop" "DIGEST_DRAWER_DAYS" "[I") (.int 0)) (.int 6)) (by decide +kernel))
  · exact va_eqt (hs (Cond.eq (.elem (.static "AccentShop" "DIGEST_DRAWER_DAYS" "[I") (.int 1)) (.int 20)) (by decide +kernel))
  · exact va_eqt (hs (Cond.eq (.elem (.static "AccentShop" "DIGEST_DRAWER_DAYS" "[I") (.int 2)) (.int 29)) (by decide +kernel))
theorem known_74 {args : Array Value} {s : State} {A : Nat → Prop} (hs : ∀ c ∈ flatC (Jvm.Cond.and given_1 narrow_1), c.before args s = true) (hA : ∀ a : Nat, a < s.heap.size → ¬ A a) : ∃ t, (Term.static "AccentShop" "DIGEST_SPEECH_DAYS" "[I").eval args s none [] s = some (.ref t) ∧ va_T .int t 4 (fun j => .int (roF 74 j)) A s s.heap := by
  refine va_Tof (by decide) (hs _ (by decide +kernel)) (va_eqt (hs (Cond.eq (.length (.static "AccentShop" "DIGEST_SPEECH_DAYS" "[I")) (.int 4)) (by decide +kernel))) (fun j hj => ?_) hA
  rcases (show j = 0 ∨ j = 1 ∨ j = 2 ∨ j = 3 by omega) with rfl | rfl | rfl | rfl
  · exact va_eqt (hs (Cond.eq (.elem (.static "AccentShop" "DIGEST_SPEECH_DAYS" "[I") (.int 0)) (.int 0)) (by decide +kernel))
  · exact va_eqt (hs (Cond.eq (.elem (.static "AccentShop" "DIGEST_SPEECH_DAYS" "[I") (.int 1)) (.int 7)) (by decide +kernel))
  · exact va_eqt (hs (Cond.eq (.elem (.static "AccentShop" "DIGEST_SPEECH_DAYS" "[I") (.int 2)) (.int 15)) (by decide +kernel))
  · exact va_eqt (hs (Cond.eq (.elem (.static "AccentShop" "DIGEST_SPEECH_DAYS" "[I") (.int 3)) (.int 29)) (by decide +kernel))
def tmS (i : Nat) : Term := if i = 0 then .string "AccentShop" 11 else .string "AccentShop" 20
theorem known_S {args : Array Value} {s : State} {A : Nat → Prop} (hs : ∀ c ∈ flatC (Jvm.Cond.and given_1 narrow_1), c.before args s = true) (hA : ∀ a : Nat, a < s.heap.size → ¬ A a) : ∃ adK adV : Nat → Nat, vk_S 2 [3, 3] [stB 0, stB 1] adK adV A s s.heap ∧ ∀ i : Nat, i < 2 → (tmS i).eval args s none [] s = some (.ref (adK i)) := by
  refine vk_Sof (tm := tmS) (fun i hi => ?_) (fun i hi => ?_) (fun i hi => ?_) (fun i hi => ?_) (fun i hi => ?_) (fun i hi j hj => ?_) (fun i j hi hj hij => ?_) hA
  · rcases two_i hi with rfl | rfl <;> decide
  · rcases two_i hi with rfl | rfl
    · exact hs (Cond.exactly (.string "AccentShop" 11) "java/lang/String") (by decide +kernel)
    · exact hs (Cond.exactly (.string "AccentShop" 20) "java/lang/String") (by decide +kernel)
  · rcases two_i hi with rfl | rfl
    · exact hs (Cond.eq (.field (.string "AccentShop" 11) "java/lang/String" "coder" "B") (.int 0)) (by decide +kernel)
    · exact hs (Cond.eq (.field (.string "AccentShop" 20) "java/lang/String" "coder" "B") (.int 0)) (by decide +kernel)
  · rcases two_i hi with rfl | rfl
    · exact hs (Cond.arrayOf (.field (.string "AccentShop" 11) "java/lang/String" "value" "[B") .byte) (by decide +kernel)
    · exact hs (Cond.arrayOf (.field (.string "AccentShop" 20) "java/lang/String" "value" "[B") .byte) (by decide +kernel)
  · rcases two_i hi with rfl | rfl
    · exact hs (Cond.eq (.length (.field (.string "AccentShop" 11) "java/lang/String" "value" "[B")) (.int 3)) (by decide +kernel)
    · exact hs (Cond.eq (.length (.field (.string "AccentShop" 20) "java/lang/String" "value" "[B")) (.int 3)) (by decide +kernel)
  · rcases two_i hi with rfl | rfl
    · have hj : j < 3 := hj
      rcases (show j = 0 ∨ j = 1 ∨ j = 2 by omega) with rfl | rfl | rfl
      · exact hs (Cond.eq (.elem (.field (.string "AccentShop" 11) "java/lang/String" "value" "[B") (.int 0)) (.int 107)) (by decide +kernel)
      · exact hs (Cond.eq (.elem (.field (.string "AccentShop" 11) "java/lang/String" "value" "[B") (.int 1)) (.int 121)) (by decide +kernel)
      · exact hs (Cond.eq (.elem (.field (.string "AccentShop" 11) "java/lang/String" "value" "[B") (.int 2)) (.int 103)) (by decide +kernel)
    · have hj : j < 3 := hj
      rcases (show j = 0 ∨ j = 1 ∨ j = 2 by omega) with rfl | rfl | rfl
      · exact hs (Cond.eq (.elem (.field (.string "AccentShop" 20) "java/lang/String" "value" "[B") (.int 0)) (.int 112)) (by decide +kernel)
      · exact hs (Cond.eq (.elem (.field (.string "AccentShop" 20) "java/lang/String" "value" "[B") (.int 1)) (.int 99)) (by decide +kernel)
      · exact hs (Cond.eq (.elem (.field (.string "AccentShop" 20) "java/lang/String" "value" "[B") (.int 2)) (.int 108)) (by decide +kernel)
  · have h0 : (Cond.not (Cond.eq (.string "AccentShop" 11) (.string "AccentShop" 20))).before args s = true := hs _ (by decide +kernel)
    rcases two_i hi with rfl | rfl <;> rcases two_i hj with rfl | rfl
    · exact absurd rfl hij
    · exact Or.inl h0
    · exact Or.inr h0
    · exact absurd rfl hij
theorem known {p : Program} {s : State} {m : MethodId} {meth : Method} {c : Code} {b L : Nat} {xs : Nat → Int32} (C0 : lw_At p s m meth c b L xs) (l : Launch) : ∃ (D : va_G) (ad : Nat → Nat) (cI cR : ClassId), KU (l, (fun q => s.heap.size ≤ q), D, ad, cI, cR) s ∧ BU (l, (fun q => s.heap.size ≤ q), D, ad, cI, cR) s := by
  obtain ⟨hx, hb, hr, hml, hown, hts, hX, hbl, hlocks, hgv⟩ := C0
  have htg : ∀ w ∈ gT, w.before #[Value.ref b] s = true := fun w hw => hts w (List.mem_filter.mp hw).1
  have hs := flat_of_before _ hgv
  have hA : ∀ a : Nat, a < s.heap.size → ¬ (fun q : Nat => s.heap.size ≤ q) a := fun a h => Nat.not_le.mpr h
  obtain ⟨D, cI, cR, hK⟩ := known_K htg (hts _ kw_ao)
  obtain ⟨t73, e73, h73⟩ := known_73 (A := fun q => s.heap.size ≤ q) hs hA
  obtain ⟨t74, e74, h74⟩ := known_74 (A := fun q => s.heap.size ≤ q) hs hA
  obtain ⟨adK, adV, hS, eS⟩ := known_S (A := fun q => s.heap.size ≤ q) hs hA
  refine ⟨D, fun k => match k with | 71 => adK 0 | 72 => adK 1 | 73 => t73 | 74 => t74 | 75 => adV 0 | 76 => adV 1 | _ => 0, cI, cR, ⟨hK, ?_, ⟨?_, ?_⟩, ⟨h73, h74⟩, ?_, ?_⟩, ?_, ?_, ?_, va_AO.of (hts _ kw_ao)⟩
  · intro q hq
    unfold nestW at hq
    simp only [List.mem_cons, List.not_mem_nil, or_false] at hq
    rcases hq with rfl | rfl | rfl | rfl | rfl
    · exact va_Nw.of rfl (hts _ kw_n0)
    · exact va_Nw.of rfl (hts _ kw_n1)
    · exact va_Nw.of rfl (hts _ kw_n2)
    · exact va_Nw.of rfl (hts _ kw_n3)
    · exact va_Nw.of rfl (hts _ kw_n4)
  · exact va_Zof (hts _ kw_z73) (hts _ kw_iA) e73 hA
  · exact va_Zof (hts _ kw_z74) (hts _ kw_iA) e74 hA
  · exact va_Zof (hts _ kw_zcs) (hts _ kw_iS) (va_eqt (hs (Cond.eq (.static "java/lang/String" "COMPACT_STRINGS" "Z") (.int 1)) (by decide +kernel))) hA
  · refine ⟨fun i hi => ?_, fun i j hi hj e => ?_⟩
    · rcases two_i hi with rfl | rfl
      · exact hS.1 0 hi
      · exact hS.1 1 hi
    · rcases two_i hi with rfl | rfl <;> rcases two_i hj with rfl | rfl
      · rfl
      · exact hS.2 0 1 hi hj e
      · exact hS.2 1 0 hi hj e
      · rfl
  · intro q hq
    unfold ctW at hq
    simp only [List.mem_cons, List.not_mem_nil, or_false] at hq
    rcases hq with rfl | rfl | rfl
    · exact va_Nw.of rfl (hts _ kw_c0)
    · exact va_Nw.of rfl (hts _ kw_c1)
    · exact va_Nw.of rfl (hts _ kw_c2)
  · exact vk_R.of (hts _ kw_s11) (eS 0 (by omega))
  · exact vk_R.of (hts _ kw_s20) (eS 1 (by omega))
