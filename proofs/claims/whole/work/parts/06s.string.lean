-- THE TEXTS: String.indexOf(int) on the two constants, walked over the JDK's own methods
set_option maxRecDepth 20000 in
theorem slm_J0_indexOf_0f7a4 : LM yJ0_indexOf_0f7a4 cJ0_indexOf_0f7a4 2 (some .int) 1 := ⟨gT_in 330 (by decide +kernel) (by decide +kernel), gT_in 77 (by decide +kernel) (by decide +kernel), by decide, by decide, by decide +kernel⟩
set_option maxRecDepth 20000 in
theorem slm_J0_indexOf_7cf53 : LM yJ0_indexOf_7cf53 cJ0_indexOf_7cf53 3 (some .int) 2 := ⟨gT_in 334 (by decide +kernel) (by decide +kernel), gT_in 77 (by decide +kernel) (by decide +kernel), by decide, by decide, by decide +kernel⟩
set_option maxRecDepth 20000 in
theorem slm_J0_isLatin1_aae02 : LM yJ0_isLatin1_aae02 cJ0_isLatin1_aae02 1 (some .boolean) 0 := ⟨gT_in 338 (by decide +kernel) (by decide +kernel), gT_in 77 (by decide +kernel) (by decide +kernel), by decide, by decide, by decide +kernel⟩
set_option maxRecDepth 20000 in
theorem slm_J0_length_8abf5 : LM yJ0_length_8abf5 cJ0_length_8abf5 1 (some .int) 0 := ⟨gT_in 344 (by decide +kernel) (by decide +kernel), gT_in 77 (by decide +kernel) (by decide +kernel), by decide, by decide, by decide +kernel⟩
set_option maxRecDepth 20000 in
theorem slm_J0_coder_7d493 : LM yJ0_coder_7d493 cJ0_coder_7d493 1 (some .byte) 0 := ⟨gT_in 348 (by decide +kernel) (by decide +kernel), gT_in 77 (by decide +kernel) (by decide +kernel), by decide, by decide, by decide +kernel⟩
set_option maxRecDepth 20000 in
theorem slm_J1_indexOf_4cfef : LM yJ1_indexOf_4cfef cJ1_indexOf_4cfef 4 (some .int) 4 := ⟨gT_in 351 (by decide +kernel) (by decide +kernel), gT_in 78 (by decide +kernel) (by decide +kernel), by decide, by decide, by decide +kernel⟩
set_option maxRecDepth 20000 in
theorem slm_J1_canEncode_9a6ad : LM yJ1_canEncode_9a6ad cJ1_canEncode_9a6ad 1 (some .boolean) 1 := ⟨gT_in 354 (by decide +kernel) (by decide +kernel), gT_in 78 (by decide +kernel) (by decide +kernel), by decide, by decide, by decide +kernel⟩
set_option maxRecDepth 20000 in
theorem slm_J1_indexOfChar_4cfef : LM yJ1_indexOfChar_4cfef cJ1_indexOfChar_4cfef 6 (some .int) 4 := ⟨gT_in 363 (by decide +kernel) (by decide +kernel), gT_in 78 (by decide +kernel) (by decide +kernel), by decide, by decide, by decide +kernel⟩
set_option maxRecDepth 20000 in
theorem slv_J0_indexOf_0f7a4 : Cond.instanceMethod yJ0_indexOf_0f7a4 ∈ gT ∧ Cond.selects yJ0_indexOf_0f7a4.cls yJ0_indexOf_0f7a4 yJ0_indexOf_0f7a4 ∈ gT ∧ yJ0_indexOf_0f7a4.cls = "java/lang/String" := ⟨gT_in 328 (by decide +kernel) (by decide +kernel), gT_in 329 (by decide +kernel) (by decide +kernel), rfl⟩
set_option maxRecDepth 20000 in
theorem slv_J0_indexOf_7cf53 : Cond.instanceMethod yJ0_indexOf_7cf53 ∈ gT ∧ Cond.selects yJ0_indexOf_7cf53.cls yJ0_indexOf_7cf53 yJ0_indexOf_7cf53 ∈ gT ∧ yJ0_indexOf_7cf53.cls = "java/lang/String" := ⟨gT_in 332 (by decide +kernel) (by decide +kernel), gT_in 333 (by decide +kernel) (by decide +kernel), rfl⟩
set_option maxRecDepth 20000 in
theorem slv_J0_isLatin1_aae02 : Cond.instanceMethod yJ0_isLatin1_aae02 ∈ gT ∧ Cond.selects yJ0_isLatin1_aae02.cls yJ0_isLatin1_aae02 yJ0_isLatin1_aae02 ∈ gT ∧ yJ0_isLatin1_aae02.cls = "java/lang/String" := ⟨gT_in 336 (by decide +kernel) (by decide +kernel), gT_in 337 (by decide +kernel) (by decide +kernel), rfl⟩
set_option maxRecDepth 20000 in
theorem slv_J0_length_8abf5 : Cond.instanceMethod yJ0_length_8abf5 ∈ gT ∧ Cond.selects yJ0_length_8abf5.cls yJ0_length_8abf5 yJ0_length_8abf5 ∈ gT ∧ yJ0_length_8abf5.cls = "java/lang/String" := ⟨gT_in 342 (by decide +kernel) (by decide +kernel), gT_in 343 (by decide +kernel) (by decide +kernel), rfl⟩
set_option maxRecDepth 20000 in
theorem slv_J0_coder_7d493 : Cond.instanceMethod yJ0_coder_7d493 ∈ gT ∧ Cond.selects yJ0_coder_7d493.cls yJ0_coder_7d493 yJ0_coder_7d493 ∈ gT ∧ yJ0_coder_7d493.cls = "java/lang/String" := ⟨gT_in 346 (by decide +kernel) (by decide +kernel), gT_in 347 (by decide +kernel) (by decide +kernel), rfl⟩
set_option maxRecDepth 20000 in
theorem sln_J0_633 : Cond.methodLink RJ0 633 yJ0_indexOf_7cf53 ∈ gT := gT_in 331 (by decide +kernel) (by decide +kernel)
set_option maxRecDepth 20000 in
theorem sln_J0_492 : Cond.methodLink RJ0 492 yJ0_isLatin1_aae02 ∈ gT := gT_in 335 (by decide +kernel) (by decide +kernel)
set_option maxRecDepth 20000 in
theorem sln_J0_505 : Cond.methodLink RJ0 505 yJ0_length_8abf5 ∈ gT := gT_in 341 (by decide +kernel) (by decide +kernel)
set_option maxRecDepth 20000 in
theorem sln_J0_335 : Cond.methodLink RJ0 335 yJ0_coder_7d493 ∈ gT := gT_in 345 (by decide +kernel) (by decide +kernel)
set_option maxRecDepth 20000 in
theorem sls_J0_637 : LSt RJ0 637 yJ1_indexOf_4cfef := ⟨gT_in 349 (by decide +kernel) (by decide +kernel), gT_in 350 (by decide +kernel) (by decide +kernel)⟩
set_option maxRecDepth 20000 in
theorem sls_J1_88 : LSt RJ1 88 yJ1_canEncode_9a6ad := ⟨gT_in 352 (by decide +kernel) (by decide +kernel), gT_in 353 (by decide +kernel) (by decide +kernel)⟩
set_option maxRecDepth 20000 in
theorem sls_J1_95 : LSt RJ1 95 yJ1_indexOfChar_4cfef := ⟨gT_in 361 (by decide +kernel) (by decide +kernel), gT_in 362 (by decide +kernel) (by decide +kernel)⟩
set_option maxRecDepth 20000 in
theorem smm_max : Cond.methodLink RJ1 92 Lib.Math.max.name ∈ gT ∧ Cond.static Lib.Math.max.name ∈ gT ∧ Cond.initialized "java/lang/Math" ∈ gT ∧ Cond.code Lib.Math.max.name Lib.Math.max.code 2 (some .int) ∈ gT := ⟨gT_in 355 (by decide +kernel) (by decide +kernel), gT_in 356 (by decide +kernel) (by decide +kernel), gT_in 79 (by decide +kernel) (by decide +kernel), gT_in 357 (by decide +kernel) (by decide +kernel)⟩
set_option maxRecDepth 20000 in
theorem smm_min : Cond.methodLink RJ1 38 Lib.Math.min.name ∈ gT ∧ Cond.static Lib.Math.min.name ∈ gT ∧ Cond.initialized "java/lang/Math" ∈ gT ∧ Cond.code Lib.Math.min.name Lib.Math.min.code 2 (some .int) ∈ gT := ⟨gT_in 358 (by decide +kernel) (by decide +kernel), gT_in 359 (by decide +kernel) (by decide +kernel), gT_in 79 (by decide +kernel) (by decide +kernel), gT_in 360 (by decide +kernel) (by decide +kernel)⟩
set_option maxRecDepth 20000 in
theorem sfl_9 : Cond.fieldLink RJ0 9 "java/lang/String" "value" "[B" ∈ gT := gT_in 1270 (by decide +kernel) (by decide +kernel)
set_option maxRecDepth 20000 in
theorem sfl_15 : Cond.fieldLink RJ0 15 "java/lang/String" "coder" "B" ∈ gT := gT_in 1269 (by decide +kernel) (by decide +kernel)
set_option maxRecDepth 20000 in
theorem sfl_38 : Cond.fieldLink RJ0 38 "java/lang/String" "COMPACT_STRINGS" "Z" ∈ gT := gT_in 339 (by decide +kernel) (by decide +kernel)
section STR
variable {Y : EY} {X : CX} {cc : ByteArray} {own : String} {nL pc : Nat} {ret : Option FieldType} {rm : Room} {ls : List (Nat × Value)} {st : List Value} {M : Mem}
variable {y : MethodName} {cc' : ByteArray} {mL' n index : Nat} {ret' : Option FieldType} {rm' : Room} {As rest : List Value} {o : Option Value} {M1 : Mem} {i : Nat}
theorem two_i (h : i < 2) : i = 0 ∨ i = 1 := by omega
theorem KU.T {U : State} (h : KU Y U) (hi : i < 2) : va_T .byte (Y.2.2.2.1 (75 + i)) 3 (fun j => .int ((stB i).getD j 0)) Y.2.1 U U.heap := by
  rcases two_i hi with rfl | rfl
  · exact (h.2.2.2.2.2.1 0 hi).2.2.2
  · exact (h.2.2.2.2.2.1 1 hi).2.2.2
theorem a_scod (C : CK Y X cc own nL ret rm) (hi : i < 2) (d : decode cc pc = .ok (.getfield index, 3)) (hF : Cond.fieldLink own index "java/lang/String" "coder" "B" ∈ gT) (k : AW Y X nL (pc + 3) ls (.int 0 :: st) M) : AW Y X nL pc ls (.ref (Y.2.2.2.1 (71 + i)) :: st) M := by
  intro H locs L hP hS hl
  exact vk_getf C.1 C.2.1 (C.2.2.2.2.2.1.2.2.2.2.2.1 i hi).2.1 hS C.2.2.2.1 (C.2.2.2.2.1 _ hF) (fun _ h => h) d (k H locs L hP hS hl)
theorem a_sval (C : CK Y X cc own nL ret rm) (hi : i < 2) (d : decode cc pc = .ok (.getfield index, 3)) (hF : Cond.fieldLink own index "java/lang/String" "value" "[B" ∈ gT) (k : AW Y X nL (pc + 3) ls (.ref (Y.2.2.2.1 (75 + i)) :: st) M) : AW Y X nL pc ls (.ref (Y.2.2.2.1 (71 + i)) :: st) M := by
  intro H locs L hP hS hl
  exact vk_getf C.1 C.2.1 (C.2.2.2.2.2.1.2.2.2.2.2.1 i hi).2.2.1 hS C.2.2.2.1 (C.2.2.2.2.1 _ hF) (fun _ h => h) d (k H locs L hP hS hl)
theorem a_gcs (C : CK Y X cc own nL ret rm) (d : decode cc pc = .ok (.getstatic index, 3)) (hF : Cond.fieldLink own index "java/lang/String" "COMPACT_STRINGS" "Z" ∈ gT) (k : AW Y X nL (pc + 3) ls (.int 1 :: st) M) : AW Y X nL pc ls st M := by
  intro H locs L hP hS hl
  exact va_gets C.1 C.2.1 C.2.2.2.2.2.1.2.2.2.2.1 hS C.2.2.2.1 (C.2.2.2.2.1 _ hF) (fun _ h => h) d (k H locs L hP hS hl)
theorem a_slen (C : CK Y X cc own nL ret rm) (hi : i < 2) (d : decode cc pc = .ok (.arraylength, 1)) (k : AW Y X nL (pc + 1) ls (.int 3 :: st) M) : AW Y X nL pc ls (.ref (Y.2.2.2.1 (75 + i)) :: st) M := by
  intro H locs L hP hS hl
  exact va_tlen C.1 C.2.1 (C.2.2.2.2.2.1.T hi) hS rfl d (k H locs L hP hS hl)
theorem a_sbal {j : Int32} {v : Int32} (C : CK Y X cc own nL ret rm) (hi : i < 2) (d : decode cc pc = .ok (.baload, 1)) (hj : inb j 3 = true) (hv : (stB i).getD j.toNatClampNeg 0 = v) (k : AW Y X nL (pc + 1) ls (.int v :: st) M) : AW Y X nL pc ls (.int j :: .ref (Y.2.2.2.1 (75 + i)) :: st) M := by
  intro H locs L hP hS hl
  exact va_tb C.1 C.2.1 (C.2.2.2.2.2.1.T hi) hS (inb_in hj) (by rw [hv]) d (k H locs L hP hS hl)
theorem a_bret {v : Int32} (C : CK Y X cc own nL (some .byte) rm) (d : decode cc pc = .ok (.ireturn, 1)) (hb : narrow .byte (.int v) = .int v) (hR : RK Y X (some (.int v)) M) : AW Y X nL pc ls [.int v] M := by
  intro H locs L hP hS hl
  unfold WX
  rw [hR.1, hR.2.1, hR.2.2]
  exact W.zret C.1 C.2.1 C.2.2.2.2.2.2.2.2.1 hb (a_end hP hS) hS.2.2 d C.2.2.2.2.2.2.2.1
theorem a_mmax {x z : Int32} (C : CK Y X cc own nL ret rm) (d : decode cc pc = .ok (.invokestatic index, 3)) (hm : Cond.methodLink own index Lib.Math.max.name ∈ gT ∧ Cond.static Lib.Math.max.name ∈ gT ∧ Cond.initialized "java/lang/Math" ∈ gT ∧ Cond.code Lib.Math.max.name Lib.Math.max.code 2 (some .int) ∈ gT) (hf : 1 ≤ rm.frames) (hr : (rest.map fun v => v.category).sum + 13 ≤ rm.locals) (k : AW Y X nL (pc + 3) ls (.int (if x < z then z else x) :: rest) M) : AW Y X nL pc ls (.int z :: .int x :: rest) M := by
  intro H locs L hP hS hlv
  have eR := C.2.2.2.2.2.2.2.2.2.1
  exact va_mmax C.1 C.2.1 (C.2.2.1.trans hlv.1.symm) C.2.2.2.1 (C.2.2.2.2.1 _ hm.1) (C.2.2.2.2.1 _ hm.2.1) (C.2.2.2.2.1 _ hm.2.2.1) (C.2.2.2.2.1 _ hm.2.2.2) (by rw [eR]; exact hf) (by rw [eR]; exact hr) (by rw [eR]; exact C.2.2.2.2.2.2.2.2.2.2.1) (by rw [eR]; exact C.2.2.2.2.2.2.2.2.2.2.2) d (k H locs L hP hS hlv)
theorem a_mmin {x z : Int32} (C : CK Y X cc own nL ret rm) (d : decode cc pc = .ok (.invokestatic index, 3)) (hm : Cond.methodLink own index Lib.Math.min.name ∈ gT ∧ Cond.static Lib.Math.min.name ∈ gT ∧ Cond.initialized "java/lang/Math" ∈ gT ∧ Cond.code Lib.Math.min.name Lib.Math.min.code 2 (some .int) ∈ gT) (hf : 1 ≤ rm.frames) (hr : (rest.map fun v => v.category).sum + 13 ≤ rm.locals) (k : AW Y X nL (pc + 3) ls (.int (if z < x then z else x) :: rest) M) : AW Y X nL pc ls (.int z :: .int x :: rest) M := by
  intro H locs L hP hS hlv
  have eR := C.2.2.2.2.2.2.2.2.2.1
  exact va_mmin C.1 C.2.1 (C.2.2.1.trans hlv.1.symm) C.2.2.2.1 (C.2.2.2.2.1 _ hm.1) (C.2.2.2.2.1 _ hm.2.1) (C.2.2.2.2.1 _ hm.2.2.1) (C.2.2.2.2.1 _ hm.2.2.2) (by rw [eR]; exact hf) (by rw [eR]; exact hr) (by rw [eR]; exact C.2.2.2.2.2.2.2.2.2.2.1) (by rw [eR]; exact C.2.2.2.2.2.2.2.2.2.2.2) d (k H locs L hP hS hlv)
theorem a_callT (C : CK Y X cc own nL ret rm) (hi : i < 2) (d : decode cc pc = .ok (.invokevirtual index, 3)) (hl : Cond.methodLink own index y ∈ gT) (hV : Cond.instanceMethod y ∈ gT ∧ Cond.selects y.cls y y ∈ gT ∧ y.cls = "java/lang/String") (hL : LM y cc' mL' ret' n) (hR : RO rm rm' mL') (hM : MX Y y cc' mL' ret' rm' (.ref (Y.2.2.2.1 (71 + i)) :: As) M o M1) (hn : As.length = n) (hst : st = As.reverse ++ .ref (Y.2.2.2.1 (71 + i)) :: rest) (hr : (rest.map fun v => v.category).sum ≤ 8) (k : AW Y X nL (pc + 3) ls (o.toList ++ rest) M1) : AW Y X nL pc ls st M := by
  intro H locs L hP hS hlv
  have rc : ∃ cell : Cell, H[Y.2.2.2.1 (71 + i)]? = some cell ∧ cell.vm.isStatics = false ∧ X.1.2.2.2.1.vm.findClass y.cls = some cell.cls := by
    rw [hV.2.2]
    exact vk_recv (i := i) (adK := fun i => Y.2.2.2.1 (71 + i)) C.2.2.2.2.2.1.2.2.2.2.2 hi hS
  refine a_run (va_runV (C := y.cls) (As := As) (rest := rest) ⟨C.1, C.2.1, C.2.2.1, C.2.2.2.1, C.2.2.2.2.1⟩ hM ⟨a_callB C hL hl hR, C.2.2.2.2.1 _ hV.1, C.2.2.2.2.1 _ hV.2.1⟩ ⟨Px.blind, rc, a_px C hP hS⟩ rfl hn hlv.1 hst (lv_room hr) d (a_fits C)) hS (fun H1 locs1 hP1 hS1 => k H1 locs1 L hP1 hS1 hlv)
abbrev rm_s0 : Room := { frames := 0, cells := 0, slots := 0, locals := 0 }
abbrev rm_s1 : Room := { frames := 1, cells := 0, slots := 0, locals := 30 }
abbrev rm_s2 : Room := { frames := 2, cells := 0, slots := 0, locals := 80 }
abbrev rm_sidx : Room := { frames := 6, cells := 0, slots := 0, locals := 150 }
def canE (x : Int32) : Int32 := if x < 0 then 0 else if 255 < x then 0 else 1
theorem m_can (hY : HY Y) {x : Int32} : MX Y yJ1_canEncode_9a6ad cJ1_canEncode_9a6ad 1 (some .boolean) rm_s0 [.int x] M (some (.int (canE x))) M := by
  refine MX.of hY (by decide) (Nat.le_of_ble_eq_true rfl) (fun X hR C => a_sub (ls' := [(0, .int x)]) [0] ?_ rfl)
  unfold canE at hR
  refine a_iload_n C dJ1_canEncode_9a6ad_0 0 rfl ?_
  refine a_if_lt (tgt := 15) C dJ1_canEncode_9a6ad_1 (by decide) (fun hc => ?_) (fun hc => ?_)
  · rw [if_pos hc] at hR
    refine a_iconst (v := 0) C dJ1_canEncode_9a6ad_15 (by decide) ?_
    exact a_zret C dJ1_canEncode_9a6ad_16 rfl hR
  · rw [if_neg hc] at hR
    refine a_iload_n C dJ1_canEncode_9a6ad_4 0 rfl ?_
    refine a_sipush (v := 255) C dJ1_canEncode_9a6ad_5 (by decide) ?_
    refine a_icmp_gt (tgt := 15) C dJ1_canEncode_9a6ad_8 (by decide) (fun hd => ?_) (fun hd => ?_)
    · rw [if_pos hd] at hR
      refine a_iconst (v := 0) C dJ1_canEncode_9a6ad_15 (by decide) ?_
      exact a_zret C dJ1_canEncode_9a6ad_16 rfl hR
    · rw [if_neg hd] at hR
      refine a_iconst (v := 1) C dJ1_canEncode_9a6ad_11 (by decide) ?_
      refine a_goto (tgt := 16) C dJ1_canEncode_9a6ad_12 (by decide) ?_
      exact a_zret C dJ1_canEncode_9a6ad_16 rfl hR
theorem m_isl (hY : HY Y) (hi : i < 2) : MX Y yJ0_isLatin1_aae02 cJ0_isLatin1_aae02 1 (some .boolean) rm_s0 [.ref (Y.2.2.2.1 (71 + i))] M (some (.int 1)) M := by
  refine MX.of hY (by decide) (Nat.le_of_ble_eq_true rfl) (fun X hR C => a_sub (ls' := [(0, .ref (Y.2.2.2.1 (71 + i)))]) [0] ?_ rfl)
  refine a_gcs C dJ0_isLatin1_aae02_0 sfl_38 ?_
  refine a_if_eq (tgt := 17) C dJ0_isLatin1_aae02_3 (by decide) (fun hc => absurd hc (by decide)) (fun _ => ?_)
  refine a_aload_n C dJ0_isLatin1_aae02_6 0 rfl ?_
  refine a_scod C hi dJ0_isLatin1_aae02_7 sfl_15 ?_
  refine a_if_ne (tgt := 17) C dJ0_isLatin1_aae02_10 (by decide) (fun hc => absurd rfl hc) (fun _ => ?_)
  refine a_iconst (v := 1) C dJ0_isLatin1_aae02_13 (by decide) ?_
  refine a_goto (tgt := 18) C dJ0_isLatin1_aae02_14 (by decide) ?_
  exact a_zret C dJ0_isLatin1_aae02_18 rfl hR
theorem m_cod (hY : HY Y) (hi : i < 2) : MX Y yJ0_coder_7d493 cJ0_coder_7d493 1 (some .byte) rm_s0 [.ref (Y.2.2.2.1 (71 + i))] M (some (.int 0)) M := by
  refine MX.of hY (by decide) (Nat.le_of_ble_eq_true rfl) (fun X hR C => a_sub (ls' := [(0, .ref (Y.2.2.2.1 (71 + i)))]) [0] ?_ rfl)
  refine a_gcs C dJ0_coder_7d493_0 sfl_38 ?_
  refine a_if_eq (tgt := 13) C dJ0_coder_7d493_3 (by decide) (fun hc => absurd hc (by decide)) (fun _ => ?_)
  refine a_aload_n C dJ0_coder_7d493_6 0 rfl ?_
  refine a_scod C hi dJ0_coder_7d493_7 sfl_15 ?_
  refine a_goto (tgt := 14) C dJ0_coder_7d493_10 (by decide) ?_
  exact a_bret C dJ0_coder_7d493_14 rfl hR
theorem m_slen (hY : HY Y) (hi : i < 2) : MX Y yJ0_length_8abf5 cJ0_length_8abf5 1 (some .int) rm_s1 [.ref (Y.2.2.2.1 (71 + i))] M (some (.int 3)) M := by
  refine MX.of hY (by decide) (Nat.le_of_ble_eq_true rfl) (fun X hR C => a_sub (ls' := [(0, .ref (Y.2.2.2.1 (71 + i)))]) [0] ?_ rfl)
  refine a_aload_n C dJ0_length_8abf5_0 0 rfl ?_
  refine a_sval C hi dJ0_length_8abf5_1 sfl_9 ?_
  refine a_slen C hi dJ0_length_8abf5_4 ?_
  refine a_aload_n C dJ0_length_8abf5_5 0 rfl ?_
  refine a_callT (As := []) (rest := [.int 3]) C hi dJ0_length_8abf5_6 sln_J0_335 slv_J0_coder_7d493 slm_J0_coder_7d493 ⟨rfl, rfl, Nat.le_of_ble_eq_true rfl, Nat.le_of_ble_eq_true rfl⟩ (m_cod hY hi) rfl rfl (Nat.le_of_ble_eq_true rfl) ?_
  refine a_ishr C dJ0_length_8abf5_9 ?_
  exact a_iret C dJ0_length_8abf5_10 hR
def ixB (i : Nat) (b : Int32) : Int32 := if (stB i).getD 0 0 = b then 0 else if (stB i).getD 1 0 = b then 1 else if (stB i).getD 2 0 = b then 2 else -1
theorem ich_step {X : CX} {x b z : Int32} {j : Nat} (hi : i < 2) (hj : j < 3) (C : CK Y X cJ1_indexOfChar_4cfef RJ1 6 (some .int) rm_s0) (h1 : (stB i).getD j 0 = b → RK Y X (some (.int (nI j))) M) (h2 : ¬ (stB i).getD j 0 = b → AW Y X 6 7 [(0, .ref (Y.2.2.2.1 (75 + i))), (3, .int 3), (4, .int b), (5, .int (nI (j + 1)))] [] M) : AW Y X 6 7 [(0, .ref (Y.2.2.2.1 (75 + i))), (3, .int 3), (4, .int b), (5, .int (nI j))] [] M := by
  refine a_iload C dJ1_indexOfChar_4cfef_7 3 rfl ?_
  refine a_iload_n C dJ1_indexOfChar_4cfef_9 1 rfl ?_
  refine a_icmp_ge (tgt := 31) C dJ1_indexOfChar_4cfef_10 (by decide) (fun hc => ?_) (fun _ => ?_)
  · exact absurd hc (nI_ge hj (by decide))
  · refine a_aload_n C dJ1_indexOfChar_4cfef_13 0 rfl ?_
    refine a_iload C dJ1_indexOfChar_4cfef_14 3 rfl ?_
    refine a_sbal C hi dJ1_indexOfChar_4cfef_16 (decide_eq_true (nI_in hj (by omega))) (by rw [nI_clamp (by omega)]) ?_
    refine a_iload C dJ1_indexOfChar_4cfef_17 2 rfl ?_
    refine a_icmp_ne (tgt := 25) C dJ1_indexOfChar_4cfef_19 (by decide) (fun hc => ?_) (fun hc => ?_)
    · refine a_iinc (v := 1) C dJ1_indexOfChar_4cfef_25 3 rfl (by decide) (by decide) rfl ?_
      refine a_goto (tgt := 7) C dJ1_indexOfChar_4cfef_28 (by decide) ?_
      rw [show nI j + 1 = nI (j + 1) from nI_1 j]
      exact a_sub [1, 2, 3, 0] (h2 hc) rfl
    · refine a_iload C dJ1_indexOfChar_4cfef_22 3 rfl ?_
      exact a_iret C dJ1_indexOfChar_4cfef_24 (h1 hc)
theorem m_ich (hY : HY Y) (hi : i < 2) {x : Int32} : MX Y yJ1_indexOfChar_4cfef cJ1_indexOfChar_4cfef 6 (some .int) rm_s0 [.ref (Y.2.2.2.1 (75 + i)), .int x, .int 0, .int 3] M (some (.int (ixB i (toB x)))) M := by
  refine MX.of hY (by decide) (Nat.le_of_ble_eq_true rfl) (fun X hR C => a_sub (ls' := [(0, .ref (Y.2.2.2.1 (75 + i))), (1, .int x), (2, .int 0), (3, .int 3)]) [0, 1, 2, 3] ?_ rfl)
  refine a_iload_n C dJ1_indexOfChar_4cfef_0 1 rfl ?_
  refine a_i2b C dJ1_indexOfChar_4cfef_1 ?_
  refine a_istore C dJ1_indexOfChar_4cfef_2 (by decide) rfl ?_
  refine a_iload_n C dJ1_indexOfChar_4cfef_4 3 rfl ?_
  refine a_istore C dJ1_indexOfChar_4cfef_5 (by decide) rfl ?_
  refine a_sub (ls' := [(0, .ref (Y.2.2.2.1 (75 + i))), (3, .int 3), (4, .int (toB x)), (5, .int (nI 0))]) [2, 5, 1, 0] ?_ rfl
  unfold ixB at hR
  refine ich_step (x := x) (z := 0) (j := 0) hi (by omega) C (fun h => by rw [if_pos h] at hR; exact hR) (fun n0 => ?_)
  rw [if_neg n0] at hR
  refine ich_step (x := x) (z := 0) (j := 1) hi (by omega) C (fun h => by rw [if_pos h] at hR; exact hR) (fun n1 => ?_)
  rw [if_neg n1] at hR
  refine ich_step (x := x) (z := 0) (j := 2) hi (by omega) C (fun h => by rw [if_pos h] at hR; exact hR) (fun n2 => ?_)
  rw [if_neg n2] at hR
  refine a_iload C dJ1_indexOfChar_4cfef_7 3 rfl ?_
  refine a_iload_n C dJ1_indexOfChar_4cfef_9 1 rfl ?_
  refine a_icmp_ge (tgt := 31) C dJ1_indexOfChar_4cfef_10 (by decide) (fun hc => ?_) (fun hc => absurd (by decide) hc)
  refine a_iconst (v := -1) C dJ1_indexOfChar_4cfef_31 (by decide) ?_
  exact a_iret C dJ1_indexOfChar_4cfef_32 hR
def ixL (i : Nat) (x : Int32) : Int32 := if canE x = 0 then -1 else ixB i (toB x)
theorem m_lix (hY : HY Y) (hi : i < 2) {x : Int32} : MX Y yJ1_indexOf_4cfef cJ1_indexOf_4cfef 4 (some .int) rm_s1 [.ref (Y.2.2.2.1 (75 + i)), .int x, .int 0, .int 3] M (some (.int (ixL i x))) M := by
  refine MX.of hY (by decide) (Nat.le_of_ble_eq_true rfl) (fun X hR C => a_sub (ls' := [(0, .ref (Y.2.2.2.1 (75 + i))), (1, .int x), (2, .int 0), (3, .int 3)]) [0, 1, 2, 3] ?_ rfl)
  refine a_iload_n C dJ1_indexOf_4cfef_0 1 rfl ?_
  refine a_callS (As := [.int x]) (rest := []) C dJ1_indexOf_4cfef_1 sls_J1_88 slm_J1_canEncode_9a6ad ⟨rfl, rfl, Nat.le_of_ble_eq_true rfl, Nat.le_of_ble_eq_true rfl⟩ (m_can hY) rfl rfl (Nat.le_of_ble_eq_true rfl) ?_
  unfold ixL at hR
  refine a_if_ne (x := canE x) (st := []) (tgt := 9) C dJ1_indexOf_4cfef_4 (by decide) (fun hc => ?_) (fun hc => ?_)
  · rw [if_neg hc] at hR
    refine a_iload_n C dJ1_indexOf_4cfef_9 2 rfl ?_
    refine a_iconst (v := 0) C dJ1_indexOf_4cfef_10 (by decide) ?_
    refine a_mmax C dJ1_indexOf_4cfef_11 smm_max (Nat.le_of_ble_eq_true rfl) (Nat.le_of_ble_eq_true rfl) ?_
    rw [show (if (0 : Int32) < 0 then (0 : Int32) else 0) = 0 by decide]
    refine a_istore_n C dJ1_indexOf_4cfef_14 rfl (by decide) rfl ?_
    refine a_iload_n C dJ1_indexOf_4cfef_15 3 rfl ?_
    refine a_aload_n C dJ1_indexOf_4cfef_16 1 rfl ?_
    refine a_slen C hi dJ1_indexOf_4cfef_17 ?_
    refine a_mmin C dJ1_indexOf_4cfef_18 smm_min (Nat.le_of_ble_eq_true rfl) (Nat.le_of_ble_eq_true rfl) ?_
    rw [show (if (3 : Int32) < 3 then (3 : Int32) else 3) = 3 by decide]
    refine a_istore_n C dJ1_indexOf_4cfef_21 rfl (by decide) rfl ?_
    refine a_sub (ls' := [(0, .ref (Y.2.2.2.1 (75 + i))), (1, .int x), (2, .int 0), (3, .int 3)]) [2, 3, 1, 0] ?_ rfl
    refine a_iload_n C dJ1_indexOf_4cfef_22 2 rfl ?_
    refine a_iload_n C dJ1_indexOf_4cfef_23 3 rfl ?_
    refine a_icmp_lt (tgt := 29) C dJ1_indexOf_4cfef_24 (by decide) (fun _ => ?_) (fun hd => absurd (by decide) hd)
    refine a_aload_n C dJ1_indexOf_4cfef_29 0 rfl ?_
    refine a_iload_n C dJ1_indexOf_4cfef_30 1 rfl ?_
    refine a_iload_n C dJ1_indexOf_4cfef_31 2 rfl ?_
    refine a_iload_n C dJ1_indexOf_4cfef_32 3 rfl ?_
    refine a_callS (As := [.ref (Y.2.2.2.1 (75 + i)), .int x, .int 0, .int 3]) (rest := []) C dJ1_indexOf_4cfef_33 sls_J1_95 slm_J1_indexOfChar_4cfef ⟨rfl, rfl, Nat.le_of_ble_eq_true rfl, Nat.le_of_ble_eq_true rfl⟩ (m_ich hY hi) rfl rfl (Nat.le_of_ble_eq_true rfl) ?_
    exact a_iret C dJ1_indexOf_4cfef_36 hR
  · rw [if_pos hc] at hR
    refine a_iconst (v := -1) C dJ1_indexOf_4cfef_7 (by decide) ?_
    exact a_iret C dJ1_indexOf_4cfef_8 hR
theorem m_ix2 (hY : HY Y) (hi : i < 2) {x : Int32} : MX Y yJ0_indexOf_7cf53 cJ0_indexOf_7cf53 3 (some .int) rm_s2 [.ref (Y.2.2.2.1 (71 + i)), .int x, .int 0] M (some (.int (ixL i x))) M := by
  refine MX.of hY (by decide) (Nat.le_of_ble_eq_true rfl) (fun X hR C => a_sub (ls' := [(0, .ref (Y.2.2.2.1 (71 + i))), (1, .int x), (2, .int 0)]) [0, 1, 2] ?_ rfl)
  refine a_aload_n C dJ0_indexOf_7cf53_0 0 rfl ?_
  refine a_callT (As := []) (rest := []) C hi dJ0_indexOf_7cf53_1 sln_J0_492 slv_J0_isLatin1_aae02 slm_J0_isLatin1_aae02 ⟨rfl, rfl, Nat.le_of_ble_eq_true rfl, Nat.le_of_ble_eq_true rfl⟩ (m_isl hY hi) rfl rfl (Nat.le_of_ble_eq_true rfl) ?_
  refine a_if_eq (x := 1) (st := []) (tgt := 23) C dJ0_indexOf_7cf53_4 (by decide) (fun hc => absurd hc (by decide)) (fun _ => ?_)
  refine a_aload_n C dJ0_indexOf_7cf53_7 0 rfl ?_
  refine a_sval C hi dJ0_indexOf_7cf53_8 sfl_9 ?_
  refine a_iload_n C dJ0_indexOf_7cf53_11 1 rfl ?_
  refine a_iload_n C dJ0_indexOf_7cf53_12 2 rfl ?_
  refine a_aload_n C dJ0_indexOf_7cf53_13 0 rfl ?_
  refine a_callT (As := []) (rest := [.int 0, .int x, .ref (Y.2.2.2.1 (75 + i))]) C hi dJ0_indexOf_7cf53_14 sln_J0_505 slv_J0_length_8abf5 slm_J0_length_8abf5 ⟨rfl, rfl, Nat.le_of_ble_eq_true rfl, Nat.le_of_ble_eq_true rfl⟩ (m_slen hY hi) rfl rfl (Nat.le_of_ble_eq_true rfl) ?_
  refine a_callS (As := [.ref (Y.2.2.2.1 (75 + i)), .int x, .int 0, .int 3]) (rest := []) C dJ0_indexOf_7cf53_17 sls_J0_637 slm_J1_indexOf_4cfef ⟨rfl, rfl, Nat.le_of_ble_eq_true rfl, Nat.le_of_ble_eq_true rfl⟩ (m_lix hY hi) rfl rfl (Nat.le_of_ble_eq_true rfl) ?_
  refine a_goto (tgt := 36) C dJ0_indexOf_7cf53_20 (by decide) ?_
  exact a_iret C dJ0_indexOf_7cf53_36 hR
theorem m_ix1 (hY : HY Y) (hi : i < 2) {x : Int32} : MX Y yJ0_indexOf_0f7a4 cJ0_indexOf_0f7a4 2 (some .int) rm_sidx [.ref (Y.2.2.2.1 (71 + i)), .int x] M (some (.int (ixL i x))) M := by
  refine MX.of hY (by decide) (Nat.le_of_ble_eq_true rfl) (fun X hR C => a_sub (ls' := [(0, .ref (Y.2.2.2.1 (71 + i))), (1, .int x)]) [0, 1] ?_ rfl)
  refine a_aload_n C dJ0_indexOf_0f7a4_0 0 rfl ?_
  refine a_iload_n C dJ0_indexOf_0f7a4_1 1 rfl ?_
  refine a_iconst (v := 0) C dJ0_indexOf_0f7a4_2 (by decide) ?_
  refine a_callT (As := [.int x, .int 0]) (rest := []) C hi dJ0_indexOf_0f7a4_3 sln_J0_633 slv_J0_indexOf_7cf53 slm_J0_indexOf_7cf53 ⟨rfl, rfl, Nat.le_of_ble_eq_true rfl, Nat.le_of_ble_eq_true rfl⟩ (m_ix2 hY hi) rfl rfl (Nat.le_of_ble_eq_true rfl) ?_
  exact a_iret C dJ0_indexOf_0f7a4_6 hR
def sIdx (k : Nat) (c : Int32) : Int32 := if c = (stB (k - 71)).getD 0 0 then 0 else if c = (stB (k - 71)).getD 1 0 then 1 else if c = (stB (k - 71)).getD 2 0 then 2 else -1
theorem ix_small : ∀ i, i < 2 → ∀ n, n < 256 → ixL i (nI n) = sIdx (71 + i) (nI n) := by decide +kernel
theorem sIdx_out {x : Int32} (hi : i < 2) (h : ¬ x = 107 ∧ ¬ x = 121 ∧ ¬ x = 103 ∧ ¬ x = 112 ∧ ¬ x = 99 ∧ ¬ x = 108) : sIdx (71 + i) x = -1 := by
  obtain ⟨h1, h2, h3, h4, h5, h6⟩ := h
  rcases two_i hi with rfl | rfl
  · show (if x = 107 then (0 : Int32) else if x = 121 then 1 else if x = 103 then 2 else -1) = -1
    rw [if_neg h1, if_neg h2, if_neg h3]
  · show (if x = 112 then (0 : Int32) else if x = 99 then 1 else if x = 108 then 2 else -1) = -1
    rw [if_neg h4, if_neg h5, if_neg h6]
theorem ixL_eq {x : Int32} (hi : i < 2) : ixL i x = sIdx (71 + i) x := by
  by_cases h0 : x < 0
  · have hh : canE x = 0 := if_pos h0
    rw [sIdx_out hi ⟨fun e => absurd h0 (by rw [e]; decide), fun e => absurd h0 (by rw [e]; decide), fun e => absurd h0 (by rw [e]; decide), fun e => absurd h0 (by rw [e]; decide), fun e => absurd h0 (by rw [e]; decide), fun e => absurd h0 (by rw [e]; decide)⟩]
    exact if_pos hh
  · by_cases h1 : 255 < x
    · have hh : canE x = 0 := by unfold canE; rw [if_neg h0, if_pos h1]
      rw [sIdx_out hi ⟨fun e => absurd h1 (by rw [e]; decide), fun e => absurd h1 (by rw [e]; decide), fun e => absurd h1 (by rw [e]; decide), fun e => absurd h1 (by rw [e]; decide), fun e => absurd h1 (by rw [e]; decide), fun e => absurd h1 (by rw [e]; decide)⟩]
      exact if_pos hh
    · obtain ⟨n, hn, rfl⟩ := nI_of h0
      refine ix_small i hi n (Nat.not_le.mp fun q => h1 ?_)
      exact nI_lt (a := 255) (by omega) hn
theorem rf_str : ∀ t, t < NC → kd t = 3 → rf t 1 = 71 + 0 ∨ rf t 1 = 71 + 1 := by decide +kernel
theorem a_sidx {t : Nat} {ch : Int32} (C : CK Y X cc own nL ret rm) (d : decode cc pc = .ok (.invokevirtual index, 3)) (hl : Cond.methodLink own index yJ0_indexOf_0f7a4 ∈ gT) (hK : K t 3) (hR : RO rm rm_sidx 2) (hr : (rest.map fun v => v.category).sum ≤ 8) (k : AW Y X nL (pc + 3) ls (.int (sIdx (rf t 1) ch) :: rest) M) : AW Y X nL pc ls (.int ch :: .ref (Y.2.2.2.1 (rf t 1)) :: rest) M := by
  rcases rf_str t hK.1 hK.2 with e | e
  · rw [e] at k ⊢
    exact a_callT (As := [.int ch]) (rest := rest) C (by omega) d hl slv_J0_indexOf_0f7a4 slm_J0_indexOf_0f7a4 hR (m_ix1 C.2.2.2.2.2.2.1 (by omega)) rfl rfl hr (by rw [ixL_eq (by omega)]; exact k)
  · rw [e] at k ⊢
    exact a_callT (As := [.int ch]) (rest := rest) C (by omega) d hl slv_J0_indexOf_0f7a4 slm_J0_indexOf_0f7a4 hR (m_ix1 C.2.2.2.2.2.2.1 (by omega)) rfl rfl hr (by rw [ixL_eq (by omega)]; exact k)
end STR
