-- THE LAW, case by case
abbrev lsL (Y : EY) (b i : Nat) : List (Nat × Value) := [(0, .ref b), (1, .ref (Y.2.2.2.1 0)), (2, .ref (Y.2.2.2.1 49)), (3, .int (nI i))]
/-- the script -/
def SX (Y : EY) (X : CX) (b L : Nat) (xs : Nat → Int32) : Prop := va_X b L xs X.1.2.2.2.1 X.1.2.2.2.1.heap ∧ b < X.1.2.2.2.1.heap.size ∧ ¬ Y.2.1 b
section LAWS
variable {Y : EY} {X : CX} {cc : ByteArray} {own : String} {nL pc : Nat} {ret0 : Option FieldType} {rm : Room} {ls : List (Nat × Value)} {st : List Value} {M : Mem} {b L : Nat} {xs : Nat → Int32}
theorem a_xlen (C : CK Y X cc own nL ret0 rm) (hX : SX Y X b L xs) (d : decode cc pc = .ok (.arraylength, 1)) (k : AW Y X nL (pc + 1) ls (.int (nI L) :: st) M) : AW Y X nL pc ls (.ref b :: st) M := fun H locs L' hP hS hl => va_slen C.1 C.2.1 hX.1 hX.2.1 hX.2.2 hS d (k H locs L' hP hS hl)
theorem a_sld (C : CK Y X cc own nL ret0 rm) (hX : SX Y X b L xs) {z : Int32} {j : Nat} (d : decode cc pc = .ok (.iaload, 1)) (hz : z = nI j) (hj : j < L) (hL : L < 2147483648) (k : AW Y X nL (pc + 1) ls (.int (xs j) :: st) M) : AW Y X nL pc ls (.int z :: .ref b :: st) M := by
  intro H locs L' hP hS hl
  subst hz
  have hk := k H locs L' hP hS hl
  have e : xs j = xs (nI j).toNatClampNeg := by rw [nI_clamp (by omega)]
  rw [e] at hk
  exact va_sld C.1 C.2.1 hX.1 hX.2.1 hX.2.2 hS (nI_in hj hL) d hk
end LAWS
theorem pu_eq {V : Type} {f : Mem → Option V} {M M1 : Mem} {r : V} (h : pu f M = some (r, M1)) : f M = some r ∧ M1 = M := by
  unfold pu at h
  cases e : f M with
  | none => rw [e] at h; cases h
  | some r0 =>
    rw [e, bind_sm] at h
    cases h
    exact ⟨rfl, rfl⟩
set_option maxRecDepth 20000 in
theorem wlm_X5_type : LM yX5_type cX5_type 4 (some .int) 2 := ⟨gT_in 298 (by decide +kernel) (by decide +kernel), gT_in 70 (by decide +kernel) (by decide +kernel), by decide, by decide, by decide +kernel⟩
set_option maxRecDepth 20000 in
theorem wlv_13 : LV RL 13 yX5_type 5 := ⟨gT_in 295 (by decide +kernel) (by decide +kernel), gT_in 296 (by decide +kernel) (by decide +kernel), gT_in 297 (by decide +kernel) (by decide +kernel), by decide, ⟨(RX5, TX5, 14), rfl, rfl⟩⟩
set_option maxRecDepth 20000 in
theorem wlm_X6_type : LM yX6_type cX6_type 3 (some .int) 2 := ⟨gT_in 944 (by decide +kernel) (by decide +kernel), gT_in 76 (by decide +kernel) (by decide +kernel), by decide, by decide, by decide +kernel⟩
set_option maxRecDepth 20000 in
theorem wlv_17 : LV RL 17 yX6_type 6 := ⟨gT_in 941 (by decide +kernel) (by decide +kernel), gT_in 942 (by decide +kernel) (by decide +kernel), gT_in 943 (by decide +kernel) (by decide +kernel), by decide, ⟨(RX6, TX6, 31), rfl, rfl⟩⟩
theorem law_0 {Y : EY} {X : CX} {M : Mem} {b L i : Nat} {xs : Nat → Int32} {α : AS} (C : CK Y X cL_law RL 4 ret room_1) (hX : SX Y X b L xs) (hL : L ≤ 3072) (hi : i + 6 ≤ L) (ok : OKA α) (ci : CI α M) (mi : MI α M) (nx : ∀ α' M', OKA α' → CI α' M' → MI α' M' → AW Y X 4 1201 (lsL Y b i) [] M') : AW Y X 4 180 (lsL Y b i) [] M := by
  obtain ⟨r, α', ok', hc, hm⟩ := s_type ok (xs (i + 1)) (xs (i + 2))
  obtain ⟨M1, c1, c2, c3⟩ := hc M ci
  obtain ⟨M2, d1, d2, d3⟩ := hm M1 (mi.fr0 (fun k hk => c3 k (Or.inr hk)))
  refine a_aload_n C dL_law_180 1 rfl ?_
  refine a_aload_n C dL_law_181 0 rfl ?_
  refine a_iload_n C dL_law_182 3 rfl ?_
  refine a_iconst (v := 1) C dL_law_183 (by decide) ?_
  refine a_iadd C dL_law_184 ?_
  refine a_sld (j := i + 1) C hX dL_law_185 (by rw [li_1, nI_add]) (by omega) (by omega) ?_
  refine a_aload_n C dL_law_186 0 rfl ?_
  refine a_iload_n C dL_law_187 3 rfl ?_
  refine a_iconst (v := 2) C dL_law_188 (by decide) ?_
  refine a_iadd C dL_law_189 ?_
  refine a_sld (j := i + 2) C hX dL_law_190 (by rw [li_2, nI_add]) (by omega) (by omega) ?_
  refine a_callVi (As := [.int (xs (i + 1)), .int (xs (i + 2))]) (rest := []) C dL_law_191 wlv_13 wlm_X5_type ⟨rfl, rfl, Nat.le_of_ble_eq_true rfl, Nat.le_of_ble_eq_true rfl⟩ Kc_0 (m_X5_type C.2.2.2.2.2.2.1 c1) rfl rfl (Nat.le_of_ble_eq_true rfl) ?_
  refine a_aload_n C dL_law_194 2 rfl ?_
  refine a_aload_n C dL_law_195 0 rfl ?_
  refine a_iload_n C dL_law_196 3 rfl ?_
  refine a_iconst (v := 1) C dL_law_197 (by decide) ?_
  refine a_iadd C dL_law_198 ?_
  refine a_sld (j := i + 1) C hX dL_law_199 (by rw [li_1, nI_add]) (by omega) (by omega) ?_
  refine a_aload_n C dL_law_200 0 rfl ?_
  refine a_iload_n C dL_law_201 3 rfl ?_
  refine a_iconst (v := 2) C dL_law_202 (by decide) ?_
  refine a_iadd C dL_law_203 ?_
  refine a_sld (j := i + 2) C hX dL_law_204 (by rw [li_2, nI_add]) (by omega) (by omega) ?_
  refine a_callVi (As := [.int (xs (i + 1)), .int (xs (i + 2))]) (rest := [.int r]) C dL_law_205 wlv_17 wlm_X6_type ⟨rfl, rfl, Nat.le_of_ble_eq_true rfl, Nat.le_of_ble_eq_true rfl⟩ Kc_49 (m_X6_type C.2.2.2.2.2.2.1 d1) rfl rfl (Nat.le_of_ble_eq_true rfl) ?_
  exact a_icmp_eq (tgt := 1201) C dL_law_208 (by decide) (fun _ => nx α' M2 ok' (c2.fr (fun k hk => d3 k (Or.inl hk))) d2) (fun hc => absurd rfl hc)
set_option maxRecDepth 20000 in
theorem wlm_X5_wipe : LM yX5_wipe cX5_wipe 4 (some .int) 1 := ⟨gT_in 443 (by decide +kernel) (by decide +kernel), gT_in 70 (by decide +kernel) (by decide +kernel), by decide, by decide, by decide +kernel⟩
set_option maxRecDepth 20000 in
theorem wlv_18 : LV RL 18 yX5_wipe 5 := ⟨gT_in 440 (by decide +kernel) (by decide +kernel), gT_in 441 (by decide +kernel) (by decide +kernel), gT_in 442 (by decide +kernel) (by decide +kernel), by decide, ⟨(RX5, TX5, 14), rfl, rfl⟩⟩
set_option maxRecDepth 20000 in
theorem wlm_X6_wipe : LM yX6_wipe cX6_wipe 3 (some .int) 1 := ⟨gT_in 952 (by decide +kernel) (by decide +kernel), gT_in 76 (by decide +kernel) (by decide +kernel), by decide, by decide, by decide +kernel⟩
set_option maxRecDepth 20000 in
theorem wlv_22 : LV RL 22 yX6_wipe 6 := ⟨gT_in 949 (by decide +kernel) (by decide +kernel), gT_in 950 (by decide +kernel) (by decide +kernel), gT_in 951 (by decide +kernel) (by decide +kernel), by decide, ⟨(RX6, TX6, 31), rfl, rfl⟩⟩
theorem law_1 {Y : EY} {X : CX} {M : Mem} {b L i : Nat} {xs : Nat → Int32} {α : AS} (C : CK Y X cL_law RL 4 ret room_1) (hX : SX Y X b L xs) (hL : L ≤ 3072) (hi : i + 6 ≤ L) (ok : OKA α) (ci : CI α M) (mi : MI α M) (nx : ∀ α' M', OKA α' → CI α' M' → MI α' M' → AW Y X 4 1201 (lsL Y b i) [] M') : AW Y X 4 213 (lsL Y b i) [] M := by
  obtain ⟨r, α', ok', hc, hm⟩ := s_wipe ok (xs (i + 1))
  obtain ⟨M1, c1, c2, c3⟩ := hc M ci
  obtain ⟨M2, d1, d2, d3⟩ := hm M1 (mi.fr0 (fun k hk => c3 k (Or.inr hk)))
  refine a_aload_n C dL_law_213 1 rfl ?_
  refine a_aload_n C dL_law_214 0 rfl ?_
  refine a_iload_n C dL_law_215 3 rfl ?_
  refine a_iconst (v := 1) C dL_law_216 (by decide) ?_
  refine a_iadd C dL_law_217 ?_
  refine a_sld (j := i + 1) C hX dL_law_218 (by rw [li_1, nI_add]) (by omega) (by omega) ?_
  refine a_callVi (As := [.int (xs (i + 1))]) (rest := []) C dL_law_219 wlv_18 wlm_X5_wipe ⟨rfl, rfl, Nat.le_of_ble_eq_true rfl, Nat.le_of_ble_eq_true rfl⟩ Kc_0 (m_X5_wipe C.2.2.2.2.2.2.1 c1) rfl rfl (Nat.le_of_ble_eq_true rfl) ?_
  refine a_aload_n C dL_law_222 2 rfl ?_
  refine a_aload_n C dL_law_223 0 rfl ?_
  refine a_iload_n C dL_law_224 3 rfl ?_
  refine a_iconst (v := 1) C dL_law_225 (by decide) ?_
  refine a_iadd C dL_law_226 ?_
  refine a_sld (j := i + 1) C hX dL_law_227 (by rw [li_1, nI_add]) (by omega) (by omega) ?_
  refine a_callVi (As := [.int (xs (i + 1))]) (rest := [.int r]) C dL_law_228 wlv_22 wlm_X6_wipe ⟨rfl, rfl, Nat.le_of_ble_eq_true rfl, Nat.le_of_ble_eq_true rfl⟩ Kc_49 (m_X6_wipe C.2.2.2.2.2.2.1 d1) rfl rfl (Nat.le_of_ble_eq_true rfl) ?_
  exact a_icmp_eq (tgt := 1201) C dL_law_231 (by decide) (fun _ => nx α' M2 ok' (c2.fr (fun k hk => d3 k (Or.inl hk))) d2) (fun hc => absurd rfl hc)
set_option maxRecDepth 20000 in
theorem wlm_X5_undo : LM yX5_undo cX5_undo 3 (some .int) 1 := ⟨gT_in 447 (by decide +kernel) (by decide +kernel), gT_in 70 (by decide +kernel) (by decide +kernel), by decide, by decide, by decide +kernel⟩
set_option maxRecDepth 20000 in
theorem wlv_23 : LV RL 23 yX5_undo 5 := ⟨gT_in 444 (by decide +kernel) (by decide +kernel), gT_in 445 (by decide +kernel) (by decide +kernel), gT_in 446 (by decide +kernel) (by decide +kernel), by decide, ⟨(RX5, TX5, 14), rfl, rfl⟩⟩
set_option maxRecDepth 20000 in
theorem wlm_X6_undo : LM yX6_undo cX6_undo 2 (some .int) 1 := ⟨gT_in 956 (by decide +kernel) (by decide +kernel), gT_in 76 (by decide +kernel) (by decide +kernel), by decide, by decide, by decide +kernel⟩
set_option maxRecDepth 20000 in
theorem wlv_26 : LV RL 26 yX6_undo 6 := ⟨gT_in 953 (by decide +kernel) (by decide +kernel), gT_in 954 (by decide +kernel) (by decide +kernel), gT_in 955 (by decide +kernel) (by decide +kernel), by decide, ⟨(RX6, TX6, 31), rfl, rfl⟩⟩
theorem law_2 {Y : EY} {X : CX} {M : Mem} {b L i : Nat} {xs : Nat → Int32} {α : AS} (C : CK Y X cL_law RL 4 ret room_1) (hX : SX Y X b L xs) (hL : L ≤ 3072) (hi : i + 6 ≤ L) (ok : OKA α) (ci : CI α M) (mi : MI α M) (nx : ∀ α' M', OKA α' → CI α' M' → MI α' M' → AW Y X 4 1201 (lsL Y b i) [] M') : AW Y X 4 236 (lsL Y b i) [] M := by
  obtain ⟨r, α', ok', hc, hm⟩ := s_undo ok (xs (i + 1))
  obtain ⟨M1, c1, c2, c3⟩ := hc M ci
  obtain ⟨M2, d1, d2, d3⟩ := hm M1 (mi.fr0 (fun k hk => c3 k (Or.inr hk)))
  refine a_aload_n C dL_law_236 1 rfl ?_
  refine a_aload_n C dL_law_237 0 rfl ?_
  refine a_iload_n C dL_law_238 3 rfl ?_
  refine a_iconst (v := 1) C dL_law_239 (by decide) ?_
  refine a_iadd C dL_law_240 ?_
  refine a_sld (j := i + 1) C hX dL_law_241 (by rw [li_1, nI_add]) (by omega) (by omega) ?_
  refine a_callVi (As := [.int (xs (i + 1))]) (rest := []) C dL_law_242 wlv_23 wlm_X5_undo ⟨rfl, rfl, Nat.le_of_ble_eq_true rfl, Nat.le_of_ble_eq_true rfl⟩ Kc_0 (m_X5_undo C.2.2.2.2.2.2.1 c1) rfl rfl (Nat.le_of_ble_eq_true rfl) ?_
  refine a_aload_n C dL_law_245 2 rfl ?_
  refine a_aload_n C dL_law_246 0 rfl ?_
  refine a_iload_n C dL_law_247 3 rfl ?_
  refine a_iconst (v := 1) C dL_law_248 (by decide) ?_
  refine a_iadd C dL_law_249 ?_
  refine a_sld (j := i + 1) C hX dL_law_250 (by rw [li_1, nI_add]) (by omega) (by omega) ?_
  refine a_callVi (As := [.int (xs (i + 1))]) (rest := [.int r]) C dL_law_251 wlv_26 wlm_X6_undo ⟨rfl, rfl, Nat.le_of_ble_eq_true rfl, Nat.le_of_ble_eq_true rfl⟩ Kc_49 (m_X6_undo C.2.2.2.2.2.2.1 d1) rfl rfl (Nat.le_of_ble_eq_true rfl) ?_
  exact a_icmp_eq (tgt := 1201) C dL_law_254 (by decide) (fun _ => nx α' M2 ok' (c2.fr (fun k hk => d3 k (Or.inl hk))) d2) (fun hc => absurd rfl hc)
set_option maxRecDepth 20000 in
theorem wlm_X5_fault : LM yX5_fault cX5_fault 2 (some .int) 1 := ⟨gT_in 451 (by decide +kernel) (by decide +kernel), gT_in 70 (by decide +kernel) (by decide +kernel), by decide, by decide, by decide +kernel⟩
set_option maxRecDepth 20000 in
theorem wlv_27 : LV RL 27 yX5_fault 5 := ⟨gT_in 448 (by decide +kernel) (by decide +kernel), gT_in 449 (by decide +kernel) (by decide +kernel), gT_in 450 (by decide +kernel) (by decide +kernel), by decide, ⟨(RX5, TX5, 14), rfl, rfl⟩⟩
set_option maxRecDepth 20000 in
theorem wlm_X6_fault : LM yX6_fault cX6_fault 2 (some .int) 1 := ⟨gT_in 960 (by decide +kernel) (by decide +kernel), gT_in 76 (by decide +kernel) (by decide +kernel), by decide, by decide, by decide +kernel⟩
set_option maxRecDepth 20000 in
theorem wlv_30 : LV RL 30 yX6_fault 6 := ⟨gT_in 957 (by decide +kernel) (by decide +kernel), gT_in 958 (by decide +kernel) (by decide +kernel), gT_in 959 (by decide +kernel) (by decide +kernel), by decide, ⟨(RX6, TX6, 31), rfl, rfl⟩⟩
theorem law_3 {Y : EY} {X : CX} {M : Mem} {b L i : Nat} {xs : Nat → Int32} {α : AS} (C : CK Y X cL_law RL 4 ret room_1) (hX : SX Y X b L xs) (hL : L ≤ 3072) (hi : i + 6 ≤ L) (ok : OKA α) (ci : CI α M) (mi : MI α M) (nx : ∀ α' M', OKA α' → CI α' M' → MI α' M' → AW Y X 4 1201 (lsL Y b i) [] M') : AW Y X 4 259 (lsL Y b i) [] M := by
  obtain ⟨r, α', ok', hc, hm⟩ := s_fault ok (xs (i + 1))
  obtain ⟨M1, c1, c2, c3⟩ := hc M ci
  obtain ⟨M2, d1, d2, d3⟩ := hm M1 (mi.fr0 (fun k hk => c3 k (Or.inr hk)))
  obtain ⟨c1, e1⟩ := pu_eq c1
  subst e1
  refine a_aload_n C dL_law_259 1 rfl ?_
  refine a_aload_n C dL_law_260 0 rfl ?_
  refine a_iload_n C dL_law_261 3 rfl ?_
  refine a_iconst (v := 1) C dL_law_262 (by decide) ?_
  refine a_iadd C dL_law_263 ?_
  refine a_sld (j := i + 1) C hX dL_law_264 (by rw [li_1, nI_add]) (by omega) (by omega) ?_
  refine a_callVi (As := [.int (xs (i + 1))]) (rest := []) C dL_law_265 wlv_27 wlm_X5_fault ⟨rfl, rfl, Nat.le_of_ble_eq_true rfl, Nat.le_of_ble_eq_true rfl⟩ Kc_0 (m_X5_fault C.2.2.2.2.2.2.1 c1) rfl rfl (Nat.le_of_ble_eq_true rfl) ?_
  refine a_aload_n C dL_law_268 2 rfl ?_
  refine a_aload_n C dL_law_269 0 rfl ?_
  refine a_iload_n C dL_law_270 3 rfl ?_
  refine a_iconst (v := 1) C dL_law_271 (by decide) ?_
  refine a_iadd C dL_law_272 ?_
  refine a_sld (j := i + 1) C hX dL_law_273 (by rw [li_1, nI_add]) (by omega) (by omega) ?_
  refine a_callVi (As := [.int (xs (i + 1))]) (rest := [.int r]) C dL_law_274 wlv_30 wlm_X6_fault ⟨rfl, rfl, Nat.le_of_ble_eq_true rfl, Nat.le_of_ble_eq_true rfl⟩ Kc_49 (m_X6_fault C.2.2.2.2.2.2.1 d1) rfl rfl (Nat.le_of_ble_eq_true rfl) ?_
  exact a_icmp_eq (tgt := 1201) C dL_law_277 (by decide) (fun _ => nx α' M2 ok' (c2.fr (fun k hk => d3 k (Or.inl hk))) d2) (fun hc => absurd rfl hc)
set_option maxRecDepth 20000 in
theorem wlm_X5_accent : LM yX5_accent cX5_accent 3 (some .int) 2 := ⟨gT_in 456 (by decide +kernel) (by decide +kernel), gT_in 70 (by decide +kernel) (by decide +kernel), by decide, by decide, by decide +kernel⟩
set_option maxRecDepth 20000 in
theorem wlv_31 : LV RL 31 yX5_accent 5 := ⟨gT_in 453 (by decide +kernel) (by decide +kernel), gT_in 454 (by decide +kernel) (by decide +kernel), gT_in 455 (by decide +kernel) (by decide +kernel), by decide, ⟨(RX5, TX5, 14), rfl, rfl⟩⟩
set_option maxRecDepth 20000 in
theorem wlm_X6_accent : LM yX6_accent cX6_accent 3 (some .int) 2 := ⟨gT_in 985 (by decide +kernel) (by decide +kernel), gT_in 76 (by decide +kernel) (by decide +kernel), by decide, by decide, by decide +kernel⟩
set_option maxRecDepth 20000 in
theorem wlv_34 : LV RL 34 yX6_accent 6 := ⟨gT_in 982 (by decide +kernel) (by decide +kernel), gT_in 983 (by decide +kernel) (by decide +kernel), gT_in 984 (by decide +kernel) (by decide +kernel), by decide, ⟨(RX6, TX6, 31), rfl, rfl⟩⟩
theorem law_4 {Y : EY} {X : CX} {M : Mem} {b L i : Nat} {xs : Nat → Int32} {α : AS} (C : CK Y X cL_law RL 4 ret room_1) (hX : SX Y X b L xs) (hL : L ≤ 3072) (hi : i + 6 ≤ L) (ok : OKA α) (ci : CI α M) (mi : MI α M) (nx : ∀ α' M', OKA α' → CI α' M' → MI α' M' → AW Y X 4 1201 (lsL Y b i) [] M') : AW Y X 4 282 (lsL Y b i) [] M := by
  obtain ⟨r, α', ok', hc, hm⟩ := s_accent ok (xs (i + 1)) (xs (i + 2))
  obtain ⟨M1, c1, c2, c3⟩ := hc M ci
  obtain ⟨M2, d1, d2, d3⟩ := hm M1 (mi.fr0 (fun k hk => c3 k (Or.inr hk)))
  obtain ⟨c1, e1⟩ := pu_eq c1
  subst e1
  refine a_aload_n C dL_law_282 1 rfl ?_
  refine a_aload_n C dL_law_283 0 rfl ?_
  refine a_iload_n C dL_law_284 3 rfl ?_
  refine a_iconst (v := 1) C dL_law_285 (by decide) ?_
  refine a_iadd C dL_law_286 ?_
  refine a_sld (j := i + 1) C hX dL_law_287 (by rw [li_1, nI_add]) (by omega) (by omega) ?_
  refine a_aload_n C dL_law_288 0 rfl ?_
  refine a_iload_n C dL_law_289 3 rfl ?_
  refine a_iconst (v := 2) C dL_law_290 (by decide) ?_
  refine a_iadd C dL_law_291 ?_
  refine a_sld (j := i + 2) C hX dL_law_292 (by rw [li_2, nI_add]) (by omega) (by omega) ?_
  refine a_callVi (As := [.int (xs (i + 1)), .int (xs (i + 2))]) (rest := []) C dL_law_293 wlv_31 wlm_X5_accent ⟨rfl, rfl, Nat.le_of_ble_eq_true rfl, Nat.le_of_ble_eq_true rfl⟩ Kc_0 (m_X5_accent C.2.2.2.2.2.2.1 c1) rfl rfl (Nat.le_of_ble_eq_true rfl) ?_
  refine a_aload_n C dL_law_296 2 rfl ?_
  refine a_aload_n C dL_law_297 0 rfl ?_
  refine a_iload_n C dL_law_298 3 rfl ?_
  refine a_iconst (v := 1) C dL_law_299 (by decide) ?_
  refine a_iadd C dL_law_300 ?_
  refine a_sld (j := i + 1) C hX dL_law_301 (by rw [li_1, nI_add]) (by omega) (by omega) ?_
  refine a_aload_n C dL_law_302 0 rfl ?_
  refine a_iload_n C dL_law_303 3 rfl ?_
  refine a_iconst (v := 2) C dL_law_304 (by decide) ?_
  refine a_iadd C dL_law_305 ?_
  refine a_sld (j := i + 2) C hX dL_law_306 (by rw [li_2, nI_add]) (by omega) (by omega) ?_
  refine a_callVi (As := [.int (xs (i + 1)), .int (xs (i + 2))]) (rest := [.int r]) C dL_law_307 wlv_34 wlm_X6_accent ⟨rfl, rfl, Nat.le_of_ble_eq_true rfl, Nat.le_of_ble_eq_true rfl⟩ Kc_49 (m_X6_accent C.2.2.2.2.2.2.1 d1) rfl rfl (Nat.le_of_ble_eq_true rfl) ?_
  exact a_icmp_eq (tgt := 1201) C dL_law_310 (by decide) (fun _ => nx α' M2 ok' (c2.fr (fun k hk => d3 k (Or.inl hk))) d2) (fun hc => absurd rfl hc)
set_option maxRecDepth 20000 in
theorem wlm_X5_person : LM yX5_person cX5_person 3 (some .int) 2 := ⟨gT_in 461 (by decide +kernel) (by decide +kernel), gT_in 70 (by decide +kernel) (by decide +kernel), by decide, by decide, by decide +kernel⟩
set_option maxRecDepth 20000 in
theorem wlv_35 : LV RL 35 yX5_person 5 := ⟨gT_in 458 (by decide +kernel) (by decide +kernel), gT_in 459 (by decide +kernel) (by decide +kernel), gT_in 460 (by decide +kernel) (by decide +kernel), by decide, ⟨(RX5, TX5, 14), rfl, rfl⟩⟩
set_option maxRecDepth 20000 in
theorem wlm_X6_person : LM yX6_person cX6_person 3 (some .int) 2 := ⟨gT_in 994 (by decide +kernel) (by decide +kernel), gT_in 76 (by decide +kernel) (by decide +kernel), by decide, by decide, by decide +kernel⟩
set_option maxRecDepth 20000 in
theorem wlv_38 : LV RL 38 yX6_person 6 := ⟨gT_in 991 (by decide +kernel) (by decide +kernel), gT_in 992 (by decide +kernel) (by decide +kernel), gT_in 993 (by decide +kernel) (by decide +kernel), by decide, ⟨(RX6, TX6, 31), rfl, rfl⟩⟩
theorem law_5 {Y : EY} {X : CX} {M : Mem} {b L i : Nat} {xs : Nat → Int32} {α : AS} (C : CK Y X cL_law RL 4 ret room_1) (hX : SX Y X b L xs) (hL : L ≤ 3072) (hi : i + 6 ≤ L) (ok : OKA α) (ci : CI α M) (mi : MI α M) (nx : ∀ α' M', OKA α' → CI α' M' → MI α' M' → AW Y X 4 1201 (lsL Y b i) [] M') : AW Y X 4 315 (lsL Y b i) [] M := by
  obtain ⟨r, α', ok', hc, hm⟩ := s_person ok (xs (i + 1)) (xs (i + 2))
  obtain ⟨M1, c1, c2, c3⟩ := hc M ci
  obtain ⟨M2, d1, d2, d3⟩ := hm M1 (mi.fr0 (fun k hk => c3 k (Or.inr hk)))
  obtain ⟨c1, e1⟩ := pu_eq c1
  subst e1
  refine a_aload_n C dL_law_315 1 rfl ?_
  refine a_aload_n C dL_law_316 0 rfl ?_
  refine a_iload_n C dL_law_317 3 rfl ?_
  refine a_iconst (v := 1) C dL_law_318 (by decide) ?_
  refine a_iadd C dL_law_319 ?_
  refine a_sld (j := i + 1) C hX dL_law_320 (by rw [li_1, nI_add]) (by omega) (by omega) ?_
  refine a_aload_n C dL_law_321 0 rfl ?_
  refine a_iload_n C dL_law_322 3 rfl ?_
  refine a_iconst (v := 2) C dL_law_323 (by decide) ?_
  refine a_iadd C dL_law_324 ?_
  refine a_sld (j := i + 2) C hX dL_law_325 (by rw [li_2, nI_add]) (by omega) (by omega) ?_
  refine a_callVi (As := [.int (xs (i + 1)), .int (xs (i + 2))]) (rest := []) C dL_law_326 wlv_35 wlm_X5_person ⟨rfl, rfl, Nat.le_of_ble_eq_true rfl, Nat.le_of_ble_eq_true rfl⟩ Kc_0 (m_X5_person C.2.2.2.2.2.2.1 c1) rfl rfl (Nat.le_of_ble_eq_true rfl) ?_
  refine a_aload_n C dL_law_329 2 rfl ?_
  refine a_aload_n C dL_law_330 0 rfl ?_
  refine a_iload_n C dL_law_331 3 rfl ?_
  refine a_iconst (v := 1) C dL_law_332 (by decide) ?_
  refine a_iadd C dL_law_333 ?_
  refine a_sld (j := i + 1) C hX dL_law_334 (by rw [li_1, nI_add]) (by omega) (by omega) ?_
  refine a_aload_n C dL_law_335 0 rfl ?_
  refine a_iload_n C dL_law_336 3 rfl ?_
  refine a_iconst (v := 2) C dL_law_337 (by decide) ?_
  refine a_iadd C dL_law_338 ?_
  refine a_sld (j := i + 2) C hX dL_law_339 (by rw [li_2, nI_add]) (by omega) (by omega) ?_
  refine a_callVi (As := [.int (xs (i + 1)), .int (xs (i + 2))]) (rest := [.int r]) C dL_law_340 wlv_38 wlm_X6_person ⟨rfl, rfl, Nat.le_of_ble_eq_true rfl, Nat.le_of_ble_eq_true rfl⟩ Kc_49 (m_X6_person C.2.2.2.2.2.2.1 d1) rfl rfl (Nat.le_of_ble_eq_true rfl) ?_
  exact a_icmp_eq (tgt := 1201) C dL_law_343 (by decide) (fun _ => nx α' M2 ok' (c2.fr (fun k hk => d3 k (Or.inl hk))) d2) (fun hc => absurd rfl hc)
set_option maxRecDepth 20000 in
theorem wlm_X5_hire : LM yX5_hire cX5_hire 4 (some .int) 3 := ⟨gT_in 469 (by decide +kernel) (by decide +kernel), gT_in 70 (by decide +kernel) (by decide +kernel), by decide, by decide, by decide +kernel⟩
set_option maxRecDepth 20000 in
theorem wlv_39 : LV RL 39 yX5_hire 5 := ⟨gT_in 466 (by decide +kernel) (by decide +kernel), gT_in 467 (by decide +kernel) (by decide +kernel), gT_in 468 (by decide +kernel) (by decide +kernel), by decide, ⟨(RX5, TX5, 14), rfl, rfl⟩⟩
set_option maxRecDepth 20000 in
theorem wlm_X6_hire : LM yX6_hire cX6_hire 4 (some .int) 3 := ⟨gT_in 1002 (by decide +kernel) (by decide +kernel), gT_in 76 (by decide +kernel) (by decide +kernel), by decide, by decide, by decide +kernel⟩
set_option maxRecDepth 20000 in
theorem wlv_43 : LV RL 43 yX6_hire 6 := ⟨gT_in 999 (by decide +kernel) (by decide +kernel), gT_in 1000 (by decide +kernel) (by decide +kernel), gT_in 1001 (by decide +kernel) (by decide +kernel), by decide, ⟨(RX6, TX6, 31), rfl, rfl⟩⟩
theorem law_6 {Y : EY} {X : CX} {M : Mem} {b L i : Nat} {xs : Nat → Int32} {α : AS} (C : CK Y X cL_law RL 4 ret room_1) (hX : SX Y X b L xs) (hL : L ≤ 3072) (hi : i + 6 ≤ L) (ok : OKA α) (ci : CI α M) (mi : MI α M) (nx : ∀ α' M', OKA α' → CI α' M' → MI α' M' → AW Y X 4 1201 (lsL Y b i) [] M') : AW Y X 4 348 (lsL Y b i) [] M := by
  obtain ⟨r, α', ok', hc, hm⟩ := s_hire ok (xs (i + 1)) (xs (i + 2)) (xs (i + 3))
  obtain ⟨M1, c1, c2, c3⟩ := hc M ci
  obtain ⟨M2, d1, d2, d3⟩ := hm M1 (mi.fr0 (fun k hk => c3 k (Or.inr hk)))
  refine a_aload_n C dL_law_348 1 rfl ?_
  refine a_aload_n C dL_law_349 0 rfl ?_
  refine a_iload_n C dL_law_350 3 rfl ?_
  refine a_iconst (v := 1) C dL_law_351 (by decide) ?_
  refine a_iadd C dL_law_352 ?_
  refine a_sld (j := i + 1) C hX dL_law_353 (by rw [li_1, nI_add]) (by omega) (by omega) ?_
  refine a_aload_n C dL_law_354 0 rfl ?_
  refine a_iload_n C dL_law_355 3 rfl ?_
  refine a_iconst (v := 2) C dL_law_356 (by decide) ?_
  refine a_iadd C dL_law_357 ?_
  refine a_sld (j := i + 2) C hX dL_law_358 (by rw [li_2, nI_add]) (by omega) (by omega) ?_
  refine a_aload_n C dL_law_359 0 rfl ?_
  refine a_iload_n C dL_law_360 3 rfl ?_
  refine a_iconst (v := 3) C dL_law_361 (by decide) ?_
  refine a_iadd C dL_law_362 ?_
  refine a_sld (j := i + 3) C hX dL_law_363 (by rw [li_3, nI_add]) (by omega) (by omega) ?_
  refine a_callVi (As := [.int (xs (i + 1)), .int (xs (i + 2)), .int (xs (i + 3))]) (rest := []) C dL_law_364 wlv_39 wlm_X5_hire ⟨rfl, rfl, Nat.le_of_ble_eq_true rfl, Nat.le_of_ble_eq_true rfl⟩ Kc_0 (m_X5_hire C.2.2.2.2.2.2.1 c1) rfl rfl (Nat.le_of_ble_eq_true rfl) ?_
  refine a_aload_n C dL_law_367 2 rfl ?_
  refine a_aload_n C dL_law_368 0 rfl ?_
  refine a_iload_n C dL_law_369 3 rfl ?_
  refine a_iconst (v := 1) C dL_law_370 (by decide) ?_
  refine a_iadd C dL_law_371 ?_
  refine a_sld (j := i + 1) C hX dL_law_372 (by rw [li_1, nI_add]) (by omega) (by omega) ?_
  refine a_aload_n C dL_law_373 0 rfl ?_
  refine a_iload_n C dL_law_374 3 rfl ?_
  refine a_iconst (v := 2) C dL_law_375 (by decide) ?_
  refine a_iadd C dL_law_376 ?_
  refine a_sld (j := i + 2) C hX dL_law_377 (by rw [li_2, nI_add]) (by omega) (by omega) ?_
  refine a_aload_n C dL_law_378 0 rfl ?_
  refine a_iload_n C dL_law_379 3 rfl ?_
  refine a_iconst (v := 3) C dL_law_380 (by decide) ?_
  refine a_iadd C dL_law_381 ?_
  refine a_sld (j := i + 3) C hX dL_law_382 (by rw [li_3, nI_add]) (by omega) (by omega) ?_
  refine a_callVi (As := [.int (xs (i + 1)), .int (xs (i + 2)), .int (xs (i + 3))]) (rest := [.int r]) C dL_law_383 wlv_43 wlm_X6_hire ⟨rfl, rfl, Nat.le_of_ble_eq_true rfl, Nat.le_of_ble_eq_true rfl⟩ Kc_49 (m_X6_hire C.2.2.2.2.2.2.1 d1) rfl rfl (Nat.le_of_ble_eq_true rfl) ?_
  exact a_icmp_eq (tgt := 1201) C dL_law_386 (by decide) (fun _ => nx α' M2 ok' (c2.fr (fun k hk => d3 k (Or.inl hk))) d2) (fun hc => absurd rfl hc)
set_option maxRecDepth 20000 in
theorem wlm_X5_back : LM yX5_back cX5_back 1 (some .int) 0 := ⟨gT_in 481 (by decide +kernel) (by decide +kernel), gT_in 70 (by decide +kernel) (by decide +kernel), by decide, by decide, by decide +kernel⟩
set_option maxRecDepth 20000 in
theorem wlv_44 : LV RL 44 yX5_back 5 := ⟨gT_in 478 (by decide +kernel) (by decide +kernel), gT_in 479 (by decide +kernel) (by decide +kernel), gT_in 480 (by decide +kernel) (by decide +kernel), by decide, ⟨(RX5, TX5, 14), rfl, rfl⟩⟩
set_option maxRecDepth 20000 in
theorem wlm_X6_back : LM yX6_back cX6_back 1 (some .int) 0 := ⟨gT_in 1018 (by decide +kernel) (by decide +kernel), gT_in 76 (by decide +kernel) (by decide +kernel), by decide, by decide, by decide +kernel⟩
set_option maxRecDepth 20000 in
theorem wlv_48 : LV RL 48 yX6_back 6 := ⟨gT_in 1015 (by decide +kernel) (by decide +kernel), gT_in 1016 (by decide +kernel) (by decide +kernel), gT_in 1017 (by decide +kernel) (by decide +kernel), by decide, ⟨(RX6, TX6, 31), rfl, rfl⟩⟩
theorem law_7 {Y : EY} {X : CX} {M : Mem} {b L i : Nat} {xs : Nat → Int32} {α : AS} (C : CK Y X cL_law RL 4 ret room_1) (hX : SX Y X b L xs) (hL : L ≤ 3072) (hi : i + 6 ≤ L) (ok : OKA α) (ci : CI α M) (mi : MI α M) (nx : ∀ α' M', OKA α' → CI α' M' → MI α' M' → AW Y X 4 1201 (lsL Y b i) [] M') : AW Y X 4 391 (lsL Y b i) [] M := by
  obtain ⟨r, α', ok', hc, hm⟩ := s_back ok
  obtain ⟨M1, c1, c2, c3⟩ := hc M ci
  obtain ⟨M2, d1, d2, d3⟩ := hm M1 (mi.fr0 (fun k hk => c3 k (Or.inr hk)))
  refine a_aload_n C dL_law_391 1 rfl ?_
  refine a_callVi (As := []) (rest := []) C dL_law_392 wlv_44 wlm_X5_back ⟨rfl, rfl, Nat.le_of_ble_eq_true rfl, Nat.le_of_ble_eq_true rfl⟩ Kc_0 (m_X5_back C.2.2.2.2.2.2.1 c1) rfl rfl (Nat.le_of_ble_eq_true rfl) ?_
  refine a_aload_n C dL_law_395 2 rfl ?_
  refine a_callVi (As := []) (rest := [.int r]) C dL_law_396 wlv_48 wlm_X6_back ⟨rfl, rfl, Nat.le_of_ble_eq_true rfl, Nat.le_of_ble_eq_true rfl⟩ Kc_49 (m_X6_back C.2.2.2.2.2.2.1 d1) rfl rfl (Nat.le_of_ble_eq_true rfl) ?_
  exact a_icmp_eq (tgt := 1201) C dL_law_399 (by decide) (fun _ => nx α' M2 ok' (c2.fr (fun k hk => d3 k (Or.inl hk))) d2) (fun hc => absurd rfl hc)
set_option maxRecDepth 20000 in
theorem wlm_X5_read : LM yX5_read cX5_read 5 (some .int) 1 := ⟨gT_in 493 (by decide +kernel) (by decide +kernel), gT_in 70 (by decide +kernel) (by decide +kernel), by decide, by decide, by decide +kernel⟩
set_option maxRecDepth 20000 in
theorem wlv_49 : LV RL 49 yX5_read 5 := ⟨gT_in 490 (by decide +kernel) (by decide +kernel), gT_in 491 (by decide +kernel) (by decide +kernel), gT_in 492 (by decide +kernel) (by decide +kernel), by decide, ⟨(RX5, TX5, 14), rfl, rfl⟩⟩
set_option maxRecDepth 20000 in
theorem wlm_X6_read : LM yX6_read cX6_read 5 (some .int) 1 := ⟨gT_in 1022 (by decide +kernel) (by decide +kernel), gT_in 76 (by decide +kernel) (by decide +kernel), by decide, by decide, by decide +kernel⟩
set_option maxRecDepth 20000 in
theorem wlv_52 : LV RL 52 yX6_read 6 := ⟨gT_in 1019 (by decide +kernel) (by decide +kernel), gT_in 1020 (by decide +kernel) (by decide +kernel), gT_in 1021 (by decide +kernel) (by decide +kernel), by decide, ⟨(RX6, TX6, 31), rfl, rfl⟩⟩
theorem law_8 {Y : EY} {X : CX} {M : Mem} {b L i : Nat} {xs : Nat → Int32} {α : AS} (C : CK Y X cL_law RL 4 ret room_1) (hX : SX Y X b L xs) (hL : L ≤ 3072) (hi : i + 6 ≤ L) (ok : OKA α) (ci : CI α M) (mi : MI α M) (nx : ∀ α' M', OKA α' → CI α' M' → MI α' M' → AW Y X 4 1201 (lsL Y b i) [] M') : AW Y X 4 404 (lsL Y b i) [] M := by
  obtain ⟨r, α', ok', hc, hm⟩ := s_read ok (xs (i + 1))
  obtain ⟨M1, c1, c2, c3⟩ := hc M ci
  obtain ⟨M2, d1, d2, d3⟩ := hm M1 (mi.fr0 (fun k hk => c3 k (Or.inr hk)))
  refine a_aload_n C dL_law_404 1 rfl ?_
  refine a_aload_n C dL_law_405 0 rfl ?_
  refine a_iload_n C dL_law_406 3 rfl ?_
  refine a_iconst (v := 1) C dL_law_407 (by decide) ?_
  refine a_iadd C dL_law_408 ?_
  refine a_sld (j := i + 1) C hX dL_law_409 (by rw [li_1, nI_add]) (by omega) (by omega) ?_
  refine a_callVi (As := [.int (xs (i + 1))]) (rest := []) C dL_law_410 wlv_49 wlm_X5_read ⟨rfl, rfl, Nat.le_of_ble_eq_true rfl, Nat.le_of_ble_eq_true rfl⟩ Kc_0 (m_X5_read C.2.2.2.2.2.2.1 c1) rfl rfl (Nat.le_of_ble_eq_true rfl) ?_
  refine a_aload_n C dL_law_413 2 rfl ?_
  refine a_aload_n C dL_law_414 0 rfl ?_
  refine a_iload_n C dL_law_415 3 rfl ?_
  refine a_iconst (v := 1) C dL_law_416 (by decide) ?_
  refine a_iadd C dL_law_417 ?_
  refine a_sld (j := i + 1) C hX dL_law_418 (by rw [li_1, nI_add]) (by omega) (by omega) ?_
  refine a_callVi (As := [.int (xs (i + 1))]) (rest := [.int r]) C dL_law_419 wlv_52 wlm_X6_read ⟨rfl, rfl, Nat.le_of_ble_eq_true rfl, Nat.le_of_ble_eq_true rfl⟩ Kc_49 (m_X6_read C.2.2.2.2.2.2.1 d1) rfl rfl (Nat.le_of_ble_eq_true rfl) ?_
  exact a_icmp_eq (tgt := 1201) C dL_law_422 (by decide) (fun _ => nx α' M2 ok' (c2.fr (fun k hk => d3 k (Or.inl hk))) d2) (fun hc => absurd rfl hc)
set_option maxRecDepth 20000 in
theorem wlm_X5_at : LM yX5_at cX5_at 5 (some .int) 3 := ⟨gT_in 501 (by decide +kernel) (by decide +kernel), gT_in 70 (by decide +kernel) (by decide +kernel), by decide, by decide, by decide +kernel⟩
set_option maxRecDepth 20000 in
theorem wlv_53 : LV RL 53 yX5_at 5 := ⟨gT_in 498 (by decide +kernel) (by decide +kernel), gT_in 499 (by decide +kernel) (by decide +kernel), gT_in 500 (by decide +kernel) (by decide +kernel), by decide, ⟨(RX5, TX5, 14), rfl, rfl⟩⟩
set_option maxRecDepth 20000 in
theorem wlm_X6_at : LM yX6_at cX6_at 4 (some .int) 3 := ⟨gT_in 1027 (by decide +kernel) (by decide +kernel), gT_in 76 (by decide +kernel) (by decide +kernel), by decide, by decide, by decide +kernel⟩
set_option maxRecDepth 20000 in
theorem wlv_56 : LV RL 56 yX6_at 6 := ⟨gT_in 1024 (by decide +kernel) (by decide +kernel), gT_in 1025 (by decide +kernel) (by decide +kernel), gT_in 1026 (by decide +kernel) (by decide +kernel), by decide, ⟨(RX6, TX6, 31), rfl, rfl⟩⟩
theorem law_9 {Y : EY} {X : CX} {M : Mem} {b L i : Nat} {xs : Nat → Int32} {α : AS} (C : CK Y X cL_law RL 4 ret room_1) (hX : SX Y X b L xs) (hL : L ≤ 3072) (hi : i + 6 ≤ L) (ok : OKA α) (ci : CI α M) (mi : MI α M) (nx : ∀ α' M', OKA α' → CI α' M' → MI α' M' → AW Y X 4 1201 (lsL Y b i) [] M') : AW Y X 4 427 (lsL Y b i) [] M := by
  obtain ⟨r, α', ok', hc, hm⟩ := s_at ok (xs (i + 1)) (xs (i + 2)) (xs (i + 3))
  obtain ⟨M1, c1, c2, c3⟩ := hc M ci
  obtain ⟨M2, d1, d2, d3⟩ := hm M1 (mi.fr0 (fun k hk => c3 k (Or.inr hk)))
  refine a_aload_n C dL_law_427 1 rfl ?_
  refine a_aload_n C dL_law_428 0 rfl ?_
  refine a_iload_n C dL_law_429 3 rfl ?_
  refine a_iconst (v := 1) C dL_law_430 (by decide) ?_
  refine a_iadd C dL_law_431 ?_
  refine a_sld (j := i + 1) C hX dL_law_432 (by rw [li_1, nI_add]) (by omega) (by omega) ?_
  refine a_aload_n C dL_law_433 0 rfl ?_
  refine a_iload_n C dL_law_434 3 rfl ?_
  refine a_iconst (v := 2) C dL_law_435 (by decide) ?_
  refine a_iadd C dL_law_436 ?_
  refine a_sld (j := i + 2) C hX dL_law_437 (by rw [li_2, nI_add]) (by omega) (by omega) ?_
  refine a_aload_n C dL_law_438 0 rfl ?_
  refine a_iload_n C dL_law_439 3 rfl ?_
  refine a_iconst (v := 3) C dL_law_440 (by decide) ?_
  refine a_iadd C dL_law_441 ?_
  refine a_sld (j := i + 3) C hX dL_law_442 (by rw [li_3, nI_add]) (by omega) (by omega) ?_
  refine a_callVi (As := [.int (xs (i + 1)), .int (xs (i + 2)), .int (xs (i + 3))]) (rest := []) C dL_law_443 wlv_53 wlm_X5_at ⟨rfl, rfl, Nat.le_of_ble_eq_true rfl, Nat.le_of_ble_eq_true rfl⟩ Kc_0 (m_X5_at C.2.2.2.2.2.2.1 c1) rfl rfl (Nat.le_of_ble_eq_true rfl) ?_
  refine a_aload_n C dL_law_446 2 rfl ?_
  refine a_aload_n C dL_law_447 0 rfl ?_
  refine a_iload_n C dL_law_448 3 rfl ?_
  refine a_iconst (v := 1) C dL_law_449 (by decide) ?_
  refine a_iadd C dL_law_450 ?_
  refine a_sld (j := i + 1) C hX dL_law_451 (by rw [li_1, nI_add]) (by omega) (by omega) ?_
  refine a_aload_n C dL_law_452 0 rfl ?_
  refine a_iload_n C dL_law_453 3 rfl ?_
  refine a_iconst (v := 2) C dL_law_454 (by decide) ?_
  refine a_iadd C dL_law_455 ?_
  refine a_sld (j := i + 2) C hX dL_law_456 (by rw [li_2, nI_add]) (by omega) (by omega) ?_
  refine a_aload_n C dL_law_457 0 rfl ?_
  refine a_iload_n C dL_law_458 3 rfl ?_
  refine a_iconst (v := 3) C dL_law_459 (by decide) ?_
  refine a_iadd C dL_law_460 ?_
  refine a_sld (j := i + 3) C hX dL_law_461 (by rw [li_3, nI_add]) (by omega) (by omega) ?_
  refine a_callVi (As := [.int (xs (i + 1)), .int (xs (i + 2)), .int (xs (i + 3))]) (rest := [.int r]) C dL_law_462 wlv_56 wlm_X6_at ⟨rfl, rfl, Nat.le_of_ble_eq_true rfl, Nat.le_of_ble_eq_true rfl⟩ Kc_49 (m_X6_at C.2.2.2.2.2.2.1 d1) rfl rfl (Nat.le_of_ble_eq_true rfl) ?_
  exact a_icmp_eq (tgt := 1201) C dL_law_465 (by decide) (fun _ => nx α' M2 ok' (c2.fr (fun k hk => d3 k (Or.inl hk))) d2) (fun hc => absurd rfl hc)
set_option maxRecDepth 20000 in
theorem wlm_X5_drawer : LM yX5_drawer cX5_drawer 4 (some .int) 3 := ⟨gT_in 546 (by decide +kernel) (by decide +kernel), gT_in 70 (by decide +kernel) (by decide +kernel), by decide, by decide, by decide +kernel⟩
set_option maxRecDepth 20000 in
theorem wlv_57 : LV RL 57 yX5_drawer 5 := ⟨gT_in 543 (by decide +kernel) (by decide +kernel), gT_in 544 (by decide +kernel) (by decide +kernel), gT_in 545 (by decide +kernel) (by decide +kernel), by decide, ⟨(RX5, TX5, 14), rfl, rfl⟩⟩
set_option maxRecDepth 20000 in
theorem wlm_X6_drawer : LM yX6_drawer cX6_drawer 4 (some .int) 3 := ⟨gT_in 1082 (by decide +kernel) (by decide +kernel), gT_in 76 (by decide +kernel) (by decide +kernel), by decide, by decide, by decide +kernel⟩
set_option maxRecDepth 20000 in
theorem wlv_60 : LV RL 60 yX6_drawer 6 := ⟨gT_in 1079 (by decide +kernel) (by decide +kernel), gT_in 1080 (by decide +kernel) (by decide +kernel), gT_in 1081 (by decide +kernel) (by decide +kernel), by decide, ⟨(RX6, TX6, 31), rfl, rfl⟩⟩
theorem law_10 {Y : EY} {X : CX} {M : Mem} {b L i : Nat} {xs : Nat → Int32} {α : AS} (C : CK Y X cL_law RL 4 ret room_1) (hX : SX Y X b L xs) (hL : L ≤ 3072) (hi : i + 6 ≤ L) (ok : OKA α) (ci : CI α M) (mi : MI α M) (nx : ∀ α' M', OKA α' → CI α' M' → MI α' M' → AW Y X 4 1201 (lsL Y b i) [] M') : AW Y X 4 470 (lsL Y b i) [] M := by
  obtain ⟨r, α', ok', hc, hm⟩ := s_drawer ok (xs (i + 1)) (xs (i + 2)) (xs (i + 3))
  obtain ⟨M1, c1, c2, c3⟩ := hc M ci
  obtain ⟨M2, d1, d2, d3⟩ := hm M1 (mi.fr0 (fun k hk => c3 k (Or.inr hk)))
  refine a_aload_n C dL_law_470 1 rfl ?_
  refine a_aload_n C dL_law_471 0 rfl ?_
  refine a_iload_n C dL_law_472 3 rfl ?_
  refine a_iconst (v := 1) C dL_law_473 (by decide) ?_
  refine a_iadd C dL_law_474 ?_
  refine a_sld (j := i + 1) C hX dL_law_475 (by rw [li_1, nI_add]) (by omega) (by omega) ?_
  refine a_aload_n C dL_law_476 0 rfl ?_
  refine a_iload_n C dL_law_477 3 rfl ?_
  refine a_iconst (v := 2) C dL_law_478 (by decide) ?_
  refine a_iadd C dL_law_479 ?_
  refine a_sld (j := i + 2) C hX dL_law_480 (by rw [li_2, nI_add]) (by omega) (by omega) ?_
  refine a_aload_n C dL_law_481 0 rfl ?_
  refine a_iload_n C dL_law_482 3 rfl ?_
  refine a_iconst (v := 3) C dL_law_483 (by decide) ?_
  refine a_iadd C dL_law_484 ?_
  refine a_sld (j := i + 3) C hX dL_law_485 (by rw [li_3, nI_add]) (by omega) (by omega) ?_
  refine a_callVi (As := [.int (xs (i + 1)), .int (xs (i + 2)), .int (xs (i + 3))]) (rest := []) C dL_law_486 wlv_57 wlm_X5_drawer ⟨rfl, rfl, Nat.le_of_ble_eq_true rfl, Nat.le_of_ble_eq_true rfl⟩ Kc_0 (m_X5_drawer C.2.2.2.2.2.2.1 c1) rfl rfl (Nat.le_of_ble_eq_true rfl) ?_
  refine a_aload_n C dL_law_489 2 rfl ?_
  refine a_aload_n C dL_law_490 0 rfl ?_
  refine a_iload_n C dL_law_491 3 rfl ?_
  refine a_iconst (v := 1) C dL_law_492 (by decide) ?_
  refine a_iadd C dL_law_493 ?_
  refine a_sld (j := i + 1) C hX dL_law_494 (by rw [li_1, nI_add]) (by omega) (by omega) ?_
  refine a_aload_n C dL_law_495 0 rfl ?_
  refine a_iload_n C dL_law_496 3 rfl ?_
  refine a_iconst (v := 2) C dL_law_497 (by decide) ?_
  refine a_iadd C dL_law_498 ?_
  refine a_sld (j := i + 2) C hX dL_law_499 (by rw [li_2, nI_add]) (by omega) (by omega) ?_
  refine a_aload_n C dL_law_500 0 rfl ?_
  refine a_iload_n C dL_law_501 3 rfl ?_
  refine a_iconst (v := 3) C dL_law_502 (by decide) ?_
  refine a_iadd C dL_law_503 ?_
  refine a_sld (j := i + 3) C hX dL_law_504 (by rw [li_3, nI_add]) (by omega) (by omega) ?_
  refine a_callVi (As := [.int (xs (i + 1)), .int (xs (i + 2)), .int (xs (i + 3))]) (rest := [.int r]) C dL_law_505 wlv_60 wlm_X6_drawer ⟨rfl, rfl, Nat.le_of_ble_eq_true rfl, Nat.le_of_ble_eq_true rfl⟩ Kc_49 (m_X6_drawer C.2.2.2.2.2.2.1 d1) rfl rfl (Nat.le_of_ble_eq_true rfl) ?_
  exact a_icmp_eq (tgt := 1201) C dL_law_508 (by decide) (fun _ => nx α' M2 ok' (c2.fr (fun k hk => d3 k (Or.inl hk))) d2) (fun hc => absurd rfl hc)
set_option maxRecDepth 20000 in
theorem wlm_X5_becomes : LM yX5_becomes cX5_becomes 2 (some .int) 1 := ⟨gT_in 550 (by decide +kernel) (by decide +kernel), gT_in 70 (by decide +kernel) (by decide +kernel), by decide, by decide, by decide +kernel⟩
set_option maxRecDepth 20000 in
theorem wlv_61 : LV RL 61 yX5_becomes 5 := ⟨gT_in 547 (by decide +kernel) (by decide +kernel), gT_in 548 (by decide +kernel) (by decide +kernel), gT_in 549 (by decide +kernel) (by decide +kernel), by decide, ⟨(RX5, TX5, 14), rfl, rfl⟩⟩
set_option maxRecDepth 20000 in
theorem wlm_X6_becomes : LM yX6_becomes cX6_becomes 2 (some .int) 1 := ⟨gT_in 1090 (by decide +kernel) (by decide +kernel), gT_in 76 (by decide +kernel) (by decide +kernel), by decide, by decide, by decide +kernel⟩
set_option maxRecDepth 20000 in
theorem wlv_64 : LV RL 64 yX6_becomes 6 := ⟨gT_in 1087 (by decide +kernel) (by decide +kernel), gT_in 1088 (by decide +kernel) (by decide +kernel), gT_in 1089 (by decide +kernel) (by decide +kernel), by decide, ⟨(RX6, TX6, 31), rfl, rfl⟩⟩
theorem law_11 {Y : EY} {X : CX} {M : Mem} {b L i : Nat} {xs : Nat → Int32} {α : AS} (C : CK Y X cL_law RL 4 ret room_1) (hX : SX Y X b L xs) (hL : L ≤ 3072) (hi : i + 6 ≤ L) (ok : OKA α) (ci : CI α M) (mi : MI α M) (nx : ∀ α' M', OKA α' → CI α' M' → MI α' M' → AW Y X 4 1201 (lsL Y b i) [] M') : AW Y X 4 513 (lsL Y b i) [] M := by
  obtain ⟨r, α', ok', hc, hm⟩ := s_becomes ok (xs (i + 1))
  obtain ⟨M1, c1, c2, c3⟩ := hc M ci
  obtain ⟨M2, d1, d2, d3⟩ := hm M1 (mi.fr0 (fun k hk => c3 k (Or.inr hk)))
  refine a_aload_n C dL_law_513 1 rfl ?_
  refine a_aload_n C dL_law_514 0 rfl ?_
  refine a_iload_n C dL_law_515 3 rfl ?_
  refine a_iconst (v := 1) C dL_law_516 (by decide) ?_
  refine a_iadd C dL_law_517 ?_
  refine a_sld (j := i + 1) C hX dL_law_518 (by rw [li_1, nI_add]) (by omega) (by omega) ?_
  refine a_callVi (As := [.int (xs (i + 1))]) (rest := []) C dL_law_519 wlv_61 wlm_X5_becomes ⟨rfl, rfl, Nat.le_of_ble_eq_true rfl, Nat.le_of_ble_eq_true rfl⟩ Kc_0 (m_X5_becomes C.2.2.2.2.2.2.1 c1) rfl rfl (Nat.le_of_ble_eq_true rfl) ?_
  refine a_aload_n C dL_law_522 2 rfl ?_
  refine a_aload_n C dL_law_523 0 rfl ?_
  refine a_iload_n C dL_law_524 3 rfl ?_
  refine a_iconst (v := 1) C dL_law_525 (by decide) ?_
  refine a_iadd C dL_law_526 ?_
  refine a_sld (j := i + 1) C hX dL_law_527 (by rw [li_1, nI_add]) (by omega) (by omega) ?_
  refine a_callVi (As := [.int (xs (i + 1))]) (rest := [.int r]) C dL_law_528 wlv_64 wlm_X6_becomes ⟨rfl, rfl, Nat.le_of_ble_eq_true rfl, Nat.le_of_ble_eq_true rfl⟩ Kc_49 (m_X6_becomes C.2.2.2.2.2.2.1 d1) rfl rfl (Nat.le_of_ble_eq_true rfl) ?_
  exact a_icmp_eq (tgt := 1201) C dL_law_531 (by decide) (fun _ => nx α' M2 ok' (c2.fr (fun k hk => d3 k (Or.inl hk))) d2) (fun hc => absurd rfl hc)
set_option maxRecDepth 20000 in
theorem wlm_X5_astray : LM yX5_astray cX5_astray 1 (some .int) 0 := ⟨gT_in 562 (by decide +kernel) (by decide +kernel), gT_in 70 (by decide +kernel) (by decide +kernel), by decide, by decide, by decide +kernel⟩
set_option maxRecDepth 20000 in
theorem wlv_65 : LV RL 65 yX5_astray 5 := ⟨gT_in 559 (by decide +kernel) (by decide +kernel), gT_in 560 (by decide +kernel) (by decide +kernel), gT_in 561 (by decide +kernel) (by decide +kernel), by decide, ⟨(RX5, TX5, 14), rfl, rfl⟩⟩
set_option maxRecDepth 20000 in
theorem wlm_X6_astray : LM yX6_astray cX6_astray 1 (some .int) 0 := ⟨gT_in 1094 (by decide +kernel) (by decide +kernel), gT_in 76 (by decide +kernel) (by decide +kernel), by decide, by decide, by decide +kernel⟩
set_option maxRecDepth 20000 in
theorem wlv_68 : LV RL 68 yX6_astray 6 := ⟨gT_in 1091 (by decide +kernel) (by decide +kernel), gT_in 1092 (by decide +kernel) (by decide +kernel), gT_in 1093 (by decide +kernel) (by decide +kernel), by decide, ⟨(RX6, TX6, 31), rfl, rfl⟩⟩
theorem law_12 {Y : EY} {X : CX} {M : Mem} {b L i : Nat} {xs : Nat → Int32} {α : AS} (C : CK Y X cL_law RL 4 ret room_1) (hX : SX Y X b L xs) (hL : L ≤ 3072) (hi : i + 6 ≤ L) (ok : OKA α) (ci : CI α M) (mi : MI α M) (nx : ∀ α' M', OKA α' → CI α' M' → MI α' M' → AW Y X 4 1201 (lsL Y b i) [] M') : AW Y X 4 536 (lsL Y b i) [] M := by
  obtain ⟨r, α', ok', hc, hm⟩ := s_astray ok
  obtain ⟨M1, c1, c2, c3⟩ := hc M ci
  obtain ⟨M2, d1, d2, d3⟩ := hm M1 (mi.fr0 (fun k hk => c3 k (Or.inr hk)))
  refine a_aload_n C dL_law_536 1 rfl ?_
  refine a_callVi (As := []) (rest := []) C dL_law_537 wlv_65 wlm_X5_astray ⟨rfl, rfl, Nat.le_of_ble_eq_true rfl, Nat.le_of_ble_eq_true rfl⟩ Kc_0 (m_X5_astray C.2.2.2.2.2.2.1 c1) rfl rfl (Nat.le_of_ble_eq_true rfl) ?_
  refine a_aload_n C dL_law_540 2 rfl ?_
  refine a_callVi (As := []) (rest := [.int r]) C dL_law_541 wlv_68 wlm_X6_astray ⟨rfl, rfl, Nat.le_of_ble_eq_true rfl, Nat.le_of_ble_eq_true rfl⟩ Kc_49 (m_X6_astray C.2.2.2.2.2.2.1 d1) rfl rfl (Nat.le_of_ble_eq_true rfl) ?_
  exact a_icmp_eq (tgt := 1201) C dL_law_544 (by decide) (fun _ => nx α' M2 ok' (c2.fr (fun k hk => d3 k (Or.inl hk))) d2) (fun hc => absurd rfl hc)
set_option maxRecDepth 20000 in
theorem wlm_X5_crowd : LM yX5_crowd cX5_crowd 5 (some .int) 0 := ⟨gT_in 571 (by decide +kernel) (by decide +kernel), gT_in 70 (by decide +kernel) (by decide +kernel), by decide, by decide, by decide +kernel⟩
set_option maxRecDepth 20000 in
theorem wlv_69 : LV RL 69 yX5_crowd 5 := ⟨gT_in 568 (by decide +kernel) (by decide +kernel), gT_in 569 (by decide +kernel) (by decide +kernel), gT_in 570 (by decide +kernel) (by decide +kernel), by decide, ⟨(RX5, TX5, 14), rfl, rfl⟩⟩
set_option maxRecDepth 20000 in
theorem wlm_X6_crowd : LM yX6_crowd cX6_crowd 1 (some .int) 0 := ⟨gT_in 1106 (by decide +kernel) (by decide +kernel), gT_in 76 (by decide +kernel) (by decide +kernel), by decide, by decide, by decide +kernel⟩
set_option maxRecDepth 20000 in
theorem wlv_72 : LV RL 72 yX6_crowd 6 := ⟨gT_in 1103 (by decide +kernel) (by decide +kernel), gT_in 1104 (by decide +kernel) (by decide +kernel), gT_in 1105 (by decide +kernel) (by decide +kernel), by decide, ⟨(RX6, TX6, 31), rfl, rfl⟩⟩
theorem law_13 {Y : EY} {X : CX} {M : Mem} {b L i : Nat} {xs : Nat → Int32} {α : AS} (C : CK Y X cL_law RL 4 ret room_1) (hX : SX Y X b L xs) (hL : L ≤ 3072) (hi : i + 6 ≤ L) (ok : OKA α) (ci : CI α M) (mi : MI α M) (nx : ∀ α' M', OKA α' → CI α' M' → MI α' M' → AW Y X 4 1201 (lsL Y b i) [] M') : AW Y X 4 549 (lsL Y b i) [] M := by
  obtain ⟨r, α', ok', hc, hm⟩ := s_crowd ok
  obtain ⟨M1, c1, c2, c3⟩ := hc M ci
  obtain ⟨M2, d1, d2, d3⟩ := hm M1 (mi.fr0 (fun k hk => c3 k (Or.inr hk)))
  refine a_aload_n C dL_law_549 1 rfl ?_
  refine a_callVi (As := []) (rest := []) C dL_law_550 wlv_69 wlm_X5_crowd ⟨rfl, rfl, Nat.le_of_ble_eq_true rfl, Nat.le_of_ble_eq_true rfl⟩ Kc_0 (m_X5_crowd C.2.2.2.2.2.2.1 c1) rfl rfl (Nat.le_of_ble_eq_true rfl) ?_
  refine a_aload_n C dL_law_553 2 rfl ?_
  refine a_callVi (As := []) (rest := [.int r]) C dL_law_554 wlv_72 wlm_X6_crowd ⟨rfl, rfl, Nat.le_of_ble_eq_true rfl, Nat.le_of_ble_eq_true rfl⟩ Kc_49 (m_X6_crowd C.2.2.2.2.2.2.1 d1) rfl rfl (Nat.le_of_ble_eq_true rfl) ?_
  exact a_icmp_eq (tgt := 1201) C dL_law_557 (by decide) (fun _ => nx α' M2 ok' (c2.fr (fun k hk => d3 k (Or.inl hk))) d2) (fun hc => absurd rfl hc)
set_option maxRecDepth 20000 in
theorem wlm_X5_dress : LM yX5_dress cX5_dress 9 (some .int) 4 := ⟨gT_in 583 (by decide +kernel) (by decide +kernel), gT_in 70 (by decide +kernel) (by decide +kernel), by decide, by decide, by decide +kernel⟩
set_option maxRecDepth 20000 in
theorem wlv_73 : LV RL 73 yX5_dress 5 := ⟨gT_in 580 (by decide +kernel) (by decide +kernel), gT_in 581 (by decide +kernel) (by decide +kernel), gT_in 582 (by decide +kernel) (by decide +kernel), by decide, ⟨(RX5, TX5, 14), rfl, rfl⟩⟩
set_option maxRecDepth 20000 in
theorem wlm_X6_dress : LM yX6_dress cX6_dress 5 (some .int) 4 := ⟨gT_in 1114 (by decide +kernel) (by decide +kernel), gT_in 76 (by decide +kernel) (by decide +kernel), by decide, by decide, by decide +kernel⟩
set_option maxRecDepth 20000 in
theorem wlv_77 : LV RL 77 yX6_dress 6 := ⟨gT_in 1111 (by decide +kernel) (by decide +kernel), gT_in 1112 (by decide +kernel) (by decide +kernel), gT_in 1113 (by decide +kernel) (by decide +kernel), by decide, ⟨(RX6, TX6, 31), rfl, rfl⟩⟩
theorem law_14 {Y : EY} {X : CX} {M : Mem} {b L i : Nat} {xs : Nat → Int32} {α : AS} (C : CK Y X cL_law RL 4 ret room_1) (hX : SX Y X b L xs) (hL : L ≤ 3072) (hi : i + 6 ≤ L) (ok : OKA α) (ci : CI α M) (mi : MI α M) (nx : ∀ α' M', OKA α' → CI α' M' → MI α' M' → AW Y X 4 1201 (lsL Y b i) [] M') : AW Y X 4 562 (lsL Y b i) [] M := by
  obtain ⟨r, α', ok', hc, hm⟩ := s_dress ok (xs (i + 1)) (xs (i + 2)) (xs (i + 3)) (xs (i + 4))
  obtain ⟨M1, c1, c2, c3⟩ := hc M ci
  obtain ⟨M2, d1, d2, d3⟩ := hm M1 (mi.fr0 (fun k hk => c3 k (Or.inr hk)))
  refine a_aload_n C dL_law_562 1 rfl ?_
  refine a_aload_n C dL_law_563 0 rfl ?_
  refine a_iload_n C dL_law_564 3 rfl ?_
  refine a_iconst (v := 1) C dL_law_565 (by decide) ?_
  refine a_iadd C dL_law_566 ?_
  refine a_sld (j := i + 1) C hX dL_law_567 (by rw [li_1, nI_add]) (by omega) (by omega) ?_
  refine a_aload_n C dL_law_568 0 rfl ?_
  refine a_iload_n C dL_law_569 3 rfl ?_
  refine a_iconst (v := 2) C dL_law_570 (by decide) ?_
  refine a_iadd C dL_law_571 ?_
  refine a_sld (j := i + 2) C hX dL_law_572 (by rw [li_2, nI_add]) (by omega) (by omega) ?_
  refine a_aload_n C dL_law_573 0 rfl ?_
  refine a_iload_n C dL_law_574 3 rfl ?_
  refine a_iconst (v := 3) C dL_law_575 (by decide) ?_
  refine a_iadd C dL_law_576 ?_
  refine a_sld (j := i + 3) C hX dL_law_577 (by rw [li_3, nI_add]) (by omega) (by omega) ?_
  refine a_aload_n C dL_law_578 0 rfl ?_
  refine a_iload_n C dL_law_579 3 rfl ?_
  refine a_iconst (v := 4) C dL_law_580 (by decide) ?_
  refine a_iadd C dL_law_581 ?_
  refine a_sld (j := i + 4) C hX dL_law_582 (by rw [li_4, nI_add]) (by omega) (by omega) ?_
  refine a_callVi (As := [.int (xs (i + 1)), .int (xs (i + 2)), .int (xs (i + 3)), .int (xs (i + 4))]) (rest := []) C dL_law_583 wlv_73 wlm_X5_dress ⟨rfl, rfl, Nat.le_of_ble_eq_true rfl, Nat.le_of_ble_eq_true rfl⟩ Kc_0 (m_X5_dress C.2.2.2.2.2.2.1 c1) rfl rfl (Nat.le_of_ble_eq_true rfl) ?_
  refine a_aload_n C dL_law_586 2 rfl ?_
  refine a_aload_n C dL_law_587 0 rfl ?_
  refine a_iload_n C dL_law_588 3 rfl ?_
  refine a_iconst (v := 1) C dL_law_589 (by decide) ?_
  refine a_iadd C dL_law_590 ?_
  refine a_sld (j := i + 1) C hX dL_law_591 (by rw [li_1, nI_add]) (by omega) (by omega) ?_
  refine a_aload_n C dL_law_592 0 rfl ?_
  refine a_iload_n C dL_law_593 3 rfl ?_
  refine a_iconst (v := 2) C dL_law_594 (by decide) ?_
  refine a_iadd C dL_law_595 ?_
  refine a_sld (j := i + 2) C hX dL_law_596 (by rw [li_2, nI_add]) (by omega) (by omega) ?_
  refine a_aload_n C dL_law_597 0 rfl ?_
  refine a_iload_n C dL_law_598 3 rfl ?_
  refine a_iconst (v := 3) C dL_law_599 (by decide) ?_
  refine a_iadd C dL_law_600 ?_
  refine a_sld (j := i + 3) C hX dL_law_601 (by rw [li_3, nI_add]) (by omega) (by omega) ?_
  refine a_aload_n C dL_law_602 0 rfl ?_
  refine a_iload_n C dL_law_603 3 rfl ?_
  refine a_iconst (v := 4) C dL_law_604 (by decide) ?_
  refine a_iadd C dL_law_605 ?_
  refine a_sld (j := i + 4) C hX dL_law_606 (by rw [li_4, nI_add]) (by omega) (by omega) ?_
  refine a_callVi (As := [.int (xs (i + 1)), .int (xs (i + 2)), .int (xs (i + 3)), .int (xs (i + 4))]) (rest := [.int r]) C dL_law_607 wlv_77 wlm_X6_dress ⟨rfl, rfl, Nat.le_of_ble_eq_true rfl, Nat.le_of_ble_eq_true rfl⟩ Kc_49 (m_X6_dress C.2.2.2.2.2.2.1 d1) rfl rfl (Nat.le_of_ble_eq_true rfl) ?_
  exact a_icmp_eq (tgt := 1201) C dL_law_610 (by decide) (fun _ => nx α' M2 ok' (c2.fr (fun k hk => d3 k (Or.inl hk))) d2) (fun hc => absurd rfl hc)
set_option maxRecDepth 20000 in
theorem wlm_X5_home : LM yX5_home cX5_home 4 (some .int) 1 := ⟨gT_in 596 (by decide +kernel) (by decide +kernel), gT_in 70 (by decide +kernel) (by decide +kernel), by decide, by decide, by decide +kernel⟩
set_option maxRecDepth 20000 in
theorem wlv_78 : LV RL 78 yX5_home 5 := ⟨gT_in 593 (by decide +kernel) (by decide +kernel), gT_in 594 (by decide +kernel) (by decide +kernel), gT_in 595 (by decide +kernel) (by decide +kernel), by decide, ⟨(RX5, TX5, 14), rfl, rfl⟩⟩
set_option maxRecDepth 20000 in
theorem wlm_X6_home : LM yX6_home cX6_home 2 (some .int) 1 := ⟨gT_in 1122 (by decide +kernel) (by decide +kernel), gT_in 76 (by decide +kernel) (by decide +kernel), by decide, by decide, by decide +kernel⟩
set_option maxRecDepth 20000 in
theorem wlv_81 : LV RL 81 yX6_home 6 := ⟨gT_in 1119 (by decide +kernel) (by decide +kernel), gT_in 1120 (by decide +kernel) (by decide +kernel), gT_in 1121 (by decide +kernel) (by decide +kernel), by decide, ⟨(RX6, TX6, 31), rfl, rfl⟩⟩
theorem law_15 {Y : EY} {X : CX} {M : Mem} {b L i : Nat} {xs : Nat → Int32} {α : AS} (C : CK Y X cL_law RL 4 ret room_1) (hX : SX Y X b L xs) (hL : L ≤ 3072) (hi : i + 6 ≤ L) (ok : OKA α) (ci : CI α M) (mi : MI α M) (nx : ∀ α' M', OKA α' → CI α' M' → MI α' M' → AW Y X 4 1201 (lsL Y b i) [] M') : AW Y X 4 615 (lsL Y b i) [] M := by
  obtain ⟨r, α', ok', hc, hm⟩ := s_home ok (xs (i + 1))
  obtain ⟨M1, c1, c2, c3⟩ := hc M ci
  obtain ⟨M2, d1, d2, d3⟩ := hm M1 (mi.fr0 (fun k hk => c3 k (Or.inr hk)))
  refine a_aload_n C dL_law_615 1 rfl ?_
  refine a_aload_n C dL_law_616 0 rfl ?_
  refine a_iload_n C dL_law_617 3 rfl ?_
  refine a_iconst (v := 1) C dL_law_618 (by decide) ?_
  refine a_iadd C dL_law_619 ?_
  refine a_sld (j := i + 1) C hX dL_law_620 (by rw [li_1, nI_add]) (by omega) (by omega) ?_
  refine a_callVi (As := [.int (xs (i + 1))]) (rest := []) C dL_law_621 wlv_78 wlm_X5_home ⟨rfl, rfl, Nat.le_of_ble_eq_true rfl, Nat.le_of_ble_eq_true rfl⟩ Kc_0 (m_X5_home C.2.2.2.2.2.2.1 c1) rfl rfl (Nat.le_of_ble_eq_true rfl) ?_
  refine a_aload_n C dL_law_624 2 rfl ?_
  refine a_aload_n C dL_law_625 0 rfl ?_
  refine a_iload_n C dL_law_626 3 rfl ?_
  refine a_iconst (v := 1) C dL_law_627 (by decide) ?_
  refine a_iadd C dL_law_628 ?_
  refine a_sld (j := i + 1) C hX dL_law_629 (by rw [li_1, nI_add]) (by omega) (by omega) ?_
  refine a_callVi (As := [.int (xs (i + 1))]) (rest := [.int r]) C dL_law_630 wlv_81 wlm_X6_home ⟨rfl, rfl, Nat.le_of_ble_eq_true rfl, Nat.le_of_ble_eq_true rfl⟩ Kc_49 (m_X6_home C.2.2.2.2.2.2.1 d1) rfl rfl (Nat.le_of_ble_eq_true rfl) ?_
  exact a_icmp_eq (tgt := 1201) C dL_law_633 (by decide) (fun _ => nx α' M2 ok' (c2.fr (fun k hk => d3 k (Or.inl hk))) d2) (fun hc => absurd rfl hc)
set_option maxRecDepth 20000 in
theorem wlm_X5_tray : LM yX5_tray cX5_tray 8 (some .int) 1 := ⟨gT_in 600 (by decide +kernel) (by decide +kernel), gT_in 70 (by decide +kernel) (by decide +kernel), by decide, by decide, by decide +kernel⟩
set_option maxRecDepth 20000 in
theorem wlv_82 : LV RL 82 yX5_tray 5 := ⟨gT_in 597 (by decide +kernel) (by decide +kernel), gT_in 598 (by decide +kernel) (by decide +kernel), gT_in 599 (by decide +kernel) (by decide +kernel), by decide, ⟨(RX5, TX5, 14), rfl, rfl⟩⟩
set_option maxRecDepth 20000 in
theorem wlm_X6_tray : LM yX6_tray cX6_tray 2 (some .int) 1 := ⟨gT_in 1130 (by decide +kernel) (by decide +kernel), gT_in 76 (by decide +kernel) (by decide +kernel), by decide, by decide, by decide +kernel⟩
set_option maxRecDepth 20000 in
theorem wlv_85 : LV RL 85 yX6_tray 6 := ⟨gT_in 1127 (by decide +kernel) (by decide +kernel), gT_in 1128 (by decide +kernel) (by decide +kernel), gT_in 1129 (by decide +kernel) (by decide +kernel), by decide, ⟨(RX6, TX6, 31), rfl, rfl⟩⟩
theorem law_16 {Y : EY} {X : CX} {M : Mem} {b L i : Nat} {xs : Nat → Int32} {α : AS} (C : CK Y X cL_law RL 4 ret room_1) (hX : SX Y X b L xs) (hL : L ≤ 3072) (hi : i + 6 ≤ L) (ok : OKA α) (ci : CI α M) (mi : MI α M) (nx : ∀ α' M', OKA α' → CI α' M' → MI α' M' → AW Y X 4 1201 (lsL Y b i) [] M') : AW Y X 4 638 (lsL Y b i) [] M := by
  obtain ⟨r, α', ok', hc, hm⟩ := s_tray ok (xs (i + 1))
  obtain ⟨M1, c1, c2, c3⟩ := hc M ci
  obtain ⟨M2, d1, d2, d3⟩ := hm M1 (mi.fr0 (fun k hk => c3 k (Or.inr hk)))
  refine a_aload_n C dL_law_638 1 rfl ?_
  refine a_aload_n C dL_law_639 0 rfl ?_
  refine a_iload_n C dL_law_640 3 rfl ?_
  refine a_iconst (v := 1) C dL_law_641 (by decide) ?_
  refine a_iadd C dL_law_642 ?_
  refine a_sld (j := i + 1) C hX dL_law_643 (by rw [li_1, nI_add]) (by omega) (by omega) ?_
  refine a_callVi (As := [.int (xs (i + 1))]) (rest := []) C dL_law_644 wlv_82 wlm_X5_tray ⟨rfl, rfl, Nat.le_of_ble_eq_true rfl, Nat.le_of_ble_eq_true rfl⟩ Kc_0 (m_X5_tray C.2.2.2.2.2.2.1 c1) rfl rfl (Nat.le_of_ble_eq_true rfl) ?_
  refine a_aload_n C dL_law_647 2 rfl ?_
  refine a_aload_n C dL_law_648 0 rfl ?_
  refine a_iload_n C dL_law_649 3 rfl ?_
  refine a_iconst (v := 1) C dL_law_650 (by decide) ?_
  refine a_iadd C dL_law_651 ?_
  refine a_sld (j := i + 1) C hX dL_law_652 (by rw [li_1, nI_add]) (by omega) (by omega) ?_
  refine a_callVi (As := [.int (xs (i + 1))]) (rest := [.int r]) C dL_law_653 wlv_85 wlm_X6_tray ⟨rfl, rfl, Nat.le_of_ble_eq_true rfl, Nat.le_of_ble_eq_true rfl⟩ Kc_49 (m_X6_tray C.2.2.2.2.2.2.1 d1) rfl rfl (Nat.le_of_ble_eq_true rfl) ?_
  exact a_icmp_eq (tgt := 1201) C dL_law_656 (by decide) (fun _ => nx α' M2 ok' (c2.fr (fun k hk => d3 k (Or.inl hk))) d2) (fun hc => absurd rfl hc)
set_option maxRecDepth 20000 in
theorem wlm_X5_refuse : LM yX5_refuse cX5_refuse 3 (some .int) 1 := ⟨gT_in 618 (by decide +kernel) (by decide +kernel), gT_in 70 (by decide +kernel) (by decide +kernel), by decide, by decide, by decide +kernel⟩
set_option maxRecDepth 20000 in
theorem wlv_86 : LV RL 86 yX5_refuse 5 := ⟨gT_in 615 (by decide +kernel) (by decide +kernel), gT_in 616 (by decide +kernel) (by decide +kernel), gT_in 617 (by decide +kernel) (by decide +kernel), by decide, ⟨(RX5, TX5, 14), rfl, rfl⟩⟩
set_option maxRecDepth 20000 in
theorem wlm_X6_refuse : LM yX6_refuse cX6_refuse 2 (some .int) 1 := ⟨gT_in 1148 (by decide +kernel) (by decide +kernel), gT_in 76 (by decide +kernel) (by decide +kernel), by decide, by decide, by decide +kernel⟩
set_option maxRecDepth 20000 in
theorem wlv_89 : LV RL 89 yX6_refuse 6 := ⟨gT_in 1145 (by decide +kernel) (by decide +kernel), gT_in 1146 (by decide +kernel) (by decide +kernel), gT_in 1147 (by decide +kernel) (by decide +kernel), by decide, ⟨(RX6, TX6, 31), rfl, rfl⟩⟩
theorem law_17 {Y : EY} {X : CX} {M : Mem} {b L i : Nat} {xs : Nat → Int32} {α : AS} (C : CK Y X cL_law RL 4 ret room_1) (hX : SX Y X b L xs) (hL : L ≤ 3072) (hi : i + 6 ≤ L) (ok : OKA α) (ci : CI α M) (mi : MI α M) (nx : ∀ α' M', OKA α' → CI α' M' → MI α' M' → AW Y X 4 1201 (lsL Y b i) [] M') : AW Y X 4 661 (lsL Y b i) [] M := by
  obtain ⟨r, α', ok', hc, hm⟩ := s_refuse ok (xs (i + 1))
  obtain ⟨M1, c1, c2, c3⟩ := hc M ci
  obtain ⟨M2, d1, d2, d3⟩ := hm M1 (mi.fr0 (fun k hk => c3 k (Or.inr hk)))
  refine a_aload_n C dL_law_661 1 rfl ?_
  refine a_aload_n C dL_law_662 0 rfl ?_
  refine a_iload_n C dL_law_663 3 rfl ?_
  refine a_iconst (v := 1) C dL_law_664 (by decide) ?_
  refine a_iadd C dL_law_665 ?_
  refine a_sld (j := i + 1) C hX dL_law_666 (by rw [li_1, nI_add]) (by omega) (by omega) ?_
  refine a_callVi (As := [.int (xs (i + 1))]) (rest := []) C dL_law_667 wlv_86 wlm_X5_refuse ⟨rfl, rfl, Nat.le_of_ble_eq_true rfl, Nat.le_of_ble_eq_true rfl⟩ Kc_0 (m_X5_refuse C.2.2.2.2.2.2.1 c1) rfl rfl (Nat.le_of_ble_eq_true rfl) ?_
  refine a_aload_n C dL_law_670 2 rfl ?_
  refine a_aload_n C dL_law_671 0 rfl ?_
  refine a_iload_n C dL_law_672 3 rfl ?_
  refine a_iconst (v := 1) C dL_law_673 (by decide) ?_
  refine a_iadd C dL_law_674 ?_
  refine a_sld (j := i + 1) C hX dL_law_675 (by rw [li_1, nI_add]) (by omega) (by omega) ?_
  refine a_callVi (As := [.int (xs (i + 1))]) (rest := [.int r]) C dL_law_676 wlv_89 wlm_X6_refuse ⟨rfl, rfl, Nat.le_of_ble_eq_true rfl, Nat.le_of_ble_eq_true rfl⟩ Kc_49 (m_X6_refuse C.2.2.2.2.2.2.1 d1) rfl rfl (Nat.le_of_ble_eq_true rfl) ?_
  exact a_icmp_eq (tgt := 1201) C dL_law_679 (by decide) (fun _ => nx α' M2 ok' (c2.fr (fun k hk => d3 k (Or.inl hk))) d2) (fun hc => absurd rfl hc)
set_option maxRecDepth 20000 in
theorem wlm_X5_hear : LM yX5_hear cX5_hear 5 (some .int) 4 := ⟨gT_in 630 (by decide +kernel) (by decide +kernel), gT_in 70 (by decide +kernel) (by decide +kernel), by decide, by decide, by decide +kernel⟩
set_option maxRecDepth 20000 in
theorem wlv_90 : LV RL 90 yX5_hear 5 := ⟨gT_in 627 (by decide +kernel) (by decide +kernel), gT_in 628 (by decide +kernel) (by decide +kernel), gT_in 629 (by decide +kernel) (by decide +kernel), by decide, ⟨(RX5, TX5, 14), rfl, rfl⟩⟩
set_option maxRecDepth 20000 in
theorem wlm_X6_hear : LM yX6_hear cX6_hear 5 (some .int) 4 := ⟨gT_in 1161 (by decide +kernel) (by decide +kernel), gT_in 76 (by decide +kernel) (by decide +kernel), by decide, by decide, by decide +kernel⟩
set_option maxRecDepth 20000 in
theorem wlv_93 : LV RL 93 yX6_hear 6 := ⟨gT_in 1158 (by decide +kernel) (by decide +kernel), gT_in 1159 (by decide +kernel) (by decide +kernel), gT_in 1160 (by decide +kernel) (by decide +kernel), by decide, ⟨(RX6, TX6, 31), rfl, rfl⟩⟩
theorem law_18 {Y : EY} {X : CX} {M : Mem} {b L i : Nat} {xs : Nat → Int32} {α : AS} (C : CK Y X cL_law RL 4 ret room_1) (hX : SX Y X b L xs) (hL : L ≤ 3072) (hi : i + 6 ≤ L) (ok : OKA α) (ci : CI α M) (mi : MI α M) (nx : ∀ α' M', OKA α' → CI α' M' → MI α' M' → AW Y X 4 1201 (lsL Y b i) [] M') : AW Y X 4 684 (lsL Y b i) [] M := by
  obtain ⟨r, α', ok', hc, hm⟩ := s_hear ok (xs (i + 1)) (xs (i + 2)) (xs (i + 3)) (xs (i + 4))
  obtain ⟨M1, c1, c2, c3⟩ := hc M ci
  obtain ⟨M2, d1, d2, d3⟩ := hm M1 (mi.fr0 (fun k hk => c3 k (Or.inr hk)))
  refine a_aload_n C dL_law_684 1 rfl ?_
  refine a_aload_n C dL_law_685 0 rfl ?_
  refine a_iload_n C dL_law_686 3 rfl ?_
  refine a_iconst (v := 1) C dL_law_687 (by decide) ?_
  refine a_iadd C dL_law_688 ?_
  refine a_sld (j := i + 1) C hX dL_law_689 (by rw [li_1, nI_add]) (by omega) (by omega) ?_
  refine a_aload_n C dL_law_690 0 rfl ?_
  refine a_iload_n C dL_law_691 3 rfl ?_
  refine a_iconst (v := 2) C dL_law_692 (by decide) ?_
  refine a_iadd C dL_law_693 ?_
  refine a_sld (j := i + 2) C hX dL_law_694 (by rw [li_2, nI_add]) (by omega) (by omega) ?_
  refine a_aload_n C dL_law_695 0 rfl ?_
  refine a_iload_n C dL_law_696 3 rfl ?_
  refine a_iconst (v := 3) C dL_law_697 (by decide) ?_
  refine a_iadd C dL_law_698 ?_
  refine a_sld (j := i + 3) C hX dL_law_699 (by rw [li_3, nI_add]) (by omega) (by omega) ?_
  refine a_aload_n C dL_law_700 0 rfl ?_
  refine a_iload_n C dL_law_701 3 rfl ?_
  refine a_iconst (v := 4) C dL_law_702 (by decide) ?_
  refine a_iadd C dL_law_703 ?_
  refine a_sld (j := i + 4) C hX dL_law_704 (by rw [li_4, nI_add]) (by omega) (by omega) ?_
  refine a_callVi (As := [.int (xs (i + 1)), .int (xs (i + 2)), .int (xs (i + 3)), .int (xs (i + 4))]) (rest := []) C dL_law_705 wlv_90 wlm_X5_hear ⟨rfl, rfl, Nat.le_of_ble_eq_true rfl, Nat.le_of_ble_eq_true rfl⟩ Kc_0 (m_X5_hear C.2.2.2.2.2.2.1 c1) rfl rfl (Nat.le_of_ble_eq_true rfl) ?_
  refine a_aload_n C dL_law_708 2 rfl ?_
  refine a_aload_n C dL_law_709 0 rfl ?_
  refine a_iload_n C dL_law_710 3 rfl ?_
  refine a_iconst (v := 1) C dL_law_711 (by decide) ?_
  refine a_iadd C dL_law_712 ?_
  refine a_sld (j := i + 1) C hX dL_law_713 (by rw [li_1, nI_add]) (by omega) (by omega) ?_
  refine a_aload_n C dL_law_714 0 rfl ?_
  refine a_iload_n C dL_law_715 3 rfl ?_
  refine a_iconst (v := 2) C dL_law_716 (by decide) ?_
  refine a_iadd C dL_law_717 ?_
  refine a_sld (j := i + 2) C hX dL_law_718 (by rw [li_2, nI_add]) (by omega) (by omega) ?_
  refine a_aload_n C dL_law_719 0 rfl ?_
  refine a_iload_n C dL_law_720 3 rfl ?_
  refine a_iconst (v := 3) C dL_law_721 (by decide) ?_
  refine a_iadd C dL_law_722 ?_
  refine a_sld (j := i + 3) C hX dL_law_723 (by rw [li_3, nI_add]) (by omega) (by omega) ?_
  refine a_aload_n C dL_law_724 0 rfl ?_
  refine a_iload_n C dL_law_725 3 rfl ?_
  refine a_iconst (v := 4) C dL_law_726 (by decide) ?_
  refine a_iadd C dL_law_727 ?_
  refine a_sld (j := i + 4) C hX dL_law_728 (by rw [li_4, nI_add]) (by omega) (by omega) ?_
  refine a_callVi (As := [.int (xs (i + 1)), .int (xs (i + 2)), .int (xs (i + 3)), .int (xs (i + 4))]) (rest := [.int r]) C dL_law_729 wlv_93 wlm_X6_hear ⟨rfl, rfl, Nat.le_of_ble_eq_true rfl, Nat.le_of_ble_eq_true rfl⟩ Kc_49 (m_X6_hear C.2.2.2.2.2.2.1 d1) rfl rfl (Nat.le_of_ble_eq_true rfl) ?_
  exact a_icmp_eq (tgt := 1201) C dL_law_732 (by decide) (fun _ => nx α' M2 ok' (c2.fr (fun k hk => d3 k (Or.inl hk))) d2) (fun hc => absurd rfl hc)
set_option maxRecDepth 20000 in
theorem wlm_X5_forget : LM yX5_forget cX5_forget 2 (some .int) 0 := ⟨gT_in 639 (by decide +kernel) (by decide +kernel), gT_in 70 (by decide +kernel) (by decide +kernel), by decide, by decide, by decide +kernel⟩
set_option maxRecDepth 20000 in
theorem wlv_94 : LV RL 94 yX5_forget 5 := ⟨gT_in 636 (by decide +kernel) (by decide +kernel), gT_in 637 (by decide +kernel) (by decide +kernel), gT_in 638 (by decide +kernel) (by decide +kernel), by decide, ⟨(RX5, TX5, 14), rfl, rfl⟩⟩
set_option maxRecDepth 20000 in
theorem wlm_X6_forget : LM yX6_forget cX6_forget 2 (some .int) 0 := ⟨gT_in 1167 (by decide +kernel) (by decide +kernel), gT_in 76 (by decide +kernel) (by decide +kernel), by decide, by decide, by decide +kernel⟩
set_option maxRecDepth 20000 in
theorem wlv_97 : LV RL 97 yX6_forget 6 := ⟨gT_in 1164 (by decide +kernel) (by decide +kernel), gT_in 1165 (by decide +kernel) (by decide +kernel), gT_in 1166 (by decide +kernel) (by decide +kernel), by decide, ⟨(RX6, TX6, 31), rfl, rfl⟩⟩
theorem law_19 {Y : EY} {X : CX} {M : Mem} {b L i : Nat} {xs : Nat → Int32} {α : AS} (C : CK Y X cL_law RL 4 ret room_1) (hX : SX Y X b L xs) (hL : L ≤ 3072) (hi : i + 6 ≤ L) (ok : OKA α) (ci : CI α M) (mi : MI α M) (nx : ∀ α' M', OKA α' → CI α' M' → MI α' M' → AW Y X 4 1201 (lsL Y b i) [] M') : AW Y X 4 737 (lsL Y b i) [] M := by
  obtain ⟨r, α', ok', hc, hm⟩ := s_forget ok
  obtain ⟨M1, c1, c2, c3⟩ := hc M ci
  obtain ⟨M2, d1, d2, d3⟩ := hm M1 (mi.fr0 (fun k hk => c3 k (Or.inr hk)))
  refine a_aload_n C dL_law_737 1 rfl ?_
  refine a_callVi (As := []) (rest := []) C dL_law_738 wlv_94 wlm_X5_forget ⟨rfl, rfl, Nat.le_of_ble_eq_true rfl, Nat.le_of_ble_eq_true rfl⟩ Kc_0 (m_X5_forget C.2.2.2.2.2.2.1 c1) rfl rfl (Nat.le_of_ble_eq_true rfl) ?_
  refine a_aload_n C dL_law_741 2 rfl ?_
  refine a_callVi (As := []) (rest := [.int r]) C dL_law_742 wlv_97 wlm_X6_forget ⟨rfl, rfl, Nat.le_of_ble_eq_true rfl, Nat.le_of_ble_eq_true rfl⟩ Kc_49 (m_X6_forget C.2.2.2.2.2.2.1 d1) rfl rfl (Nat.le_of_ble_eq_true rfl) ?_
  exact a_icmp_eq (tgt := 1201) C dL_law_745 (by decide) (fun _ => nx α' M2 ok' (c2.fr (fun k hk => d3 k (Or.inl hk))) d2) (fun hc => absurd rfl hc)
set_option maxRecDepth 20000 in
theorem wlm_X5_never : LM yX5_never cX5_never 3 (some .int) 0 := ⟨gT_in 643 (by decide +kernel) (by decide +kernel), gT_in 70 (by decide +kernel) (by decide +kernel), by decide, by decide, by decide +kernel⟩
set_option maxRecDepth 20000 in
theorem wlv_98 : LV RL 98 yX5_never 5 := ⟨gT_in 640 (by decide +kernel) (by decide +kernel), gT_in 641 (by decide +kernel) (by decide +kernel), gT_in 642 (by decide +kernel) (by decide +kernel), by decide, ⟨(RX5, TX5, 14), rfl, rfl⟩⟩
set_option maxRecDepth 20000 in
theorem wlm_X6_never : LM yX6_never cX6_never 1 (some .int) 0 := ⟨gT_in 1171 (by decide +kernel) (by decide +kernel), gT_in 76 (by decide +kernel) (by decide +kernel), by decide, by decide, by decide +kernel⟩
set_option maxRecDepth 20000 in
theorem wlv_101 : LV RL 101 yX6_never 6 := ⟨gT_in 1168 (by decide +kernel) (by decide +kernel), gT_in 1169 (by decide +kernel) (by decide +kernel), gT_in 1170 (by decide +kernel) (by decide +kernel), by decide, ⟨(RX6, TX6, 31), rfl, rfl⟩⟩
theorem law_20 {Y : EY} {X : CX} {M : Mem} {b L i : Nat} {xs : Nat → Int32} {α : AS} (C : CK Y X cL_law RL 4 ret room_1) (hX : SX Y X b L xs) (hL : L ≤ 3072) (hi : i + 6 ≤ L) (ok : OKA α) (ci : CI α M) (mi : MI α M) (nx : ∀ α' M', OKA α' → CI α' M' → MI α' M' → AW Y X 4 1201 (lsL Y b i) [] M') : AW Y X 4 750 (lsL Y b i) [] M := by
  obtain ⟨r, α', ok', hc, hm⟩ := s_never ok
  obtain ⟨M1, c1, c2, c3⟩ := hc M ci
  obtain ⟨M2, d1, d2, d3⟩ := hm M1 (mi.fr0 (fun k hk => c3 k (Or.inr hk)))
  refine a_aload_n C dL_law_750 1 rfl ?_
  refine a_callVi (As := []) (rest := []) C dL_law_751 wlv_98 wlm_X5_never ⟨rfl, rfl, Nat.le_of_ble_eq_true rfl, Nat.le_of_ble_eq_true rfl⟩ Kc_0 (m_X5_never C.2.2.2.2.2.2.1 c1) rfl rfl (Nat.le_of_ble_eq_true rfl) ?_
  refine a_aload_n C dL_law_754 2 rfl ?_
  refine a_callVi (As := []) (rest := [.int r]) C dL_law_755 wlv_101 wlm_X6_never ⟨rfl, rfl, Nat.le_of_ble_eq_true rfl, Nat.le_of_ble_eq_true rfl⟩ Kc_49 (m_X6_never C.2.2.2.2.2.2.1 d1) rfl rfl (Nat.le_of_ble_eq_true rfl) ?_
  exact a_icmp_eq (tgt := 1201) C dL_law_758 (by decide) (fun _ => nx α' M2 ok' (c2.fr (fun k hk => d3 k (Or.inl hk))) d2) (fun hc => absurd rfl hc)
set_option maxRecDepth 20000 in
theorem wlm_X5_was : LM yX5_was cX5_was 3 (some .int) 2 := ⟨gT_in 664 (by decide +kernel) (by decide +kernel), gT_in 70 (by decide +kernel) (by decide +kernel), by decide, by decide, by decide +kernel⟩
set_option maxRecDepth 20000 in
theorem wlv_102 : LV RL 102 yX5_was 5 := ⟨gT_in 661 (by decide +kernel) (by decide +kernel), gT_in 662 (by decide +kernel) (by decide +kernel), gT_in 663 (by decide +kernel) (by decide +kernel), by decide, ⟨(RX5, TX5, 14), rfl, rfl⟩⟩
set_option maxRecDepth 20000 in
theorem wlm_X6_was : LM yX6_was cX6_was 3 (some .int) 2 := ⟨gT_in 1183 (by decide +kernel) (by decide +kernel), gT_in 76 (by decide +kernel) (by decide +kernel), by decide, by decide, by decide +kernel⟩
set_option maxRecDepth 20000 in
theorem wlv_105 : LV RL 105 yX6_was 6 := ⟨gT_in 1180 (by decide +kernel) (by decide +kernel), gT_in 1181 (by decide +kernel) (by decide +kernel), gT_in 1182 (by decide +kernel) (by decide +kernel), by decide, ⟨(RX6, TX6, 31), rfl, rfl⟩⟩
theorem law_21 {Y : EY} {X : CX} {M : Mem} {b L i : Nat} {xs : Nat → Int32} {α : AS} (C : CK Y X cL_law RL 4 ret room_1) (hX : SX Y X b L xs) (hL : L ≤ 3072) (hi : i + 6 ≤ L) (ok : OKA α) (ci : CI α M) (mi : MI α M) (nx : ∀ α' M', OKA α' → CI α' M' → MI α' M' → AW Y X 4 1201 (lsL Y b i) [] M') : AW Y X 4 763 (lsL Y b i) [] M := by
  obtain ⟨r, α', ok', hc, hm⟩ := s_was ok (xs (i + 1)) (xs (i + 2))
  obtain ⟨M1, c1, c2, c3⟩ := hc M ci
  obtain ⟨M2, d1, d2, d3⟩ := hm M1 (mi.fr0 (fun k hk => c3 k (Or.inr hk)))
  refine a_aload_n C dL_law_763 1 rfl ?_
  refine a_aload_n C dL_law_764 0 rfl ?_
  refine a_iload_n C dL_law_765 3 rfl ?_
  refine a_iconst (v := 1) C dL_law_766 (by decide) ?_
  refine a_iadd C dL_law_767 ?_
  refine a_sld (j := i + 1) C hX dL_law_768 (by rw [li_1, nI_add]) (by omega) (by omega) ?_
  refine a_aload_n C dL_law_769 0 rfl ?_
  refine a_iload_n C dL_law_770 3 rfl ?_
  refine a_iconst (v := 2) C dL_law_771 (by decide) ?_
  refine a_iadd C dL_law_772 ?_
  refine a_sld (j := i + 2) C hX dL_law_773 (by rw [li_2, nI_add]) (by omega) (by omega) ?_
  refine a_callVi (As := [.int (xs (i + 1)), .int (xs (i + 2))]) (rest := []) C dL_law_774 wlv_102 wlm_X5_was ⟨rfl, rfl, Nat.le_of_ble_eq_true rfl, Nat.le_of_ble_eq_true rfl⟩ Kc_0 (m_X5_was C.2.2.2.2.2.2.1 c1) rfl rfl (Nat.le_of_ble_eq_true rfl) ?_
  refine a_aload_n C dL_law_777 2 rfl ?_
  refine a_aload_n C dL_law_778 0 rfl ?_
  refine a_iload_n C dL_law_779 3 rfl ?_
  refine a_iconst (v := 1) C dL_law_780 (by decide) ?_
  refine a_iadd C dL_law_781 ?_
  refine a_sld (j := i + 1) C hX dL_law_782 (by rw [li_1, nI_add]) (by omega) (by omega) ?_
  refine a_aload_n C dL_law_783 0 rfl ?_
  refine a_iload_n C dL_law_784 3 rfl ?_
  refine a_iconst (v := 2) C dL_law_785 (by decide) ?_
  refine a_iadd C dL_law_786 ?_
  refine a_sld (j := i + 2) C hX dL_law_787 (by rw [li_2, nI_add]) (by omega) (by omega) ?_
  refine a_callVi (As := [.int (xs (i + 1)), .int (xs (i + 2))]) (rest := [.int r]) C dL_law_788 wlv_105 wlm_X6_was ⟨rfl, rfl, Nat.le_of_ble_eq_true rfl, Nat.le_of_ble_eq_true rfl⟩ Kc_49 (m_X6_was C.2.2.2.2.2.2.1 d1) rfl rfl (Nat.le_of_ble_eq_true rfl) ?_
  exact a_icmp_eq (tgt := 1201) C dL_law_791 (by decide) (fun _ => nx α' M2 ok' (c2.fr (fun k hk => d3 k (Or.inl hk))) d2) (fun hc => absurd rfl hc)
set_option maxRecDepth 20000 in
theorem wlm_X5_ask : LM yX5_ask cX5_ask 5 (some .int) 1 := ⟨gT_in 676 (by decide +kernel) (by decide +kernel), gT_in 70 (by decide +kernel) (by decide +kernel), by decide, by decide, by decide +kernel⟩
set_option maxRecDepth 20000 in
theorem wlv_106 : LV RL 106 yX5_ask 5 := ⟨gT_in 673 (by decide +kernel) (by decide +kernel), gT_in 674 (by decide +kernel) (by decide +kernel), gT_in 675 (by decide +kernel) (by decide +kernel), by decide, ⟨(RX5, TX5, 14), rfl, rfl⟩⟩
set_option maxRecDepth 20000 in
theorem wlm_X6_ask : LM yX6_ask cX6_ask 2 (some .int) 1 := ⟨gT_in 1199 (by decide +kernel) (by decide +kernel), gT_in 76 (by decide +kernel) (by decide +kernel), by decide, by decide, by decide +kernel⟩
set_option maxRecDepth 20000 in
theorem wlv_109 : LV RL 109 yX6_ask 6 := ⟨gT_in 1196 (by decide +kernel) (by decide +kernel), gT_in 1197 (by decide +kernel) (by decide +kernel), gT_in 1198 (by decide +kernel) (by decide +kernel), by decide, ⟨(RX6, TX6, 31), rfl, rfl⟩⟩
theorem law_22 {Y : EY} {X : CX} {M : Mem} {b L i : Nat} {xs : Nat → Int32} {α : AS} (C : CK Y X cL_law RL 4 ret room_1) (hX : SX Y X b L xs) (hL : L ≤ 3072) (hi : i + 6 ≤ L) (ok : OKA α) (ci : CI α M) (mi : MI α M) (nx : ∀ α' M', OKA α' → CI α' M' → MI α' M' → AW Y X 4 1201 (lsL Y b i) [] M') : AW Y X 4 796 (lsL Y b i) [] M := by
  obtain ⟨r, α', ok', hc, hm⟩ := s_ask ok (xs (i + 1))
  obtain ⟨M1, c1, c2, c3⟩ := hc M ci
  obtain ⟨M2, d1, d2, d3⟩ := hm M1 (mi.fr0 (fun k hk => c3 k (Or.inr hk)))
  refine a_aload_n C dL_law_796 1 rfl ?_
  refine a_aload_n C dL_law_797 0 rfl ?_
  refine a_iload_n C dL_law_798 3 rfl ?_
  refine a_iconst (v := 1) C dL_law_799 (by decide) ?_
  refine a_iadd C dL_law_800 ?_
  refine a_sld (j := i + 1) C hX dL_law_801 (by rw [li_1, nI_add]) (by omega) (by omega) ?_
  refine a_callVi (As := [.int (xs (i + 1))]) (rest := []) C dL_law_802 wlv_106 wlm_X5_ask ⟨rfl, rfl, Nat.le_of_ble_eq_true rfl, Nat.le_of_ble_eq_true rfl⟩ Kc_0 (m_X5_ask C.2.2.2.2.2.2.1 c1) rfl rfl (Nat.le_of_ble_eq_true rfl) ?_
  refine a_aload_n C dL_law_805 2 rfl ?_
  refine a_aload_n C dL_law_806 0 rfl ?_
  refine a_iload_n C dL_law_807 3 rfl ?_
  refine a_iconst (v := 1) C dL_law_808 (by decide) ?_
  refine a_iadd C dL_law_809 ?_
  refine a_sld (j := i + 1) C hX dL_law_810 (by rw [li_1, nI_add]) (by omega) (by omega) ?_
  refine a_callVi (As := [.int (xs (i + 1))]) (rest := [.int r]) C dL_law_811 wlv_109 wlm_X6_ask ⟨rfl, rfl, Nat.le_of_ble_eq_true rfl, Nat.le_of_ble_eq_true rfl⟩ Kc_49 (m_X6_ask C.2.2.2.2.2.2.1 d1) rfl rfl (Nat.le_of_ble_eq_true rfl) ?_
  exact a_icmp_eq (tgt := 1201) C dL_law_814 (by decide) (fun _ => nx α' M2 ok' (c2.fr (fun k hk => d3 k (Or.inl hk))) d2) (fun hc => absurd rfl hc)
set_option maxRecDepth 20000 in
theorem wlm_X5_custom : LM yX5_custom cX5_custom 10 (some .long) 3 := ⟨gT_in 688 (by decide +kernel) (by decide +kernel), gT_in 70 (by decide +kernel) (by decide +kernel), by decide, by decide, by decide +kernel⟩
set_option maxRecDepth 20000 in
theorem wlv_110 : LV RL 110 yX5_custom 5 := ⟨gT_in 685 (by decide +kernel) (by decide +kernel), gT_in 686 (by decide +kernel) (by decide +kernel), gT_in 687 (by decide +kernel) (by decide +kernel), by decide, ⟨(RX5, TX5, 14), rfl, rfl⟩⟩
set_option maxRecDepth 20000 in
theorem wlm_X6_custom : LM yX6_custom cX6_custom 4 (some .long) 3 := ⟨gT_in 1211 (by decide +kernel) (by decide +kernel), gT_in 76 (by decide +kernel) (by decide +kernel), by decide, by decide, by decide +kernel⟩
set_option maxRecDepth 20000 in
theorem wlv_114 : LV RL 114 yX6_custom 6 := ⟨gT_in 1208 (by decide +kernel) (by decide +kernel), gT_in 1209 (by decide +kernel) (by decide +kernel), gT_in 1210 (by decide +kernel) (by decide +kernel), by decide, ⟨(RX6, TX6, 31), rfl, rfl⟩⟩
theorem law_23 {Y : EY} {X : CX} {M : Mem} {b L i : Nat} {xs : Nat → Int32} {α : AS} (C : CK Y X cL_law RL 4 ret room_1) (hX : SX Y X b L xs) (hL : L ≤ 3072) (hi : i + 6 ≤ L) (ok : OKA α) (ci : CI α M) (mi : MI α M) (nx : ∀ α' M', OKA α' → CI α' M' → MI α' M' → AW Y X 4 1201 (lsL Y b i) [] M') : AW Y X 4 819 (lsL Y b i) [] M := by
  obtain ⟨r, α', ok', hc, hm⟩ := s_custom ok (xs (i + 1)) (xs (i + 2)) (xs (i + 3))
  obtain ⟨M1, c1, c2, c3⟩ := hc M ci
  obtain ⟨M2, d1, d2, d3⟩ := hm M1 (mi.fr0 (fun k hk => c3 k (Or.inr hk)))
  refine a_aload_n C dL_law_819 1 rfl ?_
  refine a_aload_n C dL_law_820 0 rfl ?_
  refine a_iload_n C dL_law_821 3 rfl ?_
  refine a_iconst (v := 1) C dL_law_822 (by decide) ?_
  refine a_iadd C dL_law_823 ?_
  refine a_sld (j := i + 1) C hX dL_law_824 (by rw [li_1, nI_add]) (by omega) (by omega) ?_
  refine a_aload_n C dL_law_825 0 rfl ?_
  refine a_iload_n C dL_law_826 3 rfl ?_
  refine a_iconst (v := 2) C dL_law_827 (by decide) ?_
  refine a_iadd C dL_law_828 ?_
  refine a_sld (j := i + 2) C hX dL_law_829 (by rw [li_2, nI_add]) (by omega) (by omega) ?_
  refine a_aload_n C dL_law_830 0 rfl ?_
  refine a_iload_n C dL_law_831 3 rfl ?_
  refine a_iconst (v := 3) C dL_law_832 (by decide) ?_
  refine a_iadd C dL_law_833 ?_
  refine a_sld (j := i + 3) C hX dL_law_834 (by rw [li_3, nI_add]) (by omega) (by omega) ?_
  refine a_callVl (As := [.int (xs (i + 1)), .int (xs (i + 2)), .int (xs (i + 3))]) (rest := []) C dL_law_835 wlv_110 wlm_X5_custom ⟨rfl, rfl, Nat.le_of_ble_eq_true rfl, Nat.le_of_ble_eq_true rfl⟩ Kc_0 (m_X5_custom C.2.2.2.2.2.2.1 c1) rfl rfl (Nat.le_of_ble_eq_true rfl) ?_
  refine a_aload_n C dL_law_838 2 rfl ?_
  refine a_aload_n C dL_law_839 0 rfl ?_
  refine a_iload_n C dL_law_840 3 rfl ?_
  refine a_iconst (v := 1) C dL_law_841 (by decide) ?_
  refine a_iadd C dL_law_842 ?_
  refine a_sld (j := i + 1) C hX dL_law_843 (by rw [li_1, nI_add]) (by omega) (by omega) ?_
  refine a_aload_n C dL_law_844 0 rfl ?_
  refine a_iload_n C dL_law_845 3 rfl ?_
  refine a_iconst (v := 2) C dL_law_846 (by decide) ?_
  refine a_iadd C dL_law_847 ?_
  refine a_sld (j := i + 2) C hX dL_law_848 (by rw [li_2, nI_add]) (by omega) (by omega) ?_
  refine a_aload_n C dL_law_849 0 rfl ?_
  refine a_iload_n C dL_law_850 3 rfl ?_
  refine a_iconst (v := 3) C dL_law_851 (by decide) ?_
  refine a_iadd C dL_law_852 ?_
  refine a_sld (j := i + 3) C hX dL_law_853 (by rw [li_3, nI_add]) (by omega) (by omega) ?_
  refine a_callVl (As := [.int (xs (i + 1)), .int (xs (i + 2)), .int (xs (i + 3))]) (rest := [.long r]) C dL_law_854 wlv_114 wlm_X6_custom ⟨rfl, rfl, Nat.le_of_ble_eq_true rfl, Nat.le_of_ble_eq_true rfl⟩ Kc_49 (m_X6_custom C.2.2.2.2.2.2.1 d1) rfl rfl (Nat.le_of_ble_eq_true rfl) ?_
  refine a_lcmp C dL_law_857 ?_
  exact a_if_eq (tgt := 1201) C dL_law_858 (by decide) (fun _ => nx α' M2 ok' (c2.fr (fun k hk => d3 k (Or.inl hk))) d2) (fun hc => absurd ((lg_cmp_eq r r).mpr rfl) hc)
set_option maxRecDepth 20000 in
theorem wlm_X5_year : LM yX5_year cX5_year 4 (some .int) 3 := ⟨gT_in 706 (by decide +kernel) (by decide +kernel), gT_in 70 (by decide +kernel) (by decide +kernel), by decide, by decide, by decide +kernel⟩
set_option maxRecDepth 20000 in
theorem wlv_115 : LV RL 115 yX5_year 5 := ⟨gT_in 703 (by decide +kernel) (by decide +kernel), gT_in 704 (by decide +kernel) (by decide +kernel), gT_in 705 (by decide +kernel) (by decide +kernel), by decide, ⟨(RX5, TX5, 14), rfl, rfl⟩⟩
set_option maxRecDepth 20000 in
theorem wlm_X6_year : LM yX6_year cX6_year 4 (some .int) 3 := ⟨gT_in 1227 (by decide +kernel) (by decide +kernel), gT_in 76 (by decide +kernel) (by decide +kernel), by decide, by decide, by decide +kernel⟩
set_option maxRecDepth 20000 in
theorem wlv_118 : LV RL 118 yX6_year 6 := ⟨gT_in 1224 (by decide +kernel) (by decide +kernel), gT_in 1225 (by decide +kernel) (by decide +kernel), gT_in 1226 (by decide +kernel) (by decide +kernel), by decide, ⟨(RX6, TX6, 31), rfl, rfl⟩⟩
theorem law_24 {Y : EY} {X : CX} {M : Mem} {b L i : Nat} {xs : Nat → Int32} {α : AS} (C : CK Y X cL_law RL 4 ret room_1) (hX : SX Y X b L xs) (hL : L ≤ 3072) (hi : i + 6 ≤ L) (ok : OKA α) (ci : CI α M) (mi : MI α M) (nx : ∀ α' M', OKA α' → CI α' M' → MI α' M' → AW Y X 4 1201 (lsL Y b i) [] M') : AW Y X 4 863 (lsL Y b i) [] M := by
  obtain ⟨r, α', ok', hc, hm⟩ := s_year ok (xs (i + 1)) (xs (i + 2)) (xs (i + 3))
  obtain ⟨M1, c1, c2, c3⟩ := hc M ci
  obtain ⟨M2, d1, d2, d3⟩ := hm M1 (mi.fr0 (fun k hk => c3 k (Or.inr hk)))
  refine a_aload_n C dL_law_863 1 rfl ?_
  refine a_aload_n C dL_law_864 0 rfl ?_
  refine a_iload_n C dL_law_865 3 rfl ?_
  refine a_iconst (v := 1) C dL_law_866 (by decide) ?_
  refine a_iadd C dL_law_867 ?_
  refine a_sld (j := i + 1) C hX dL_law_868 (by rw [li_1, nI_add]) (by omega) (by omega) ?_
  refine a_aload_n C dL_law_869 0 rfl ?_
  refine a_iload_n C dL_law_870 3 rfl ?_
  refine a_iconst (v := 2) C dL_law_871 (by decide) ?_
  refine a_iadd C dL_law_872 ?_
  refine a_sld (j := i + 2) C hX dL_law_873 (by rw [li_2, nI_add]) (by omega) (by omega) ?_
  refine a_aload_n C dL_law_874 0 rfl ?_
  refine a_iload_n C dL_law_875 3 rfl ?_
  refine a_iconst (v := 3) C dL_law_876 (by decide) ?_
  refine a_iadd C dL_law_877 ?_
  refine a_sld (j := i + 3) C hX dL_law_878 (by rw [li_3, nI_add]) (by omega) (by omega) ?_
  refine a_callVi (As := [.int (xs (i + 1)), .int (xs (i + 2)), .int (xs (i + 3))]) (rest := []) C dL_law_879 wlv_115 wlm_X5_year ⟨rfl, rfl, Nat.le_of_ble_eq_true rfl, Nat.le_of_ble_eq_true rfl⟩ Kc_0 (m_X5_year C.2.2.2.2.2.2.1 c1) rfl rfl (Nat.le_of_ble_eq_true rfl) ?_
  refine a_aload_n C dL_law_882 2 rfl ?_
  refine a_aload_n C dL_law_883 0 rfl ?_
  refine a_iload_n C dL_law_884 3 rfl ?_
  refine a_iconst (v := 1) C dL_law_885 (by decide) ?_
  refine a_iadd C dL_law_886 ?_
  refine a_sld (j := i + 1) C hX dL_law_887 (by rw [li_1, nI_add]) (by omega) (by omega) ?_
  refine a_aload_n C dL_law_888 0 rfl ?_
  refine a_iload_n C dL_law_889 3 rfl ?_
  refine a_iconst (v := 2) C dL_law_890 (by decide) ?_
  refine a_iadd C dL_law_891 ?_
  refine a_sld (j := i + 2) C hX dL_law_892 (by rw [li_2, nI_add]) (by omega) (by omega) ?_
  refine a_aload_n C dL_law_893 0 rfl ?_
  refine a_iload_n C dL_law_894 3 rfl ?_
  refine a_iconst (v := 3) C dL_law_895 (by decide) ?_
  refine a_iadd C dL_law_896 ?_
  refine a_sld (j := i + 3) C hX dL_law_897 (by rw [li_3, nI_add]) (by omega) (by omega) ?_
  refine a_callVi (As := [.int (xs (i + 1)), .int (xs (i + 2)), .int (xs (i + 3))]) (rest := [.int r]) C dL_law_898 wlv_118 wlm_X6_year ⟨rfl, rfl, Nat.le_of_ble_eq_true rfl, Nat.le_of_ble_eq_true rfl⟩ Kc_49 (m_X6_year C.2.2.2.2.2.2.1 d1) rfl rfl (Nat.le_of_ble_eq_true rfl) ?_
  exact a_icmp_eq (tgt := 1201) C dL_law_901 (by decide) (fun _ => nx α' M2 ok' (c2.fr (fun k hk => d3 k (Or.inl hk))) d2) (fun hc => absurd rfl hc)
set_option maxRecDepth 20000 in
theorem wlm_X5_sheet : LM yX5_sheet cX5_sheet 4 (some .int) 3 := ⟨gT_in 721 (by decide +kernel) (by decide +kernel), gT_in 70 (by decide +kernel) (by decide +kernel), by decide, by decide, by decide +kernel⟩
set_option maxRecDepth 20000 in
theorem wlv_119 : LV RL 119 yX5_sheet 5 := ⟨gT_in 718 (by decide +kernel) (by decide +kernel), gT_in 719 (by decide +kernel) (by decide +kernel), gT_in 720 (by decide +kernel) (by decide +kernel), by decide, ⟨(RX5, TX5, 14), rfl, rfl⟩⟩
set_option maxRecDepth 20000 in
theorem wlm_X6_sheet : LM yX6_sheet cX6_sheet 5 (some .int) 3 := ⟨gT_in 904 (by decide +kernel) (by decide +kernel), gT_in 76 (by decide +kernel) (by decide +kernel), by decide, by decide, by decide +kernel⟩
set_option maxRecDepth 20000 in
theorem wlv_122 : LV RL 122 yX6_sheet 6 := ⟨gT_in 901 (by decide +kernel) (by decide +kernel), gT_in 902 (by decide +kernel) (by decide +kernel), gT_in 903 (by decide +kernel) (by decide +kernel), by decide, ⟨(RX6, TX6, 31), rfl, rfl⟩⟩
theorem law_25 {Y : EY} {X : CX} {M : Mem} {b L i : Nat} {xs : Nat → Int32} {α : AS} (C : CK Y X cL_law RL 4 ret room_1) (hX : SX Y X b L xs) (hL : L ≤ 3072) (hi : i + 6 ≤ L) (ok : OKA α) (ci : CI α M) (mi : MI α M) (nx : ∀ α' M', OKA α' → CI α' M' → MI α' M' → AW Y X 4 1201 (lsL Y b i) [] M') : AW Y X 4 906 (lsL Y b i) [] M := by
  obtain ⟨r, α', ok', hc, hm⟩ := s_sheet ok (xs (i + 1)) (xs (i + 2)) (xs (i + 3))
  obtain ⟨M1, c1, c2, c3⟩ := hc M ci
  obtain ⟨M2, d1, d2, d3⟩ := hm M1 (mi.fr0 (fun k hk => c3 k (Or.inr hk)))
  refine a_aload_n C dL_law_906 1 rfl ?_
  refine a_aload_n C dL_law_907 0 rfl ?_
  refine a_iload_n C dL_law_908 3 rfl ?_
  refine a_iconst (v := 1) C dL_law_909 (by decide) ?_
  refine a_iadd C dL_law_910 ?_
  refine a_sld (j := i + 1) C hX dL_law_911 (by rw [li_1, nI_add]) (by omega) (by omega) ?_
  refine a_aload_n C dL_law_912 0 rfl ?_
  refine a_iload_n C dL_law_913 3 rfl ?_
  refine a_iconst (v := 2) C dL_law_914 (by decide) ?_
  refine a_iadd C dL_law_915 ?_
  refine a_sld (j := i + 2) C hX dL_law_916 (by rw [li_2, nI_add]) (by omega) (by omega) ?_
  refine a_aload_n C dL_law_917 0 rfl ?_
  refine a_iload_n C dL_law_918 3 rfl ?_
  refine a_iconst (v := 3) C dL_law_919 (by decide) ?_
  refine a_iadd C dL_law_920 ?_
  refine a_sld (j := i + 3) C hX dL_law_921 (by rw [li_3, nI_add]) (by omega) (by omega) ?_
  refine a_callVi (As := [.int (xs (i + 1)), .int (xs (i + 2)), .int (xs (i + 3))]) (rest := []) C dL_law_922 wlv_119 wlm_X5_sheet ⟨rfl, rfl, Nat.le_of_ble_eq_true rfl, Nat.le_of_ble_eq_true rfl⟩ Kc_0 (m_X5_sheet C.2.2.2.2.2.2.1 c1) rfl rfl (Nat.le_of_ble_eq_true rfl) ?_
  refine a_aload_n C dL_law_925 2 rfl ?_
  refine a_aload_n C dL_law_926 0 rfl ?_
  refine a_iload_n C dL_law_927 3 rfl ?_
  refine a_iconst (v := 1) C dL_law_928 (by decide) ?_
  refine a_iadd C dL_law_929 ?_
  refine a_sld (j := i + 1) C hX dL_law_930 (by rw [li_1, nI_add]) (by omega) (by omega) ?_
  refine a_aload_n C dL_law_931 0 rfl ?_
  refine a_iload_n C dL_law_932 3 rfl ?_
  refine a_iconst (v := 2) C dL_law_933 (by decide) ?_
  refine a_iadd C dL_law_934 ?_
  refine a_sld (j := i + 2) C hX dL_law_935 (by rw [li_2, nI_add]) (by omega) (by omega) ?_
  refine a_aload_n C dL_law_936 0 rfl ?_
  refine a_iload_n C dL_law_937 3 rfl ?_
  refine a_iconst (v := 3) C dL_law_938 (by decide) ?_
  refine a_iadd C dL_law_939 ?_
  refine a_sld (j := i + 3) C hX dL_law_940 (by rw [li_3, nI_add]) (by omega) (by omega) ?_
  refine a_callVi (As := [.int (xs (i + 1)), .int (xs (i + 2)), .int (xs (i + 3))]) (rest := [.int r]) C dL_law_941 wlv_122 wlm_X6_sheet ⟨rfl, rfl, Nat.le_of_ble_eq_true rfl, Nat.le_of_ble_eq_true rfl⟩ Kc_49 (m_X6_sheet C.2.2.2.2.2.2.1 d1) rfl rfl (Nat.le_of_ble_eq_true rfl) ?_
  exact a_icmp_eq (tgt := 1201) C dL_law_944 (by decide) (fun _ => nx α' M2 ok' (c2.fr (fun k hk => d3 k (Or.inl hk))) d2) (fun hc => absurd rfl hc)
set_option maxRecDepth 20000 in
theorem wlm_X5_lose : LM yX5_lose cX5_lose 3 (some .int) 1 := ⟨gT_in 729 (by decide +kernel) (by decide +kernel), gT_in 70 (by decide +kernel) (by decide +kernel), by decide, by decide, by decide +kernel⟩
set_option maxRecDepth 20000 in
theorem wlv_123 : LV RL 123 yX5_lose 5 := ⟨gT_in 726 (by decide +kernel) (by decide +kernel), gT_in 727 (by decide +kernel) (by decide +kernel), gT_in 728 (by decide +kernel) (by decide +kernel), by decide, ⟨(RX5, TX5, 14), rfl, rfl⟩⟩
set_option maxRecDepth 20000 in
theorem wlm_X6_lose : LM yX6_lose cX6_lose 2 (some .int) 1 := ⟨gT_in 920 (by decide +kernel) (by decide +kernel), gT_in 76 (by decide +kernel) (by decide +kernel), by decide, by decide, by decide +kernel⟩
set_option maxRecDepth 20000 in
theorem wlv_126 : LV RL 126 yX6_lose 6 := ⟨gT_in 917 (by decide +kernel) (by decide +kernel), gT_in 918 (by decide +kernel) (by decide +kernel), gT_in 919 (by decide +kernel) (by decide +kernel), by decide, ⟨(RX6, TX6, 31), rfl, rfl⟩⟩
theorem law_26 {Y : EY} {X : CX} {M : Mem} {b L i : Nat} {xs : Nat → Int32} {α : AS} (C : CK Y X cL_law RL 4 ret room_1) (hX : SX Y X b L xs) (hL : L ≤ 3072) (hi : i + 6 ≤ L) (ok : OKA α) (ci : CI α M) (mi : MI α M) (nx : ∀ α' M', OKA α' → CI α' M' → MI α' M' → AW Y X 4 1201 (lsL Y b i) [] M') : AW Y X 4 949 (lsL Y b i) [] M := by
  obtain ⟨r, α', ok', hc, hm⟩ := s_lose ok (xs (i + 1))
  obtain ⟨M1, c1, c2, c3⟩ := hc M ci
  obtain ⟨M2, d1, d2, d3⟩ := hm M1 (mi.fr0 (fun k hk => c3 k (Or.inr hk)))
  refine a_aload_n C dL_law_949 1 rfl ?_
  refine a_aload_n C dL_law_950 0 rfl ?_
  refine a_iload_n C dL_law_951 3 rfl ?_
  refine a_iconst (v := 1) C dL_law_952 (by decide) ?_
  refine a_iadd C dL_law_953 ?_
  refine a_sld (j := i + 1) C hX dL_law_954 (by rw [li_1, nI_add]) (by omega) (by omega) ?_
  refine a_callVi (As := [.int (xs (i + 1))]) (rest := []) C dL_law_955 wlv_123 wlm_X5_lose ⟨rfl, rfl, Nat.le_of_ble_eq_true rfl, Nat.le_of_ble_eq_true rfl⟩ Kc_0 (m_X5_lose C.2.2.2.2.2.2.1 c1) rfl rfl (Nat.le_of_ble_eq_true rfl) ?_
  refine a_aload_n C dL_law_958 2 rfl ?_
  refine a_aload_n C dL_law_959 0 rfl ?_
  refine a_iload_n C dL_law_960 3 rfl ?_
  refine a_iconst (v := 1) C dL_law_961 (by decide) ?_
  refine a_iadd C dL_law_962 ?_
  refine a_sld (j := i + 1) C hX dL_law_963 (by rw [li_1, nI_add]) (by omega) (by omega) ?_
  refine a_callVi (As := [.int (xs (i + 1))]) (rest := [.int r]) C dL_law_964 wlv_126 wlm_X6_lose ⟨rfl, rfl, Nat.le_of_ble_eq_true rfl, Nat.le_of_ble_eq_true rfl⟩ Kc_49 (m_X6_lose C.2.2.2.2.2.2.1 d1) rfl rfl (Nat.le_of_ble_eq_true rfl) ?_
  exact a_icmp_eq (tgt := 1201) C dL_law_967 (by decide) (fun _ => nx α' M2 ok' (c2.fr (fun k hk => d3 k (Or.inl hk))) d2) (fun hc => absurd rfl hc)
set_option maxRecDepth 20000 in
theorem wlm_X5_lay : LM yX5_lay cX5_lay 6 (some .int) 4 := ⟨gT_in 733 (by decide +kernel) (by decide +kernel), gT_in 70 (by decide +kernel) (by decide +kernel), by decide, by decide, by decide +kernel⟩
set_option maxRecDepth 20000 in
theorem wlv_127 : LV RL 127 yX5_lay 5 := ⟨gT_in 730 (by decide +kernel) (by decide +kernel), gT_in 731 (by decide +kernel) (by decide +kernel), gT_in 732 (by decide +kernel) (by decide +kernel), by decide, ⟨(RX5, TX5, 14), rfl, rfl⟩⟩
set_option maxRecDepth 20000 in
theorem wlm_X6_lay : LM yX6_lay cX6_lay 6 (some .int) 4 := ⟨gT_in 924 (by decide +kernel) (by decide +kernel), gT_in 76 (by decide +kernel) (by decide +kernel), by decide, by decide, by decide +kernel⟩
set_option maxRecDepth 20000 in
theorem wlv_130 : LV RL 130 yX6_lay 6 := ⟨gT_in 921 (by decide +kernel) (by decide +kernel), gT_in 922 (by decide +kernel) (by decide +kernel), gT_in 923 (by decide +kernel) (by decide +kernel), by decide, ⟨(RX6, TX6, 31), rfl, rfl⟩⟩
theorem law_27 {Y : EY} {X : CX} {M : Mem} {b L i : Nat} {xs : Nat → Int32} {α : AS} (C : CK Y X cL_law RL 4 ret room_1) (hX : SX Y X b L xs) (hL : L ≤ 3072) (hi : i + 6 ≤ L) (ok : OKA α) (ci : CI α M) (mi : MI α M) (nx : ∀ α' M', OKA α' → CI α' M' → MI α' M' → AW Y X 4 1201 (lsL Y b i) [] M') : AW Y X 4 972 (lsL Y b i) [] M := by
  obtain ⟨r, α', ok', hc, hm⟩ := s_lay ok (xs (i + 1)) (xs (i + 2)) (xs (i + 3)) (xs (i + 4))
  obtain ⟨M1, c1, c2, c3⟩ := hc M ci
  obtain ⟨M2, d1, d2, d3⟩ := hm M1 (mi.fr0 (fun k hk => c3 k (Or.inr hk)))
  refine a_aload_n C dL_law_972 1 rfl ?_
  refine a_aload_n C dL_law_973 0 rfl ?_
  refine a_iload_n C dL_law_974 3 rfl ?_
  refine a_iconst (v := 1) C dL_law_975 (by decide) ?_
  refine a_iadd C dL_law_976 ?_
  refine a_sld (j := i + 1) C hX dL_law_977 (by rw [li_1, nI_add]) (by omega) (by omega) ?_
  refine a_aload_n C dL_law_978 0 rfl ?_
  refine a_iload_n C dL_law_979 3 rfl ?_
  refine a_iconst (v := 2) C dL_law_980 (by decide) ?_
  refine a_iadd C dL_law_981 ?_
  refine a_sld (j := i + 2) C hX dL_law_982 (by rw [li_2, nI_add]) (by omega) (by omega) ?_
  refine a_aload_n C dL_law_983 0 rfl ?_
  refine a_iload_n C dL_law_984 3 rfl ?_
  refine a_iconst (v := 3) C dL_law_985 (by decide) ?_
  refine a_iadd C dL_law_986 ?_
  refine a_sld (j := i + 3) C hX dL_law_987 (by rw [li_3, nI_add]) (by omega) (by omega) ?_
  refine a_aload_n C dL_law_988 0 rfl ?_
  refine a_iload_n C dL_law_989 3 rfl ?_
  refine a_iconst (v := 4) C dL_law_990 (by decide) ?_
  refine a_iadd C dL_law_991 ?_
  refine a_sld (j := i + 4) C hX dL_law_992 (by rw [li_4, nI_add]) (by omega) (by omega) ?_
  refine a_callVi (As := [.int (xs (i + 1)), .int (xs (i + 2)), .int (xs (i + 3)), .int (xs (i + 4))]) (rest := []) C dL_law_993 wlv_127 wlm_X5_lay ⟨rfl, rfl, Nat.le_of_ble_eq_true rfl, Nat.le_of_ble_eq_true rfl⟩ Kc_0 (m_X5_lay C.2.2.2.2.2.2.1 c1) rfl rfl (Nat.le_of_ble_eq_true rfl) ?_
  refine a_aload_n C dL_law_996 2 rfl ?_
  refine a_aload_n C dL_law_997 0 rfl ?_
  refine a_iload_n C dL_law_998 3 rfl ?_
  refine a_iconst (v := 1) C dL_law_999 (by decide) ?_
  refine a_iadd C dL_law_1000 ?_
  refine a_sld (j := i + 1) C hX dL_law_1001 (by rw [li_1, nI_add]) (by omega) (by omega) ?_
  refine a_aload_n C dL_law_1002 0 rfl ?_
  refine a_iload_n C dL_law_1003 3 rfl ?_
  refine a_iconst (v := 2) C dL_law_1004 (by decide) ?_
  refine a_iadd C dL_law_1005 ?_
  refine a_sld (j := i + 2) C hX dL_law_1006 (by rw [li_2, nI_add]) (by omega) (by omega) ?_
  refine a_aload_n C dL_law_1007 0 rfl ?_
  refine a_iload_n C dL_law_1008 3 rfl ?_
  refine a_iconst (v := 3) C dL_law_1009 (by decide) ?_
  refine a_iadd C dL_law_1010 ?_
  refine a_sld (j := i + 3) C hX dL_law_1011 (by rw [li_3, nI_add]) (by omega) (by omega) ?_
  refine a_aload_n C dL_law_1012 0 rfl ?_
  refine a_iload_n C dL_law_1013 3 rfl ?_
  refine a_iconst (v := 4) C dL_law_1014 (by decide) ?_
  refine a_iadd C dL_law_1015 ?_
  refine a_sld (j := i + 4) C hX dL_law_1016 (by rw [li_4, nI_add]) (by omega) (by omega) ?_
  refine a_callVi (As := [.int (xs (i + 1)), .int (xs (i + 2)), .int (xs (i + 3)), .int (xs (i + 4))]) (rest := [.int r]) C dL_law_1017 wlv_130 wlm_X6_lay ⟨rfl, rfl, Nat.le_of_ble_eq_true rfl, Nat.le_of_ble_eq_true rfl⟩ Kc_49 (m_X6_lay C.2.2.2.2.2.2.1 d1) rfl rfl (Nat.le_of_ble_eq_true rfl) ?_
  exact a_icmp_eq (tgt := 1201) C dL_law_1020 (by decide) (fun _ => nx α' M2 ok' (c2.fr (fun k hk => d3 k (Or.inl hk))) d2) (fun hc => absurd rfl hc)
set_option maxRecDepth 20000 in
theorem wlm_X5_get : LM yX5_get cX5_get 5 (some .int) 3 := ⟨gT_in 746 (by decide +kernel) (by decide +kernel), gT_in 70 (by decide +kernel) (by decide +kernel), by decide, by decide, by decide +kernel⟩
set_option maxRecDepth 20000 in
theorem wlv_131 : LV RL 131 yX5_get 5 := ⟨gT_in 743 (by decide +kernel) (by decide +kernel), gT_in 744 (by decide +kernel) (by decide +kernel), gT_in 745 (by decide +kernel) (by decide +kernel), by decide, ⟨(RX5, TX5, 14), rfl, rfl⟩⟩
set_option maxRecDepth 20000 in
theorem wlm_X6_get : LM yX6_get cX6_get 4 (some .int) 3 := ⟨gT_in 935 (by decide +kernel) (by decide +kernel), gT_in 76 (by decide +kernel) (by decide +kernel), by decide, by decide, by decide +kernel⟩
set_option maxRecDepth 20000 in
theorem wlv_134 : LV RL 134 yX6_get 6 := ⟨gT_in 932 (by decide +kernel) (by decide +kernel), gT_in 933 (by decide +kernel) (by decide +kernel), gT_in 934 (by decide +kernel) (by decide +kernel), by decide, ⟨(RX6, TX6, 31), rfl, rfl⟩⟩
theorem law_28 {Y : EY} {X : CX} {M : Mem} {b L i : Nat} {xs : Nat → Int32} {α : AS} (C : CK Y X cL_law RL 4 ret room_1) (hX : SX Y X b L xs) (hL : L ≤ 3072) (hi : i + 6 ≤ L) (ok : OKA α) (ci : CI α M) (mi : MI α M) (nx : ∀ α' M', OKA α' → CI α' M' → MI α' M' → AW Y X 4 1201 (lsL Y b i) [] M') : AW Y X 4 1025 (lsL Y b i) [] M := by
  obtain ⟨r, α', ok', hc, hm⟩ := s_get ok (xs (i + 1)) (xs (i + 2)) (xs (i + 3))
  obtain ⟨M1, c1, c2, c3⟩ := hc M ci
  obtain ⟨M2, d1, d2, d3⟩ := hm M1 (mi.fr0 (fun k hk => c3 k (Or.inr hk)))
  refine a_aload_n C dL_law_1025 1 rfl ?_
  refine a_aload_n C dL_law_1026 0 rfl ?_
  refine a_iload_n C dL_law_1027 3 rfl ?_
  refine a_iconst (v := 1) C dL_law_1028 (by decide) ?_
  refine a_iadd C dL_law_1029 ?_
  refine a_sld (j := i + 1) C hX dL_law_1030 (by rw [li_1, nI_add]) (by omega) (by omega) ?_
  refine a_aload_n C dL_law_1031 0 rfl ?_
  refine a_iload_n C dL_law_1032 3 rfl ?_
  refine a_iconst (v := 2) C dL_law_1033 (by decide) ?_
  refine a_iadd C dL_law_1034 ?_
  refine a_sld (j := i + 2) C hX dL_law_1035 (by rw [li_2, nI_add]) (by omega) (by omega) ?_
  refine a_aload_n C dL_law_1036 0 rfl ?_
  refine a_iload_n C dL_law_1037 3 rfl ?_
  refine a_iconst (v := 3) C dL_law_1038 (by decide) ?_
  refine a_iadd C dL_law_1039 ?_
  refine a_sld (j := i + 3) C hX dL_law_1040 (by rw [li_3, nI_add]) (by omega) (by omega) ?_
  refine a_callVi (As := [.int (xs (i + 1)), .int (xs (i + 2)), .int (xs (i + 3))]) (rest := []) C dL_law_1041 wlv_131 wlm_X5_get ⟨rfl, rfl, Nat.le_of_ble_eq_true rfl, Nat.le_of_ble_eq_true rfl⟩ Kc_0 (m_X5_get C.2.2.2.2.2.2.1 c1) rfl rfl (Nat.le_of_ble_eq_true rfl) ?_
  refine a_aload_n C dL_law_1044 2 rfl ?_
  refine a_aload_n C dL_law_1045 0 rfl ?_
  refine a_iload_n C dL_law_1046 3 rfl ?_
  refine a_iconst (v := 1) C dL_law_1047 (by decide) ?_
  refine a_iadd C dL_law_1048 ?_
  refine a_sld (j := i + 1) C hX dL_law_1049 (by rw [li_1, nI_add]) (by omega) (by omega) ?_
  refine a_aload_n C dL_law_1050 0 rfl ?_
  refine a_iload_n C dL_law_1051 3 rfl ?_
  refine a_iconst (v := 2) C dL_law_1052 (by decide) ?_
  refine a_iadd C dL_law_1053 ?_
  refine a_sld (j := i + 2) C hX dL_law_1054 (by rw [li_2, nI_add]) (by omega) (by omega) ?_
  refine a_aload_n C dL_law_1055 0 rfl ?_
  refine a_iload_n C dL_law_1056 3 rfl ?_
  refine a_iconst (v := 3) C dL_law_1057 (by decide) ?_
  refine a_iadd C dL_law_1058 ?_
  refine a_sld (j := i + 3) C hX dL_law_1059 (by rw [li_3, nI_add]) (by omega) (by omega) ?_
  refine a_callVi (As := [.int (xs (i + 1)), .int (xs (i + 2)), .int (xs (i + 3))]) (rest := [.int r]) C dL_law_1060 wlv_134 wlm_X6_get ⟨rfl, rfl, Nat.le_of_ble_eq_true rfl, Nat.le_of_ble_eq_true rfl⟩ Kc_49 (m_X6_get C.2.2.2.2.2.2.1 d1) rfl rfl (Nat.le_of_ble_eq_true rfl) ?_
  exact a_icmp_eq (tgt := 1201) C dL_law_1063 (by decide) (fun _ => nx α' M2 ok' (c2.fr (fun k hk => d3 k (Or.inl hk))) d2) (fun hc => absurd rfl hc)
set_option maxRecDepth 20000 in
theorem wlm_X5_copy : LM yX5_copy cX5_copy 8 (some .int) 5 := ⟨gT_in 751 (by decide +kernel) (by decide +kernel), gT_in 70 (by decide +kernel) (by decide +kernel), by decide, by decide, by decide +kernel⟩
set_option maxRecDepth 20000 in
theorem wlv_135 : LV RL 135 yX5_copy 5 := ⟨gT_in 748 (by decide +kernel) (by decide +kernel), gT_in 749 (by decide +kernel) (by decide +kernel), gT_in 750 (by decide +kernel) (by decide +kernel), by decide, ⟨(RX5, TX5, 14), rfl, rfl⟩⟩
set_option maxRecDepth 20000 in
theorem wlm_X6_copy : LM yX6_copy cX6_copy 7 (some .int) 5 := ⟨gT_in 940 (by decide +kernel) (by decide +kernel), gT_in 76 (by decide +kernel) (by decide +kernel), by decide, by decide, by decide +kernel⟩
set_option maxRecDepth 20000 in
theorem wlv_139 : LV RL 139 yX6_copy 6 := ⟨gT_in 937 (by decide +kernel) (by decide +kernel), gT_in 938 (by decide +kernel) (by decide +kernel), gT_in 939 (by decide +kernel) (by decide +kernel), by decide, ⟨(RX6, TX6, 31), rfl, rfl⟩⟩
theorem law_29 {Y : EY} {X : CX} {M : Mem} {b L i : Nat} {xs : Nat → Int32} {α : AS} (C : CK Y X cL_law RL 4 ret room_1) (hX : SX Y X b L xs) (hL : L ≤ 3072) (hi : i + 6 ≤ L) (ok : OKA α) (ci : CI α M) (mi : MI α M) (nx : ∀ α' M', OKA α' → CI α' M' → MI α' M' → AW Y X 4 1201 (lsL Y b i) [] M') : AW Y X 4 1068 (lsL Y b i) [] M := by
  obtain ⟨r, α', ok', hc, hm⟩ := s_copy ok (xs (i + 1)) (xs (i + 2)) (xs (i + 3)) (xs (i + 4)) (xs (i + 5))
  obtain ⟨M1, c1, c2, c3⟩ := hc M ci
  obtain ⟨M2, d1, d2, d3⟩ := hm M1 (mi.fr0 (fun k hk => c3 k (Or.inr hk)))
  refine a_aload_n C dL_law_1068 1 rfl ?_
  refine a_aload_n C dL_law_1069 0 rfl ?_
  refine a_iload_n C dL_law_1070 3 rfl ?_
  refine a_iconst (v := 1) C dL_law_1071 (by decide) ?_
  refine a_iadd C dL_law_1072 ?_
  refine a_sld (j := i + 1) C hX dL_law_1073 (by rw [li_1, nI_add]) (by omega) (by omega) ?_
  refine a_aload_n C dL_law_1074 0 rfl ?_
  refine a_iload_n C dL_law_1075 3 rfl ?_
  refine a_iconst (v := 2) C dL_law_1076 (by decide) ?_
  refine a_iadd C dL_law_1077 ?_
  refine a_sld (j := i + 2) C hX dL_law_1078 (by rw [li_2, nI_add]) (by omega) (by omega) ?_
  refine a_aload_n C dL_law_1079 0 rfl ?_
  refine a_iload_n C dL_law_1080 3 rfl ?_
  refine a_iconst (v := 3) C dL_law_1081 (by decide) ?_
  refine a_iadd C dL_law_1082 ?_
  refine a_sld (j := i + 3) C hX dL_law_1083 (by rw [li_3, nI_add]) (by omega) (by omega) ?_
  refine a_aload_n C dL_law_1084 0 rfl ?_
  refine a_iload_n C dL_law_1085 3 rfl ?_
  refine a_iconst (v := 4) C dL_law_1086 (by decide) ?_
  refine a_iadd C dL_law_1087 ?_
  refine a_sld (j := i + 4) C hX dL_law_1088 (by rw [li_4, nI_add]) (by omega) (by omega) ?_
  refine a_aload_n C dL_law_1089 0 rfl ?_
  refine a_iload_n C dL_law_1090 3 rfl ?_
  refine a_iconst (v := 5) C dL_law_1091 (by decide) ?_
  refine a_iadd C dL_law_1092 ?_
  refine a_sld (j := i + 5) C hX dL_law_1093 (by rw [li_5, nI_add]) (by omega) (by omega) ?_
  refine a_callVi (As := [.int (xs (i + 1)), .int (xs (i + 2)), .int (xs (i + 3)), .int (xs (i + 4)), .int (xs (i + 5))]) (rest := []) C dL_law_1094 wlv_135 wlm_X5_copy ⟨rfl, rfl, Nat.le_of_ble_eq_true rfl, Nat.le_of_ble_eq_true rfl⟩ Kc_0 (m_X5_copy C.2.2.2.2.2.2.1 c1) rfl rfl (Nat.le_of_ble_eq_true rfl) ?_
  refine a_aload_n C dL_law_1097 2 rfl ?_
  refine a_aload_n C dL_law_1098 0 rfl ?_
  refine a_iload_n C dL_law_1099 3 rfl ?_
  refine a_iconst (v := 1) C dL_law_1100 (by decide) ?_
  refine a_iadd C dL_law_1101 ?_
  refine a_sld (j := i + 1) C hX dL_law_1102 (by rw [li_1, nI_add]) (by omega) (by omega) ?_
  refine a_aload_n C dL_law_1103 0 rfl ?_
  refine a_iload_n C dL_law_1104 3 rfl ?_
  refine a_iconst (v := 2) C dL_law_1105 (by decide) ?_
  refine a_iadd C dL_law_1106 ?_
  refine a_sld (j := i + 2) C hX dL_law_1107 (by rw [li_2, nI_add]) (by omega) (by omega) ?_
  refine a_aload_n C dL_law_1108 0 rfl ?_
  refine a_iload_n C dL_law_1109 3 rfl ?_
  refine a_iconst (v := 3) C dL_law_1110 (by decide) ?_
  refine a_iadd C dL_law_1111 ?_
  refine a_sld (j := i + 3) C hX dL_law_1112 (by rw [li_3, nI_add]) (by omega) (by omega) ?_
  refine a_aload_n C dL_law_1113 0 rfl ?_
  refine a_iload_n C dL_law_1114 3 rfl ?_
  refine a_iconst (v := 4) C dL_law_1115 (by decide) ?_
  refine a_iadd C dL_law_1116 ?_
  refine a_sld (j := i + 4) C hX dL_law_1117 (by rw [li_4, nI_add]) (by omega) (by omega) ?_
  refine a_aload_n C dL_law_1118 0 rfl ?_
  refine a_iload_n C dL_law_1119 3 rfl ?_
  refine a_iconst (v := 5) C dL_law_1120 (by decide) ?_
  refine a_iadd C dL_law_1121 ?_
  refine a_sld (j := i + 5) C hX dL_law_1122 (by rw [li_5, nI_add]) (by omega) (by omega) ?_
  refine a_callVi (As := [.int (xs (i + 1)), .int (xs (i + 2)), .int (xs (i + 3)), .int (xs (i + 4)), .int (xs (i + 5))]) (rest := [.int r]) C dL_law_1123 wlv_139 wlm_X6_copy ⟨rfl, rfl, Nat.le_of_ble_eq_true rfl, Nat.le_of_ble_eq_true rfl⟩ Kc_49 (m_X6_copy C.2.2.2.2.2.2.1 d1) rfl rfl (Nat.le_of_ble_eq_true rfl) ?_
  exact a_icmp_eq (tgt := 1201) C dL_law_1126 (by decide) (fun _ => nx α' M2 ok' (c2.fr (fun k hk => d3 k (Or.inl hk))) d2) (fun hc => absurd rfl hc)
set_option maxRecDepth 20000 in
theorem wlm_X5_write : LM yX5_write cX5_write 6 (some .int) 2 := ⟨gT_in 760 (by decide +kernel) (by decide +kernel), gT_in 70 (by decide +kernel) (by decide +kernel), by decide, by decide, by decide +kernel⟩
set_option maxRecDepth 20000 in
theorem wlv_140 : LV RL 140 yX5_write 5 := ⟨gT_in 757 (by decide +kernel) (by decide +kernel), gT_in 758 (by decide +kernel) (by decide +kernel), gT_in 759 (by decide +kernel) (by decide +kernel), by decide, ⟨(RX5, TX5, 14), rfl, rfl⟩⟩
set_option maxRecDepth 20000 in
theorem wlm_X6_write : LM yX6_write cX6_write 5 (some .int) 2 := ⟨gT_in 1245 (by decide +kernel) (by decide +kernel), gT_in 76 (by decide +kernel) (by decide +kernel), by decide, by decide, by decide +kernel⟩
set_option maxRecDepth 20000 in
theorem wlv_143 : LV RL 143 yX6_write 6 := ⟨gT_in 1242 (by decide +kernel) (by decide +kernel), gT_in 1243 (by decide +kernel) (by decide +kernel), gT_in 1244 (by decide +kernel) (by decide +kernel), by decide, ⟨(RX6, TX6, 31), rfl, rfl⟩⟩
theorem law_30 {Y : EY} {X : CX} {M : Mem} {b L i : Nat} {xs : Nat → Int32} {α : AS} (C : CK Y X cL_law RL 4 ret room_1) (hX : SX Y X b L xs) (hL : L ≤ 3072) (hi : i + 6 ≤ L) (ok : OKA α) (ci : CI α M) (mi : MI α M) (nx : ∀ α' M', OKA α' → CI α' M' → MI α' M' → AW Y X 4 1201 (lsL Y b i) [] M') : AW Y X 4 1131 (lsL Y b i) [] M := by
  obtain ⟨r, α', ok', hc, hm⟩ := s_write ok (xs (i + 1)) (xs (i + 2))
  obtain ⟨M1, c1, c2, c3⟩ := hc M ci
  obtain ⟨M2, d1, d2, d3⟩ := hm M1 (mi.fr0 (fun k hk => c3 k (Or.inr hk)))
  refine a_aload_n C dL_law_1131 1 rfl ?_
  refine a_aload_n C dL_law_1132 0 rfl ?_
  refine a_iload_n C dL_law_1133 3 rfl ?_
  refine a_iconst (v := 1) C dL_law_1134 (by decide) ?_
  refine a_iadd C dL_law_1135 ?_
  refine a_sld (j := i + 1) C hX dL_law_1136 (by rw [li_1, nI_add]) (by omega) (by omega) ?_
  refine a_aload_n C dL_law_1137 0 rfl ?_
  refine a_iload_n C dL_law_1138 3 rfl ?_
  refine a_iconst (v := 2) C dL_law_1139 (by decide) ?_
  refine a_iadd C dL_law_1140 ?_
  refine a_sld (j := i + 2) C hX dL_law_1141 (by rw [li_2, nI_add]) (by omega) (by omega) ?_
  refine a_callVi (As := [.int (xs (i + 1)), .int (xs (i + 2))]) (rest := []) C dL_law_1142 wlv_140 wlm_X5_write ⟨rfl, rfl, Nat.le_of_ble_eq_true rfl, Nat.le_of_ble_eq_true rfl⟩ Kc_0 (m_X5_write C.2.2.2.2.2.2.1 c1) rfl rfl (Nat.le_of_ble_eq_true rfl) ?_
  refine a_aload_n C dL_law_1145 2 rfl ?_
  refine a_aload_n C dL_law_1146 0 rfl ?_
  refine a_iload_n C dL_law_1147 3 rfl ?_
  refine a_iconst (v := 1) C dL_law_1148 (by decide) ?_
  refine a_iadd C dL_law_1149 ?_
  refine a_sld (j := i + 1) C hX dL_law_1150 (by rw [li_1, nI_add]) (by omega) (by omega) ?_
  refine a_aload_n C dL_law_1151 0 rfl ?_
  refine a_iload_n C dL_law_1152 3 rfl ?_
  refine a_iconst (v := 2) C dL_law_1153 (by decide) ?_
  refine a_iadd C dL_law_1154 ?_
  refine a_sld (j := i + 2) C hX dL_law_1155 (by rw [li_2, nI_add]) (by omega) (by omega) ?_
  refine a_callVi (As := [.int (xs (i + 1)), .int (xs (i + 2))]) (rest := [.int r]) C dL_law_1156 wlv_143 wlm_X6_write ⟨rfl, rfl, Nat.le_of_ble_eq_true rfl, Nat.le_of_ble_eq_true rfl⟩ Kc_49 (m_X6_write C.2.2.2.2.2.2.1 d1) rfl rfl (Nat.le_of_ble_eq_true rfl) ?_
  exact a_icmp_eq (tgt := 1201) C dL_law_1159 (by decide) (fun _ => nx α' M2 ok' (c2.fr (fun k hk => d3 k (Or.inl hk))) d2) (fun hc => absurd rfl hc)
set_option maxRecDepth 20000 in
theorem wlm_X5_count : LM yX5_count cX5_count 2 (some .int) 1 := ⟨gT_in 764 (by decide +kernel) (by decide +kernel), gT_in 70 (by decide +kernel) (by decide +kernel), by decide, by decide, by decide +kernel⟩
set_option maxRecDepth 20000 in
theorem wlv_144 : LV RL 144 yX5_count 5 := ⟨gT_in 761 (by decide +kernel) (by decide +kernel), gT_in 762 (by decide +kernel) (by decide +kernel), gT_in 763 (by decide +kernel) (by decide +kernel), by decide, ⟨(RX5, TX5, 14), rfl, rfl⟩⟩
set_option maxRecDepth 20000 in
theorem wlm_X6_count : LM yX6_count cX6_count 2 (some .int) 1 := ⟨gT_in 1249 (by decide +kernel) (by decide +kernel), gT_in 76 (by decide +kernel) (by decide +kernel), by decide, by decide, by decide +kernel⟩
set_option maxRecDepth 20000 in
theorem wlv_147 : LV RL 147 yX6_count 6 := ⟨gT_in 1246 (by decide +kernel) (by decide +kernel), gT_in 1247 (by decide +kernel) (by decide +kernel), gT_in 1248 (by decide +kernel) (by decide +kernel), by decide, ⟨(RX6, TX6, 31), rfl, rfl⟩⟩
theorem law_31 {Y : EY} {X : CX} {M : Mem} {b L i : Nat} {xs : Nat → Int32} {α : AS} (C : CK Y X cL_law RL 4 ret room_1) (hX : SX Y X b L xs) (hL : L ≤ 3072) (hi : i + 6 ≤ L) (ok : OKA α) (ci : CI α M) (mi : MI α M) (nx : ∀ α' M', OKA α' → CI α' M' → MI α' M' → AW Y X 4 1201 (lsL Y b i) [] M') : AW Y X 4 1164 (lsL Y b i) [] M := by
  obtain ⟨r, α', ok', hc, hm⟩ := s_count ok (xs (i + 1))
  obtain ⟨M1, c1, c2, c3⟩ := hc M ci
  obtain ⟨M2, d1, d2, d3⟩ := hm M1 (mi.fr0 (fun k hk => c3 k (Or.inr hk)))
  refine a_aload_n C dL_law_1164 1 rfl ?_
  refine a_aload_n C dL_law_1165 0 rfl ?_
  refine a_iload_n C dL_law_1166 3 rfl ?_
  refine a_iconst (v := 1) C dL_law_1167 (by decide) ?_
  refine a_iadd C dL_law_1168 ?_
  refine a_sld (j := i + 1) C hX dL_law_1169 (by rw [li_1, nI_add]) (by omega) (by omega) ?_
  refine a_callVi (As := [.int (xs (i + 1))]) (rest := []) C dL_law_1170 wlv_144 wlm_X5_count ⟨rfl, rfl, Nat.le_of_ble_eq_true rfl, Nat.le_of_ble_eq_true rfl⟩ Kc_0 (m_X5_count C.2.2.2.2.2.2.1 c1) rfl rfl (Nat.le_of_ble_eq_true rfl) ?_
  refine a_aload_n C dL_law_1173 2 rfl ?_
  refine a_aload_n C dL_law_1174 0 rfl ?_
  refine a_iload_n C dL_law_1175 3 rfl ?_
  refine a_iconst (v := 1) C dL_law_1176 (by decide) ?_
  refine a_iadd C dL_law_1177 ?_
  refine a_sld (j := i + 1) C hX dL_law_1178 (by rw [li_1, nI_add]) (by omega) (by omega) ?_
  refine a_callVi (As := [.int (xs (i + 1))]) (rest := [.int r]) C dL_law_1179 wlv_147 wlm_X6_count ⟨rfl, rfl, Nat.le_of_ble_eq_true rfl, Nat.le_of_ble_eq_true rfl⟩ Kc_49 (m_X6_count C.2.2.2.2.2.2.1 d1) rfl rfl (Nat.le_of_ble_eq_true rfl) ?_
  exact a_icmp_eq (tgt := 1201) C dL_law_1182 (by decide) (fun _ => nx α' M2 ok' (c2.fr (fun k hk => d3 k (Or.inl hk))) d2) (fun hc => absurd rfl hc)
set_option maxRecDepth 20000 in
theorem wlm_X5_digest : LM yX5_digest cX5_digest 4 (some .long) 0 := ⟨gT_in 769 (by decide +kernel) (by decide +kernel), gT_in 70 (by decide +kernel) (by decide +kernel), by decide, by decide, by decide +kernel⟩
set_option maxRecDepth 20000 in
theorem wlv_148 : LV RL 148 yX5_digest 5 := ⟨gT_in 766 (by decide +kernel) (by decide +kernel), gT_in 767 (by decide +kernel) (by decide +kernel), gT_in 768 (by decide +kernel) (by decide +kernel), by decide, ⟨(RX5, TX5, 14), rfl, rfl⟩⟩
set_option maxRecDepth 20000 in
theorem wlm_X6_digest : LM yX6_digest cX6_digest 5 (some .long) 0 := ⟨gT_in 1253 (by decide +kernel) (by decide +kernel), gT_in 76 (by decide +kernel) (by decide +kernel), by decide, by decide, by decide +kernel⟩
set_option maxRecDepth 20000 in
theorem wlv_152 : LV RL 152 yX6_digest 6 := ⟨gT_in 1250 (by decide +kernel) (by decide +kernel), gT_in 1251 (by decide +kernel) (by decide +kernel), gT_in 1252 (by decide +kernel) (by decide +kernel), by decide, ⟨(RX6, TX6, 31), rfl, rfl⟩⟩
theorem law_32 {Y : EY} {X : CX} {M : Mem} {b L i : Nat} {xs : Nat → Int32} {α : AS} (C : CK Y X cL_law RL 4 ret room_1) (hX : SX Y X b L xs) (hL : L ≤ 3072) (hi : i + 6 ≤ L) (ok : OKA α) (ci : CI α M) (mi : MI α M) (nx : ∀ α' M', OKA α' → CI α' M' → MI α' M' → AW Y X 4 1201 (lsL Y b i) [] M') : AW Y X 4 1187 (lsL Y b i) [] M := by
  obtain ⟨r, α', ok', hc, hm⟩ := s_digest ok
  obtain ⟨M1, c1, c2, c3⟩ := hc M ci
  obtain ⟨M2, d1, d2, d3⟩ := hm M1 (mi.fr0 (fun k hk => c3 k (Or.inr hk)))
  refine a_aload_n C dL_law_1187 1 rfl ?_
  refine a_callVl (As := []) (rest := []) C dL_law_1188 wlv_148 wlm_X5_digest ⟨rfl, rfl, Nat.le_of_ble_eq_true rfl, Nat.le_of_ble_eq_true rfl⟩ Kc_0 (m_X5_digest C.2.2.2.2.2.2.1 c1) rfl rfl (Nat.le_of_ble_eq_true rfl) ?_
  refine a_aload_n C dL_law_1191 2 rfl ?_
  refine a_callVl (As := []) (rest := [.long r]) C dL_law_1192 wlv_152 wlm_X6_digest ⟨rfl, rfl, Nat.le_of_ble_eq_true rfl, Nat.le_of_ble_eq_true rfl⟩ Kc_49 (m_X6_digest C.2.2.2.2.2.2.1 d1) rfl rfl (Nat.le_of_ble_eq_true rfl) ?_
  refine a_lcmp C dL_law_1195 ?_
  exact a_if_eq (tgt := 1201) C dL_law_1196 (by decide) (fun _ => nx α' M2 ok' (c2.fr (fun k hk => d3 k (Or.inl hk))) d2) (fun hc => absurd ((lg_cmp_eq r r).mpr rfl) hc)
theorem law_sw {Y : EY} {X : CX} {M : Mem} {b L i : Nat} {xs : Nat → Int32} {α : AS} {x : Int32} (C : CK Y X cL_law RL 4 ret room_1) (hX : SX Y X b L xs) (hL : L ≤ 3072) (hi : i + 6 ≤ L) (ok : OKA α) (ci : CI α M) (mi : MI α M) (nx : ∀ α' M', OKA α' → CI α' M' → MI α' M' → AW Y X 4 1201 (lsL Y b i) [] M') : AW Y X 4 33 (lsL Y b i) [.int x] M := by
  by_cases r : In x 33
  · obtain ⟨j, hj, rfl⟩ := r
    rcases (show j = 0 ∨ j = 1 ∨ j = 2 ∨ j = 3 ∨ j = 4 ∨ j = 5 ∨ j = 6 ∨ j = 7 ∨ j = 8 ∨ j = 9 ∨ j = 10 ∨ j = 11 ∨ j = 12 ∨ j = 13 ∨ j = 14 ∨ j = 15 ∨ j = 16 ∨ j = 17 ∨ j = 18 ∨ j = 19 ∨ j = 20 ∨ j = 21 ∨ j = 22 ∨ j = 23 ∨ j = 24 ∨ j = 25 ∨ j = 26 ∨ j = 27 ∨ j = 28 ∨ j = 29 ∨ j = 30 ∨ j = 31 ∨ j = 32 by omega) with rfl | rfl | rfl | rfl | rfl | rfl | rfl | rfl | rfl | rfl | rfl | rfl | rfl | rfl | rfl | rfl | rfl | rfl | rfl | rfl | rfl | rfl | rfl | rfl | rfl | rfl | rfl | rfl | rfl | rfl | rfl | rfl | rfl
    · exact a_tabI (off := 147) (tgt := 180) C dL_law_33 (by decide) (by decide) rfl (by decide) (law_0 C hX hL hi ok ci mi nx)
    · exact a_tabI (off := 180) (tgt := 213) C dL_law_33 (by decide) (by decide) rfl (by decide) (law_1 C hX hL hi ok ci mi nx)
    · exact a_tabI (off := 203) (tgt := 236) C dL_law_33 (by decide) (by decide) rfl (by decide) (law_2 C hX hL hi ok ci mi nx)
    · exact a_tabI (off := 226) (tgt := 259) C dL_law_33 (by decide) (by decide) rfl (by decide) (law_3 C hX hL hi ok ci mi nx)
    · exact a_tabI (off := 249) (tgt := 282) C dL_law_33 (by decide) (by decide) rfl (by decide) (law_4 C hX hL hi ok ci mi nx)
    · exact a_tabI (off := 282) (tgt := 315) C dL_law_33 (by decide) (by decide) rfl (by decide) (law_5 C hX hL hi ok ci mi nx)
    · exact a_tabI (off := 315) (tgt := 348) C dL_law_33 (by decide) (by decide) rfl (by decide) (law_6 C hX hL hi ok ci mi nx)
    · exact a_tabI (off := 358) (tgt := 391) C dL_law_33 (by decide) (by decide) rfl (by decide) (law_7 C hX hL hi ok ci mi nx)
    · exact a_tabI (off := 371) (tgt := 404) C dL_law_33 (by decide) (by decide) rfl (by decide) (law_8 C hX hL hi ok ci mi nx)
    · exact a_tabI (off := 394) (tgt := 427) C dL_law_33 (by decide) (by decide) rfl (by decide) (law_9 C hX hL hi ok ci mi nx)
    · exact a_tabI (off := 437) (tgt := 470) C dL_law_33 (by decide) (by decide) rfl (by decide) (law_10 C hX hL hi ok ci mi nx)
    · exact a_tabI (off := 480) (tgt := 513) C dL_law_33 (by decide) (by decide) rfl (by decide) (law_11 C hX hL hi ok ci mi nx)
    · exact a_tabI (off := 503) (tgt := 536) C dL_law_33 (by decide) (by decide) rfl (by decide) (law_12 C hX hL hi ok ci mi nx)
    · exact a_tabI (off := 516) (tgt := 549) C dL_law_33 (by decide) (by decide) rfl (by decide) (law_13 C hX hL hi ok ci mi nx)
    · exact a_tabI (off := 529) (tgt := 562) C dL_law_33 (by decide) (by decide) rfl (by decide) (law_14 C hX hL hi ok ci mi nx)
    · exact a_tabI (off := 582) (tgt := 615) C dL_law_33 (by decide) (by decide) rfl (by decide) (law_15 C hX hL hi ok ci mi nx)
    · exact a_tabI (off := 605) (tgt := 638) C dL_law_33 (by decide) (by decide) rfl (by decide) (law_16 C hX hL hi ok ci mi nx)
    · exact a_tabI (off := 628) (tgt := 661) C dL_law_33 (by decide) (by decide) rfl (by decide) (law_17 C hX hL hi ok ci mi nx)
    · exact a_tabI (off := 651) (tgt := 684) C dL_law_33 (by decide) (by decide) rfl (by decide) (law_18 C hX hL hi ok ci mi nx)
    · exact a_tabI (off := 704) (tgt := 737) C dL_law_33 (by decide) (by decide) rfl (by decide) (law_19 C hX hL hi ok ci mi nx)
    · exact a_tabI (off := 717) (tgt := 750) C dL_law_33 (by decide) (by decide) rfl (by decide) (law_20 C hX hL hi ok ci mi nx)
    · exact a_tabI (off := 730) (tgt := 763) C dL_law_33 (by decide) (by decide) rfl (by decide) (law_21 C hX hL hi ok ci mi nx)
    · exact a_tabI (off := 763) (tgt := 796) C dL_law_33 (by decide) (by decide) rfl (by decide) (law_22 C hX hL hi ok ci mi nx)
    · exact a_tabI (off := 786) (tgt := 819) C dL_law_33 (by decide) (by decide) rfl (by decide) (law_23 C hX hL hi ok ci mi nx)
    · exact a_tabI (off := 830) (tgt := 863) C dL_law_33 (by decide) (by decide) rfl (by decide) (law_24 C hX hL hi ok ci mi nx)
    · exact a_tabI (off := 873) (tgt := 906) C dL_law_33 (by decide) (by decide) rfl (by decide) (law_25 C hX hL hi ok ci mi nx)
    · exact a_tabI (off := 916) (tgt := 949) C dL_law_33 (by decide) (by decide) rfl (by decide) (law_26 C hX hL hi ok ci mi nx)
    · exact a_tabI (off := 939) (tgt := 972) C dL_law_33 (by decide) (by decide) rfl (by decide) (law_27 C hX hL hi ok ci mi nx)
    · exact a_tabI (off := 992) (tgt := 1025) C dL_law_33 (by decide) (by decide) rfl (by decide) (law_28 C hX hL hi ok ci mi nx)
    · exact a_tabI (off := 1035) (tgt := 1068) C dL_law_33 (by decide) (by decide) rfl (by decide) (law_29 C hX hL hi ok ci mi nx)
    · exact a_tabI (off := 1098) (tgt := 1131) C dL_law_33 (by decide) (by decide) rfl (by decide) (law_30 C hX hL hi ok ci mi nx)
    · exact a_tabI (off := 1131) (tgt := 1164) C dL_law_33 (by decide) (by decide) rfl (by decide) (law_31 C hX hL hi ok ci mi nx)
    · exact a_tabI (off := 1154) (tgt := 1187) C dL_law_33 (by decide) (by decide) rfl (by decide) (law_32 C hX hL hi ok ci mi nx)
  · refine a_tabO (tgt := 1201) C dL_law_33 ?_ (by decide) (nx α M ok ci mi)
    have := tab_out x 33 (by decide) (fun i hi e => r ⟨i, hi, e⟩)
    omega
