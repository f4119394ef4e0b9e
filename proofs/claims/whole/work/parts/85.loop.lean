-- THE LAW'S LOOP
theorem sub_lt6 {z a : Nat} (hz : z ≤ 3072) (ha : a < 10000) : (nI z - nI 6 < nI a) = (z < a + 6) := by
  have e : (nI z - nI 6).toInt = (z : Int) - 6 := by
    rw [Int32.toInt_sub, nI_toInt (by omega), nI_toInt (by omega), Int.bmod_def]
    split <;> omega
  rw [Int32.lt_iff_toInt_lt, e, nI_toInt (by omega)]
  exact propext ⟨fun h => by omega, fun h => by omega⟩
theorem law_loop {Y : EY} {X : CX} {b L : Nat} {xs : Nat → Int32} (C : CK Y X cL_law RL 4 ret room_1) (hX : SX Y X b L xs) (hL : L ≤ 3072) (hE : ∀ i M, AW Y X 4 1207 (lsL Y b i) [] M) : ∀ (n i : Nat) (α : AS) (M : Mem), i ≤ L + 6 → L ≤ i + 6 * n → OKA α → CI α M → MI α M → AW Y X 4 18 (lsL Y b i) [] M := by
  intro n
  induction n with
  | zero =>
    intro i α M h1 h2 ok ci mi
    refine a_iload_n C dL_law_18 3 rfl ?_
    refine a_aload_n C dL_law_19 0 rfl ?_
    refine a_xlen C hX dL_law_20 ?_
    refine a_bipush (v := 6) C dL_law_21 (by decide) ?_
    refine a_isub C dL_law_23 ?_
    refine a_icmp_gt (tgt := 1207) C dL_law_24 (by decide) (fun _ => hE i M) (fun hc => ?_)
    exact absurd ((sub_lt6 (z := L) (a := i) hL (by omega)).mpr (by omega)) hc
  | succ n ih =>
    intro i α M h1 h2 ok ci mi
    refine a_iload_n C dL_law_18 3 rfl ?_
    refine a_aload_n C dL_law_19 0 rfl ?_
    refine a_xlen C hX dL_law_20 ?_
    refine a_bipush (v := 6) C dL_law_21 (by decide) ?_
    refine a_isub C dL_law_23 ?_
    refine a_icmp_gt (tgt := 1207) C dL_law_24 (by decide) (fun _ => hE i M) (fun hc => ?_)
    have hi : i + 6 ≤ L := Nat.not_lt.mp fun q => hc ((sub_lt6 (z := L) (a := i) hL (by omega)).mpr q)
    refine a_aload_n C dL_law_27 0 rfl ?_
    refine a_iload_n C dL_law_28 3 rfl ?_
    refine a_sld (j := i) C hX dL_law_29 rfl (by omega) (by omega) ?_
    refine a_bipush (v := 63) C dL_law_30 (by decide) ?_
    refine a_iand C dL_law_32 ?_
    refine law_sw C hX hL hi ok ci mi (fun α' M' ok' ci' mi' => ?_)
    refine a_iinc (v := 6) C dL_law_1201 3 rfl (by decide) (by decide) rfl ?_
    refine a_goto (tgt := 18) C dL_law_1204 (by decide) ?_
    have e : nI i + 6 = nI (i + 6) := by rw [li_6, nI_add]
    rw [e]
    exact a_sub (ls' := lsL Y b (i + 6)) [1, 2, 3, 0] (ih (i + 6) α' M' (by omega) (by omega) ok' ci' mi') rfl
