-- THE CALLS in AW
/-- a method's own words -/
def LM (y : MethodName) (cc : ByteArray) (mL : Nat) (ret : Option FieldType) (n : Nat) : Prop :=
  Cond.code y cc mL ret ∈ gT ∧ Cond.initialized y.cls ∈ gT ∧ y.cls ≠ "java/lang/invoke/MethodHandle" ∧ y.cls ≠ "java/lang/invoke/VarHandle" ∧ (parseMethodDescriptor y.desc).map (fun d => d.parameters.length) = some n
/-- an object's method, by this entry of this class's pool -/
def LV (own : String) (index : Nat) (y : MethodName) (c : Nat) : Prop :=
  Cond.methodLink own index y ∈ gT ∧ Cond.instanceMethod y ∈ gT ∧ Cond.selects y.cls y y ∈ gT ∧ c < 7 ∧ ∃ r : vw_C, vwCl[c]? = some r ∧ r.1 = y.cls
/-- a class's method -/
def LSt (own : String) (index : Nat) (y : MethodName) : Prop := Cond.methodLink own index y ∈ gT ∧ Cond.static y ∈ gT
/-- the caller's room holds the callee's -/
def RO (rm rm' : Room) (mL' : Nat) : Prop := rm'.cells = 0 ∧ rm'.slots = 0 ∧ rm'.frames + 1 ≤ rm.frames ∧ 8 + (mL' + 11) + rm'.locals ≤ rm.locals
theorem LM.good {y : MethodName} {cc : ByteArray} {mL n : Nat} {ret : Option FieldType} (h : LM y cc mL ret n) : GoodIn gT (Cond.code y cc mL ret :: gT) := by
  intro w hw
  rcases List.mem_cons.mp hw with e | e
  · rw [e]; exact gT_good _ h.1
  · exact gT_good _ e
section CALLS
variable {Y : EY} {X : CX} {cc : ByteArray} {own : String} {nL pc : Nat} {ret : Option FieldType} {rm : Room} {ls : List (Nat × Value)} {st : List Value} {M : Mem}
variable {y : MethodName} {cc' : ByteArray} {mL' n index k0 : Nat} {ret' : Option FieldType} {rm' : Room} {As rest : List Value} {o : Option Value} {M1 : Mem}
theorem a_run {H : Heap} {locs : List Loc} {L : Array Slot} {a : Array Value} (hr : va_Run X.1.1 Y.1 X.1.2.1 X.1.2.2.1 X.1.2.2.2.1 X.1.2.2.2.2.1 X.1.2.2.2.2.2.1 X.1.2.2.2.2.2.2.1 X.1.2.2.2.2.2.2.2.1 X.1.2.2.2.2.2.2.2.2 H locs X.2.1 X.2.2.1 0 0 (F0 X.1.2.2.2.2.1 pc L st) rest (Qx Y o M1 a) Y.2.1) (hS : va_S Y.2.1 X.1.2.2.2.1.heap H locs)
    (kk : ∀ (H1 : Heap) (locs1 : List Loc), WU Y M1 H1 → va_S Y.2.1 X.1.2.2.2.1.heap H1 locs1 → WX Y X H1 locs1 (F0 X.1.2.2.2.2.1 (pc + 3) L (o.toList ++ rest))) : WX Y X H locs (F0 X.1.2.2.2.2.1 pc L st) := by
  intro T hT Z
  obtain ⟨v, st₀, t, T', L', h0, Z', hL, e1, e2, ⟨⟨hv, hb⟩, hz, hk⟩, stp⟩ := hr T hT Z
  cases hv
  rw [h0] at hz hk
  obtain ⟨t2, a1, b1⟩ := kk T'.heap (locs ++ L') (by rw [e1]; exact hb)
    ⟨Nat.le_trans hS.1 (by rw [e1]; exact hz), fun q h1 h2 => by rw [e1, hk q (Nat.lt_of_lt_of_le h1 hS.1) h2]; exact hS.2.1 q h1 h2, fun q hq => by
      rcases List.mem_append.mp hq with h | h
      · exact hS.2.2 q h
      · exact hL q h⟩ T' rfl Z'
  exact ⟨t2, stp t2 a1, b1⟩
theorem a_fits (C : CK Y X cc own nL ret rm) : X.2.1 + 0 ≤ X.1.2.2.1.cells ∧ X.2.2.1 + 0 ≤ X.1.2.2.1.slots := by
  rw [C.2.2.2.2.2.2.2.2.2.1]
  exact C.2.2.2.2.2.2.2.2.2.2
theorem a_px {H : Heap} {locs : List Loc} {av : List Value} (C : CK Y X cc own nL ret rm) (hP : WU Y M H) (hS : va_S Y.2.1 X.1.2.2.2.1.heap H locs) : ∀ U : State, U.heap = H → X.1.2.2.2.1.WarmedH U.vm → Px Y av M av.toArray U := fun U hU hW =>
  ⟨rfl, by rw [hU]; exact hP, C.2.2.2.2.2.1.go hW (fun a h1 h2 => by rw [hU]; exact hS.2.1 a h1 h2)⟩
theorem a_callB (C : CK Y X cc own nL ret rm) (hL : LM y cc' mL' ret' n) (hl : Cond.methodLink own index y ∈ gT) (hR : RO rm rm' mL') : CallB X.1.2.2.1 X.1.2.2.2.1 X.1.2.2.2.2.2.1 own index y cc' mL' ret' (Cond.code y cc' mL' ret' :: gT) rm' 0 0 n :=
  callB_of n C.2.2.2.2.1 hL.good rfl hR.1 hR.2.1 (C.2.2.2.2.1 _ hL.2.1) (C.2.2.2.2.1 _ hl) hL.2.2 (by rw [C.2.2.2.2.2.2.2.2.2.1]; exact hR.2.2)
theorem a_callV {c : Nat} (C : CK Y X cc own nL ret rm) (d : decode cc pc = .ok (.invokevirtual index, 3)) (hV : LV own index y c) (hL : LM y cc' mL' ret' n) (hR : RO rm rm' mL') (hK : K k0 c) (hM : MX Y y cc' mL' ret' rm' (.ref (Y.2.2.2.1 k0) :: As) M o M1) (hn : As.length = n) (hst : st = As.reverse ++ .ref (Y.2.2.2.1 k0) :: rest) (hr : (rest.map fun v => v.category).sum ≤ 8) (k : AW Y X nL (pc + 3) ls (o.toList ++ rest) M1) : AW Y X nL pc ls st M := by
  intro H locs L hP hS hl
  obtain ⟨v1, v2, v3, v4, ⟨rC, rT, rN⟩, v5, v6⟩ := hV
  have v6 : rC = y.cls := v6
  subst v6
  refine a_run (va_runV (C := y.cls) (As := As) (rest := rest) ⟨C.1, C.2.1, C.2.2.1, C.2.2.2.1, C.2.2.2.2.1⟩ hM ⟨a_callB C hL v1 hR, C.2.2.2.2.1 _ v2, C.2.2.2.2.1 _ v3⟩ ⟨Px.blind, va_recv C.2.2.2.2.2.1.1 hP (ci := c) (q0 := k0) v5 (by rw [wld_at hK.1, cel_obj hK v4]), a_px C hP hS⟩ rfl hn hl.1 hst (lv_room hr) d (a_fits C)) hS (fun H1 locs1 hP1 hS1 => k H1 locs1 L hP1 hS1 hl)
theorem a_callS (C : CK Y X cc own nL ret rm) (d : decode cc pc = .ok (.invokestatic index, 3)) (hV : LSt own index y) (hL : LM y cc' mL' ret' n) (hR : RO rm rm' mL') (hM : MX Y y cc' mL' ret' rm' As M o M1) (hn : As.length = n) (hst : st = As.reverse ++ rest) (hr : (rest.map fun v => v.category).sum ≤ 8) (k : AW Y X nL (pc + 3) ls (o.toList ++ rest) M1) : AW Y X nL pc ls st M := by
  intro H locs L hP hS hl
  refine a_run (va_runS (As := As) (rest := rest) ⟨C.1, C.2.1, C.2.2.1, C.2.2.2.1, C.2.2.2.2.1⟩ hM ⟨a_callB C hL hV.1 hR, C.2.2.2.2.1 _ hV.2⟩ ⟨Px.blind, a_px C hP hS⟩ rfl hn hl.1 hst (lv_room hr) d (a_fits C)) hS (fun H1 locs1 hP1 hS1 => k H1 locs1 L hP1 hS1 hl)
/-- the nest mate's private test -/
theorem a_callN (C : CK Y X cc own nL ret rm) (d : decode cc pc = .ok (.invokestatic index, 3)) (hN : (own, index) ∈ nestW) (hsy : Cond.static yX5_isBelow ∈ gT) (hL : LM yX5_isBelow cc' mL' ret' n) (hR : RO rm rm' mL') (hM : MX Y yX5_isBelow cc' mL' ret' rm' As M o M1) (hn : As.length = n) (hst : st = As.reverse ++ rest) (hr : (rest.map fun v => v.category).sum ≤ 8) (k : AW Y X nL (pc + 3) ls (o.toList ++ rest) M1) : AW Y X nL pc ls st M := by
  intro H locs L hP hS hl
  refine a_run (va_runSN (host := "AccentShop") (As := As) (rest := rest) ⟨C.1, C.2.1, C.2.2.1, C.2.2.2.1, C.2.2.2.2.1⟩ hM ⟨va_cnB n C.2.2.2.2.1 hL.good rfl hR.1 hR.2.1 (C.2.2.2.2.2.1.2.1 _ hN) (C.2.2.2.2.1 _ hL.2.1) hL.2.2 (by rw [C.2.2.2.2.2.2.2.2.2.1]; exact hR.2.2), C.2.2.2.2.1 _ hsy, trivial⟩ ⟨Px.blind, a_px C hP hS⟩ rfl hn hl.1 hst (lv_room hr) d (a_fits C)) hS (fun H1 locs1 hP1 hS1 => k H1 locs1 L hP1 hS1 hl)
/-- Math.abs -/
def absI (x : Int32) : Int32 := if 0 ≤ x then x else 0 - x
theorem a_mabs {x : Int32} (C : CK Y X cc own nL ret rm) (d : decode cc pc = .ok (.invokestatic index, 3)) (hl : Cond.methodLink own index Lib.Math.abs.name ∈ gT) (h2 : Cond.static Lib.Math.abs.name ∈ gT) (h3 : Cond.initialized "java/lang/Math" ∈ gT) (h4 : Cond.code Lib.Math.abs.name Lib.Math.abs.code 1 (some .int) ∈ gT) (hf : 1 ≤ rm.frames) (hr : (rest.map fun v => v.category).sum + 13 ≤ rm.locals) (k : AW Y X nL (pc + 3) ls (.int (absI x) :: rest) M) : AW Y X nL pc ls (.int x :: rest) M := by
  intro H locs L hP hS hlv
  have eR := C.2.2.2.2.2.2.2.2.2.1
  exact va_mabs C.1 C.2.1 (C.2.2.1.trans hlv.1.symm) C.2.2.2.1 (C.2.2.2.2.1 _ hl) (C.2.2.2.2.1 _ h2) (C.2.2.2.2.1 _ h3) (C.2.2.2.2.1 _ h4) (by rw [eR]; exact hf) (by rw [eR]; exact hr) (by rw [eR]; exact C.2.2.2.2.2.2.2.2.2.2.1) (by rw [eR]; exact C.2.2.2.2.2.2.2.2.2.2.2) d (k H locs L hP hS hlv)
/-- System.arraycopy -/
def cpb (sp dp n : Int32) (n0 n1 : Nat) : Bool := decide (¬ sp < 0 ∧ ¬ dp < 0 ∧ ¬ n < 0 ∧ sp.toNatClampNeg + n.toNatClampNeg ≤ n0 ∧ dp.toNatClampNeg + n.toNatClampNeg ≤ n1)
theorem a_copy {k1 n0 n1 : Nat} {sp dp q : Int32} (C : CK Y X cc own nL ret rm) (d : decode cc pc = .ok (.invokestatic index, 3)) (hl : Cond.methodLink own index arraycopyName ∈ gT) (h2 : Cond.native arraycopyName ∈ gT) (h3 : Cond.static arraycopyName ∈ gT) (h4 : Cond.initialized "java/lang/System" ∈ gT) (hK0 : K k0 7) (hK1 : K k1 7) (e0 : ln k0 = n0) (e1 : ln k1 = n1) (hc : cpb sp dp q n0 n1 = true) (hf : 1 ≤ rm.frames) (hr : (rest.map fun v => v.category).sum + (nativeFrameWords "java/lang/System" "arraycopy" 5 + 11) ≤ rm.locals) (k : AW Y X nL (pc + 3) ls rest (cpM M k0 sp.toNatClampNeg k1 dp.toNatClampNeg q.toNatClampNeg)) : AW Y X nL pc ls (.int q :: .int dp :: .ref (Y.2.2.2.1 k1) :: .int sp :: .ref (Y.2.2.2.1 k0) :: rest) M := by
  intro H locs L hP hS hlv
  subst e0 e1
  have eR := C.2.2.2.2.2.2.2.2.2.1
  obtain ⟨c1, c2, c3, c4, c5⟩ := of_decide_eq_true hc
  refine va_copyi (f := M k0) (g := M k1) (ty := .int) C.1 C.2.1 (C.2.2.1.trans hlv.1.symm) C.2.2.2.1 (C.2.2.2.2.1 _ hl) (C.2.2.2.2.1 _ h2) (C.2.2.2.2.1 _ h3) (C.2.2.2.2.1 _ h4) C.2.2.2.2.2.1.1 hP (C.2.2.2.2.2.2.1.D M) hS k0 k1 0 0 (by rw [wld_at hK0.1, cel_arr hK0]) (by rw [wld_at hK1.1, cel_arr hK1]) rfl rfl rfl c1 c2 c3 c4 c5 (fun _ _ => rfl) (by rw [eR]; exact hf) (by rw [eR]; exact hr) d (fun H1 locs1 hP1 _ hS1 => ?_)
  refine k H1 locs1 L ?_ hS1 hlv
  rw [wld_set (M' := cpM M k0 sp.toNatClampNeg k1 dp.toNatClampNeg q.toNatClampNeg) ?_ cpM_o] at hP1
  · exact hP1
  · rw [cel_arr hK1]
    simp [cpM]
end CALLS
