-- THE CORE: memory by number, the world that it spells, the walk's judgement AW, a method's contract MX
abbrev Mem : Type := Nat → Nat → Int32
def upM (M : Mem) (k i : Nat) (x : Int32) : Mem := fun a => if a = k then upd (M k) i x else M a
def cpM (M : Mem) (k0 sp k1 dp n : Nat) : Mem := fun a => if a = k1 then va_cpy (M k0) (M k1) sp dp n else M a
def cel (cI cR : ClassId) (ad : Nat → Nat) (M : Mem) (k : Nat) : va_E :=
  if kd k = 7 then .inl (cI, ln k, .inl (M k))
  else if kd k = 8 then .inl (cR, 4, .inr (.inr (.inr (.inr (fun i => some (ad (rf k i)))))))
  else .inr (kd k, (List.range (nf (kd k))).map (fun j => if isR (kd k) j = true then Value.ref (ad (rf k j)) else Value.int (M k j)))
def wld (cI cR : ClassId) (ad : Nat → Nat) (M : Mem) : va_W := (List.range NC).map (fun k => (ad k, cel cI cR ad M k))
theorem wld_at {cI cR : ClassId} {ad : Nat → Nat} {M : Mem} {k : Nat} (h : k < NC) : (wld cI cR ad M)[k]? = some (ad k, cel cI cR ad M k) := by
  simp [wld, h]
theorem wld_len {cI cR : ClassId} {ad : Nat → Nat} {M : Mem} : (wld cI cR ad M).length = NC := by simp [wld]
theorem wld_set {cI cR : ClassId} {ad : Nat → Nat} {M M' : Mem} {k : Nat} {e : va_E} (he : e = cel cI cR ad M' k) (ho : ∀ j, j ≠ k → M' j = M j) : (wld cI cR ad M).set k (ad k, e) = wld cI cR ad M' := by
  apply List.ext_getElem?
  intro j
  subst he
  by_cases hj : j = k
  · subst hj
    by_cases hl : j < NC
    · rw [wld_at hl, List.getElem?_set_self (by rw [wld_len]; exact hl)]
    · rw [List.getElem?_eq_none (by rw [List.length_set, wld_len]; omega), List.getElem?_eq_none (by rw [wld_len]; omega)]
  · rw [List.getElem?_set_ne (fun e => hj e.symm)]
    by_cases hl : j < NC
    · rw [wld_at hl, wld_at hl]
      have e := ho j hj
      simp only [cel, e]
    · rw [List.getElem?_eq_none (by rw [wld_len]; omega), List.getElem?_eq_none (by rw [wld_len]; omega)]
theorem upM_o {M : Mem} {k i : Nat} {x : Int32} : ∀ j, j ≠ k → upM M k i x j = M j := fun j h => by simp [upM, h]
theorem cpM_o {M : Mem} {k0 sp k1 dp n : Nat} : ∀ j, j ≠ k1 → cpM M k0 sp k1 dp n j = M j := fun j h => by simp [cpM, h]
/-- a cell of a kind -/
def K (k t : Nat) : Prop := k < NC ∧ kd k = t
theorem cel_arr {cI cR : ClassId} {ad : Nat → Nat} {M : Mem} {k : Nat} (h : K k 7) : cel cI cR ad M k = .inl (cI, ln k, .inl (M k)) := by simp [cel, h.2]
theorem cel_row {cI cR : ClassId} {ad : Nat → Nat} {M : Mem} {k : Nat} (h : K k 8) : cel cI cR ad M k = .inl (cR, 4, .inr (.inr (.inr (.inr (fun i => some (ad (rf k i))))))) := by simp [cel, h.2]
theorem cel_obj {cI cR : ClassId} {ad : Nat → Nat} {M : Mem} {k t : Nat} (h : K k t) (ht : t < 7) : cel cI cR ad M k = .inr (t, (List.range (nf t)).map (fun j => if isR t j = true then Value.ref (ad (rf k j)) else Value.int (M k j))) := by
  have h1 : ¬ t = 7 := by omega
  have h2 : ¬ t = 8 := by omega
  simp [cel, h.2, h1, h2]
/-- the words that go with every call -/
def gT : List Cond := lw_tbl.filter goodWord
theorem gT_in (i : Nat) {w : Cond} (h : lw_tbl[i]? = some w) (hg : goodWord w = true) : w ∈ gT := List.mem_filter.mpr ⟨List.mem_of_getElem? h, hg⟩
theorem gT_good : GoodIn gT gT := fun w h => ⟨h, good_of_word (List.mem_filter.mp h).2⟩
/-- what goes with a launch: which cells may change, the classes' numbers, where the cells lie, the classes of the two arrays -/
abbrev EY : Type := Launch × (Nat → Prop) × va_G × (Nat → Nat) × ClassId × ClassId
def tysY (Y : EY) : List (ClassId × FieldType) := [(Y.2.2.2.2.1, .int), (Y.2.2.2.2.2, .object "AccentShop$Sheet")]
def WU (Y : EY) (M : Mem) (H : Heap) : Prop := va_P Y.2.2.1 vwCl (wld Y.2.2.2.2.1 Y.2.2.2.2.2 Y.2.2.2.1 M) H
/-- the private static test that the nested classes call -/
def nestW : List (String × Nat) := [(RX3, 29), (RX1, 65), (RX4, 79), (RX0, 28), (RX2, 22)]
def NU (U : State) : Prop := ∀ q ∈ nestW, va_Nw (.methodLinkNest q.1 q.2 yX5_isBelow "AccentShop") U
def roF : Nat → Nat → Int32 := fun k j => match k, j with
  | 73, 0 => 6
  | 73, 1 => 20
  | 73, 2 => 29
  | 74, 0 => 0
  | 74, 1 => 7
  | 74, 2 => 15
  | 74, 3 => 29
  | _, _ => 0
def stB : Nat → List Int32 := fun i => match i with
  | 0 => [107, 121, 103]
  | _ => [112, 99, 108]
/-- what is read and never written: the two static arrays, the two texts -/
def SU (Y : EY) (U : State) : Prop :=
  (va_Z "AccentShop" "DIGEST_DRAWER_DAYS" "[I" (.ref (Y.2.2.2.1 73)) Y.2.1 U U.heap ∧ va_Z "AccentShop" "DIGEST_SPEECH_DAYS" "[I" (.ref (Y.2.2.2.1 74)) Y.2.1 U U.heap) ∧
  (va_T .int (Y.2.2.2.1 73) 3 (fun j => .int (roF 73 j)) Y.2.1 U U.heap ∧ va_T .int (Y.2.2.2.1 74) 4 (fun j => .int (roF 74 j)) Y.2.1 U U.heap) ∧
  va_Z "java/lang/String" "COMPACT_STRINGS" "Z" (.int 1) Y.2.1 U U.heap ∧
  vk_S 2 [3, 3] [stB 0, stB 1] (fun i => Y.2.2.2.1 (71 + i)) (fun i => Y.2.2.2.1 (75 + i)) Y.2.1 U U.heap
def KU (Y : EY) (U : State) : Prop := va_K Y.2.2.1 vwCl (tysY Y) U ∧ NU U ∧ SU Y U
def HY (Y : EY) : Prop := (∀ i j, i < NC → j < NC → Y.2.2.2.1 i = Y.2.2.2.1 j → i = j) ∧ ∀ k, k < NC → Y.2.1 (Y.2.2.2.1 k)
theorem HY.D {Y : EY} (h : HY Y) (M : Mem) : va_D Y.2.1 (wld Y.2.2.2.2.1 Y.2.2.2.2.2 Y.2.2.2.1 M) := by
  have lt : ∀ {k : Nat} {q : Nat × va_E}, (wld Y.2.2.2.2.1 Y.2.2.2.2.2 Y.2.2.2.1 M)[k]? = some q → k < NC ∧ q.1 = Y.2.2.2.1 k := by
    intro k q hq
    have hl : k < NC := by
      have := (List.getElem?_eq_some_iff.mp hq).1
      rwa [wld_len] at this
    rw [wld_at hl] at hq
    cases hq
    exact ⟨hl, rfl⟩
  refine ⟨fun i j p q hp hq e => ?_, fun k q hq => ?_⟩
  · obtain ⟨a1, a2⟩ := lt hp
    obtain ⟨b1, b2⟩ := lt hq
    exact h.1 i j a1 b1 (by rw [← a2, ← b2]; exact e)
  · obtain ⟨a1, a2⟩ := lt hq
    rw [a2]
    exact h.2 k a1
theorem SU.go {Y : EY} {s U : State} (h : SU Y s) (hvm : s.vm.Alike U.vm) (hk : ∀ a : Nat, a < s.heap.size → ¬ Y.2.1 a → U.heap[a]? = s.heap[a]?) : SU Y U := by
  obtain ⟨⟨a1, a2⟩, ⟨b1, b2⟩, c1, d1⟩ := h
  exact ⟨⟨(a1.moved hvm).kept hk, (a2.moved hvm).kept hk⟩, ⟨(b1.moved hvm).kept hk, (b2.moved hvm).kept hk⟩, (c1.moved hvm).kept hk, (d1.moved hvm).kept hk⟩
theorem NU.warm {s U : State} (h : NU s) (hW : s.WarmedH U.vm) : NU U := fun q hq => va_Nw.warmM hW (h q hq)
theorem NU.same {s U : State} (h : NU s) (e : s.vm = U.vm) : NU U := fun q hq => va_Nw.same rfl e (h q hq)
theorem KU.go {Y : EY} {s U : State} (h : KU Y s) (hW : s.WarmedH U.vm) (hk : ∀ a : Nat, a < s.heap.size → ¬ Y.2.1 a → U.heap[a]? = s.heap[a]?) : KU Y U :=
  ⟨va_K.moved hW.alike h.1, h.2.1.warm hW, h.2.2.go hW.alike hk⟩
theorem KU.call {Y : EY} {U : State} {g : JFrame} {mk : MethodId} {a : Array Value} (h : KU Y U) : KU Y (U.calling g mk a) :=
  ⟨va_K.moved (u := U) (U := U.calling g mk a) (Vm.Alike.refl U.vm) h.1, h.2.1.same rfl, h.2.2.go (Vm.Alike.refl U.vm) (fun _ _ _ => rfl)⟩
def Qx (Y : EY) (o : Option Value) (M' : Mem) : Array Value → State → Outcome → State → Prop := fun _ st oc t => (oc = .returned o ∧ WU Y M' t.heap) ∧ va_F Y.2.1 st t
def Px (Y : EY) (as : List Value) (M : Mem) : Array Value → State → Prop := va_Pc as (fun U => WU Y M U.heap ∧ KU Y U)
theorem Px.blind {Y : EY} {as : List Value} {M : Mem} : FrameBlind (Px Y as M) := fun _ _ _ _ h => ⟨h.1, h.2.1, h.2.2.call⟩
/-- a method's contract: from memory M with these arguments it answers o and leaves memory M' -/
def MX (Y : EY) (y : MethodName) (cc : ByteArray) (mL : Nat) (ret : Option FieldType) (rm : Room) (as : List Value) (M : Mem) (o : Option Value) (M' : Mem) : Prop :=
  Met Y.1 y (.code y cc mL ret :: gT) rm (Px Y as M) (Qx Y o M') 0 0 Y.2.1
/-- what goes with one run of a method: the machine, the frame, what was made so far, what is to hold at its end -/
abbrev CX : Type := (Program × Env × Room × State × MethodId × Array Value × List Frame × Method × Code) × Nat × Nat × (State → Prop)
def WX (Y : EY) (X : CX) (H : Heap) (locs : List Loc) (g : JFrame) : Prop :=
  W X.1.1 Y.1 X.1.2.1 X.1.2.2.1 X.1.2.2.2.1 X.1.2.2.2.2.1 X.1.2.2.2.2.2.1 X.1.2.2.2.2.2.2.1 X.1.2.2.2.2.2.2.2.1 X.1.2.2.2.2.2.2.2.2 H locs X.2.1 X.2.2.1 X.2.2.2 g
def AW (Y : EY) (X : CX) (nL : Nat) (pc : Nat) (ls : List (Nat × Value)) (st : List Value) (M : Mem) : Prop :=
  ∀ (H : Heap) (locs : List Loc) (L : Array Slot), WU Y M H → va_S Y.2.1 X.1.2.2.2.1.heap H locs → lv_has L nL ls → WX Y X H locs (F0 X.1.2.2.2.2.1 pc L st)
def CK (Y : EY) (X : CX) (cc : ByteArray) (own : String) (nL : Nat) (ret : Option FieldType) (rm : Room) : Prop :=
  X.1.1.tables.exec = Jvm.exec ∧ X.1.2.2.2.2.2.2.2.2.code = cc ∧ X.1.2.2.2.2.2.2.2.2.maxLocals = nL ∧ X.1.2.2.2.1.vm.findClass own = some X.1.2.2.2.2.1.cls ∧ (∀ w ∈ gT, w.before X.1.2.2.2.2.2.1 X.1.2.2.2.1 = true) ∧ KU Y X.1.2.2.2.1 ∧ HY Y ∧ X.1.2.2.2.2.2.2.2.1.locks = false ∧ X.1.2.2.2.2.2.2.2.1.sig.returnType = ret ∧ X.1.2.2.1 = rm ∧ X.2.1 ≤ rm.cells ∧ X.2.2.1 ≤ rm.slots
/-- the end that is asked of a method: answer o, memory M -/
def RK (Y : EY) (X : CX) (o : Option Value) (M : Mem) : Prop := X.2.1 = 0 ∧ X.2.2.1 = 0 ∧ X.2.2.2 = MQ X.1.2.2.2.2.2.2.1 (Qx Y o M) X.1.2.2.2.2.2.1 X.1.2.2.2.1 0 0 Y.2.1
/-- a method's contract out of a walk -/
theorem MX.of {Y : EY} {y : MethodName} {cc : ByteArray} {mL : Nat} {ret : Option FieldType} {rm : Room} {as : List Value} {M : Mem} {o : Option Value} {M' : Mem} (hY : HY Y) (hy : plainName y.cls = true) (hl : (lg_sl as).length ≤ mL)
    (h : ∀ X : CX, RK Y X o M' → CK Y X cc y.cls mL ret rm → AW Y X mL 0 (lv_args 0 as) [] M) : MX Y y cc mL ret rm as M o M' := by
  refine Met.ofW (cc := cc) (maxL := mL) (ret := ret) hy rfl ?_
  intro p e s m args below meth c s₁ B hml hv
  obtain ⟨rfl, hP, hK⟩ := hv
  have hts := atoms_spec (ws := .code y cc mL ret :: gT) B.pre
  have hown : s.vm.findClass y.cls = some m.cls := findClass_of_methodNamed B.named
  have hlv := lv_entry as (n := mL) hl
  rw [lg_entry_eq]
  exact h ((p, e, rm, s, m, as.toArray, below, meth, c), 0, 0, MQ below (Qx Y o M') as.toArray s 0 0 Y.2.1) ⟨rfl, rfl, rfl⟩ ⟨B.exec, B.bytes, hml, hown, fun w hw => hts w (List.mem_cons_of_mem _ hw), hK, hY, B.notSynchronized, B.returns, rfl, Nat.zero_le _, Nat.zero_le _⟩ s.heap [] _ hP va_S.rf hlv
section ROWS
variable {Y : EY} {X : CX} {cc : ByteArray} {own : String} {nL pc : Nat} {ret : Option FieldType} {rm : Room} {ls : List (Nat × Value)} {st : List Value} {M : Mem}
theorem a_sub {ls' : List (Nat × Value)} (ks : List Nat) (k : AW Y X nL pc ls' st M) (h : lv_pick ls ks = ls') : AW Y X nL pc ls st M := fun H locs L hP hS hl => k H locs L hP hS (lv_sub hl ks h)
theorem a_iconst (C : CK Y X cc own nL ret rm) {n : Int} {v : Int32} (d : decode cc pc = .ok (.iconst n, 1)) (hv : Int32.ofInt n = v) (k : AW Y X nL (pc + 1) ls (.int v :: st) M) : AW Y X nL pc ls st M := fun H locs L hP hS hl => lv_iconst C.1 C.2.1 d hv (k H locs L hP hS hl)
theorem a_bipush (C : CK Y X cc own nL ret rm) {n : Int} {v : Int32} (d : decode cc pc = .ok (.bipush n, 2)) (hv : (Int8.ofInt n).toInt32 = v) (k : AW Y X nL (pc + 2) ls (.int v :: st) M) : AW Y X nL pc ls st M := fun H locs L hP hS hl => lv_bipush C.1 C.2.1 d hv (k H locs L hP hS hl)
theorem a_sipush (C : CK Y X cc own nL ret rm) {n : Int} {v : Int32} (d : decode cc pc = .ok (.sipush n, 3)) (hv : (Int16.ofInt n).toInt32 = v) (k : AW Y X nL (pc + 3) ls (.int v :: st) M) : AW Y X nL pc ls st M := fun H locs L hP hS hl => lv_sipush C.1 C.2.1 d hv (k H locs L hP hS hl)
theorem a_lconst (C : CK Y X cc own nL ret rm) {n : Fin 2} {v : Int64} (d : decode cc pc = .ok (.lconst n, 1)) (hv : Int64.ofNat (n : Nat) = v) (k : AW Y X nL (pc + 1) ls (.long v :: st) M) : AW Y X nL pc ls st M := fun H locs L hP hS hl => lv_lconst C.1 C.2.1 d hv (k H locs L hP hS hl)
theorem a_ldc (C : CK Y X cc own nL ret rm) {index : Nat} {v : Int32} (d : decode cc pc = .ok (.ldc index, 2)) (hc : Cond.constant own index v ∈ gT) (k : AW Y X nL (pc + 2) ls (.int v :: st) M) : AW Y X nL pc ls st M := fun H locs L hP hS hl => lv_ldc C.1 C.2.1 C.2.2.2.1 (C.2.2.2.2.1 _ hc) d (k H locs L hP hS hl)
theorem a_ldcw (C : CK Y X cc own nL ret rm) {index : Nat} {v : Int32} (d : decode cc pc = .ok (.ldc_w index, 3)) (hc : Cond.constant own index v ∈ gT) (k : AW Y X nL (pc + 3) ls (.int v :: st) M) : AW Y X nL pc ls st M := fun H locs L hP hS hl => lv_ldcw C.1 C.2.1 C.2.2.2.1 (C.2.2.2.2.1 _ hc) d (k H locs L hP hS hl)
theorem a_ldc2 (C : CK Y X cc own nL ret rm) {index : Nat} {v : Int64} (d : decode cc pc = .ok (.ldc2_w index, 3)) (hc : Cond.constantLong own index v ∈ gT) (k : AW Y X nL (pc + 3) ls (.long v :: st) M) : AW Y X nL pc ls st M := fun H locs L hP hS hl => lv_ldc2 C.1 C.2.1 C.2.2.2.1 (C.2.2.2.2.1 _ hc) d (k H locs L hP hS hl)
end ROWS
