-- THE MAKING: the cells one by one, in the order of their numbers; which of their fields are written
/-- what stands in the numbers once all is made -/
def Ms : Mem := fun k j => match k, j with
  | 1, 2 => 5
  | 1, 3 => 57
  | 3, 2 => 1
  | 3, 3 => 55
  | 21, 1 => -1
  | 26, 1 => -1
  | 37, 0 => -1
  | 39, 0 => -1
  | 41, 0 => -1
  | 43, 0 => -1
  | 49, 14 => -1
  | 50, 0 => -1
  | 50, 1 => -1
  | 50, 2 => -1
  | 50, 3 => -1
  | _, _ => 0
abbrev BL : Type := List (Nat × Nat)
def dn : BL → Nat → Nat → Bool
  | [], _, _ => false
  | q :: B, k, j => (q.1 == k && q.2 == j) || dn B k j
theorem dn_s {B : BL} {k j : Nat} : dn ((k, j) :: B) k j = true := by simp [dn]
theorem dn_n {B : BL} {k j a i : Nat} (h : a ≠ k ∨ i ≠ j) : dn ((k, j) :: B) a i = dn B a i := by
  have : (k == a && j == i) = false := by
    rcases h with h | h
    · simp [Ne.symm h]
    · simp [Ne.symm h]
  simp [dn, this]
/-- the fields that are written are those of cells that are there, and lead to such -/
def GB (n : Nat) (B : BL) : Prop := ∀ q ∈ B, q.1 < n ∧ (rf q.1 q.2 < n ∨ NC ≤ rf q.1 q.2)
theorem GB.of {n k j : Nat} : ∀ {B : BL}, GB n B → dn B k j = true → k < n ∧ (rf k j < n ∨ NC ≤ rf k j) := by
  intro B
  induction B with
  | nil => intro _ h; cases h
  | cons q B ih =>
    intro h hd
    unfold dn at hd
    rcases Bool.or_eq_true_iff.mp hd with h1 | h1
    · obtain ⟨h2, h3⟩ := Bool.and_eq_true_iff.mp h1
      have e2 : q.1 = k := by simpa using h2
      have e3 : q.2 = j := by simpa using h3
      have := h q List.mem_cons_self
      rw [e2, e3] at this
      exact this
    · exact ih (fun q hq => h q (List.mem_cons_of_mem _ hq)) h1
theorem GB.out {n j : Nat} {B : BL} (h : GB n B) : dn B n j = false := by
  cases e : dn B n j with
  | false => rfl
  | true => exact absurd (h.of e).1 (by omega)
theorem GB.up {n : Nat} {B : BL} (h : GB n B) : GB (n + 1) B := fun q hq => ⟨by have := (h q hq).1; omega, by have := (h q hq).2; omega⟩
def fvB (ad : Nat → Nat) (B : BL) (k j : Nat) : Value := if dn B k j = true then (if isR (kd k) j = true then Value.ref (ad (rf k j)) else Value.int (Ms k j)) else (if isR (kd k) j = true then Value.null else Value.int 0)
def celB (cI cR : ClassId) (ad : Nat → Nat) (B : BL) (k : Nat) : va_E :=
  if kd k = 7 then .inl (cI, ln k, .inl (fun i => if dn B k i = true then Ms k i else 0))
  else if kd k = 8 then .inl (cR, 4, .inr (.inr (.inr (.inr (fun i => if dn B k i = true then some (ad (rf k i)) else none)))))
  else .inr (kd k, (List.range (nf (kd k))).map (fvB ad B k))
def wldB (cI cR : ClassId) (ad : Nat → Nat) (B : BL) (n : Nat) : va_W := (List.range n).map (fun k => (ad k, celB cI cR ad B k))
section WLDB
variable {cI cR : ClassId} {ad : Nat → Nat} {B B' : BL} {n k : Nat}
theorem wldB_at (h : k < n) : (wldB cI cR ad B n)[k]? = some (ad k, celB cI cR ad B k) := by simp [wldB, h]
theorem wldB_len : (wldB cI cR ad B n).length = n := by simp [wldB]
theorem wldB_set {e : va_E} (he : e = celB cI cR ad B' k) (ho : ∀ j, j ≠ k → celB cI cR ad B' j = celB cI cR ad B j) : (wldB cI cR ad B n).set k (ad k, e) = wldB cI cR ad B' n := by
  apply List.ext_getElem?
  intro j
  subst he
  by_cases hj : j = k
  · subst hj
    by_cases hl : j < n
    · rw [wldB_at hl, List.getElem?_set_self (by rw [wldB_len]; exact hl)]
    · rw [List.getElem?_eq_none (by rw [List.length_set, wldB_len]; omega), List.getElem?_eq_none (by rw [wldB_len]; omega)]
  · rw [List.getElem?_set_ne (fun e => hj e.symm)]
    by_cases hl : j < n
    · rw [wldB_at hl, wldB_at hl, ho j hj]
    · rw [List.getElem?_eq_none (by rw [wldB_len]; omega), List.getElem?_eq_none (by rw [wldB_len]; omega)]
theorem celB_o {i : Nat} : ∀ j, j ≠ k → celB cI cR ad ((k, i) :: B) j = celB cI cR ad B j := by
  intro j hj
  have e : dn ((k, i) :: B) j = dn B j := funext fun x => dn_n (Or.inl hj)
  have e2 : fvB ad ((k, i) :: B) j = fvB ad B j := by
    funext x
    unfold fvB
    rw [e]
  unfold celB
  rw [e, e2]
def upA (ad : Nat → Nat) (n q : Nat) : Nat → Nat := fun k => if k = n then q else ad k
theorem upA_s {q : Nat} : upA ad n q n = q := if_pos rfl
theorem upA_n {q : Nat} (h : k ≠ n) : upA ad n q k = ad k := if_neg h
theorem celB_up {q : Nat} (h : GB n B) (hn : n < NC) : celB cI cR (upA ad n q) B k = celB cI cR ad B k := by
  have e2 : ∀ i, dn B k i = true → upA ad n q (rf k i) = ad (rf k i) := fun i hi => upA_n (by have := (h.of hi).2; omega)
  have e3 : fvB (upA ad n q) B k = fvB ad B k := by
    funext x
    unfold fvB
    by_cases hx : dn B k x = true
    · rw [if_pos hx, if_pos hx, e2 x hx]
    · rw [if_neg hx, if_neg hx]
  have e4 : (fun i => if dn B k i = true then some (upA ad n q (rf k i)) else none) = fun i => if dn B k i = true then some (ad (rf k i)) else none := by
    funext i
    by_cases hx : dn B k i = true
    · rw [if_pos hx, if_pos hx, e2 i hx]
    · rw [if_neg hx, if_neg hx]
  unfold celB
  rw [e3, e4]
theorem wldB_push {q : Nat} (h : GB n B) (hn : n < NC) {e : va_E} (he : e = celB cI cR ad B n) : wldB cI cR ad B n ++ [(q, e)] = wldB cI cR (upA ad n q) B (n + 1) := by
  unfold wldB
  rw [List.range_succ, List.map_append, List.map_singleton, upA_s, celB_up h hn, ← he]
  congr 1
  apply List.map_congr_left
  intro k hk
  rw [List.mem_range] at hk
  rw [upA_n (by omega), celB_up h hn]
theorem celB_arr (h : K k 7) : celB cI cR ad B k = .inl (cI, ln k, .inl (fun i => if dn B k i = true then Ms k i else 0)) := by simp [celB, h.2]
theorem celB_row (h : K k 8) : celB cI cR ad B k = .inl (cR, 4, .inr (.inr (.inr (.inr (fun i => if dn B k i = true then some (ad (rf k i)) else none))))) := by simp [celB, h.2]
theorem celB_obj {t : Nat} (h : K k t) (ht : t < 7) : celB cI cR ad B k = .inr (t, (List.range (nf t)).map (fvB ad B k)) := by
  have h1 : ¬ t = 7 := by omega
  have h2 : ¬ t = 8 := by omega
  simp [celB, h.2, h1, h2]
end WLDB
theorem map_set' {N j : Nat} {f g : Nat → Value} {v : Value} (h1 : g j = v) (h2 : ∀ i, i ≠ j → g i = f i) : ((List.range N).map f).set j v = (List.range N).map g := by
  apply List.ext_getElem?
  intro i
  by_cases hi : i = j
  · subst hi
    by_cases hl : i < N
    · rw [List.getElem?_set_self (by simp; exact hl)]
      simp [hl, h1]
    · rw [List.getElem?_eq_none (by simp; omega), List.getElem?_eq_none (by simp; omega)]
  · rw [List.getElem?_set_ne (fun e => hi e.symm)]
    by_cases hl : i < N
    · simp [hl, h2 i hi]
    · rw [List.getElem?_eq_none (by simp; omega), List.getElem?_eq_none (by simp; omega)]
/-- what goes on with the making: the numbers beyond the cells, and those of the first cells, are fixed -/
def FX (Y : EY) (n0 : Nat) (ad : Nat → Nat) : Prop := ∀ k, (k < n0 ∨ NC ≤ k) → ad k = Y.2.2.2.1 k
abbrev setA (Y : EY) (ad : Nat → Nat) : EY := (Y.1, Y.2.1, Y.2.2.1, ad, Y.2.2.2.2)
def WB (Y : EY) (ad : Nat → Nat) (n : Nat) (B : BL) (H : Heap) : Prop := va_P Y.2.2.1 vwCl (wldB Y.2.2.2.2.1 Y.2.2.2.2.2 ad B n) H ∧ va_D Y.2.1 (wldB Y.2.2.2.2.1 Y.2.2.2.2.2 ad B n)
def ctW : List (Nat × MethodName) := [(27, yX1_init), (49, yX0_init), (60, yX2_init)]
def BU (Y : EY) (U : State) : Prop := (∀ q ∈ ctW, va_Nw (.methodLinkNest "AccentShop" q.1 q.2 "AccentShop") U) ∧ vk_R "AccentShop" 11 "kyg" (Y.2.2.2.1 71) U ∧ vk_R "AccentShop" 20 "pcl" (Y.2.2.2.1 72) U ∧ va_AO "AccentShop$Sheet" U
theorem BU.warm {Y : EY} {s U : State} (h : BU Y s) (hW : s.WarmedH U.vm) : BU Y U := ⟨fun q hq => va_Nw.warmM hW (h.1 q hq), h.2.1.warm hW, h.2.2.1.warm hW, h.2.2.2.moved hW.alike⟩
theorem BU.call {Y : EY} {U : State} {g : JFrame} {mk : MethodId} {a : Array Value} (h : BU Y U) : BU Y (U.calling g mk a) :=
  ⟨fun q hq => va_Nw.same rfl (u := U) rfl (h.1 q hq), vk_R.same (u := U) rfl h.2.1, vk_R.same (u := U) rfl h.2.2.1, va_AO.moved (u := U) (Vm.Alike.refl U.vm) h.2.2.2⟩
theorem BU.ad {Y : EY} {ad : Nat → Nat} {U : State} (h : BU Y U) (e : ∀ k, NC ≤ k → ad k = Y.2.2.2.1 k) : BU (setA Y ad) U := by
  unfold BU
  show _ ∧ vk_R "AccentShop" 11 "kyg" (ad 71) U ∧ vk_R "AccentShop" 20 "pcl" (ad 72) U ∧ _
  rw [e 71 (by decide), e 72 (by decide)]
  exact h
theorem KU.ad {Y : EY} {ad : Nat → Nat} {U : State} (h : KU Y U) (e : ∀ k, NC ≤ k → ad k = Y.2.2.2.1 k) : KU (setA Y ad) U := by
  refine ⟨h.1, h.2.1, ?_⟩
  have h3 := h.2.2
  unfold SU at h3 ⊢
  have e1 : (fun i => (setA Y ad).2.2.2.1 (71 + i)) = fun i => Y.2.2.2.1 (71 + i) := funext fun i => e _ (show 71 ≤ 71 + i by omega)
  have e2 : (fun i => (setA Y ad).2.2.2.1 (75 + i)) = fun i => Y.2.2.2.1 (75 + i) := funext fun i => e _ (show 71 ≤ 75 + i by omega)
  rw [e1, e2]
  show (va_Z "AccentShop" "DIGEST_DRAWER_DAYS" "[I" (.ref (ad 73)) Y.2.1 U U.heap ∧ va_Z "AccentShop" "DIGEST_SPEECH_DAYS" "[I" (.ref (ad 74)) Y.2.1 U U.heap) ∧ (va_T .int (ad 73) 3 (fun j => .int (roF 73 j)) Y.2.1 U U.heap ∧ va_T .int (ad 74) 4 (fun j => .int (roF 74 j)) Y.2.1 U U.heap) ∧ _
  rw [e 73 (by decide), e 74 (by decide)]
  exact h3
def PB (Y : EY) (as : List Value) (n : Nat) (B : BL) : Array Value → State → Prop := va_Pc as (fun U => WB Y Y.2.2.2.1 n B U.heap ∧ KU Y U ∧ BU Y U ∧ ∀ q, U.heap.size ≤ q → Y.2.1 q)
def QB (Y : EY) (n n' : Nat) (B' : BL) : Array Value → State → Outcome → State → Prop := fun _ st oc t => (oc = .returned none ∧ ∃ ad', FX Y n ad' ∧ WB Y ad' n' B' t.heap) ∧ va_F Y.2.1 st t
theorem PB.blind {Y : EY} {as : List Value} {n : Nat} {B : BL} : FrameBlind (PB Y as n B) := fun _ _ _ _ h => ⟨h.1, h.2.1, h.2.2.1.call, h.2.2.2.1.call, h.2.2.2.2⟩
/-- a constructor's contract -/
def MB (Y : EY) (y : MethodName) (cc : ByteArray) (mL : Nat) (rm : Room) (as : List Value) (n : Nat) (B : BL) (n' : Nat) (B' : BL) : Prop :=
  Met Y.1 y (.code y cc mL none :: gT) rm (PB Y as n B) (QB Y n n' B') rm.cells rm.slots Y.2.1
def BW (Y : EY) (X : CX) (n0 : Nat) (nL : Nat) (pc : Nat) (ls : (Nat → Nat) → List (Nat × Value)) (st : (Nat → Nat) → List Value) (n : Nat) (B : BL) (cs ss : Nat) : Prop :=
  ∀ (ad : Nat → Nat) (H : Heap) (locs : List Loc) (L : Array Slot), FX Y n0 ad → WB Y ad n B H → va_S Y.2.1 X.1.2.2.2.1.heap H locs → lv_has L nL (ls ad) →
    W X.1.1 Y.1 X.1.2.1 X.1.2.2.1 X.1.2.2.2.1 X.1.2.2.2.2.1 X.1.2.2.2.2.2.1 X.1.2.2.2.2.2.2.1 X.1.2.2.2.2.2.2.2.1 X.1.2.2.2.2.2.2.2.2 H locs cs ss X.2.2.2 (F0 X.1.2.2.2.2.1 pc L (st ad))
def CB (Y : EY) (X : CX) (cc : ByteArray) (own : String) (nL : Nat) (rm : Room) : Prop :=
  X.1.1.tables.exec = Jvm.exec ∧ X.1.2.2.2.2.2.2.2.2.code = cc ∧ X.1.2.2.2.2.2.2.2.2.maxLocals = nL ∧ X.1.2.2.2.1.vm.findClass own = some X.1.2.2.2.2.1.cls ∧ (∀ w ∈ gT, w.before X.1.2.2.2.2.2.1 X.1.2.2.2.1 = true) ∧ KU Y X.1.2.2.2.1 ∧ BU Y X.1.2.2.2.1 ∧ X.1.2.2.1 = rm ∧ (∀ q, X.1.2.2.2.1.heap.size ≤ q → Y.2.1 q)
/-- the end that is asked of a constructor -/
def EB (Y : EY) (X : CX) (n0 n' : Nat) (B' : BL) (rm : Room) : Prop := X.1.2.2.2.2.2.2.2.1.name = "<init>" ∧ X.1.2.2.2.2.2.2.2.1.locks = false ∧ X.1.2.2.2.2.2.2.2.1.sig.returnType = none ∧ X.2.2.2 = MQ X.1.2.2.2.2.2.2.1 (QB Y n0 n' B') X.1.2.2.2.2.2.1 X.1.2.2.2.1 rm.cells rm.slots Y.2.1
theorem MB.of {Y : EY} {y : MethodName} {cc : ByteArray} {mL : Nat} {rm : Room} {as : List Value} {n n' : Nat} {B B' : BL} (hy : plainName y.cls = true) (hyn : y.name = "<init>") (hl : (lg_sl as).length ≤ mL) {ls : (Nat → Nat) → List (Nat × Value)} (hls : ∀ ad, FX Y n ad → ls ad = lv_args 0 as)
    (h : ∀ X : CX, EB Y X n n' B' rm → CB Y X cc y.cls mL rm → BW Y X n mL 0 ls (fun _ => []) n B 0 0) : MB Y y cc mL rm as n B n' B' := by
  refine Met.ofW (cc := cc) (maxL := mL) (ret := none) hy rfl ?_
  intro p e s m args below meth c s₁ B hml hv
  obtain ⟨rfl, hP, hK, hU, hA⟩ := hv
  have hts := atoms_spec (ws := .code y cc mL none :: gT) B.pre
  have hown : s.vm.findClass y.cls = some m.cls := findClass_of_methodNamed B.named
  have hlv := lv_entry as (n := mL) hl
  have hin : meth.name = "<init>" := (name_of_methodNamed B.named B.method).1.trans hyn
  rw [lg_entry_eq]
  refine h ((p, e, rm, s, m, as.toArray, below, meth, c), 0, 0, MQ below (QB Y n n' B') as.toArray s rm.cells rm.slots Y.2.1) ⟨hin, B.notSynchronized, B.returns, rfl⟩ ⟨B.exec, B.bytes, hml, hown, fun w hw => hts w (List.mem_cons_of_mem _ hw), hK, hU, rfl, hA⟩ Y.2.2.2.1 s.heap [] _ (fun _ _ => rfl) hP va_S.rf ?_
  rw [hls _ (fun _ _ => rfl)]
  exact hlv
