-- THE ROWS in AW
def inb (i : Int32) (n : Nat) : Bool := decide (¬ (i < 0 ∨ n ≤ i.toNatClampNeg))
theorem inb_in {i : Int32} {n : Nat} (h : inb i n = true) : vp_in i n := by
  unfold vp_in
  exact of_decide_eq_true h
def nzI (x : Int32) : Bool := decide (¬ x = 0)
def nzL (x : Int64) : Bool := decide (¬ x = 0)
def remI (x y : Int32) : Int32 := x - x / y * y
def remL (x y : Int64) : Int64 := x - x / y * y
def shlI (x y : Int32) : Int32 := x <<< (y &&& 31)
def sarI (x y : Int32) : Int32 := x >>> (y &&& 31)
def shrI (x y : Int32) : Int32 := (x.toUInt32 >>> (y.toUInt32 &&& Int32.toUInt32 31)).toInt32
def shlL (x : Int64) (y : Int32) : Int64 := x <<< (y.toInt64 &&& 63)
def toB (x : Int32) : Int32 := x.toInt8.toInt32
def toS (x : Int32) : Int32 := x.toInt16.toInt32
def toC (x : Int32) : Int32 := (x.toUInt32 % 65536).toInt32
theorem ip {α : Type} {c : Prop} {i : Decidable c} {a b x : α} (hc : c) (h : @ite α c i a b = x) : a = x := by
  rw [if_pos hc] at h
  exact h
theorem iq {α : Type} {c : Prop} {i : Decidable c} {a b x : α} (hc : ¬ c) (h : @ite α c i a b = x) : b = x := by
  rw [if_neg hc] at h
  exact h
/-- behind a loop: its state, or the method's answer -/
def eo {S R T : Type} (f : S → Option T) (g : R → Option T) : S ⊕ R → Option T
  | .inl s => f s
  | .inr r => g r
def KL {S E : Type} (At : S → Prop) (Ex : E → Prop) : S ⊕ E → Prop
  | .inl s => At s
  | .inr e => Ex e
def isB (x : Int32) : Bool := decide (x = 0 ∨ x = 1)
def ck {α : Type} (b : Bool) (t : Option α) : Option α := if b = true then t else none
theorem ck_some {α : Type} {b : Bool} {t : Option α} {x : α} (h : ck b t = some x) : b = true ∧ t = some x := by
  unfold ck at h
  split at h
  next e => exact ⟨e, h⟩
  next => cases h
theorem bd_some {α β : Type} {t : Option α} {f : α → Option β} {x : β} (h : t.bind f = some x) : ∃ a, t = some a ∧ f a = some x := by
  cases t with
  | none => cases h
  | some a => exact ⟨a, rfl, h⟩
/-- a loop: go on with a state, or end with a value -/
def iter {S E : Type} (B : S → Option (S ⊕ E)) : Nat → S → Option E
  | 0, _ => none
  | n + 1, s => match B s with
    | none => none
    | some (.inl s') => iter B n s'
    | some (.inr e) => some e
theorem iter_up {S E : Type} {B : S → Option (S ⊕ E)} : ∀ (n : Nat) (s : S) (e : E), iter B n s = some e → ∀ m, n ≤ m → iter B m s = some e := by
  intro n
  induction n with
  | zero => intro s e h; cases h
  | succ n ih =>
    intro s e h m hm
    obtain ⟨m, rfl⟩ : ∃ k, m = k + 1 := ⟨m - 1, by omega⟩
    unfold iter at h ⊢
    split at h
    next => cases h
    next s' hs => exact ih s' e h m (by omega)
    next e' hs => exact h
noncomputable def loop {S E : Type} (B : S → Option (S ⊕ E)) (s : S) : Option E :=
  @dite (Option E) (∃ (n : Nat) (e : E), iter B n s = some e) (Classical.propDecidable _) (fun h => some h.choose_spec.choose) (fun _ => none)
theorem loop_of {S E : Type} {B : S → Option (S ⊕ E)} {n : Nat} {s : S} {e : E} (h : iter B n s = some e) : loop B s = some e := by
  have hx : ∃ (n : Nat) (e : E), iter B n s = some e := ⟨n, e, h⟩
  unfold loop
  rw [dif_pos hx]
  have h1 := hx.choose_spec.choose_spec
  have h2 := iter_up _ _ _ h1 (max n hx.choose) (Nat.le_max_right _ _)
  have h3 := iter_up _ _ _ h (max n hx.choose) (Nat.le_max_left _ _)
  rw [h3] at h2
  exact h2.symm
theorem loop_iter {S E : Type} {B : S → Option (S ⊕ E)} {s : S} {e : E} (h : loop B s = some e) : ∃ n, iter B n s = some e := by
  unfold loop at h
  split at h
  next hx => exact ⟨_, by rw [hx.choose_spec.choose_spec]; exact h⟩
  next => cases h
/-- the loop's own equation -/
theorem loop_eq {S E : Type} (B : S → Option (S ⊕ E)) (s : S) : loop B s = match B s with
    | none => none
    | some (.inl s') => loop B s'
    | some (.inr e) => some e := by
  cases hB : B s with
  | none =>
    cases hl : loop B s with
    | none => rfl
    | some e =>
      obtain ⟨n, hn⟩ := loop_iter hl
      cases n with
      | zero => cases hn
      | succ n => unfold iter at hn; rw [hB] at hn; cases hn
  | some r =>
    cases r with
    | inr e => exact loop_of (n := 1) (by unfold iter; rw [hB])
    | inl s' =>
      show loop B s = loop B s'
      cases hl : loop B s' with
      | some e =>
        obtain ⟨n, hn⟩ := loop_iter hl
        exact loop_of (n := n + 1) (by unfold iter; rw [hB]; exact hn)
      | none =>
        cases h2 : loop B s with
        | none => rfl
        | some e =>
          obtain ⟨n, hn⟩ := loop_iter h2
          cases n with
          | zero => cases hn
          | succ n =>
            unfold iter at hn
            rw [hB] at hn
            rw [loop_of hn] at hl
            cases hl
theorem aw_loop {S E : Type} {B : S → Option (S ⊕ E)} (At : S → Prop) (Ex : E → Prop) (hb : ∀ s r, B s = some r → KL At Ex r → At s) {s : S} {e : E} (h : loop B s = some e) (hx : Ex e) : At s := by
  obtain ⟨n, hn⟩ := loop_iter h
  clear h
  induction n generalizing s with
  | zero => cases hn
  | succ n ih =>
    unfold iter at hn
    split at hn
    next => cases hn
    next s' hs => exact hb s _ hs (ih hn)
    next e' hs => cases hn; exact hb s _ hs hx
/-- the private names of a class's fields -/
def CO (r : vw_C) : Prop := (∃ ty0 : Nat → FieldType, ∀ k, k < r.2.2 → parseFieldDescriptor (r.2.1 k).2.2.1 = some (ty0 k)) ∧ ∀ a, a < r.2.2 → ∀ b, b < r.2.2 → a ≠ b → (r.2.1 a).2.1 ≠ (r.2.1 b).2.1
theorem CO_all : ∀ (c : Nat) (r : vw_C), vwCl[c]? = some r → CO r := by
  intro c r h
  match c, h with
  | 0, h => cases h; exact ⟨⟨tyX0, tyX0_ok⟩, nmX0⟩
  | 1, h => cases h; exact ⟨⟨tyX1, tyX1_ok⟩, nmX1⟩
  | 2, h => cases h; exact ⟨⟨tyX2, tyX2_ok⟩, nmX2⟩
  | 3, h => cases h; exact ⟨⟨tyX3, tyX3_ok⟩, nmX3⟩
  | 4, h => cases h; exact ⟨⟨tyX4, tyX4_ok⟩, nmX4⟩
  | 5, h => cases h; exact ⟨⟨tyX5, tyX5_ok⟩, nmX5⟩
  | 6, h => cases h; exact ⟨⟨tyX6, tyX6_ok⟩, nmX6⟩
  | c + 7, h => simp [vwCl] at h
/-- field j of class c, by this entry of this class's pool -/
def FL (own : String) (index c j : Nat) : Prop := ∃ r : vw_C, vwCl[c]? = some r ∧ r.2.2 = nf c ∧ j < nf c ∧ c < 7 ∧ Cond.fieldLink own index (r.2.1 j).1 (r.2.1 j).2.1 (r.2.1 j).2.2.1 ∈ gT ∧ (∀ w ∈ u_ws r.1 r.2.1 r.2.2, w ∈ gT)
/-- ... that may be written, of type ty -/
def FP (c j : Nat) (ty : FieldType) : Prop := ∀ r : vw_C, vwCl[c]? = some r → (r.2.1 j).2.2.2 = false ∧ parseFieldDescriptor (r.2.1 j).2.2.1 = some ty
section ROWS
variable {Y : EY} {X : CX} {cc : ByteArray} {own : String} {nL pc : Nat} {ret : Option FieldType} {rm : Room} {ls : List (Nat × Value)} {st : List Value} {M : Mem}
theorem a_iload_n (C : CK Y X cc own nL ret rm) {q : Fin 4} {x : Int32} (d : decode cc pc = .ok (.iload_n q, 1)) (j : Nat) (hj : ls[j]? = some ((q : Nat), Value.int x)) (k : AW Y X nL (pc + 1) ls (Value.int x :: st) M) : AW Y X nL pc ls (st) M := fun H locs L hP hS hl => lv_iload_n C.1 C.2.1 d rfl (lv_at hl j hj) (k H locs L hP hS hl)
theorem a_iload (C : CK Y X cc own nL ret rm) {q : Nat} {x : Int32} (d : decode cc pc = .ok (.iload q, 2)) (j : Nat) (hj : ls[j]? = some (q, Value.int x)) (k : AW Y X nL (pc + 2) ls (Value.int x :: st) M) : AW Y X nL pc ls (st) M := fun H locs L hP hS hl => lv_iload C.1 C.2.1 d (lv_at hl j hj) (k H locs L hP hS hl)
theorem a_istore_n (C : CK Y X cc own nL ret rm) {q : Fin 4} {i : Nat} {x : Int32} {lv' : List (Nat × Value)} (d : decode cc pc = .ok (.istore_n q, 1)) (hi : (q : Nat) = i) (hn : i < nL) (hv : (i, Value.int x) :: ls.filter (fun q => !(q.1 == i) && !(q.1 + 1 == i && q.2.category == 2)) = lv') (k : AW Y X nL (pc + 1) lv' st M) : AW Y X nL pc ls (Value.int x :: st) M := fun H locs L hP hS hl => lv_istore_n C.1 C.2.1 d hi hl hn hv (fun L' hl' => k H locs L' hP hS hl')
theorem a_istore (C : CK Y X cc own nL ret rm) {i : Nat} {x : Int32} {lv' : List (Nat × Value)} (d : decode cc pc = .ok (.istore i, 2)) (hn : i < nL) (hv : (i, Value.int x) :: ls.filter (fun q => !(q.1 == i) && !(q.1 + 1 == i && q.2.category == 2)) = lv') (k : AW Y X nL (pc + 2) lv' st M) : AW Y X nL pc ls (Value.int x :: st) M := fun H locs L hP hS hl => lv_istore C.1 C.2.1 d hl hn hv (fun L' hl' => k H locs L' hP hS hl')
theorem a_lload_n (C : CK Y X cc own nL ret rm) {q : Fin 4} {x : Int64} (d : decode cc pc = .ok (.lload_n q, 1)) (j : Nat) (hj : ls[j]? = some ((q : Nat), Value.long x)) (k : AW Y X nL (pc + 1) ls (Value.long x :: st) M) : AW Y X nL pc ls (st) M := fun H locs L hP hS hl => lv_lload_n C.1 C.2.1 d rfl (lv_at hl j hj) (k H locs L hP hS hl)
theorem a_lload (C : CK Y X cc own nL ret rm) {q : Nat} {x : Int64} (d : decode cc pc = .ok (.lload q, 2)) (j : Nat) (hj : ls[j]? = some (q, Value.long x)) (k : AW Y X nL (pc + 2) ls (Value.long x :: st) M) : AW Y X nL pc ls (st) M := fun H locs L hP hS hl => lv_lload C.1 C.2.1 d (lv_at hl j hj) (k H locs L hP hS hl)
theorem a_lstore_n (C : CK Y X cc own nL ret rm) {q : Fin 4} {i : Nat} {x : Int64} {lv' : List (Nat × Value)} (d : decode cc pc = .ok (.lstore_n q, 1)) (hi : (q : Nat) = i) (hn : i + 1 < nL) (hv : (i, Value.long x) :: ls.filter (fun q => !(q.1 == i) && (!(q.1 == i + 1) && !(q.1 + 1 == i && q.2.category == 2))) = lv') (k : AW Y X nL (pc + 1) lv' st M) : AW Y X nL pc ls (Value.long x :: st) M := fun H locs L hP hS hl => lv_lstore_n C.1 C.2.1 d hi hl hn hv (fun L' hl' => k H locs L' hP hS hl')
theorem a_lstore (C : CK Y X cc own nL ret rm) {i : Nat} {x : Int64} {lv' : List (Nat × Value)} (d : decode cc pc = .ok (.lstore i, 2)) (hn : i + 1 < nL) (hv : (i, Value.long x) :: ls.filter (fun q => !(q.1 == i) && (!(q.1 == i + 1) && !(q.1 + 1 == i && q.2.category == 2))) = lv') (k : AW Y X nL (pc + 2) lv' st M) : AW Y X nL pc ls (Value.long x :: st) M := fun H locs L hP hS hl => lv_lstore C.1 C.2.1 d hl hn hv (fun L' hl' => k H locs L' hP hS hl')
theorem a_aload_n (C : CK Y X cc own nL ret rm) {q : Fin 4} {x : Nat} (d : decode cc pc = .ok (.aload_n q, 1)) (j : Nat) (hj : ls[j]? = some ((q : Nat), Value.ref x)) (k : AW Y X nL (pc + 1) ls (Value.ref x :: st) M) : AW Y X nL pc ls (st) M := fun H locs L hP hS hl => lv_aload_n C.1 C.2.1 d rfl (lv_at hl j hj) (k H locs L hP hS hl)
theorem a_aload (C : CK Y X cc own nL ret rm) {q : Nat} {x : Nat} (d : decode cc pc = .ok (.aload q, 2)) (j : Nat) (hj : ls[j]? = some (q, Value.ref x)) (k : AW Y X nL (pc + 2) ls (Value.ref x :: st) M) : AW Y X nL pc ls (st) M := fun H locs L hP hS hl => lv_aload C.1 C.2.1 d (lv_at hl j hj) (k H locs L hP hS hl)
theorem a_astore_n (C : CK Y X cc own nL ret rm) {q : Fin 4} {i : Nat} {x : Nat} {lv' : List (Nat × Value)} (d : decode cc pc = .ok (.astore_n q, 1)) (hi : (q : Nat) = i) (hn : i < nL) (hv : (i, Value.ref x) :: ls.filter (fun q => !(q.1 == i) && !(q.1 + 1 == i && q.2.category == 2)) = lv') (k : AW Y X nL (pc + 1) lv' st M) : AW Y X nL pc ls (Value.ref x :: st) M := fun H locs L hP hS hl => lv_astore_n C.1 C.2.1 d hi hl hn hv (fun L' hl' => k H locs L' hP hS hl')
theorem a_astore (C : CK Y X cc own nL ret rm) {i : Nat} {x : Nat} {lv' : List (Nat × Value)} (d : decode cc pc = .ok (.astore i, 2)) (hn : i < nL) (hv : (i, Value.ref x) :: ls.filter (fun q => !(q.1 == i) && !(q.1 + 1 == i && q.2.category == 2)) = lv') (k : AW Y X nL (pc + 2) lv' st M) : AW Y X nL pc ls (Value.ref x :: st) M := fun H locs L hP hS hl => lv_astore C.1 C.2.1 d hl hn hv (fun L' hl' => k H locs L' hP hS hl')
theorem a_iinc (C : CK Y X cc own nL ret rm) {i : Nat} {n : Int} {x v : Int32} {lv' : List (Nat × Value)} (d : decode cc pc = .ok (.iinc i n, 3)) (j : Nat) (hj : ls[j]? = some (i, Value.int x)) (hx : Int32.ofInt n = v) (hn : i < nL) (hv : (i, Value.int (x + v)) :: ls.filter (fun q => !(q.1 == i) && !(q.1 + 1 == i && q.2.category == 2)) = lv') (k : AW Y X nL (pc + 3) lv' st M) : AW Y X nL pc ls st M := fun H locs L hP hS hl => lv_iinc C.1 C.2.1 d hl hj (by rw [hx]) hn hv (fun L' hl' => k H locs L' hP hS hl')
theorem a_iadd (C : CK Y X cc own nL ret rm) {x y : Int32} (d : decode cc pc = .ok (.iadd, 1))  (k : AW Y X nL (pc + 1) ls (.int (x + y) :: st) M) : AW Y X nL pc ls (.int y :: .int x :: st) M := fun H locs L hP hS hl => lv_iadd C.1 C.2.1 d (k H locs L hP hS hl)
theorem a_isub (C : CK Y X cc own nL ret rm) {x y : Int32} (d : decode cc pc = .ok (.isub, 1))  (k : AW Y X nL (pc + 1) ls (.int (x - y) :: st) M) : AW Y X nL pc ls (.int y :: .int x :: st) M := fun H locs L hP hS hl => lv_isub C.1 C.2.1 d (k H locs L hP hS hl)
theorem a_imul (C : CK Y X cc own nL ret rm) {x y : Int32} (d : decode cc pc = .ok (.imul, 1))  (k : AW Y X nL (pc + 1) ls (.int (x * y) :: st) M) : AW Y X nL pc ls (.int y :: .int x :: st) M := fun H locs L hP hS hl => lv_imul C.1 C.2.1 d (k H locs L hP hS hl)
theorem a_iand (C : CK Y X cc own nL ret rm) {x y : Int32} (d : decode cc pc = .ok (.iand, 1))  (k : AW Y X nL (pc + 1) ls (.int (x &&& y) :: st) M) : AW Y X nL pc ls (.int y :: .int x :: st) M := fun H locs L hP hS hl => lv_iand C.1 C.2.1 d (k H locs L hP hS hl)
theorem a_ior (C : CK Y X cc own nL ret rm) {x y : Int32} (d : decode cc pc = .ok (.ior, 1))  (k : AW Y X nL (pc + 1) ls (.int (x ||| y) :: st) M) : AW Y X nL pc ls (.int y :: .int x :: st) M := fun H locs L hP hS hl => lv_ior C.1 C.2.1 d (k H locs L hP hS hl)
theorem a_ishl (C : CK Y X cc own nL ret rm) {x y : Int32} (d : decode cc pc = .ok (.ishl, 1))  (k : AW Y X nL (pc + 1) ls (.int (shlI x y) :: st) M) : AW Y X nL pc ls (.int y :: .int x :: st) M := fun H locs L hP hS hl => lv_ishl C.1 C.2.1 d (k H locs L hP hS hl)
theorem a_ishr (C : CK Y X cc own nL ret rm) {x y : Int32} (d : decode cc pc = .ok (.ishr, 1))  (k : AW Y X nL (pc + 1) ls (.int (sarI x y) :: st) M) : AW Y X nL pc ls (.int y :: .int x :: st) M := fun H locs L hP hS hl => lv_ishr C.1 C.2.1 d (k H locs L hP hS hl)
theorem a_idiv (C : CK Y X cc own nL ret rm) {x y : Int32} (d : decode cc pc = .ok (.idiv, 1)) (h0 : ¬ y = 0) (k : AW Y X nL (pc + 1) ls (.int (x / y) :: st) M) : AW Y X nL pc ls (.int y :: .int x :: st) M := fun H locs L hP hS hl => lv_idiv C.1 C.2.1 d h0 (k H locs L hP hS hl)
theorem a_irem (C : CK Y X cc own nL ret rm) {x y : Int32} (d : decode cc pc = .ok (.irem, 1)) (h0 : ¬ y = 0) (k : AW Y X nL (pc + 1) ls (.int (remI x y) :: st) M) : AW Y X nL pc ls (.int y :: .int x :: st) M := fun H locs L hP hS hl => lv_irem C.1 C.2.1 d h0 (k H locs L hP hS hl)
theorem a_ladd (C : CK Y X cc own nL ret rm) {x y : Int64} (d : decode cc pc = .ok (.ladd, 1))  (k : AW Y X nL (pc + 1) ls (.long (x + y) :: st) M) : AW Y X nL pc ls (.long y :: .long x :: st) M := fun H locs L hP hS hl => lv_ladd C.1 C.2.1 d (k H locs L hP hS hl)
theorem a_lsub (C : CK Y X cc own nL ret rm) {x y : Int64} (d : decode cc pc = .ok (.lsub, 1))  (k : AW Y X nL (pc + 1) ls (.long (x - y) :: st) M) : AW Y X nL pc ls (.long y :: .long x :: st) M := fun H locs L hP hS hl => lv_lsub C.1 C.2.1 d (k H locs L hP hS hl)
theorem a_lmul (C : CK Y X cc own nL ret rm) {x y : Int64} (d : decode cc pc = .ok (.lmul, 1))  (k : AW Y X nL (pc + 1) ls (.long (x * y) :: st) M) : AW Y X nL pc ls (.long y :: .long x :: st) M := fun H locs L hP hS hl => lv_lmul C.1 C.2.1 d (k H locs L hP hS hl)
theorem a_ldiv (C : CK Y X cc own nL ret rm) {x y : Int64} (d : decode cc pc = .ok (.ldiv, 1)) (h0 : ¬ y = 0) (k : AW Y X nL (pc + 1) ls (.long (x / y) :: st) M) : AW Y X nL pc ls (.long y :: .long x :: st) M := fun H locs L hP hS hl => lv_ldiv C.1 C.2.1 d h0 (k H locs L hP hS hl)
theorem a_lrem (C : CK Y X cc own nL ret rm) {x y : Int64} (d : decode cc pc = .ok (.lrem, 1)) (h0 : ¬ y = 0) (k : AW Y X nL (pc + 1) ls (.long (remL x y) :: st) M) : AW Y X nL pc ls (.long y :: .long x :: st) M := fun H locs L hP hS hl => lv_lrem C.1 C.2.1 d h0 (k H locs L hP hS hl)
theorem a_ineg (C : CK Y X cc own nL ret rm) {x : Int32} (d : decode cc pc = .ok (.ineg, 1))  (k : AW Y X nL (pc + 1) ls (.int (-x) :: st) M) : AW Y X nL pc ls (.int x :: st) M := fun H locs L hP hS hl => lv_ineg C.1 C.2.1 d (k H locs L hP hS hl)
theorem a_iushr (C : CK Y X cc own nL ret rm) {x y : Int32} (d : decode cc pc = .ok (.iushr, 1))  (k : AW Y X nL (pc + 1) ls (.int (shrI x y) :: st) M) : AW Y X nL pc ls (.int y :: .int x :: st) M := fun H locs L hP hS hl => lv_iushr C.1 C.2.1 d rfl (k H locs L hP hS hl)
theorem a_lshl (C : CK Y X cc own nL ret rm) {x : Int64} {y : Int32} (d : decode cc pc = .ok (.lshl, 1))  (k : AW Y X nL (pc + 1) ls (.long (shlL x y) :: st) M) : AW Y X nL pc ls (.int y :: .long x :: st) M := fun H locs L hP hS hl => lv_lshl C.1 C.2.1 d rfl (k H locs L hP hS hl)
theorem a_lcmp (C : CK Y X cc own nL ret rm) {x y : Int64} (d : decode cc pc = .ok (.lcmp, 1))  (k : AW Y X nL (pc + 1) ls (.int (lg_cmp x y) :: st) M) : AW Y X nL pc ls (.long y :: .long x :: st) M := fun H locs L hP hS hl => W.lcmp C.1 C.2.1 d (k H locs L hP hS hl)
theorem a_i2l (C : CK Y X cc own nL ret rm) {x : Int32} (d : decode cc pc = .ok (.i2l, 1))  (k : AW Y X nL (pc + 1) ls (.long (x.toInt64) :: st) M) : AW Y X nL pc ls (.int x :: st) M := fun H locs L hP hS hl => lv_i2l C.1 C.2.1 d rfl (k H locs L hP hS hl)
theorem a_i2b (C : CK Y X cc own nL ret rm) {x : Int32} (d : decode cc pc = .ok (.i2b, 1))  (k : AW Y X nL (pc + 1) ls (.int (toB x) :: st) M) : AW Y X nL pc ls (.int x :: st) M := fun H locs L hP hS hl => lv_i2b C.1 C.2.1 d rfl (k H locs L hP hS hl)
theorem a_i2s (C : CK Y X cc own nL ret rm) {x : Int32} (d : decode cc pc = .ok (.i2s, 1))  (k : AW Y X nL (pc + 1) ls (.int (toS x) :: st) M) : AW Y X nL pc ls (.int x :: st) M := fun H locs L hP hS hl => lv_i2s C.1 C.2.1 d rfl (k H locs L hP hS hl)
theorem a_i2c (C : CK Y X cc own nL ret rm) {x : Int32} (d : decode cc pc = .ok (.i2c, 1))  (k : AW Y X nL (pc + 1) ls (.int (toC x) :: st) M) : AW Y X nL pc ls (.int x :: st) M := fun H locs L hP hS hl => lv_i2c C.1 C.2.1 d rfl (k H locs L hP hS hl)
theorem a_dup (C : CK Y X cc own nL ret rm) {v : Value} (d : decode cc pc = .ok (.dup, 1)) (h : v.category = 1) (k : AW Y X nL (pc + 1) ls (v :: v :: st) M) : AW Y X nL pc ls (v :: st) M := fun H locs L hP hS hl => lv_dup C.1 C.2.1 d h (k H locs L hP hS hl)
theorem a_pop (C : CK Y X cc own nL ret rm) {v : Value} (d : decode cc pc = .ok (.pop, 1)) (h : v.category = 1) (k : AW Y X nL (pc + 1) ls (st) M) : AW Y X nL pc ls (v :: st) M := fun H locs L hP hS hl => lv_pop C.1 C.2.1 d h (k H locs L hP hS hl)
theorem a_dup2 (C : CK Y X cc own nL ret rm) {v w : Value} (d : decode cc pc = .ok (.dup2, 1)) (h : v.category = 1) (h2 : w.category = 1) (k : AW Y X nL (pc + 1) ls (v :: w :: v :: w :: st) M) : AW Y X nL pc ls (v :: w :: st) M := fun H locs L hP hS hl => lv_dup2_11 C.1 C.2.1 d h h2 (k H locs L hP hS hl)
theorem a_goto (C : CK Y X cc own nL ret rm) {off : Int} {tgt : Nat} (d : decode cc pc = .ok (.goto off, 3)) (ht : (pc : Int) + off = (tgt : Int)) (k : AW Y X nL tgt ls st M) : AW Y X nL pc ls st M := fun H locs L hP hS hl => lv_goto C.1 C.2.1 d ht (k H locs L hP hS hl)
theorem a_if_eq (C : CK Y X cc own nL ret rm) {x : Int32} {off : Int} {tgt : Nat} (d : decode cc pc = .ok (.ifCond .eq off, 3)) (ht : (pc : Int) + off = (tgt : Int)) (kt : x = 0 → AW Y X nL tgt ls st M) (kf : ¬ x = 0 → AW Y X nL (pc + 3) ls st M) : AW Y X nL pc ls (.int x :: st) M := fun H locs L hP hS hl => lv_if_eq C.1 C.2.1 d ht (fun h => kt h H locs L hP hS hl) (fun h => kf h H locs L hP hS hl)
theorem a_if_ne (C : CK Y X cc own nL ret rm) {x : Int32} {off : Int} {tgt : Nat} (d : decode cc pc = .ok (.ifCond .ne off, 3)) (ht : (pc : Int) + off = (tgt : Int)) (kt : ¬ x = 0 → AW Y X nL tgt ls st M) (kf : x = 0 → AW Y X nL (pc + 3) ls st M) : AW Y X nL pc ls (.int x :: st) M := fun H locs L hP hS hl => lv_if_ne C.1 C.2.1 d ht (fun h => kt h H locs L hP hS hl) (fun h => kf h H locs L hP hS hl)
theorem a_if_lt (C : CK Y X cc own nL ret rm) {x : Int32} {off : Int} {tgt : Nat} (d : decode cc pc = .ok (.ifCond .lt off, 3)) (ht : (pc : Int) + off = (tgt : Int)) (kt : x < 0 → AW Y X nL tgt ls st M) (kf : ¬ x < 0 → AW Y X nL (pc + 3) ls st M) : AW Y X nL pc ls (.int x :: st) M := fun H locs L hP hS hl => lv_if_lt C.1 C.2.1 d ht (fun h => kt h H locs L hP hS hl) (fun h => kf h H locs L hP hS hl)
theorem a_if_ge (C : CK Y X cc own nL ret rm) {x : Int32} {off : Int} {tgt : Nat} (d : decode cc pc = .ok (.ifCond .ge off, 3)) (ht : (pc : Int) + off = (tgt : Int)) (kt : 0 ≤ x → AW Y X nL tgt ls st M) (kf : ¬ 0 ≤ x → AW Y X nL (pc + 3) ls st M) : AW Y X nL pc ls (.int x :: st) M := fun H locs L hP hS hl => lv_if_ge C.1 C.2.1 d ht (fun h => kt h H locs L hP hS hl) (fun h => kf h H locs L hP hS hl)
theorem a_if_gt (C : CK Y X cc own nL ret rm) {x : Int32} {off : Int} {tgt : Nat} (d : decode cc pc = .ok (.ifCond .gt off, 3)) (ht : (pc : Int) + off = (tgt : Int)) (kt : 0 < x → AW Y X nL tgt ls st M) (kf : ¬ 0 < x → AW Y X nL (pc + 3) ls st M) : AW Y X nL pc ls (.int x :: st) M := fun H locs L hP hS hl => lv_if_gt C.1 C.2.1 d ht (fun h => kt h H locs L hP hS hl) (fun h => kf h H locs L hP hS hl)
theorem a_if_le (C : CK Y X cc own nL ret rm) {x : Int32} {off : Int} {tgt : Nat} (d : decode cc pc = .ok (.ifCond .le off, 3)) (ht : (pc : Int) + off = (tgt : Int)) (kt : x ≤ 0 → AW Y X nL tgt ls st M) (kf : ¬ x ≤ 0 → AW Y X nL (pc + 3) ls st M) : AW Y X nL pc ls (.int x :: st) M := fun H locs L hP hS hl => lv_if_le C.1 C.2.1 d ht (fun h => kt h H locs L hP hS hl) (fun h => kf h H locs L hP hS hl)
theorem a_icmp_eq (C : CK Y X cc own nL ret rm) {x y : Int32} {off : Int} {tgt : Nat} (d : decode cc pc = .ok (.if_icmp .eq off, 3)) (ht : (pc : Int) + off = (tgt : Int)) (kt : x = y → AW Y X nL tgt ls st M) (kf : ¬ x = y → AW Y X nL (pc + 3) ls st M) : AW Y X nL pc ls (.int y :: .int x :: st) M := fun H locs L hP hS hl => lv_icmp_eq C.1 C.2.1 d ht (fun h => kt h H locs L hP hS hl) (fun h => kf h H locs L hP hS hl)
theorem a_icmp_ne (C : CK Y X cc own nL ret rm) {x y : Int32} {off : Int} {tgt : Nat} (d : decode cc pc = .ok (.if_icmp .ne off, 3)) (ht : (pc : Int) + off = (tgt : Int)) (kt : ¬ x = y → AW Y X nL tgt ls st M) (kf : x = y → AW Y X nL (pc + 3) ls st M) : AW Y X nL pc ls (.int y :: .int x :: st) M := fun H locs L hP hS hl => lv_icmp_ne C.1 C.2.1 d ht (fun h => kt h H locs L hP hS hl) (fun h => kf h H locs L hP hS hl)
theorem a_icmp_lt (C : CK Y X cc own nL ret rm) {x y : Int32} {off : Int} {tgt : Nat} (d : decode cc pc = .ok (.if_icmp .lt off, 3)) (ht : (pc : Int) + off = (tgt : Int)) (kt : x < y → AW Y X nL tgt ls st M) (kf : ¬ x < y → AW Y X nL (pc + 3) ls st M) : AW Y X nL pc ls (.int y :: .int x :: st) M := fun H locs L hP hS hl => lv_icmp_lt C.1 C.2.1 d ht (fun h => kt h H locs L hP hS hl) (fun h => kf h H locs L hP hS hl)
theorem a_icmp_ge (C : CK Y X cc own nL ret rm) {x y : Int32} {off : Int} {tgt : Nat} (d : decode cc pc = .ok (.if_icmp .ge off, 3)) (ht : (pc : Int) + off = (tgt : Int)) (kt : y ≤ x → AW Y X nL tgt ls st M) (kf : ¬ y ≤ x → AW Y X nL (pc + 3) ls st M) : AW Y X nL pc ls (.int y :: .int x :: st) M := fun H locs L hP hS hl => lv_icmp_ge C.1 C.2.1 d ht (fun h => kt h H locs L hP hS hl) (fun h => kf h H locs L hP hS hl)
theorem a_icmp_gt (C : CK Y X cc own nL ret rm) {x y : Int32} {off : Int} {tgt : Nat} (d : decode cc pc = .ok (.if_icmp .gt off, 3)) (ht : (pc : Int) + off = (tgt : Int)) (kt : y < x → AW Y X nL tgt ls st M) (kf : ¬ y < x → AW Y X nL (pc + 3) ls st M) : AW Y X nL pc ls (.int y :: .int x :: st) M := fun H locs L hP hS hl => lv_icmp_gt C.1 C.2.1 d ht (fun h => kt h H locs L hP hS hl) (fun h => kf h H locs L hP hS hl)
theorem a_icmp_le (C : CK Y X cc own nL ret rm) {x y : Int32} {off : Int} {tgt : Nat} (d : decode cc pc = .ok (.if_icmp .le off, 3)) (ht : (pc : Int) + off = (tgt : Int)) (kt : x ≤ y → AW Y X nL tgt ls st M) (kf : ¬ x ≤ y → AW Y X nL (pc + 3) ls st M) : AW Y X nL pc ls (.int y :: .int x :: st) M := fun H locs L hP hS hl => lv_icmp_le C.1 C.2.1 d ht (fun h => kt h H locs L hP hS hl) (fun h => kf h H locs L hP hS hl)
theorem a_tabO (C : CK Y X cc own nL ret rm) {dflt lo hi : Int} {offs : Array Int} {len : Nat} {x : Int32} {tgt : Nat} (d : decode cc pc = .ok (.tableswitch dflt lo hi offs, len)) (h : x.toInt < lo ∨ hi < x.toInt) (ht : (pc : Int) + dflt = (tgt : Int)) (k : AW Y X nL tgt ls st M) : AW Y X nL pc ls (.int x :: st) M := fun H locs L hP hS hl => lv_tableOut C.1 C.2.1 d h ht (k H locs L hP hS hl)
theorem a_tabI (C : CK Y X cc own nL ret rm) {dflt lo hi : Int} {offs : Array Int} {len : Nat} {x : Int32} {off : Int} {tgt : Nat} (d : decode cc pc = .ok (.tableswitch dflt lo hi offs, len)) (h1 : ¬ x.toInt < lo) (h2 : ¬ hi < x.toInt) (ho : offs[(x.toInt - lo).toNat]? = some off) (ht : (pc : Int) + off = (tgt : Int)) (k : AW Y X nL tgt ls st M) : AW Y X nL pc ls (.int x :: st) M := fun H locs L hP hS hl => lv_tableIn C.1 C.2.1 d h1 h2 ho ht (k H locs L hP hS hl)
/-- fields -/
theorem a_getv (C : CK Y X cc own nL ret rm) {index c j k0 : Nat} (d : decode cc pc = .ok (.getfield index, 3)) (hF : FL own index c j) (hK : K k0 c) {v : Value} (hv : (if isR c j = true then Value.ref (Y.2.2.2.1 (rf k0 j)) else Value.int (M k0 j)) = v) (k : AW Y X nL (pc + 3) ls (v :: st) M) : AW Y X nL pc ls (.ref (Y.2.2.2.1 k0) :: st) M := by
  intro H locs L hP hS hl
  obtain ⟨⟨rC, rT, rN⟩, h1, h2, h3, h4, h5, h6⟩ := hF
  have hN : rN = nf c := h2
  subst hN
  refine va_get (q0 := k0) (k := j) C.1 C.2.1 C.2.2.2.2.1 h6 C.2.2.2.1 C.2.2.2.2.2.1.1 hP (by rw [wld_at hK.1, cel_obj hK h4]) h1 h3 (C.2.2.2.2.1 _ h5) (fun _ h => h) (v := v) (by simp [h3, hv]) d (k H locs L hP hS hl)
theorem a_geti (C : CK Y X cc own nL ret rm) {index c j k0 : Nat} (d : decode cc pc = .ok (.getfield index, 3)) (hF : FL own index c j) (hr : isR c j = false) (hK : K k0 c) (k : AW Y X nL (pc + 3) ls (.int (M k0 j) :: st) M) : AW Y X nL pc ls (.ref (Y.2.2.2.1 k0) :: st) M := a_getv C d hF hK (by rw [hr]; rfl) k
theorem a_getr (C : CK Y X cc own nL ret rm) {index c j k0 : Nat} {k1 : Nat} (d : decode cc pc = .ok (.getfield index, 3)) (hF : FL own index c j) (hr : isR c j = true) (hK : K k0 c) (h1 : rf k0 j = k1) (k : AW Y X nL (pc + 3) ls (.ref (Y.2.2.2.1 k1) :: st) M) : AW Y X nL pc ls (.ref (Y.2.2.2.1 k0) :: st) M := a_getv C d hF hK (by rw [hr, h1]; rfl) k
theorem a_put (C : CK Y X cc own nL ret rm) {index c j k0 : Nat} {ty : FieldType} {v : Int32} (d : decode cc pc = .ok (.putfield index, 3)) (hF : FL own index c j) (hp : FP c j ty) (hr : isR c j = false) (hK : K k0 c) (hn : narrow ty (.int v) = .int v) (hf : fits ty (.int v) = true) (k : AW Y X nL (pc + 3) ls st (upM M k0 j v)) : AW Y X nL pc ls (.int v :: .ref (Y.2.2.2.1 k0) :: st) M := by
  intro H locs L hP hS hl
  obtain ⟨⟨rC, rT, rN⟩, h1, h2, h3, h4, h5, h6⟩ := hF
  have hN : rN = nf c := h2
  subst hN
  obtain ⟨⟨ty0, hty⟩, hnm⟩ := CO_all _ _ h1
  obtain ⟨p1, p2⟩ := hp _ h1
  refine va_put (q0 := k0) (k := j) C.1 C.2.1 C.2.2.2.2.1 h6 ty0 hty hnm C.2.2.2.1 C.2.2.2.2.2.1.1 hP (C.2.2.2.2.2.2.1.D M) hS (by rw [wld_at hK.1, cel_obj hK h4]) h1 h3 (C.2.2.2.2.1 _ h5) (fun _ h => h) p1 p2 hn hf (by simp; exact h3) d (fun H1 locs1 hP1 _ hS1 => ?_)
  refine k H1 locs1 L ?_ hS1 hl
  rw [wld_set (M' := upM M k0 j v) ?_ upM_o] at hP1
  · exact hP1
  · rw [cel_obj hK h4]
    congr 2
    apply List.ext_getElem?
    intro i
    by_cases hi : i = j
    · subst hi
      rw [List.getElem?_set_self (by simp; exact h3)]
      simp [h3, hr, upM, upd]
    · rw [List.getElem?_set_ne (fun e => hi e.symm)]
      by_cases hl : i < nf c
      · simp [hl, upM, upd, hi]
      · rw [List.getElem?_eq_none (by simp; omega), List.getElem?_eq_none (by simp; omega)]
/-- arrays -/
theorem a_iald (C : CK Y X cc own nL ret rm) {k0 n : Nat} {i : Int32} (d : decode cc pc = .ok (.iaload, 1)) (hK : K k0 7) (hn : ln k0 = n) (hi : inb i n = true) (k : AW Y X nL (pc + 1) ls (.int (M k0 i.toNatClampNeg) :: st) M) : AW Y X nL pc ls (.int i :: .ref (Y.2.2.2.1 k0) :: st) M := by
  intro H locs L hP hS hl
  subst hn
  exact va_iald C.1 C.2.1 C.2.2.2.2.2.1.1 hP k0 0 (by rw [wld_at hK.1, cel_arr hK]) rfl (inb_in hi) d (k H locs L hP hS hl)
theorem a_iast (C : CK Y X cc own nL ret rm) {k0 n : Nat} {i x : Int32} (d : decode cc pc = .ok (.iastore, 1)) (hK : K k0 7) (hn : ln k0 = n) (hi : inb i n = true) (k : AW Y X nL (pc + 1) ls st (upM M k0 i.toNatClampNeg x)) : AW Y X nL pc ls (.int x :: .int i :: .ref (Y.2.2.2.1 k0) :: st) M := by
  intro H locs L hP hS hl
  subst hn
  refine va_iast C.1 C.2.1 C.2.2.2.2.2.1.1 hP (C.2.2.2.2.2.2.1.D M) hS k0 0 (by rw [wld_at hK.1, cel_arr hK]) rfl (inb_in hi) d (fun H1 locs1 hP1 _ hS1 => ?_)
  refine k H1 locs1 L ?_ hS1 hl
  rw [wld_set (M' := upM M k0 i.toNatClampNeg x) ?_ upM_o] at hP1
  · exact hP1
  · rw [cel_arr hK]
    simp [upM]
theorem a_alen (C : CK Y X cc own nL ret rm) {k0 : Nat} {v : Int32} (d : decode cc pc = .ok (.arraylength, 1)) (hK : K k0 7) (hv : Int32.ofNat (ln k0) = v) (k : AW Y X nL (pc + 1) ls (.int v :: st) M) : AW Y X nL pc ls (.ref (Y.2.2.2.1 k0) :: st) M := by
  intro H locs L hP hS hl
  exact va_alen C.1 C.2.1 C.2.2.2.2.2.1.1 hP k0 0 (by rw [wld_at hK.1, cel_arr hK]) rfl hv d (k H locs L hP hS hl)
theorem a_aald (C : CK Y X cc own nL ret rm) {k0 : Nat} {i : Int32} (d : decode cc pc = .ok (.aaload, 1)) (hK : K k0 8) (hi : inb i 4 = true) (k : AW Y X nL (pc + 1) ls (.ref (Y.2.2.2.1 (rf k0 i.toNatClampNeg)) :: st) M) : AW Y X nL pc ls (.int i :: .ref (Y.2.2.2.1 k0) :: st) M := by
  intro H locs L hP hS hl
  exact va_aldq (f := fun i => some (Y.2.2.2.1 (rf k0 i))) C.1 C.2.1 C.2.2.2.2.2.1.1 hP k0 1 (by rw [wld_at hK.1, cel_row hK]) rfl (inb_in hi) d (k H locs L hP hS hl)
/-- the static arrays -/
theorem a_gets73 (C : CK Y X cc own nL ret rm) {index : Nat} (d : decode cc pc = .ok (.getstatic index, 3)) (hF : Cond.fieldLink own index "AccentShop" "DIGEST_DRAWER_DAYS" "[I" ∈ gT) (k : AW Y X nL (pc + 3) ls (.ref (Y.2.2.2.1 73) :: st) M) : AW Y X nL pc ls st M := by
  intro H locs L hP hS hl
  exact va_gets C.1 C.2.1 C.2.2.2.2.2.1.2.2.1.1 hS C.2.2.2.1 (C.2.2.2.2.1 _ hF) (fun _ h => h) d (k H locs L hP hS hl)
theorem a_gets74 (C : CK Y X cc own nL ret rm) {index : Nat} (d : decode cc pc = .ok (.getstatic index, 3)) (hF : Cond.fieldLink own index "AccentShop" "DIGEST_SPEECH_DAYS" "[I" ∈ gT) (k : AW Y X nL (pc + 3) ls (.ref (Y.2.2.2.1 74) :: st) M) : AW Y X nL pc ls st M := by
  intro H locs L hP hS hl
  exact va_gets C.1 C.2.1 C.2.2.2.2.2.1.2.2.1.2 hS C.2.2.2.1 (C.2.2.2.2.1 _ hF) (fun _ h => h) d (k H locs L hP hS hl)
theorem a_ro73 (C : CK Y X cc own nL ret rm) {i : Int32} (d : decode cc pc = .ok (.iaload, 1)) (hi : inb i 3 = true) (k : AW Y X nL (pc + 1) ls (.int (roF 73 i.toNatClampNeg) :: st) M) : AW Y X nL pc ls (.int i :: .ref (Y.2.2.2.1 73) :: st) M := by
  intro H locs L hP hS hl
  exact va_ti C.1 C.2.1 C.2.2.2.2.2.1.2.2.2.1.1 hS (inb_in hi) rfl d (k H locs L hP hS hl)
theorem a_ro74 (C : CK Y X cc own nL ret rm) {i : Int32} (d : decode cc pc = .ok (.iaload, 1)) (hi : inb i 4 = true) (k : AW Y X nL (pc + 1) ls (.int (roF 74 i.toNatClampNeg) :: st) M) : AW Y X nL pc ls (.int i :: .ref (Y.2.2.2.1 74) :: st) M := by
  intro H locs L hP hS hl
  exact va_ti C.1 C.2.1 C.2.2.2.2.2.1.2.2.2.1.2 hS (inb_in hi) rfl d (k H locs L hP hS hl)
/-- ends -/
theorem a_end {H : Heap} {locs : List Loc} {o : Option Value} (hP : WU Y M H) (hS : va_S Y.2.1 X.1.2.2.2.1.heap H locs) : ∀ t : State, t.heap = H → X.1.2.2.2.1.WarmedH t.vm → Qx Y o M X.1.2.2.2.2.2.1 X.1.2.2.2.1 (.returned o) t := fun t ht _ => ⟨⟨rfl, by rw [ht]; exact hP⟩, hS.F ht⟩
theorem a_iret {v : Int32} (C : CK Y X cc own nL (some .int) rm) (d : decode cc pc = .ok (.ireturn, 1)) (hR : RK Y X (some (.int v)) M) : AW Y X nL pc ls [.int v] M := by
  intro H locs L hP hS hl
  unfold WX
  rw [hR.1, hR.2.1, hR.2.2]
  exact W.iret C.1 C.2.1 C.2.2.2.2.2.2.2.2.1 (a_end hP hS) hS.2.2 d C.2.2.2.2.2.2.2.1
theorem isB_nar {v : Int32} (h : isB v = true) : narrow .boolean (.int v) = .int v := by
  rcases of_decide_eq_true h with rfl | rfl <;> rfl
theorem a_zret {v : Int32} (C : CK Y X cc own nL (some .boolean) rm) (d : decode cc pc = .ok (.ireturn, 1)) (hb : isB v = true) (hR : RK Y X (some (.int v)) M) : AW Y X nL pc ls [.int v] M := by
  intro H locs L hP hS hl
  unfold WX
  rw [hR.1, hR.2.1, hR.2.2]
  exact W.zret C.1 C.2.1 C.2.2.2.2.2.2.2.2.1 (isB_nar hb) (a_end hP hS) hS.2.2 d C.2.2.2.2.2.2.2.1
theorem a_lret {v : Int64} (C : CK Y X cc own nL (some .long) rm) (d : decode cc pc = .ok (.lreturn, 1)) (hR : RK Y X (some (.long v)) M) : AW Y X nL pc ls [.long v] M := by
  intro H locs L hP hS hl
  unfold WX
  rw [hR.1, hR.2.1, hR.2.2]
  exact W.lret C.1 C.2.1 C.2.2.2.2.2.2.2.2.1 (a_end hP hS) hS.2.2 d C.2.2.2.2.2.2.2.1
theorem a_vret (C : CK Y X cc own nL none rm) (d : decode cc pc = .ok (.return_, 1)) (hR : RK Y X none M) : AW Y X nL pc ls [] M := by
  intro H locs L hP hS hl
  unfold WX
  rw [hR.1, hR.2.1, hR.2.2]
  exact W.vret C.1 C.2.1 C.2.2.2.2.2.2.2.2.1 (a_end hP hS) hS.2.2 d C.2.2.2.2.2.2.2.1
theorem a_aret {k0 : Nat} {n : String} (C : CK Y X cc own nL (some (.object n)) rm) (d : decode cc pc = .ok (.areturn, 1)) (hR : RK Y X (some (.ref (Y.2.2.2.1 k0))) M) : AW Y X nL pc ls [.ref (Y.2.2.2.1 k0)] M := by
  intro H locs L hP hS hl
  unfold WX
  rw [hR.1, hR.2.1, hR.2.2]
  exact W.aret C.1 C.2.1 C.2.2.2.2.2.2.2.2.1 (Or.inl ⟨_, rfl⟩) (Or.inr ⟨_, rfl⟩) (a_end hP hS) hS.2.2 d C.2.2.2.2.2.2.2.1
end ROWS
