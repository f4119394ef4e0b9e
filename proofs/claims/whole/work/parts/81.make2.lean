-- THE ROWS of the making
section BROWS
variable {Y : EY} {X : CX} {cc : ByteArray} {own : String} {n0 nL pc : Nat} {rm : Room} {ls : (Nat → Nat) → List (Nat × Value)} {st : (Nat → Nat) → List Value} {n cs ss : Nat} {B : BL}
theorem b_aload_n (C : CB Y X cc own nL rm) {q : Fin 4} (x : (Nat → Nat) → Nat) (d : decode cc pc = .ok (.aload_n q, 1)) (j : Nat) (hj : ∀ ad, (ls ad)[j]? = some ((q : Nat), Value.ref (x ad))) (k : BW Y X n0 nL (pc + 1) ls (fun ad => Value.ref (x ad) :: st ad) n B cs ss) : BW Y X n0 nL pc ls st n B cs ss := fun ad H locs L hF hP hS hl => lv_aload_n C.1 C.2.1 d rfl (lv_at hl j (hj ad)) (k ad H locs L hF hP hS hl)
theorem b_iload_n (C : CB Y X cc own nL rm) {q : Fin 4} (x : Int32) (d : decode cc pc = .ok (.iload_n q, 1)) (j : Nat) (hj : ∀ ad, (ls ad)[j]? = some ((q : Nat), Value.int x)) (k : BW Y X n0 nL (pc + 1) ls (fun ad => Value.int x :: st ad) n B cs ss) : BW Y X n0 nL pc ls st n B cs ss := fun ad H locs L hF hP hS hl => lv_iload_n C.1 C.2.1 d rfl (lv_at hl j (hj ad)) (k ad H locs L hF hP hS hl)
theorem b_iload (C : CB Y X cc own nL rm) {q : Nat} (x : Int32) (d : decode cc pc = .ok (.iload q, 2)) (j : Nat) (hj : ∀ ad, (ls ad)[j]? = some (q, Value.int x)) (k : BW Y X n0 nL (pc + 2) ls (fun ad => Value.int x :: st ad) n B cs ss) : BW Y X n0 nL pc ls st n B cs ss := fun ad H locs L hF hP hS hl => lv_iload C.1 C.2.1 d (lv_at hl j (hj ad)) (k ad H locs L hF hP hS hl)
theorem b_iconst (C : CB Y X cc own nL rm) {z : Int} {v : Int32} (d : decode cc pc = .ok (.iconst z, 1)) (hv : Int32.ofInt z = v) (k : BW Y X n0 nL (pc + 1) ls (fun ad => .int v :: st ad) n B cs ss) : BW Y X n0 nL pc ls st n B cs ss := fun ad H locs L hF hP hS hl => lv_iconst C.1 C.2.1 d hv (k ad H locs L hF hP hS hl)
theorem b_bipush (C : CB Y X cc own nL rm) {z : Int} {v : Int32} (d : decode cc pc = .ok (.bipush z, 2)) (hv : (Int8.ofInt z).toInt32 = v) (k : BW Y X n0 nL (pc + 2) ls (fun ad => .int v :: st ad) n B cs ss) : BW Y X n0 nL pc ls st n B cs ss := fun ad H locs L hF hP hS hl => lv_bipush C.1 C.2.1 d hv (k ad H locs L hF hP hS hl)
theorem b_sipush (C : CB Y X cc own nL rm) {z : Int} {v : Int32} (d : decode cc pc = .ok (.sipush z, 3)) (hv : (Int16.ofInt z).toInt32 = v) (k : BW Y X n0 nL (pc + 3) ls (fun ad => .int v :: st ad) n B cs ss) : BW Y X n0 nL pc ls st n B cs ss := fun ad H locs L hF hP hS hl => lv_sipush C.1 C.2.1 d hv (k ad H locs L hF hP hS hl)
theorem b_dup (C : CB Y X cc own nL rm) {v : (Nat → Nat) → Nat} (d : decode cc pc = .ok (.dup, 1)) (k : BW Y X n0 nL (pc + 1) ls (fun ad => .ref (v ad) :: .ref (v ad) :: st ad) n B cs ss) : BW Y X n0 nL pc ls (fun ad => .ref (v ad) :: st ad) n B cs ss := fun ad H locs L hF hP hS hl => lv_dup C.1 C.2.1 d rfl (k ad H locs L hF hP hS hl)
theorem b_goto (C : CB Y X cc own nL rm) {off : Int} {tgt : Nat} (d : decode cc pc = .ok (.goto off, 3)) (ht : (pc : Int) + off = (tgt : Int)) (k : BW Y X n0 nL tgt ls st n B cs ss) : BW Y X n0 nL pc ls st n B cs ss := fun ad H locs L hF hP hS hl => lv_goto C.1 C.2.1 d ht (k ad H locs L hF hP hS hl)
theorem b_icmp_ge (C : CB Y X cc own nL rm) {x y : Int32} {off : Int} {tgt : Nat} (d : decode cc pc = .ok (.if_icmp .ge off, 3)) (ht : (pc : Int) + off = (tgt : Int)) (kt : y ≤ x → BW Y X n0 nL tgt ls st n B cs ss) (kf : ¬ y ≤ x → BW Y X n0 nL (pc + 3) ls st n B cs ss) : BW Y X n0 nL pc ls (fun ad => .int y :: .int x :: st ad) n B cs ss := fun ad H locs L hF hP hS hl => lv_icmp_ge C.1 C.2.1 d ht (fun h => kt h ad H locs L hF hP hS hl) (fun h => kf h ad H locs L hF hP hS hl)
theorem b_istore_n (C : CB Y X cc own nL rm) {q : Fin 4} {i : Nat} {x : Int32} {lv' : (Nat → Nat) → List (Nat × Value)} (d : decode cc pc = .ok (.istore_n q, 1)) (hi : (q : Nat) = i) (hn : i < nL) (hv : ∀ ad, (i, Value.int x) :: (ls ad).filter (fun q => !(q.1 == i) && !(q.1 + 1 == i && q.2.category == 2)) = lv' ad) (k : BW Y X n0 nL (pc + 1) lv' st n B cs ss) : BW Y X n0 nL pc ls (fun ad => .int x :: st ad) n B cs ss := fun ad H locs L hF hP hS hl => lv_istore_n C.1 C.2.1 d hi hl hn (hv ad) (fun L' hl' => k ad H locs L' hF hP hS hl')
theorem b_astore_n (C : CB Y X cc own nL rm) {q : Fin 4} {i : Nat} {x : (Nat → Nat) → Nat} {lv' : (Nat → Nat) → List (Nat × Value)} (d : decode cc pc = .ok (.astore_n q, 1)) (hi : (q : Nat) = i) (hn : i < nL) (hv : ∀ ad, (i, Value.ref (x ad)) :: (ls ad).filter (fun q => !(q.1 == i) && !(q.1 + 1 == i && q.2.category == 2)) = lv' ad) (k : BW Y X n0 nL (pc + 1) lv' st n B cs ss) : BW Y X n0 nL pc ls (fun ad => .ref (x ad) :: st ad) n B cs ss := fun ad H locs L hF hP hS hl => lv_astore_n C.1 C.2.1 d hi hl hn (hv ad) (fun L' hl' => k ad H locs L' hF hP hS hl')
theorem b_iinc (C : CB Y X cc own nL rm) {i : Nat} {z : Int} {x v w : Int32} {lv' : (Nat → Nat) → List (Nat × Value)} (d : decode cc pc = .ok (.iinc i z, 3)) (j : Nat) (hj : ∀ ad, (ls ad)[j]? = some (i, Value.int x)) (hx : x + Int32.ofInt z = w) (hn : i < nL) (hv : ∀ ad, (i, Value.int w) :: (ls ad).filter (fun q => !(q.1 == i) && !(q.1 + 1 == i && q.2.category == 2)) = lv' ad) (k : BW Y X n0 nL (pc + 3) lv' st n B cs ss) : BW Y X n0 nL pc ls st n B cs ss := fun ad H locs L hF hP hS hl => lv_iinc (v := w) C.1 C.2.1 d hl (hj ad) hx hn (hv ad) (fun L' hl' => k ad H locs L' hF hP hS hl')
theorem b_objInit (C : CB Y X cc own nL rm) {index : Nat} {x : (Nat → Nat) → Nat} (d : decode cc pc = .ok (.invokespecial index, 3)) (h1 : Cond.methodLink own index Lib.objectInit ∈ gT) (h2 : Cond.instanceMethod Lib.objectInit ∈ gT) (h3 : Cond.code Lib.objectInit ⟨#[0xb1]⟩ 1 none ∈ gT) (hf : 1 ≤ rm.frames) (hr : ∀ ad, ((st ad).map fun v => v.category).sum + 12 ≤ rm.locals) (k : BW Y X n0 nL (pc + 3) ls st n B cs ss) : BW Y X n0 nL pc ls (fun ad => .ref (x ad) :: st ad) n B cs ss := by
  intro ad H locs L hF hP hS hl
  have eR := C.2.2.2.2.2.2.2.1
  refine W.objInit C.1 C.2.1 C.2.2.2.1 (C.2.2.2.2.1 _ h1) (C.2.2.2.2.1 _ h2) (C.2.2.2.2.1 _ h3) rfl (by rw [C.2.2.1]; exact hl.1) rfl d (by rw [eR]; exact hf) (by rw [eR]; have := hr ad; show 2 * 0 + _ + 12 ≤ _; omega) (k ad H locs L hF hP hS hl)
theorem b_ldcS (C : CB Y X cc own nL rm) {index q : Nat} {tx : String} (hq : 71 ≤ q) (hZ : vk_R own index tx (Y.2.2.2.1 q) X.1.2.2.2.1) (d : decode cc pc = .ok (.ldc index, 2)) (k : BW Y X n0 nL (pc + 2) ls (fun ad => .ref (ad q) :: st ad) n B cs ss) : BW Y X n0 nL pc ls st n B cs ss := by
  intro ad H locs L hF hP hS hl
  have := k ad H locs L hF hP hS hl
  have e : ad q = Y.2.2.2.1 q := hF q (Or.inr hq)
  dsimp only at this
  rw [e] at this
  exact va_ldcS C.1 C.2.1 C.2.2.2.1 hZ d this
theorem FX.up {ad : Nat → Nat} {q : Nat} (h : FX Y n0 ad) (h0 : n0 ≤ n) (hn : n < NC) : FX Y n0 (upA ad n q) := fun k hk => by rw [upA_n (by omega)]; exact h k hk
/-- what stands on the stack and in the locals speaks of cells that are there -/
def Dp {A : Type} (n : Nat) (f : (Nat → Nat) → A) : Prop := ∀ ad ad' : Nat → Nat, (∀ k, (k < n ∨ NC ≤ k) → ad' k = ad k) → f ad' = f ad
theorem Dp.up {A : Type} {f : (Nat → Nat) → A} (h : Dp n f) (hn : n < NC) {ad : Nat → Nat} {q : Nat} : f (upA ad n q) = f ad := h _ _ (fun k hk => upA_n (by omega))
/-- a class whose objects can be made -/
def NW (own : String) (index c : Nat) : Prop := ∃ r : vw_C, vwCl[c]? = some r ∧ r.2.2 = nf c ∧ c < 7 ∧ Cond.classLink own index r.1 ∈ gT ∧ Cond.instantiable r.1 r.2.2 ∈ gT ∧ Cond.initialized r.1 ∈ gT ∧ (∀ w ∈ u_ws r.1 r.2.1 r.2.2, w ∈ gT) ∧ ∃ ty : Nat → FieldType, (∀ k, k < r.2.2 → parseFieldDescriptor (r.2.1 k).2.2.1 = some (ty k)) ∧ ∀ j, j < r.2.2 → defaultValue (ty j) = if isR c j = true then Value.null else Value.int 0
theorem b_new (C : CB Y X cc own nL rm) {index c : Nat} (d : decode cc pc = .ok (.new index, 3)) (hN : NW own index c) (hK : K n c) (hB : GB n B) (h0 : n0 ≤ n) (h1 : cs + 1 ≤ rm.cells) (h2 : ss + nf c ≤ rm.slots) (hd : Dp n st) (hl0 : Dp n ls) (k : BW Y X n0 nL (pc + 3) ls (fun ad => .ref (ad n) :: st ad) (n + 1) B (cs + 1) (ss + nf c)) : BW Y X n0 nL pc ls st n B cs ss := by
  intro ad H locs L hF hP hS hl
  have eR := C.2.2.2.2.2.2.2.1
  obtain ⟨⟨rC, rT, rN⟩, g1, g2, g3, g4, g5, g6, g7, ty, g8, g9⟩ := hN
  have e : rN = nf c := g2
  subst e
  refine va_new (ci := c) (fs := (List.range (nf c)).map (fvB ad B n)) C.1 C.2.1 C.2.2.2.2.1 g7 ty g8 C.2.2.2.1 (C.2.2.2.2.1 _ g4) (C.2.2.2.2.1 _ g5) (C.2.2.2.2.1 _ g6) C.2.2.2.2.2.1.1 hP.1 hP.2 hS C.2.2.2.2.2.2.2.2 g1 ?_ (by rw [eR]; exact h1) (by rw [eR]; exact h2) d (fun q H1 hP1 hD1 hS1 => ?_)
  · intro j hj
    rw [g9 j hj]
    have e1 : fvB ad B n j = if isR c j = true then Value.null else Value.int 0 := by
      unfold fvB
      rw [hB.out, hK.2]
      rfl
    have hj : j < nf c := hj
    simp [vp_V, hj, e1]
  · rw [wldB_push hB hK.1 (by rw [celB_obj hK g3])] at hP1 hD1
    have := k (upA ad n q) H1 locs L (hF.up h0 hK.1) ⟨hP1, hD1⟩ hS1 (by rw [hl0.up hK.1]; exact hl)
    dsimp only at this
    rw [upA_s, hd.up hK.1] at this
    exact this
theorem b_newa (C : CB Y X cc own nL rm) {z : Int32} (d : decode cc pc = .ok (.newarray .int, 2)) (ha : Cond.arrayClass .int ∈ gT) (hK : K n 7) (hz0 : ¬ z < 0) (hz : z.toNatClampNeg = ln n) (hz2 : ln n ≤ 10000) (hB : GB n B) (h0 : n0 ≤ n) (h1 : cs + 1 ≤ rm.cells) (h2 : ss + ln n ≤ rm.slots) (hd : Dp n st) (hl0 : Dp n ls) (k : BW Y X n0 nL (pc + 2) ls (fun ad => .ref (ad n) :: st ad) (n + 1) B (cs + 1) (ss + ln n)) : BW Y X n0 nL pc ls (fun ad => .int z :: st ad) n B cs ss := by
  intro ad H locs L hF hP hS hl
  have eR := C.2.2.2.2.2.2.2.1
  refine va_newa (atype := .int) (a0 := (ln n, .inl (fun i => if dn B n i = true then Ms n i else 0))) (ty := .int) C.1 C.2.1 (C.2.2.2.2.1 _ ha) rfl C.2.2.2.2.2.1.1 hP.1 hP.2 hS C.2.2.2.2.2.2.2.2 (fun cA => ?_) hz0 hz (by show ln n * 4 ≤ _; omega) (by rw [eR]; exact h1) (by rw [eR]; exact h2) d (fun q cA H1 hK1 hP1 hD1 hS1 => ?_)
  · rw [vp_cell_i]
    congr 1
    funext i
    rw [hB.out]
    rfl
  · have e1 : X.1.2.2.2.1.vm.findClass ("[" ++ FieldType.int.toString) = some Y.2.2.2.2.1 := (C.2.2.2.2.2.1.1.2 0 _ rfl).2
    have e2 : X.1.2.2.2.1.vm.findClass ("[" ++ FieldType.int.toString) = some cA := (hK1.2 2 (cA, .int) rfl).2
    have e3 : cA = Y.2.2.2.2.1 := Option.some.inj (e2.symm.trans e1)
    subst e3
    rw [wldB_push hB hK.1 (by rw [celB_arr hK])] at hP1 hD1
    have := k (upA ad n q) H1 locs L (hF.up h0 hK.1) ⟨hP1, hD1⟩ hS1 (by rw [hl0.up hK.1]; exact hl)
    dsimp only at this
    rw [upA_s, hd.up hK.1] at this
    exact this
theorem b_newq (C : CB Y X cc own nL rm) {index : Nat} (d : decode cc pc = .ok (.anewarray index, 3)) (ha : Cond.classLink own index "AccentShop$Sheet" ∈ gT) (hK : K n 8) (hB : GB n B) (h0 : n0 ≤ n) (h1 : cs + 1 ≤ rm.cells) (h2 : ss + 4 ≤ rm.slots) (hd : Dp n st) (hl0 : Dp n ls) (k : BW Y X n0 nL (pc + 3) ls (fun ad => .ref (ad n) :: st ad) (n + 1) B (cs + 1) (ss + 4)) : BW Y X n0 nL pc ls (fun ad => .int 4 :: st ad) n B cs ss := by
  intro ad H locs L hF hP hS hl
  have eR := C.2.2.2.2.2.2.2.1
  refine va_newq (N' := 4) C.1 C.2.1 C.2.2.2.1 (C.2.2.2.2.1 _ ha) C.2.2.2.2.2.2.1.2.2.2 C.2.2.2.2.2.1.1 hP.1 hP.2 hS C.2.2.2.2.2.2.2.2 (by decide) (by decide) (by decide) (by rw [eR]; exact h1) (by rw [eR]; exact h2) d (fun q cA H1 hK1 hP1 hD1 hS1 => ?_)
  obtain ⟨-, -, -, -, -, e1⟩ := (C.2.2.2.2.2.1.1.2 1 _ rfl).2
  obtain ⟨-, -, -, -, -, e2⟩ := (hK1.2 2 (cA, .object "AccentShop$Sheet") rfl).2
  have e3 : cA = Y.2.2.2.2.2 := Option.some.inj (e2.symm.trans e1)
  subst e3
  have ef : (fun i => if dn B n i = true then some (ad (rf n i)) else none) = (fun _ => none : Nat → Option Nat) := by
    funext i
    rw [hB.out]
    rfl
  rw [wldB_push hB hK.1 (by rw [celB_row hK, ef])] at hP1 hD1
  have := k (upA ad n q) H1 locs L (hF.up h0 hK.1) ⟨hP1, hD1⟩ hS1 (by rw [hl0.up hK.1]; exact hl)
  dsimp only at this
  rw [upA_s, hd.up hK.1] at this
  exact this
/-- field j of class c is declared there, is final or not, has type ty -/
def FF (own : String) (c j : Nat) (fin : Bool) (ty : FieldType) : Prop := ∀ r : vw_C, vwCl[c]? = some r → (r.2.1 j).2.2.2 = fin ∧ (r.2.1 j).1 = own ∧ parseFieldDescriptor (r.2.1 j).2.2.1 = some ty
theorem celB_put {cI cR : ClassId} {ad : Nat → Nat} {c j k0 : Nat} {v : Value} (hK : K k0 c) (hc : c < 7) (hv : (if isR c j = true then Value.ref (ad (rf k0 j)) else Value.int (Ms k0 j)) = v) : (Sum.inr (c, ((List.range (nf c)).map (fvB ad B k0)).set j v) : va_E) = celB cI cR ad ((k0, j) :: B) k0 := by
  rw [celB_obj hK hc, map_set' (g := fvB ad ((k0, j) :: B) k0)]
  · unfold fvB
    rw [dn_s, if_pos rfl, hK.2]
    exact hv
  · intro i hi
    unfold fvB
    rw [dn_n (Or.inr hi)]
theorem b_put (C : CB Y X cc own nL rm) {index c j k0 : Nat} {fin : Bool} {ty : FieldType} {v : (Nat → Nat) → Value} (hin : X.1.2.2.2.2.2.2.2.1.name = "<init>") (d : decode cc pc = .ok (.putfield index, 3)) (hF : FL own index c j) (hp : FF own c j fin ty) (hK : K k0 c) (hk : k0 < n) (hn : ∀ ad, narrow ty (v ad) = v ad) (hf : ∀ ad, fits ty (v ad) = true) (hv : ∀ ad, (if isR c j = true then Value.ref (ad (rf k0 j)) else Value.int (Ms k0 j)) = v ad) (k : BW Y X n0 nL (pc + 3) ls st n ((k0, j) :: B) cs ss) : BW Y X n0 nL pc ls (fun ad => v ad :: .ref (ad k0) :: st ad) n B cs ss := by
  intro ad H locs L hFX hP hS hl
  obtain ⟨⟨rC, rT, rN⟩, h1, h2, h3, h4, h5, h6⟩ := hF
  have hN : rN = nf c := h2
  subst hN
  obtain ⟨⟨ty0, hty⟩, hnm⟩ := CO_all _ _ h1
  obtain ⟨p1, p2, p3⟩ := hp _ h1
  have fin' : ∀ (H1 : Heap) (locs1 : List Loc), va_P Y.2.2.1 vwCl ((wldB Y.2.2.2.2.1 Y.2.2.2.2.2 ad B n).set k0 (ad k0, .inr (c, ((List.range (nf c)).map (fvB ad B k0)).set j (v ad)))) H1 → va_D Y.2.1 ((wldB Y.2.2.2.2.1 Y.2.2.2.2.2 ad B n).set k0 (ad k0, .inr (c, ((List.range (nf c)).map (fvB ad B k0)).set j (v ad)))) → va_S Y.2.1 X.1.2.2.2.1.heap H1 locs1 → W X.1.1 Y.1 X.1.2.1 X.1.2.2.1 X.1.2.2.2.1 X.1.2.2.2.2.1 X.1.2.2.2.2.2.1 X.1.2.2.2.2.2.2.1 X.1.2.2.2.2.2.2.2.1 X.1.2.2.2.2.2.2.2.2 H1 locs1 cs ss X.2.2.2 (F0 X.1.2.2.2.2.1 (pc + 3) L (st ad)) := by
    intro H1 locs1 hP1 hD1 hS1
    rw [wldB_set (B' := (k0, j) :: B) (celB_put hK h4 (hv ad)) celB_o] at hP1 hD1
    exact k ad H1 locs1 L hFX ⟨hP1, hD1⟩ hS1 hl
  have he : (wldB Y.2.2.2.2.1 Y.2.2.2.2.2 ad B n)[k0]? = some (ad k0, .inr (c, (List.range (nf c)).map (fvB ad B k0))) := by rw [wldB_at hk, celB_obj hK h4]
  cases fin with
  | false => exact va_put (q0 := k0) (k := j) C.1 C.2.1 C.2.2.2.2.1 h6 ty0 hty hnm C.2.2.2.1 C.2.2.2.2.2.1.1 hP.1 hP.2 hS he h1 h3 (C.2.2.2.2.1 _ h5) (fun _ h => h) p1 p3 (hn ad) (hf ad) (by simp; exact h3) d fin'
  | true => exact va_putF (q0 := k0) (k := j) C.1 C.2.1 C.2.2.2.2.1 h6 ty0 hty hnm C.2.2.2.1 C.2.2.2.2.2.1.1 hP.1 hP.2 hS he h1 h3 (C.2.2.2.2.1 _ h5) (fun _ h => h) p1 hin p2 p3 (hn ad) (hf ad) (by simp; exact h3) d fin'
theorem b_getr (C : CB Y X cc own nL rm) {index c j k0 k1 : Nat} (d : decode cc pc = .ok (.getfield index, 3)) (hF : FL own index c j) (hr : isR c j = true) (hK : K k0 c) (hk : k0 < n) (hd : dn B k0 j = true) (h1 : rf k0 j = k1) (k : BW Y X n0 nL (pc + 3) ls (fun ad => .ref (ad k1) :: st ad) n B cs ss) : BW Y X n0 nL pc ls (fun ad => .ref (ad k0) :: st ad) n B cs ss := by
  intro ad H locs L hFX hP hS hl
  obtain ⟨⟨rC, rT, rN⟩, g1, g2, g3, g4, g5, g6⟩ := hF
  have hN : rN = nf c := g2
  subst hN
  refine va_get (q0 := k0) (k := j) C.1 C.2.1 C.2.2.2.2.1 g6 C.2.2.2.1 C.2.2.2.2.2.1.1 hP.1 (by rw [wldB_at hk, celB_obj hK g4]) g1 g3 (C.2.2.2.2.1 _ g5) (fun _ h => h) (v := .ref (ad k1)) ?_ d (k ad H locs L hFX hP hS hl)
  have e1 : fvB ad B k0 j = .ref (ad k1) := by
    unfold fvB
    rw [if_pos hd, hK.2, if_pos hr, h1]
  simp [g3, e1]
theorem b_aast (C : CB Y X cc own nL rm) {k0 k1 i : Nat} {z : Int32} (d : decode cc pc = .ok (.aastore, 1)) (hK : K k0 8) (hk : k0 < n) (hK1 : K k1 2) (hk1 : k1 < n) (hz : inb z 4 = true) (hzi : z.toNatClampNeg = i) (hr : rf k0 i = k1) (k : BW Y X n0 nL (pc + 1) ls st n ((k0, i) :: B) cs ss) : BW Y X n0 nL pc ls (fun ad => .ref (ad k1) :: .int z :: .ref (ad k0) :: st ad) n B cs ss := by
  intro ad H locs L hFX hP hS hl
  refine va_astq (q0 := k0) (t0 := 1) (qk := k1) (ci := 2) C.1 C.2.1 C.2.2.2.2.2.1.1 hP.1 hP.2 hS (by rw [wldB_at hk, celB_row hK]) rfl (by rw [wldB_at hk1, celB_obj hK1 (by decide)]) rfl (inb_in hz) d (fun H1 locs1 hP1 hD1 hS1 => ?_)
  have e : (Sum.inl (Y.2.2.2.2.2, 4, .inr (.inr (.inr (.inr (va_up (fun i => if dn B k0 i = true then some (ad (rf k0 i)) else none) z.toNatClampNeg (some (ad k1))))))) : va_E) = celB Y.2.2.2.2.1 Y.2.2.2.2.2 ad ((k0, i) :: B) k0 := by
    rw [celB_row hK]
    congr 7
    funext x
    rw [hzi]
    by_cases hx : x = i
    · subst hx
      rw [dn_s, if_pos rfl, hr]
      simp [va_up]
    · rw [dn_n (Or.inr hx)]
      simp [va_up, hx]
  rw [wldB_set (B' := (k0, i) :: B) e celB_o] at hP1 hD1
  exact k ad H1 locs1 L hFX ⟨hP1, hD1⟩ hS1 hl
theorem b_iast (C : CB Y X cc own nL rm) {k0 i : Nat} {z x : Int32} (d : decode cc pc = .ok (.iastore, 1)) (hK : K k0 7) (hk : k0 < n) (hz : inb z (ln k0) = true) (hzi : z.toNatClampNeg = i) (hv : Ms k0 i = x) (k : BW Y X n0 nL (pc + 1) ls st n ((k0, i) :: B) cs ss) : BW Y X n0 nL pc ls (fun ad => .int x :: .int z :: .ref (ad k0) :: st ad) n B cs ss := by
  intro ad H locs L hFX hP hS hl
  refine va_iast (q0 := k0) (t0 := 0) C.1 C.2.1 C.2.2.2.2.2.1.1 hP.1 hP.2 hS (by rw [wldB_at hk, celB_arr hK]) rfl (inb_in hz) d (fun H1 locs1 hP1 hD1 hS1 => ?_)
  have e : (Sum.inl (Y.2.2.2.2.1, ln k0, .inl (upd (fun i => if dn B k0 i = true then Ms k0 i else 0) z.toNatClampNeg x)) : va_E) = celB Y.2.2.2.2.1 Y.2.2.2.2.2 ad ((k0, i) :: B) k0 := by
    rw [celB_arr hK]
    congr 4
    funext y
    rw [hzi]
    by_cases hx : y = i
    · subst hx
      rw [dn_s, if_pos rfl, hv]
      simp [upd]
    · rw [dn_n (Or.inr hx)]
      simp [upd, hx]
  rw [wldB_set (B' := (k0, i) :: B) e celB_o] at hP1 hD1
  exact k ad H1 locs1 L hFX ⟨hP1, hD1⟩ hS1 hl
theorem b_vret (C : CB Y X cc own nL rm) (d : decode cc pc = .ok (.return_, 1)) {n' : Nat} {B' : BL} (E : EB Y X n0 n' B' rm) (hn : n = n') (hB : B = B') (h1 : cs = rm.cells) (h2 : ss = rm.slots) : BW Y X n0 nL pc ls (fun _ => []) n B cs ss := by
  intro ad H locs L hFX hP hS hl
  subst hn hB h1 h2
  rw [E.2.2.2]
  exact W.vret C.1 C.2.1 E.2.2.1 (fun t ht _ => ⟨⟨rfl, ad, hFX, by rw [ht]; exact hP⟩, hS.F ht⟩) hS.2.2 d E.2.1
variable {y : MethodName} {cc' : ByteArray} {mL' a0 index k0 n' : Nat} {rm' : Room} {as rest : (Nat → Nat) → List Value} {B' : BL}
theorem b_run {ad : Nat → Nat} {H : Heap} {locs : List Loc} {L : Array Slot} {a : Array Value} (hr : va_Run X.1.1 Y.1 X.1.2.1 X.1.2.2.1 X.1.2.2.2.1 X.1.2.2.2.2.1 X.1.2.2.2.2.2.1 X.1.2.2.2.2.2.2.1 X.1.2.2.2.2.2.2.2.1 X.1.2.2.2.2.2.2.2.2 H locs cs ss rm'.cells rm'.slots (F0 X.1.2.2.2.2.1 pc L (st ad)) (rest ad) (QB (setA Y ad) n n' B' a) Y.2.1) (hS : va_S Y.2.1 X.1.2.2.2.1.heap H locs) (hFX : FX Y n0 ad) (h0 : n0 ≤ n) (hl : lv_has L nL (ls ad)) (hd : Dp n rest) (hl0 : Dp n ls)
    (k : BW Y X n0 nL (pc + 3) ls rest n' B' (cs + rm'.cells) (ss + rm'.slots)) : W X.1.1 Y.1 X.1.2.1 X.1.2.2.1 X.1.2.2.2.1 X.1.2.2.2.2.1 X.1.2.2.2.2.2.1 X.1.2.2.2.2.2.2.1 X.1.2.2.2.2.2.2.2.1 X.1.2.2.2.2.2.2.2.2 H locs cs ss X.2.2.2 (F0 X.1.2.2.2.2.1 pc L (st ad)) := by
  intro T hT Z
  obtain ⟨v, st₀, t, T', L', h0', Z', hL, e1, e2, ⟨⟨hv, ad', hF', hb⟩, hz, hk⟩, stp⟩ := hr T hT Z
  cases hv
  rw [h0'] at hz hk
  have hb : WB Y ad' n' B' t.heap := hb
  have hk : ∀ q : Nat, q < H.size → ¬ Y.2.1 q → t.heap[q]? = H[q]? := hk
  have := k ad' T'.heap (locs ++ L') L (fun j hj => by rw [hF' j (by omega)]; exact hFX j hj) (by rw [e1]; exact hb)
    ⟨Nat.le_trans hS.1 (by rw [e1]; exact hz), fun q h1 h2 => by rw [e1, hk q (Nat.lt_of_lt_of_le h1 hS.1) h2]; exact hS.2.1 q h1 h2, fun q hq => by
      rcases List.mem_append.mp hq with h | h
      · exact hS.2.2 q h
      · exact hL q h⟩ (by rw [hl0 ad ad' (fun j hj => hF' j hj)]; exact hl)
  rw [hd ad ad' (fun j hj => hF' j hj)] at this
  obtain ⟨t2, a1, b1⟩ := this T' rfl Z'
  exact ⟨t2, stp t2 a1, b1⟩
theorem b_px (C : CB Y X cc own nL rm) {ad : Nat → Nat} {H : Heap} {locs : List Loc} {av : List Value} (hFX : FX Y n0 ad) (hP : WB Y ad n B H) (hS : va_S Y.2.1 X.1.2.2.2.1.heap H locs) : ∀ U : State, U.heap = H → X.1.2.2.2.1.WarmedH U.vm → PB (setA Y ad) av n B av.toArray U := fun U hU hW =>
  ⟨rfl, by rw [hU]; exact hP, (C.2.2.2.2.2.1.go hW (fun a h1 h2 => by rw [hU]; exact hS.2.1 a h1 h2)).ad (fun j hj => hFX j (Or.inr hj)), (C.2.2.2.2.2.2.1.warm hW).ad (fun j hj => hFX j (Or.inr hj)), fun q hq => C.2.2.2.2.2.2.2.2 q (Nat.le_trans hS.1 (by rw [← hU]; exact hq))⟩
theorem b_ctor (C : CB Y X cc own nL rm) (d : decode cc pc = .ok (.invokespecial index, 3)) (hli : Cond.methodLink own index y ∈ gT) (hi : Cond.instanceMethod y ∈ gT) (hyn : y.name = "<init>") (hL : LM y cc' mL' none a0) (hM : ∀ Y' : EY, MB Y' y cc' mL' rm' (.ref (Y'.2.2.2.1 k0) :: as Y'.2.2.2.1) n B n' B') (hR : rm'.frames + 1 ≤ rm.frames ∧ 8 + (mL' + 11) + rm'.locals ≤ rm.locals) (hn : ∀ ad, (as ad).length = a0) (hst : ∀ ad, st ad = (as ad).reverse ++ .ref (ad k0) :: rest ad) (hr : ∀ ad, ((rest ad).map fun v => v.category).sum ≤ 8) (h0 : n0 ≤ n) (h1 : cs + rm'.cells ≤ rm.cells) (h2 : ss + rm'.slots ≤ rm.slots) (hd : Dp n rest) (hl0 : Dp n ls) (k : BW Y X n0 nL (pc + 3) ls rest n' B' (cs + rm'.cells) (ss + rm'.slots)) : BW Y X n0 nL pc ls st n B cs ss := by
  intro ad H locs L hFX hP hS hl
  have eR := C.2.2.2.2.2.2.2.1
  exact b_run (va_runI (As := as ad) (rest := rest ad) ⟨C.1, C.2.1, C.2.2.1, C.2.2.2.1, C.2.2.2.2.1⟩ (hM (setA Y ad)) ⟨callB_of a0 C.2.2.2.2.1 hL.good rfl rfl rfl (C.2.2.2.2.1 _ hL.2.1) (C.2.2.2.2.1 _ hli) hL.2.2 (by rw [eR]; exact hR), hyn, C.2.2.2.2.1 _ hi⟩ ⟨PB.blind, b_px C hFX hP hS⟩ rfl (hn ad) hl.1 (hst ad) (lv_room (hr ad)) d (by rw [eR]; exact ⟨h1, h2⟩)) hS hFX h0 hl hd hl0 k
theorem b_ctorN (C : CB Y X cc own nL rm) (eo : own = "AccentShop") (d : decode cc pc = .ok (.invokespecial index, 3)) (hw : (index, y) ∈ ctW) (hi : Cond.instanceMethod y ∈ gT) (hyn : y.name = "<init>") (hL : LM y cc' mL' none a0) (hM : ∀ Y' : EY, MB Y' y cc' mL' rm' (.ref (Y'.2.2.2.1 k0) :: as Y'.2.2.2.1) n B n' B') (hR : rm'.frames + 1 ≤ rm.frames ∧ 8 + (mL' + 11) + rm'.locals ≤ rm.locals) (hn : ∀ ad, (as ad).length = a0) (hst : ∀ ad, st ad = (as ad).reverse ++ .ref (ad k0) :: rest ad) (hr : ∀ ad, ((rest ad).map fun v => v.category).sum ≤ 8) (h0 : n0 ≤ n) (h1 : cs + rm'.cells ≤ rm.cells) (h2 : ss + rm'.slots ≤ rm.slots) (hd : Dp n rest) (hl0 : Dp n ls) (k : BW Y X n0 nL (pc + 3) ls rest n' B' (cs + rm'.cells) (ss + rm'.slots)) : BW Y X n0 nL pc ls st n B cs ss := by
  intro ad H locs L hFX hP hS hl
  subst eo
  have eR := C.2.2.2.2.2.2.2.1
  exact b_run (va_runIN (host := "AccentShop") (As := as ad) (rest := rest ad) ⟨C.1, C.2.1, C.2.2.1, C.2.2.2.1, C.2.2.2.2.1⟩ (hM (setA Y ad)) ⟨va_cnB a0 C.2.2.2.2.1 hL.good rfl rfl rfl (C.2.2.2.2.2.2.1.1 _ hw) (C.2.2.2.2.1 _ hL.2.1) hL.2.2 (by rw [eR]; exact hR), hyn, C.2.2.2.2.1 _ hi⟩ ⟨PB.blind, b_px C hFX hP hS⟩ rfl (hn ad) hl.1 (hst ad) (lv_room (hr ad)) d (by rw [eR]; exact ⟨h1, h2⟩)) hS hFX h0 hl hd hl0 k
end BROWS
