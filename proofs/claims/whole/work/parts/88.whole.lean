-- THE LAW FROM ITS ENTRY
theorem law_exit {p : Program} {l : Launch} {e : Env} {s : State} {m : MethodId} {below : List Frame} {meth : Method} {c : Code} {b : Nat} {D : va_G} {ad : Nat → Nat} {cI cR : ClassId} (hx : p.tables.exec = Jvm.exec) (hb : c.code = code) (hr : meth.sig.returnType = ret) (hlocks : meth.locks = false) (ls : List (Nat × Value)) (M : Mem) : AW (l, (fun q => s.heap.size ≤ q), D, ad, cI, cR) ((p, e, room_1, s, m, #[Value.ref b], below, meth, c), 71, 5390, lw_Z below #[Value.ref b] s) 4 1207 ls [] M := by
  intro H locs L hP hS hl
  refine lv_iconst (v := 1) hx hb dL_law_1207 (by decide) ?_
  refine va_forget (fun q hq => hS.2.2 q hq) ?_
  refine W.widen (k := 600000) (n := 7302250) (Nat.le_of_ble_eq_true rfl) (Nat.le_of_ble_eq_true rfl) ?_
  exact lw_ret hx hb hr hlocks dL_law_1208
set_option maxHeartbeats 4000000 in
set_option maxRecDepth 100000 in
theorem whole_start {p : Program} {e : Env} {s : State} {m : MethodId} {below : List Frame} {meth : Method} {c : Code} (l : Launch) {b L : Nat} {xs : Nat → Int32} (hL : L ≤ 3072) (C0 : lw_At p s m meth c b L xs) : W p l e room_1 s m #[Value.ref b] below meth c s.heap [] 0 0 (lw_Z below #[Value.ref b] s) (entryFrame m ([Value.ref b] : List Value).toArray 4) := by
  obtain ⟨D, ad0, cI, cR, hKU, hBU⟩ := known C0 l
  obtain ⟨hx, hb, hr, hml, hown, hts, hX, hbl, hlocks, hgv⟩ := id C0
  have htg : ∀ w ∈ gT, w.before #[Value.ref b] s = true := fun w hw => hts w (List.mem_filter.mp hw).1
  have hl := lv_entry ([.ref b]) (n := 4) (Nat.le_of_ble_eq_true rfl)
  rw [lg_entry_eq]
  generalize (lg_sl ([.ref b]) ++ List.replicate (4 - (lg_sl ([.ref b])).length) Slot.unset).toArray = ls at hl ⊢
  have hl : lv_has ls 4 [(0, .ref b)] := hl
  obtain ⟨Y, eY⟩ : ∃ Y : EY, Y = (l, (fun q => s.heap.size ≤ q), D, ad0, cI, cR) := ⟨_, rfl⟩
  obtain ⟨X, eX⟩ : ∃ X : CX, X = ((p, e, room_1, s, m, #[Value.ref b], below, meth, c), 71, 5390, lw_Z below #[Value.ref b] s) := ⟨_, rfl⟩
  have C : CB Y X cL_law RL 4 room_1 := by
    rw [eX, eY]
    exact ⟨hx, hb, hml, hown, htg, hKU, hBU, rfl, fun q h => h⟩
  have main : BW Y X 0 4 0 (fun _ => [(0, .ref b)]) (fun _ => []) 0 [] 0 0 := by
    refine b_new C dL_law_0 nw_L_7 Kc_0 (GB_of (by decide +kernel)) (by decide) (Nat.le_of_ble_eq_true rfl) (Nat.le_of_ble_eq_true rfl) (fun _ _ _ => rfl) (fun _ _ _ => rfl) ?_
    show BW Y X 0 4 3 (fun _ => [(0, .ref b)]) (fun ad => [.ref (ad 0)]) 1 B_0 1 14
    refine b_dup (v := fun ad => ad 0) C dL_law_3 ?_
    show BW Y X 0 4 4 (fun _ => [(0, .ref b)]) (fun ad => [.ref (ad 0), .ref (ad 0)]) 1 B_0 1 14
    refine b_ctor (y := yX5_init) (k0 := 0) (as := fun _ => []) (rest := fun ad => [.ref (ad 0)]) C dL_law_4 iml_L_9 iim_5 rfl ilm_5 mk_0 ⟨Nat.le_of_ble_eq_true rfl, Nat.le_of_ble_eq_true rfl⟩ (fun _ => rfl) (fun _ => rfl) (fun _ => Nat.le_of_ble_eq_true rfl) (by decide) (Nat.le_of_ble_eq_true rfl) (Nat.le_of_ble_eq_true rfl) (fun ad ad' h => by simp only [h 0 (Or.inl (by decide))]) (fun _ _ _ => rfl) ?_
    show BW Y X 0 4 7 (fun _ => [(0, .ref b)]) (fun ad => [.ref (ad 0)]) 49 B_49 49 1337
    refine b_astore_n (x := fun ad => ad 0) (lv' := fun ad => [(1, .ref (ad 0)), (0, .ref b)]) C dL_law_7 rfl (by decide) (fun _ => rfl) ?_
    show BW Y X 0 4 8 (fun ad => [(1, .ref (ad 0)), (0, .ref b)]) (fun _ => []) 49 B_49 49 1337
    refine b_new C dL_law_8 nw_L_10 Kc_49 (GB_of (by decide +kernel)) (by decide) (Nat.le_of_ble_eq_true rfl) (Nat.le_of_ble_eq_true rfl) (fun _ _ _ => rfl) (fun ad ad' h => by simp only [h 0 (Or.inl (by decide))]) ?_
    show BW Y X 0 4 11 (fun ad => [(1, .ref (ad 0)), (0, .ref b)]) (fun ad => [.ref (ad 49)]) 50 B_49 50 1368
    refine b_dup (v := fun ad => ad 49) C dL_law_11 ?_
    show BW Y X 0 4 12 (fun ad => [(1, .ref (ad 0)), (0, .ref b)]) (fun ad => [.ref (ad 49), .ref (ad 49)]) 50 B_49 50 1368
    refine b_ctor (y := yX6_init) (k0 := 49) (as := fun _ => []) (rest := fun ad => [.ref (ad 49)]) C dL_law_12 iml_L_12 iim_6 rfl ilm_6 mk_49 ⟨Nat.le_of_ble_eq_true rfl, Nat.le_of_ble_eq_true rfl⟩ (fun _ => rfl) (fun _ => rfl) (fun _ => Nat.le_of_ble_eq_true rfl) (by decide) (Nat.le_of_ble_eq_true rfl) (Nat.le_of_ble_eq_true rfl) (fun ad ad' h => by simp only [h 49 (Or.inl (by decide))]) (fun ad ad' h => by simp only [h 0 (Or.inl (by decide))]) ?_
    show BW Y X 0 4 15 (fun ad => [(1, .ref (ad 0)), (0, .ref b)]) (fun ad => [.ref (ad 49)]) 71 E_49 71 5390
    refine b_astore_n (x := fun ad => ad 49) (lv' := fun ad => [(2, .ref (ad 49)), (1, .ref (ad 0)), (0, .ref b)]) C dL_law_15 rfl (by decide) (fun _ => rfl) ?_
    show BW Y X 0 4 16 (fun ad => [(2, .ref (ad 49)), (1, .ref (ad 0)), (0, .ref b)]) (fun _ => []) 71 E_49 71 5390
    refine b_iconst (v := 0) C dL_law_16 (by decide) ?_
    show BW Y X 0 4 17 (fun ad => [(2, .ref (ad 49)), (1, .ref (ad 0)), (0, .ref b)]) (fun _ => [.int 0]) 71 E_49 71 5390
    refine b_istore_n (lv' := fun ad => [(3, .int 0), (2, .ref (ad 49)), (1, .ref (ad 0)), (0, .ref b)]) C dL_law_17 rfl (by decide) (fun _ => rfl) ?_
    show BW Y X 0 4 18 (fun ad => [(3, .int 0), (2, .ref (ad 49)), (1, .ref (ad 0)), (0, .ref b)]) (fun _ => []) 71 E_49 71 5390
    intro ad H locs L' hFX hW hS hl
    have hY := made_HY hW
    have hP := made hW
    have hK := hKU
    rw [← eY] at hK
    have hK := hK.ad (ad := ad) (fun k hk => hFX k (Or.inr hk))
    have CC : CK (setA Y ad) X cL_law RL 4 ret room_1 := by
      refine ⟨C.1, C.2.1, C.2.2.1, C.2.2.2.1, C.2.2.2.2.1, ?_, hY, ?_, ?_, C.2.2.2.2.2.2.2.1, ?_, ?_⟩
      · rw [eX]; exact hK
      · rw [eX]; exact hlocks
      · rw [eX]; exact hr
      · rw [eX]; exact Nat.le_of_ble_eq_true rfl
      · rw [eX]; exact Nat.le_of_ble_eq_true rfl
    have hSX : SX (setA Y ad) X b L xs := by
      rw [eX, eY]
      exact ⟨hX, hbl, Nat.not_le.mpr hbl⟩
    have hE : ∀ i M, AW (setA Y ad) X 4 1207 (lsL (setA Y ad) b i) [] M := by
      intro i M
      rw [eX, eY]
      exact law_exit hx hb hr hlocks _ M
    have lp := law_loop CC hSX hL hE L 0 α0 Ms (by omega) (by omega) ok0 ci0 mi0
    have lp := a_sub (ls := [(3, .int 0), (2, .ref (ad 49)), (1, .ref (ad 0)), (0, .ref b)]) [3, 2, 1, 0] lp rfl H locs L' hP hS hl
    rw [eX] at lp ⊢
    exact lp
  have hF : FX Y 0 Y.2.2.2.1 := fun _ _ => rfl
  have hW0 : WB Y Y.2.2.2.1 0 [] s.heap := ⟨fun k q h => by simp [wldB] at h, fun i j p q h => by simp [wldB] at h, fun k q h => by simp [wldB] at h⟩
  have fin := main Y.2.2.2.1 s.heap [] ls hF hW0 (by rw [eX]; exact va_S.rf) hl
  rw [eX, eY] at fin
  exact fin
