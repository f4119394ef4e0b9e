-- THE START: what is made is the world in which nothing is told
theorem Ms_dn (k i : Nat) : Ms k i = 0 ∨ dn E_49 k i = true := by
  unfold Ms
  split <;> first | exact Or.inr (by decide +kernel) | exact Or.inl rfl
theorem made_ref : ∀ k, k < NC → ∀ j, j < nf (kd k) → isR (kd k) j = true → dn E_49 k j = true := by decide +kernel
theorem made_36 : ∀ k, k < NC → kd k = 8 → k = 36 := by decide +kernel
theorem made_row : ∀ i, i < 4 → dn E_49 36 i = true := by decide +kernel
theorem Ms_if {k i : Nat} : (if dn E_49 k i = true then Ms k i else 0) = Ms k i := by
  by_cases h : dn E_49 k i = true
  · rw [if_pos h]
  · rw [if_neg h]
    rcases Ms_dn k i with e | e
    · exact e.symm
    · exact absurd e h
theorem made {Y : EY} {ad : Nat → Nat} {H : Heap} (hW : WB Y ad 71 E_49 H) : WU (setA Y ad) Ms H := by
  intro k q hq
  have hk : k < NC := by
    have := (List.getElem?_eq_some_iff.mp hq).1
    rwa [wld_len] at this
  rw [wld_at hk] at hq
  cases hq
  have h := hW.1 k _ (wldB_at hk)
  by_cases h7 : kd k = 7
  · have e : cel Y.2.2.2.2.1 Y.2.2.2.2.2 ad Ms k = celB Y.2.2.2.2.1 Y.2.2.2.2.2 ad E_49 k := by
      rw [cel_arr ⟨hk, h7⟩, celB_arr ⟨hk, h7⟩]
      congr 4
      funext i
      exact Ms_if.symm
    show va_at Y.2.2.1 vwCl (ad k, cel Y.2.2.2.2.1 Y.2.2.2.2.2 ad Ms k) H
    rw [e]
    exact h
  · by_cases h8 : kd k = 8
    · have e := made_36 k hk h8
      subst e
      show va_at Y.2.2.1 vwCl (ad 36, cel Y.2.2.2.2.1 Y.2.2.2.2.2 ad Ms 36) H
      rw [cel_row ⟨hk, h8⟩]
      rw [celB_row ⟨hk, h8⟩] at h
      have h : H[ad 36]? = some (vp_cell Y.2.2.2.2.2 (4, .inr (.inr (.inr (.inr (fun i => if dn E_49 36 i = true then some (ad (rf 36 i)) else none)))))) := h
      show H[ad 36]? = some (vp_cell Y.2.2.2.2.2 (4, .inr (.inr (.inr (.inr (fun i => some (ad (rf 36 i))))))))
      rw [h, vp_cell_q, vp_cell_q]
      congr 1
    · have e : cel Y.2.2.2.2.1 Y.2.2.2.2.2 ad Ms k = celB Y.2.2.2.2.1 Y.2.2.2.2.2 ad E_49 k := by
        unfold cel celB
        rw [if_neg h7, if_neg h8, if_neg h7, if_neg h8]
        congr 2
        apply List.map_congr_left
        intro j hj
        rw [List.mem_range] at hj
        unfold fvB
        by_cases hr : isR (kd k) j = true
        · rw [if_pos hr, if_pos (made_ref k hk j hj hr)]
        · rw [if_neg hr]
          by_cases hd : dn E_49 k j = true
          · rw [if_pos hd]
          · rw [if_neg hd, if_neg hr]
            rcases Ms_dn k j with e | e
            · rw [e]
            · exact absurd e hd
      show va_at Y.2.2.1 vwCl (ad k, cel Y.2.2.2.2.1 Y.2.2.2.2.2 ad Ms k) H
      rw [e]
      exact h
theorem made_HY {Y : EY} {ad : Nat → Nat} {H : Heap} {B : BL} (hW : WB Y ad 71 B H) : HY (setA Y ad) :=
  ⟨fun i j hi hj e => hW.2.1 i j _ _ (wldB_at hi) (wldB_at hj) e, fun k hk => hW.2.2 k _ (wldB_at hk)⟩
/-- nothing is told -/
def α0 : AS := ((0, fun _ => 0), (0, fun _ => 0), [], [], (fun _ => (m1, 0, fun _ => 0)), nI 0)
theorem ok0 : OKA α0 := ⟨⟨by decide, fun _ => Nat.zero_lt_succ 255⟩, ⟨by decide, fun _ => Nat.zero_lt_succ 255⟩, ⟨by decide, fun h hh => by cases hh⟩, ⟨by decide, fun h hh => by cases hh⟩, fun s hs => ⟨Or.inl rfl, Nat.zero_le 60⟩⟩
theorem nA0 : nA (sA α0) = 0 := rfl
theorem nP0 : nP (sA α0) = 0 := rfl
theorem four {s : Nat} (h : s < 4) : s = 0 ∨ s = 1 ∨ s = 2 ∨ s = 3 := by omega
theorem ci0 : CI α0 Ms := by
  refine ⟨⟨⟨rfl, rfl, rfl, fun i hi => absurd hi (Nat.not_lt_zero i)⟩, ⟨rfl, rfl, rfl, fun i hi => absurd hi (Nat.not_lt_zero i)⟩⟩, ⟨⟨rfl, rfl, rfl⟩, fun a ha => ?_, fun a s ha => ?_, fun p hp => ?_, fun p hp => ?_, fun i h hi => ?_⟩, ⟨0, by omega, ⟨fun a s ha => ?_, fun p s hp => ?_, fun p hp => ?_⟩, by decide, fun h => absurd h (by omega)⟩, Or.inl rfl, ⟨rfl, fun i h hi => ?_⟩, fun s hs => ?_, rfl⟩
  · rw [nA0] at ha; omega
  · rw [nA0] at ha; omega
  · rw [nP0] at hp; omega
  · rw [nP0] at hp; omega
  · have hi : ([] : List (Nat × Nat × Nat))[i]? = some h := hi
    simp at hi
  · rw [nA0] at ha; omega
  · rw [nP0] at hp; omega
  · rw [nP0] at hp; omega
  · have hi : ([] : List (Nat × Nat × Nat × Nat))[i]? = some h := hi
    simp at hi
  · rcases four hs with rfl | rfl | rfl | rfl <;> exact ⟨rfl, rfl, fun i hi => absurd hi (Nat.not_lt_zero i)⟩
theorem mi0 : MI α0 Ms := by
  refine ⟨⟨rfl, fun i hi => absurd hi (Nat.not_lt_zero i)⟩, ⟨rfl, fun i hi => absurd hi (Nat.not_lt_zero i)⟩, ⟨rfl, fun i h hi => ?_, rfl, rfl⟩, ⟨rfl, fun i h hi => ?_⟩, fun s hs => ?_, rfl⟩
  · have hi : ([] : List (Nat × Nat × Nat))[i]? = some h := hi
    simp at hi
  · have hi : ([] : List (Nat × Nat × Nat × Nat))[i]? = some h := hi
    simp at hi
  · rcases four hs with rfl | rfl | rfl | rfl <;> exact ⟨rfl, rfl, fun i hi => absurd hi (Nat.not_lt_zero i)⟩
