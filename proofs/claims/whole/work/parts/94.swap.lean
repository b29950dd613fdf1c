def sg (k : Nat) : Nat := if 6 ≤ k ∧ k < 13 then k + 7 else if 13 ≤ k ∧ k < 20 then k - 7 else k
theorem sg_sg (k : Nat) : sg (sg k) = k := by
  unfold sg
  by_cases h1 : 6 ≤ k ∧ k < 13
  · rw [if_pos h1, if_neg (by omega), if_pos (by omega)]
    omega
  · rw [if_neg h1]
    by_cases h2 : 13 ≤ k ∧ k < 20
    · rw [if_pos h2, if_pos (by omega)]
      omega
    · rw [if_neg h2, if_neg h1, if_neg h2]
theorem sg_big {k : Nat} (h : 20 ≤ k) : sg k = k := by
  unfold sg
  rw [if_neg (by omega), if_neg (by omega)]
theorem sg_lt {k N : Nat} (hN : 20 ≤ N) (h : k < N) : sg k < N := by
  unfold sg
  split
  · omega
  · split <;> omega
def eSw (E : EN) : EN := (E.1, E.2.1, E.2.2.1, (fun k => eA E (sg k)), E.2.2.2.2)
theorem eSw_sw (E : EN) : eSw (eSw E) = E := by
  unfold eSw
  have : (fun k => eA (E.1, E.2.1, E.2.2.1, (fun k => eA E (sg k)), E.2.2.2.2) (sg k)) = E.2.2.2.1 := by
    funext k
    show eA E (sg (sg k)) = _
    rw [sg_sg]
    rfl
  rw [this]
theorem wsF_sw {ad : Nat → Nat} {w : Nat → va_E} {N : Nat} (hN : 20 ≤ N) {D : va_G} {cl : List vw_C} {H : Heap} (h : va_P D cl (wsF N ad w) H) : va_P D cl (wsF N (fun k => ad (sg k)) (fun k => w (sg k))) H := by
  intro k q hk
  obtain ⟨h1, rfl⟩ := wsF_of hk
  exact h (sg k) _ (wsF_get _ _ (sg_lt hN h1))
theorem St.sw {E : EN} {N : Nat} {w : Nat → va_E} {U : State} (hN : 20 ≤ N) (h : St E N w U) : St (eSw E) N (fun k => w (sg k)) U := by
  obtain ⟨h1, h2, h3, h4⟩ := h
  refine ⟨wsF_sw hN h1, h2, fun i j hi hj e => ?_, fun k => ?_⟩
  · have := h3 (sg i) (sg j) (sg_lt hN hi) (sg_lt hN hj) e
    rw [← sg_sg i, this, sg_sg]
  · show eA E (sg (N + k)) = _
    rw [sg_big (by omega)]
    exact h4 k
theorem Inv.sw {E : EN} {Y : YN} {N : Nat} {w : Nat → va_E} {H : Heap} {locs : List Loc} (hN : 20 ≤ N) (h : Inv E Y N w H locs) : Inv (eSw E) Y N (fun k => w (sg k)) H locs := by
  obtain ⟨h1, h2, h3, h4, h5⟩ := h
  refine ⟨wsF_sw hN h1, fun i j hi hj e => ?_, fun i hi => h3 (sg i) (sg_lt hN hi), fun k => ?_, h5⟩
  · have := h2 (sg i) (sg j) (sg_lt hN hi) (sg_lt hN hj) e
    rw [← sg_sg i, this, sg_sg]
  · show eA E (sg (N + k)) = _
    rw [sg_big (by omega)]
    exact h4 k
theorem J_sw {E : EN} {Y : YN} {N cs ss : Nat} {w : Nat → va_E} {pc : Nat} {lv : List (Option Value)} {st : List Value} (hN : 20 ≤ N) (k : J (eSw E) Y N cs ss (fun k => w (sg k)) pc lv st) : J E Y N cs ss w pc lv st := fun H locs ls hI hl => k H locs ls (hI.sw hN) hl
theorem J_sw2 {E : EN} {Y : YN} {N cs ss : Nat} {w : Nat → va_E} {pc : Nat} {lv : List (Option Value)} {st : List Value} (hN : 20 ≤ N) (k : J E Y N cs ss (fun k => w (sg k)) pc lv st) : J (eSw E) Y N cs ss w pc lv st := J_sw hN (by rw [eSw_sw]; exact k)
theorem Cx.sw {E : EN} {Y : YN} {cc : ByteArray} {nL : Nat} {own : String} {Ts : List Cond} {R : Room} (C : Cx E Y cc nL own Ts R) : Cx (eSw E) Y cc nL own Ts R := C
theorem EM.sw {E : EN} (h : EM E) : EM (eSw E) := h
def gsw (g : Nat → Int32) : Nat → Int32 := fun k => if 600 ≤ k ∧ k < 700 then g (k + 700) else if 1300 ≤ k ∧ k < 1400 then g (k - 700) else g k
theorem gsw_out {g : Nat → Int32} {k : Nat} (h : (k < 600 ∨ 700 ≤ k) ∧ (k < 1300 ∨ 1400 ≤ k)) : gsw g k = g k := by
  unfold gsw
  rw [if_neg (by omega), if_neg (by omega)]
theorem dsc_t : ∀ ci, ∀ q, q ∈ dsc ci → q.1 ≤ 2 ∨ q.2 = 1 := by
  intro ci
  unfold dsc
  split <;> decide
theorem fsG_sw {ad ad' : Nat → Nat} {g g' : Nat → Int32} {h : Nat → Int64} {k : Nat} (ha : ∀ d, ad (k + d) = ad' (k + d)) (h1 : ad 1 = ad' 1) (hg : ∀ j, j < 100 → g (100 * k + j) = g' (100 * k + j)) : ∀ (l : List (Nat × Nat)) (b : Nat), b + l.length < 100 → (∀ q, q ∈ l → q.1 ≤ 2 ∨ q.2 = 1) → fsG ad g h k b l = fsG ad' g' h k b l
  | [], _, _, _ => rfl
  | (t, e) :: l, b, hb, hq => by
    simp at hb
    have ih := fsG_sw (h := h) ha h1 hg l (b + 1) (by omega) (fun q hq2 => hq q (List.mem_cons_of_mem _ hq2))
    have h0 := hq (t, e) List.mem_cons_self
    have hgb := hg b (by omega)
    match t with
    | 0 => simp [fsG, ih, hgb]
    | 1 => simp [fsG, ih]
    | 2 => simp [fsG, ih, ha]
    | t + 3 =>
      have e1 : e = 1 := h0.resolve_left (by simp)
      subst e1
      simp [fsG, ih, hgb, h1]
theorem fsG_mv (M : Nat) {ad ad' : Nat → Nat} {g g' : Nat → Int32} {h : Nat → Int64} {k k' : Nat} (ha : ∀ d, 1 ≤ d → d < M → ad (k + d) = ad' (k' + d)) (h1 : ad 1 = ad' 1) (hg : ∀ j, j < 100 → g (100 * k + j) = g' (100 * k' + j)) : ∀ (l : List (Nat × Nat)) (b : Nat), b + l.length < 100 → (∀ q, q ∈ l → q.1 = 0 ∨ (q.1 = 2 ∧ 1 ≤ q.2 ∧ q.2 < M) ∨ (q.1 = 3 ∧ q.2 = 1)) → fsG ad g h k b l = fsG ad' g' h k' b l
  | [], _, _, _ => rfl
  | (t, e) :: l, b, hb, hq => by
    simp at hb
    have ih := fsG_mv M (h := h) ha h1 hg l (b + 1) (by omega) (fun q hq2 => hq q (List.mem_cons_of_mem _ hq2))
    have hgb := hg b (by omega)
    rcases hq (t, e) List.mem_cons_self with h0 | ⟨h0, h2, h3⟩ | ⟨h0, h2⟩
    · have h0 : t = 0 := h0
      subst h0
      simp [fsG, ih, hgb]
    · have h0 : t = 2 := h0
      subst h0
      simp [fsG, ih, ha e h2 h3]
    · have h0 : t = 3 := h0
      have h2 : e = 1 := h2
      subst h0
      subst h2
      simp [fsG, ih, hgb, h1]
theorem gsw_lo {g : Nat → Int32} {j : Nat} (hj : j < 100) : gsw g (100 * 6 + j) = g (100 * 13 + j) := by
  have e : 100 * 6 + j + 700 = 100 * 13 + j := by omega
  unfold gsw
  exact (if_pos ⟨by omega, by omega⟩).trans (congrArg g e)
theorem gsw_hi {g : Nat → Int32} {j : Nat} (hj : j < 100) : gsw g (100 * 13 + j) = g (100 * 6 + j) := by
  have e : 100 * 13 + j - 700 = 100 * 6 + j := by omega
  unfold gsw
  exact ((if_neg (by omega)).trans (if_pos ⟨by omega, by omega⟩)).trans (congrArg g e)
theorem sw_cell {E : EN} (hM : EM E) {g : Nat → Int32} {h : Nat → Int64} {T : Nat → Nat → Int32} {L : Nat → Nat → Int64} {k : Nat} (h0 : k ≠ 0) : wS E g h T L (sg k) = wS (eSw E) (gsw g) h (fun k => T (sg k)) L k := by
  have hS := hM.1
  by_cases hk : k < 20
  · rcases (show k = 1 ∨ k = 2 ∨ k = 3 ∨ k = 4 ∨ k = 5 ∨ k = 6 ∨ k = 7 ∨ k = 8 ∨ k = 9 ∨ k = 10 ∨ k = 11 ∨ k = 12 ∨ k = 13 ∨ k = 14 ∨ k = 15 ∨ k = 16 ∨ k = 17 ∨ k = 18 ∨ k = 19 by omega) with rfl | rfl | rfl | rfl | rfl | rfl | rfl | rfl | rfl | rfl | rfl | rfl | rfl | rfl | rfl | rfl | rfl | rfl | rfl
    · rw [show sg 1 = 1 by decide, wS_int (E := E) (k := 1) (n := 200) rfl (hS 1 (by decide)), wS_int (E := eSw E) (k := 1) (n := 200) rfl (hS 1 (by decide))]
      show _ = (Sum.inl (eC E 0, 200, Sum.inl (T (sg 1))) : va_E)
      rw [show sg 1 = 1 by decide]
    · rw [show sg 2 = 2 by decide, wS_obj (E := E) (k := 2) (ci := 2) rfl (hS 2 (by decide)), wS_obj (E := eSw E) (k := 2) (ci := 2) rfl (hS 2 (by decide)), fsG_mv 4 (ad := eA E) (ad' := eA (eSw E)) (g := g) (g' := gsw g) (h := h) (k := 2) (k' := 2) (fun d h1 h7 => by show eA E (2 + d) = eA E (sg (2 + d)); rw [show sg (2 + d) = 2 + d by unfold sg; split <;> (try split) <;> omega]) rfl (fun j hj => (gsw_out (by omega)).symm) (dsc 2) 0 (by decide) (by decide)]
    · rw [show sg 3 = 3 by decide, wS_int (E := E) (k := 3) (n := 201) rfl (hS 3 (by decide)), wS_int (E := eSw E) (k := 3) (n := 201) rfl (hS 3 (by decide))]
      show _ = (Sum.inl (eC E 0, 201, Sum.inl (T (sg 3))) : va_E)
      rw [show sg 3 = 3 by decide]
    · rw [show sg 4 = 4 by decide, wS_int (E := E) (k := 4) (n := 201) rfl (hS 4 (by decide)), wS_int (E := eSw E) (k := 4) (n := 201) rfl (hS 4 (by decide))]
      show _ = (Sum.inl (eC E 0, 201, Sum.inl (T (sg 4))) : va_E)
      rw [show sg 4 = 4 by decide]
    · rw [show sg 5 = 5 by decide, wS_int (E := E) (k := 5) (n := 201) rfl (hS 5 (by decide)), wS_int (E := eSw E) (k := 5) (n := 201) rfl (hS 5 (by decide))]
      show _ = (Sum.inl (eC E 0, 201, Sum.inl (T (sg 5))) : va_E)
      rw [show sg 5 = 5 by decide]
    · rw [show sg 6 = 13 by decide, wS_obj (E := E) (k := 13) (ci := 3) rfl (hS 13 (by decide)), wS_obj (E := eSw E) (k := 6) (ci := 3) rfl (hS 6 (by decide)), fsG_mv 7 (ad := eA E) (ad' := eA (eSw E)) (g := g) (g' := gsw g) (h := h) (k := 13) (k' := 6) (fun d h1 h7 => by show eA E (13 + d) = eA E (sg (6 + d)); rw [show sg (6 + d) = 13 + d by unfold sg; split <;> (try split) <;> omega]) rfl (fun j hj => (gsw_lo hj).symm) (dsc 3) 0 (by decide) (by decide)]
    · rw [show sg 7 = 14 by decide, wS_int (E := E) (k := 14) (n := 7) rfl (hS 14 (by decide)), wS_int (E := eSw E) (k := 7) (n := 7) rfl (hS 7 (by decide))]
      show _ = (Sum.inl (eC E 0, 7, Sum.inl (T (sg 7))) : va_E)
      rw [show sg 7 = 14 by decide]
    · rw [show sg 8 = 15 by decide, wS_int (E := E) (k := 15) (n := 7) rfl (hS 15 (by decide)), wS_int (E := eSw E) (k := 8) (n := 7) rfl (hS 8 (by decide))]
      show _ = (Sum.inl (eC E 0, 7, Sum.inl (T (sg 8))) : va_E)
      rw [show sg 8 = 15 by decide]
    · rw [show sg 9 = 16 by decide, wS_int (E := E) (k := 16) (n := 7) rfl (hS 16 (by decide)), wS_int (E := eSw E) (k := 9) (n := 7) rfl (hS 9 (by decide))]
      show _ = (Sum.inl (eC E 0, 7, Sum.inl (T (sg 9))) : va_E)
      rw [show sg 9 = 16 by decide]
    · rw [show sg 10 = 17 by decide, wS_int (E := E) (k := 17) (n := 7) rfl (hS 17 (by decide)), wS_int (E := eSw E) (k := 10) (n := 7) rfl (hS 10 (by decide))]
      show _ = (Sum.inl (eC E 0, 7, Sum.inl (T (sg 10))) : va_E)
      rw [show sg 10 = 17 by decide]
    · rw [show sg 11 = 18 by decide, wS_int (E := E) (k := 18) (n := 128) rfl (hS 18 (by decide)), wS_int (E := eSw E) (k := 11) (n := 128) rfl (hS 11 (by decide))]
      show _ = (Sum.inl (eC E 0, 128, Sum.inl (T (sg 11))) : va_E)
      rw [show sg 11 = 18 by decide]
    · rw [show sg 12 = 19 by decide, wS_bool (E := E) (k := 19) (n := 128) rfl (hS 19 (by decide)), wS_bool (E := eSw E) (k := 12) (n := 128) rfl (hS 12 (by decide))]
      show _ = (Sum.inl (eC E 2, 128, Sum.inl (T (sg 12))) : va_E)
      rw [show sg 12 = 19 by decide]
    · rw [show sg 13 = 6 by decide, wS_obj (E := E) (k := 6) (ci := 3) rfl (hS 6 (by decide)), wS_obj (E := eSw E) (k := 13) (ci := 3) rfl (hS 13 (by decide)), fsG_mv 7 (ad := eA E) (ad' := eA (eSw E)) (g := g) (g' := gsw g) (h := h) (k := 6) (k' := 13) (fun d h1 h7 => by show eA E (6 + d) = eA E (sg (13 + d)); rw [show sg (13 + d) = 6 + d by unfold sg; split <;> (try split) <;> omega]) rfl (fun j hj => (gsw_hi hj).symm) (dsc 3) 0 (by decide) (by decide)]
    · rw [show sg 14 = 7 by decide, wS_int (E := E) (k := 7) (n := 7) rfl (hS 7 (by decide)), wS_int (E := eSw E) (k := 14) (n := 7) rfl (hS 14 (by decide))]
      show _ = (Sum.inl (eC E 0, 7, Sum.inl (T (sg 14))) : va_E)
      rw [show sg 14 = 7 by decide]
    · rw [show sg 15 = 8 by decide, wS_int (E := E) (k := 8) (n := 7) rfl (hS 8 (by decide)), wS_int (E := eSw E) (k := 15) (n := 7) rfl (hS 15 (by decide))]
      show _ = (Sum.inl (eC E 0, 7, Sum.inl (T (sg 15))) : va_E)
      rw [show sg 15 = 8 by decide]
    · rw [show sg 16 = 9 by decide, wS_int (E := E) (k := 9) (n := 7) rfl (hS 9 (by decide)), wS_int (E := eSw E) (k := 16) (n := 7) rfl (hS 16 (by decide))]
      show _ = (Sum.inl (eC E 0, 7, Sum.inl (T (sg 16))) : va_E)
      rw [show sg 16 = 9 by decide]
    · rw [show sg 17 = 10 by decide, wS_int (E := E) (k := 10) (n := 7) rfl (hS 10 (by decide)), wS_int (E := eSw E) (k := 17) (n := 7) rfl (hS 17 (by decide))]
      show _ = (Sum.inl (eC E 0, 7, Sum.inl (T (sg 17))) : va_E)
      rw [show sg 17 = 10 by decide]
    · rw [show sg 18 = 11 by decide, wS_int (E := E) (k := 11) (n := 128) rfl (hS 11 (by decide)), wS_int (E := eSw E) (k := 18) (n := 128) rfl (hS 18 (by decide))]
      show _ = (Sum.inl (eC E 0, 128, Sum.inl (T (sg 18))) : va_E)
      rw [show sg 18 = 11 by decide]
    · rw [show sg 19 = 12 by decide, wS_bool (E := E) (k := 12) (n := 128) rfl (hS 12 (by decide)), wS_bool (E := eSw E) (k := 19) (n := 128) rfl (hS 19 (by decide))]
      show _ = (Sum.inl (eC E 2, 128, Sum.inl (T (sg 19))) : va_E)
      rw [show sg 19 = 12 by decide]
  · rw [sg_big (by omega)]
    unfold wS
    show (if eS E k = true then _ else _) = (if eS E k = true then _ else _)
    split
    · unfold cellG
      split
      · rename_i ci hci
        rw [fsG_sw (ad := eA E) (ad' := eA (eSw E)) (g := g) (g' := gsw g) (h := h) (k := k) (fun d => by show eA E (k + d) = eA E (sg (k + d)); rw [sg_big (by omega)]) rfl (fun j hj => (gsw_out (by omega)).symm) (dsc ci) 0 (by have := dsc_len ci; omega) (dsc_t ci)]
      · show (_ : va_E) = .inl (eC E 0, _, .inl (T (sg k)))
        rw [sg_big (by omega)]
      · rfl
      · show (_ : va_E) = .inl (eC E 2, _, .inl (T (sg k)))
        rw [sg_big (by omega)]
      · show (_ : va_E) = .inl (eC E 3, _, qRow (fun j => some (eA E (sg (42 + 3 * j)))))
        have : (fun j => some (eA E (sg (42 + 3 * j)))) = (fun j => some (eA E (42 + 3 * j))) := by
          funext j
          rw [sg_big (by omega)]
        rw [this]
      · show (_ : va_E) = .inl (eC E 4, _, qRow (fun j => some (eA E (sg (36 + j)))))
        have : (fun j => some (eA E (sg (36 + j)))) = (fun j => some (eA E (36 + j))) := by
          funext j
          rw [sg_big (by omega)]
        rw [this]
    · rfl
theorem J_swap {E : EN} {Y : YN} {cs ss : Nat} {g : Nat → Int32} {h : Nat → Int64} {T : Nat → Nat → Int32} {L : Nat → Nat → Int64} {pc : Nat} {lv : List (Option Value)} {st : List Value} (hM : EM E) (k : J (eSw E) Y (eN E) cs ss (wS (eSw E) (gsw g) h (fun k => T (sg k)) L) pc lv st) : J E Y (eN E) cs ss (va_up (va_up (wS E g h T L) 0 (.inr (5, (fsG (eA E) g h 0 0 (dsc 5)).set 4 (.ref (eA E 6))))) 0 (.inr (5, ((fsG (eA E) g h 0 0 (dsc 5)).set 4 (.ref (eA E 6))).set 3 (.ref (eA E 13))))) pc lv st := by
  have hN : 20 ≤ eN E := by have := hM.2 67 (hM.1 67 (by decide)); omega
  refine J_sw hN ?_
  have e : (fun k => va_up (va_up (wS E g h T L) 0 (.inr (5, (fsG (eA E) g h 0 0 (dsc 5)).set 4 (.ref (eA E 6))))) 0 (.inr (5, ((fsG (eA E) g h 0 0 (dsc 5)).set 4 (.ref (eA E 6))).set 3 (.ref (eA E 13)))) (sg k)) = wS (eSw E) (gsw g) h (fun k => T (sg k)) L := by
    funext i
    by_cases h0 : i = 0
    · subst h0
      rw [wS_obj (E := eSw E) (k := 0) (ci := 5) rfl (hM.1 0 (by decide))]
      rfl
    · have h1 : sg i ≠ 0 := by
        unfold sg
        split
        · omega
        · split <;> omega
      simp only [va_up, if_neg h1]
      exact sw_cell hM h0
  rw [e]
  exact k
