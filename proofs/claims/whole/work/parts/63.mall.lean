/-! the words as numbers -/
theorem spB_iff {b : Nat → Nat} {s e : Nat} {l : List Nat} : spB b s e l = true ↔ e - s = l.length ∧ ∀ j, j < l.length → b (s + j) = l.getD j 0 := by
  unfold spB
  rw [Bool.and_eq_true, decide_eq_true_iff, List.all_eq_true]
  constructor
  · intro ⟨h1, h2⟩
    exact ⟨h1, fun j hj => by simpa using h2 j (List.mem_range.mpr hj)⟩
  · intro ⟨h1, h2⟩
    exact ⟨h1, fun j hj => by simpa using h2 j (List.mem_range.mp hj)⟩
theorem let_all {n s : Nat} {b : Nat → Nat} (hs : s < n) (hL : isL (b s) = true) : ∀ j, j < eoT n b s - s → 97 ≤ b (s + j) ∧ b (s + j) ≤ 122 := by
  intro j hj
  have h := runT_all (p := fun j => isL (b j)) (n := n) (i := s) (j := s + j) (by omega) (by rw [← eoT_L hs hL]; omega)
  simpa [isL] using h
theorem hw_0 {n s : Nat} {b : Nat → Nat} (hs : s < n) (hL : isL (b s) = true) : hvI b s (eoT n b s - s) = 21243335 ↔ spB b s (eoT n b s) (chS.getD 0 []) = true := by
  have hlet := let_all hs hL
  have h1 := eoT_lt (n := n) (b := b) (i := s)
  rw [spB_iff]
  generalize eoT n b s - s = L at hlet
  have h1 : (L = 0 ∨ L = 1 ∨ L = 2 ∨ L = 3 ∨ L = 4 ∨ L = 5 ∨ L = 6) ∨ 6 < L := by omega
  unfold hvI
  show _ = lN 21243335 ↔ L = 5 ∧ ∀ j, j < 5 → b (s + j) = [116, 104, 105, 110, 103].getD j 0
  rcases h1 with (e | e | e | e | e | e | e) | e
  · subst e
    rw [if_pos (by decide)]
    simp only [hvN]
    rw [lN_eq (by omega) (by decide)]
    constructor
    · intro h; exfalso; omega
    · intro ⟨h, _⟩; exact absurd h (by decide)
  · subst e
    rw [if_pos (by decide)]
    have l0 := hlet 0 (by decide)
    simp only [hvN]
    rw [lN_eq (by omega) (by decide)]
    constructor
    · intro h; exfalso; omega
    · intro ⟨h, _⟩; exact absurd h (by decide)
  · subst e
    rw [if_pos (by decide)]
    have l0 := hlet 0 (by decide)
    have l1 := hlet 1 (by decide)
    simp only [hvN]
    rw [lN_eq (by omega) (by decide)]
    constructor
    · intro h; exfalso; omega
    · intro ⟨h, _⟩; exact absurd h (by decide)
  · subst e
    rw [if_pos (by decide)]
    have l0 := hlet 0 (by decide)
    have l1 := hlet 1 (by decide)
    have l2 := hlet 2 (by decide)
    simp only [hvN]
    rw [lN_eq (by omega) (by decide)]
    constructor
    · intro h; exfalso; omega
    · intro ⟨h, _⟩; exact absurd h (by decide)
  · subst e
    rw [if_pos (by decide)]
    have l0 := hlet 0 (by decide)
    have l1 := hlet 1 (by decide)
    have l2 := hlet 2 (by decide)
    have l3 := hlet 3 (by decide)
    simp only [hvN]
    rw [lN_eq (by omega) (by decide)]
    constructor
    · intro h; exfalso; omega
    · intro ⟨h, _⟩; exact absurd h (by decide)
  · subst e
    rw [if_pos (by decide)]
    have l0 := hlet 0 (by decide)
    have l1 := hlet 1 (by decide)
    have l2 := hlet 2 (by decide)
    have l3 := hlet 3 (by decide)
    have l4 := hlet 4 (by decide)
    simp only [hvN]
    rw [lN_eq (by omega) (by decide)]
    constructor
    · intro h
      refine ⟨trivial, fun j hj => ?_⟩
      have c0 : b (s + 0) = 116 := by omega
      have c1 : b (s + 1) = 104 := by omega
      have c2 : b (s + 2) = 105 := by omega
      have c3 : b (s + 3) = 110 := by omega
      have c4 : b (s + 4) = 103 := by omega
      rcases (show j = 0 ∨ j = 1 ∨ j = 2 ∨ j = 3 ∨ j = 4 by omega) with q | q | q | q | q <;> subst q
      · exact c0
      · exact c1
      · exact c2
      · exact c3
      · exact c4
    · intro ⟨_, h⟩
      have c0 : b (s + 0) = 116 := h 0 (by decide)
      have c1 : b (s + 1) = 104 := h 1 (by decide)
      have c2 : b (s + 2) = 105 := h 2 (by decide)
      have c3 : b (s + 3) = 110 := h 3 (by decide)
      have c4 : b (s + 4) = 103 := h 4 (by decide)
      omega
  · subst e
    rw [if_pos (by decide)]
    have l0 := hlet 0 (by decide)
    have l1 := hlet 1 (by decide)
    have l2 := hlet 2 (by decide)
    have l3 := hlet 3 (by decide)
    have l4 := hlet 4 (by decide)
    have l5 := hlet 5 (by decide)
    simp only [hvN]
    rw [lN_eq (by omega) (by decide)]
    constructor
    · intro h; exfalso; omega
    · intro ⟨h, _⟩; exact absurd h (by decide)
  · rw [if_neg (by omega)]
    constructor
    · intro h; exact absurd h (by decide)
    · intro ⟨h, _⟩; omega
theorem hw_1 {n s : Nat} {b : Nat → Nat} (hs : s < n) (hL : isL (b s) = true) : hvI b s (eoT n b s - s) = 6456915 ↔ spB b s (eoT n b s) (chS.getD 1 []) = true := by
  have hlet := let_all hs hL
  have h1 := eoT_lt (n := n) (b := b) (i := s)
  rw [spB_iff]
  generalize eoT n b s - s = L at hlet
  have h1 : (L = 0 ∨ L = 1 ∨ L = 2 ∨ L = 3 ∨ L = 4 ∨ L = 5 ∨ L = 6) ∨ 6 < L := by omega
  unfold hvI
  show _ = lN 6456915 ↔ L = 5 ∧ ∀ j, j < 5 → b (s + j) = [102, 101, 97, 114, 115].getD j 0
  rcases h1 with (e | e | e | e | e | e | e) | e
  · subst e
    rw [if_pos (by decide)]
    simp only [hvN]
    rw [lN_eq (by omega) (by decide)]
    constructor
    · intro h; exfalso; omega
    · intro ⟨h, _⟩; exact absurd h (by decide)
  · subst e
    rw [if_pos (by decide)]
    have l0 := hlet 0 (by decide)
    simp only [hvN]
    rw [lN_eq (by omega) (by decide)]
    constructor
    · intro h; exfalso; omega
    · intro ⟨h, _⟩; exact absurd h (by decide)
  · subst e
    rw [if_pos (by decide)]
    have l0 := hlet 0 (by decide)
    have l1 := hlet 1 (by decide)
    simp only [hvN]
    rw [lN_eq (by omega) (by decide)]
    constructor
    · intro h; exfalso; omega
    · intro ⟨h, _⟩; exact absurd h (by decide)
  · subst e
    rw [if_pos (by decide)]
    have l0 := hlet 0 (by decide)
    have l1 := hlet 1 (by decide)
    have l2 := hlet 2 (by decide)
    simp only [hvN]
    rw [lN_eq (by omega) (by decide)]
    constructor
    · intro h; exfalso; omega
    · intro ⟨h, _⟩; exact absurd h (by decide)
  · subst e
    rw [if_pos (by decide)]
    have l0 := hlet 0 (by decide)
    have l1 := hlet 1 (by decide)
    have l2 := hlet 2 (by decide)
    have l3 := hlet 3 (by decide)
    simp only [hvN]
    rw [lN_eq (by omega) (by decide)]
    constructor
    · intro h; exfalso; omega
    · intro ⟨h, _⟩; exact absurd h (by decide)
  · subst e
    rw [if_pos (by decide)]
    have l0 := hlet 0 (by decide)
    have l1 := hlet 1 (by decide)
    have l2 := hlet 2 (by decide)
    have l3 := hlet 3 (by decide)
    have l4 := hlet 4 (by decide)
    simp only [hvN]
    rw [lN_eq (by omega) (by decide)]
    constructor
    · intro h
      refine ⟨trivial, fun j hj => ?_⟩
      have c0 : b (s + 0) = 102 := by omega
      have c1 : b (s + 1) = 101 := by omega
      have c2 : b (s + 2) = 97 := by omega
      have c3 : b (s + 3) = 114 := by omega
      have c4 : b (s + 4) = 115 := by omega
      rcases (show j = 0 ∨ j = 1 ∨ j = 2 ∨ j = 3 ∨ j = 4 by omega) with q | q | q | q | q <;> subst q
      · exact c0
      · exact c1
      · exact c2
      · exact c3
      · exact c4
    · intro ⟨_, h⟩
      have c0 : b (s + 0) = 102 := h 0 (by decide)
      have c1 : b (s + 1) = 101 := h 1 (by decide)
      have c2 : b (s + 2) = 97 := h 2 (by decide)
      have c3 : b (s + 3) = 114 := h 3 (by decide)
      have c4 : b (s + 4) = 115 := h 4 (by decide)
      omega
  · subst e
    rw [if_pos (by decide)]
    have l0 := hlet 0 (by decide)
    have l1 := hlet 1 (by decide)
    have l2 := hlet 2 (by decide)
    have l3 := hlet 3 (by decide)
    have l4 := hlet 4 (by decide)
    have l5 := hlet 5 (by decide)
    simp only [hvN]
    rw [lN_eq (by omega) (by decide)]
    constructor
    · intro h; exfalso; omega
    · intro ⟨h, _⟩; exact absurd h (by decide)
  · rw [if_neg (by omega)]
    constructor
    · intro h; exact absurd h (by decide)
    · intro ⟨h, _⟩; omega
theorem hw_2 {n s : Nat} {b : Nat → Nat} (hs : s < n) (hL : isL (b s) = true) : hvI b s (eoT n b s - s) = 6474329 ↔ spB b s (eoT n b s) (chS.getD 2 []) = true := by
  have hlet := let_all hs hL
  have h1 := eoT_lt (n := n) (b := b) (i := s)
  rw [spB_iff]
  generalize eoT n b s - s = L at hlet
  have h1 : (L = 0 ∨ L = 1 ∨ L = 2 ∨ L = 3 ∨ L = 4 ∨ L = 5 ∨ L = 6) ∨ 6 < L := by omega
  unfold hvI
  show _ = lN 6474329 ↔ L = 5 ∧ ∀ j, j < 5 → b (s + j) = [102, 101, 114, 114, 121].getD j 0
  rcases h1 with (e | e | e | e | e | e | e) | e
  · subst e
    rw [if_pos (by decide)]
    simp only [hvN]
    rw [lN_eq (by omega) (by decide)]
    constructor
    · intro h; exfalso; omega
    · intro ⟨h, _⟩; exact absurd h (by decide)
  · subst e
    rw [if_pos (by decide)]
    have l0 := hlet 0 (by decide)
    simp only [hvN]
    rw [lN_eq (by omega) (by decide)]
    constructor
    · intro h; exfalso; omega
    · intro ⟨h, _⟩; exact absurd h (by decide)
  · subst e
    rw [if_pos (by decide)]
    have l0 := hlet 0 (by decide)
    have l1 := hlet 1 (by decide)
    simp only [hvN]
    rw [lN_eq (by omega) (by decide)]
    constructor
    · intro h; exfalso; omega
    · intro ⟨h, _⟩; exact absurd h (by decide)
  · subst e
    rw [if_pos (by decide)]
    have l0 := hlet 0 (by decide)
    have l1 := hlet 1 (by decide)
    have l2 := hlet 2 (by decide)
    simp only [hvN]
    rw [lN_eq (by omega) (by decide)]
    constructor
    · intro h; exfalso; omega
    · intro ⟨h, _⟩; exact absurd h (by decide)
  · subst e
    rw [if_pos (by decide)]
    have l0 := hlet 0 (by decide)
    have l1 := hlet 1 (by decide)
    have l2 := hlet 2 (by decide)
    have l3 := hlet 3 (by decide)
    simp only [hvN]
    rw [lN_eq (by omega) (by decide)]
    constructor
    · intro h; exfalso; omega
    · intro ⟨h, _⟩; exact absurd h (by decide)
  · subst e
    rw [if_pos (by decide)]
    have l0 := hlet 0 (by decide)
    have l1 := hlet 1 (by decide)
    have l2 := hlet 2 (by decide)
    have l3 := hlet 3 (by decide)
    have l4 := hlet 4 (by decide)
    simp only [hvN]
    rw [lN_eq (by omega) (by decide)]
    constructor
    · intro h
      refine ⟨trivial, fun j hj => ?_⟩
      have c0 : b (s + 0) = 102 := by omega
      have c1 : b (s + 1) = 101 := by omega
      have c2 : b (s + 2) = 114 := by omega
      have c3 : b (s + 3) = 114 := by omega
      have c4 : b (s + 4) = 121 := by omega
      rcases (show j = 0 ∨ j = 1 ∨ j = 2 ∨ j = 3 ∨ j = 4 by omega) with q | q | q | q | q <;> subst q
      · exact c0
      · exact c1
      · exact c2
      · exact c3
      · exact c4
    · intro ⟨_, h⟩
      have c0 : b (s + 0) = 102 := h 0 (by decide)
      have c1 : b (s + 1) = 101 := h 1 (by decide)
      have c2 : b (s + 2) = 114 := h 2 (by decide)
      have c3 : b (s + 3) = 114 := h 3 (by decide)
      have c4 : b (s + 4) = 121 := h 4 (by decide)
      omega
  · subst e
    rw [if_pos (by decide)]
    have l0 := hlet 0 (by decide)
    have l1 := hlet 1 (by decide)
    have l2 := hlet 2 (by decide)
    have l3 := hlet 3 (by decide)
    have l4 := hlet 4 (by decide)
    have l5 := hlet 5 (by decide)
    simp only [hvN]
    rw [lN_eq (by omega) (by decide)]
    constructor
    · intro h; exfalso; omega
    · intro ⟨h, _⟩; exact absurd h (by decide)
  · rw [if_neg (by omega)]
    constructor
    · intro h; exact absurd h (by decide)
    · intro ⟨h, _⟩; omega
theorem hw_3 {n s : Nat} {b : Nat → Nat} (hs : s < n) (hL : isL (b s) = true) : hvI b s (eoT n b s - s) = 408612 ↔ spB b s (eoT n b s) (chS.getD 3 []) = true := by
  have hlet := let_all hs hL
  have h1 := eoT_lt (n := n) (b := b) (i := s)
  rw [spB_iff]
  generalize eoT n b s - s = L at hlet
  have h1 : (L = 0 ∨ L = 1 ∨ L = 2 ∨ L = 3 ∨ L = 4 ∨ L = 5 ∨ L = 6) ∨ 6 < L := by omega
  unfold hvI
  show _ = lN 408612 ↔ L = 4 ∧ ∀ j, j < 4 → b (s + j) = [108, 111, 97, 100].getD j 0
  rcases h1 with (e | e | e | e | e | e | e) | e
  · subst e
    rw [if_pos (by decide)]
    simp only [hvN]
    rw [lN_eq (by omega) (by decide)]
    constructor
    · intro h; exfalso; omega
    · intro ⟨h, _⟩; exact absurd h (by decide)
  · subst e
    rw [if_pos (by decide)]
    have l0 := hlet 0 (by decide)
    simp only [hvN]
    rw [lN_eq (by omega) (by decide)]
    constructor
    · intro h; exfalso; omega
    · intro ⟨h, _⟩; exact absurd h (by decide)
  · subst e
    rw [if_pos (by decide)]
    have l0 := hlet 0 (by decide)
    have l1 := hlet 1 (by decide)
    simp only [hvN]
    rw [lN_eq (by omega) (by decide)]
    constructor
    · intro h; exfalso; omega
    · intro ⟨h, _⟩; exact absurd h (by decide)
  · subst e
    rw [if_pos (by decide)]
    have l0 := hlet 0 (by decide)
    have l1 := hlet 1 (by decide)
    have l2 := hlet 2 (by decide)
    simp only [hvN]
    rw [lN_eq (by omega) (by decide)]
    constructor
    · intro h; exfalso; omega
    · intro ⟨h, _⟩; exact absurd h (by decide)
  · subst e
    rw [if_pos (by decide)]
    have l0 := hlet 0 (by decide)
    have l1 := hlet 1 (by decide)
    have l2 := hlet 2 (by decide)
    have l3 := hlet 3 (by decide)
    simp only [hvN]
    rw [lN_eq (by omega) (by decide)]
    constructor
    · intro h
      refine ⟨trivial, fun j hj => ?_⟩
      have c0 : b (s + 0) = 108 := by omega
      have c1 : b (s + 1) = 111 := by omega
      have c2 : b (s + 2) = 97 := by omega
      have c3 : b (s + 3) = 100 := by omega
      rcases (show j = 0 ∨ j = 1 ∨ j = 2 ∨ j = 3 by omega) with q | q | q | q <;> subst q
      · exact c0
      · exact c1
      · exact c2
      · exact c3
    · intro ⟨_, h⟩
      have c0 : b (s + 0) = 108 := h 0 (by decide)
      have c1 : b (s + 1) = 111 := h 1 (by decide)
      have c2 : b (s + 2) = 97 := h 2 (by decide)
      have c3 : b (s + 3) = 100 := h 3 (by decide)
      omega
  · subst e
    rw [if_pos (by decide)]
    have l0 := hlet 0 (by decide)
    have l1 := hlet 1 (by decide)
    have l2 := hlet 2 (by decide)
    have l3 := hlet 3 (by decide)
    have l4 := hlet 4 (by decide)
    simp only [hvN]
    rw [lN_eq (by omega) (by decide)]
    constructor
    · intro h; exfalso; omega
    · intro ⟨h, _⟩; exact absurd h (by decide)
  · subst e
    rw [if_pos (by decide)]
    have l0 := hlet 0 (by decide)
    have l1 := hlet 1 (by decide)
    have l2 := hlet 2 (by decide)
    have l3 := hlet 3 (by decide)
    have l4 := hlet 4 (by decide)
    have l5 := hlet 5 (by decide)
    simp only [hvN]
    rw [lN_eq (by omega) (by decide)]
    constructor
    · intro h; exfalso; omega
    · intro ⟨h, _⟩; exact absurd h (by decide)
  · rw [if_neg (by omega)]
    constructor
    · intro h; exact absurd h (by decide)
    · intro ⟨h, _⟩; omega
theorem hw_4 {n s : Nat} {b : Nat → Nat} (hs : s < n) (hL : isL (b s) = true) : hvI b s (eoT n b s - s) = 132915 ↔ spB b s (eoT n b s) (chS.getD 4 []) = true := by
  have hlet := let_all hs hL
  have h1 := eoT_lt (n := n) (b := b) (i := s)
  rw [spB_iff]
  generalize eoT n b s - s = L at hlet
  have h1 : (L = 0 ∨ L = 1 ∨ L = 2 ∨ L = 3 ∨ L = 4 ∨ L = 5 ∨ L = 6) ∨ 6 < L := by omega
  unfold hvI
  show _ = lN 132915 ↔ L = 4 ∧ ∀ j, j < 4 → b (s + j) = [100, 97, 121, 115].getD j 0
  rcases h1 with (e | e | e | e | e | e | e) | e
  · subst e
    rw [if_pos (by decide)]
    simp only [hvN]
    rw [lN_eq (by omega) (by decide)]
    constructor
    · intro h; exfalso; omega
    · intro ⟨h, _⟩; exact absurd h (by decide)
  · subst e
    rw [if_pos (by decide)]
    have l0 := hlet 0 (by decide)
    simp only [hvN]
    rw [lN_eq (by omega) (by decide)]
    constructor
    · intro h; exfalso; omega
    · intro ⟨h, _⟩; exact absurd h (by decide)
  · subst e
    rw [if_pos (by decide)]
    have l0 := hlet 0 (by decide)
    have l1 := hlet 1 (by decide)
    simp only [hvN]
    rw [lN_eq (by omega) (by decide)]
    constructor
    · intro h; exfalso; omega
    · intro ⟨h, _⟩; exact absurd h (by decide)
  · subst e
    rw [if_pos (by decide)]
    have l0 := hlet 0 (by decide)
    have l1 := hlet 1 (by decide)
    have l2 := hlet 2 (by decide)
    simp only [hvN]
    rw [lN_eq (by omega) (by decide)]
    constructor
    · intro h; exfalso; omega
    · intro ⟨h, _⟩; exact absurd h (by decide)
  · subst e
    rw [if_pos (by decide)]
    have l0 := hlet 0 (by decide)
    have l1 := hlet 1 (by decide)
    have l2 := hlet 2 (by decide)
    have l3 := hlet 3 (by decide)
    simp only [hvN]
    rw [lN_eq (by omega) (by decide)]
    constructor
    · intro h
      refine ⟨trivial, fun j hj => ?_⟩
      have c0 : b (s + 0) = 100 := by omega
      have c1 : b (s + 1) = 97 := by omega
      have c2 : b (s + 2) = 121 := by omega
      have c3 : b (s + 3) = 115 := by omega
      rcases (show j = 0 ∨ j = 1 ∨ j = 2 ∨ j = 3 by omega) with q | q | q | q <;> subst q
      · exact c0
      · exact c1
      · exact c2
      · exact c3
    · intro ⟨_, h⟩
      have c0 : b (s + 0) = 100 := h 0 (by decide)
      have c1 : b (s + 1) = 97 := h 1 (by decide)
      have c2 : b (s + 2) = 121 := h 2 (by decide)
      have c3 : b (s + 3) = 115 := h 3 (by decide)
      omega
  · subst e
    rw [if_pos (by decide)]
    have l0 := hlet 0 (by decide)
    have l1 := hlet 1 (by decide)
    have l2 := hlet 2 (by decide)
    have l3 := hlet 3 (by decide)
    have l4 := hlet 4 (by decide)
    simp only [hvN]
    rw [lN_eq (by omega) (by decide)]
    constructor
    · intro h; exfalso; omega
    · intro ⟨h, _⟩; exact absurd h (by decide)
  · subst e
    rw [if_pos (by decide)]
    have l0 := hlet 0 (by decide)
    have l1 := hlet 1 (by decide)
    have l2 := hlet 2 (by decide)
    have l3 := hlet 3 (by decide)
    have l4 := hlet 4 (by decide)
    have l5 := hlet 5 (by decide)
    simp only [hvN]
    rw [lN_eq (by omega) (by decide)]
    constructor
    · intro h; exfalso; omega
    · intro ⟨h, _⟩; exact absurd h (by decide)
  · rw [if_neg (by omega)]
    constructor
    · intro h; exact absurd h (by decide)
    · intro ⟨h, _⟩; omega
theorem hw_5 {n s : Nat} {b : Nat → Nat} (hs : s < n) (hL : isL (b s) = true) : hvI b s (eoT n b s - s) = 6897268 ↔ spB b s (eoT n b s) (chS.getD 5 []) = true := by
  have hlet := let_all hs hL
  have h1 := eoT_lt (n := n) (b := b) (i := s)
  rw [spB_iff]
  generalize eoT n b s - s = L at hlet
  have h1 : (L = 0 ∨ L = 1 ∨ L = 2 ∨ L = 3 ∨ L = 4 ∨ L = 5 ∨ L = 6) ∨ 6 < L := by omega
  unfold hvI
  show _ = lN 6897268 ↔ L = 5 ∧ ∀ j, j < 5 → b (s + j) = [102, 114, 111, 115, 116].getD j 0
  rcases h1 with (e | e | e | e | e | e | e) | e
  · subst e
    rw [if_pos (by decide)]
    simp only [hvN]
    rw [lN_eq (by omega) (by decide)]
    constructor
    · intro h; exfalso; omega
    · intro ⟨h, _⟩; exact absurd h (by decide)
  · subst e
    rw [if_pos (by decide)]
    have l0 := hlet 0 (by decide)
    simp only [hvN]
    rw [lN_eq (by omega) (by decide)]
    constructor
    · intro h; exfalso; omega
    · intro ⟨h, _⟩; exact absurd h (by decide)
  · subst e
    rw [if_pos (by decide)]
    have l0 := hlet 0 (by decide)
    have l1 := hlet 1 (by decide)
    simp only [hvN]
    rw [lN_eq (by omega) (by decide)]
    constructor
    · intro h; exfalso; omega
    · intro ⟨h, _⟩; exact absurd h (by decide)
  · subst e
    rw [if_pos (by decide)]
    have l0 := hlet 0 (by decide)
    have l1 := hlet 1 (by decide)
    have l2 := hlet 2 (by decide)
    simp only [hvN]
    rw [lN_eq (by omega) (by decide)]
    constructor
    · intro h; exfalso; omega
    · intro ⟨h, _⟩; exact absurd h (by decide)
  · subst e
    rw [if_pos (by decide)]
    have l0 := hlet 0 (by decide)
    have l1 := hlet 1 (by decide)
    have l2 := hlet 2 (by decide)
    have l3 := hlet 3 (by decide)
    simp only [hvN]
    rw [lN_eq (by omega) (by decide)]
    constructor
    · intro h; exfalso; omega
    · intro ⟨h, _⟩; exact absurd h (by decide)
  · subst e
    rw [if_pos (by decide)]
    have l0 := hlet 0 (by decide)
    have l1 := hlet 1 (by decide)
    have l2 := hlet 2 (by decide)
    have l3 := hlet 3 (by decide)
    have l4 := hlet 4 (by decide)
    simp only [hvN]
    rw [lN_eq (by omega) (by decide)]
    constructor
    · intro h
      refine ⟨trivial, fun j hj => ?_⟩
      have c0 : b (s + 0) = 102 := by omega
      have c1 : b (s + 1) = 114 := by omega
      have c2 : b (s + 2) = 111 := by omega
      have c3 : b (s + 3) = 115 := by omega
      have c4 : b (s + 4) = 116 := by omega
      rcases (show j = 0 ∨ j = 1 ∨ j = 2 ∨ j = 3 ∨ j = 4 by omega) with q | q | q | q | q <;> subst q
      · exact c0
      · exact c1
      · exact c2
      · exact c3
      · exact c4
    · intro ⟨_, h⟩
      have c0 : b (s + 0) = 102 := h 0 (by decide)
      have c1 : b (s + 1) = 114 := h 1 (by decide)
      have c2 : b (s + 2) = 111 := h 2 (by decide)
      have c3 : b (s + 3) = 115 := h 3 (by decide)
      have c4 : b (s + 4) = 116 := h 4 (by decide)
      omega
  · subst e
    rw [if_pos (by decide)]
    have l0 := hlet 0 (by decide)
    have l1 := hlet 1 (by decide)
    have l2 := hlet 2 (by decide)
    have l3 := hlet 3 (by decide)
    have l4 := hlet 4 (by decide)
    have l5 := hlet 5 (by decide)
    simp only [hvN]
    rw [lN_eq (by omega) (by decide)]
    constructor
    · intro h; exfalso; omega
    · intro ⟨h, _⟩; exact absurd h (by decide)
  · rw [if_neg (by omega)]
    constructor
    · intro h; exact absurd h (by decide)
    · intro ⟨h, _⟩; omega
theorem numE_ok2 {n lo hx p v p' : Nat} {b : Nat → Nat} (h : numE n b lo hx p = .ok (v, p')) : lo ≤ v ∧ v < hx ∧ p < p' ∧ p' ≤ n := by
  obtain ⟨h1, h2, h3, h4⟩ := numE_lt h
  exact ⟨h1, h2, by rw [h3]; exact tNx_gt, by rw [h3]; exact tNx_le h4⟩
theorem stpE_ok2 {n p p' : Nat} {b : Nat → Nat} (h : stpE n b p = .ok p') : p < p' ∧ p' ≤ n := by
  obtain ⟨h3, h4⟩ := stpE_lt h
  exact ⟨by rw [h3]; exact tNx_gt, by rw [h3]; exact tNx_le h4⟩
theorem itemS_ok {n p p' : Nat} {b : Nat → Nat} {s s' : RS} (hO : RsOK s) (h : itemS n b s p = .ok (s', p')) : RsOK s' ∧ p < p' ∧ p' ≤ n := by
  have hgt := tNx_gt (n := n) (b := b) (p := p)
  unfold itemS at h
  split at h
  · unfold thingS at h
    split at h
    · cases h
    · rename_i hm
      split at h
      · cases h
      · rename_i bk p1 e1
        split at h
        · cases h
        · rename_i wa p2 e2
          split at h
          · cases h
          · rename_i re p3 e3
            split at h
            · cases h
            · rename_i we p4 e4
              split at h
              · cases h
              · rename_i p5 e5
                cases h
                have a1 := numE_ok2 e1
                have a2 := numE_ok2 e2
                have a3 := numE_ok2 e3
                have a4 := numE_ok2 e4
                have a5 := stpE_ok2 e5
                exact ⟨addT_ok hO (by omega) (by omega) (by omega) (by omega) (by omega) (by omega), by omega, by omega⟩
  · split at h
    · unfold fearsS at h
      split at h
      · cases h
      · rename_i hm
        split at h
        · cases h
        · rename_i a p1 e1
          split at h
          · cases h
          · rename_i c p2 e2
            split at h
            · cases h
            · rename_i hne
              split at h
              · cases h
              · rename_i p3 e3
                cases h
                have a1 := numE_ok2 e1
                have a2 := numE_ok2 e2
                have a3 := stpE_ok2 e3
                exact ⟨addP_ok hO (by omega) (by omega) (fun z => hne z.symm) (by omega), by omega, by omega⟩
    · split at h
      · rename_i h6
        have h9 := tKn_le (n := n) (b := b) (p := p)
        unfold onceS at h
        split at h
        · split at h
          · cases h
          · rename_i v p1 e1
            split at h
            · cases h
            · rename_i p2 e2
              cases h
              have a1 := numE_ok2 e1
              have a2 := stpE_ok2 e2
              exact ⟨setO_ok hO (by omega) (by omega) (by omega), by omega, by omega⟩
        · cases h
      · cases h
theorem tK_let {n s : Nat} {b : Nat → Nat} (hs : s < n) (hL : isL (b s) = true) : tKn n b s = wdN b s (eoT n b s) := by
  unfold tKn tkN
  rw [if_pos hs, if_pos hL]
theorem tK_nlet {n s : Nat} {b : Nat → Nat} (h : ¬ (s < n ∧ isL (b s) = true)) : tKn n b s ≤ 3 := by
  unfold tKn
  split
  · rename_i q
    unfold tkN
    rw [if_neg (fun z => h ⟨q, z⟩)]
    split
    · omega
    · split <;> omega
  · omega
theorem kEnd_1 {n s : Nat} {b : Nat → Nat} : kEnd n b s = 1 ↔ s < n ∧ isL (b s) = true := by
  constructor
  · intro h
    unfold kEnd at h
    split at h
    · cases h
    · exact kdN_1 h
  · intro ⟨h1, h2⟩
    have hk : kdN n b s = 1 := by unfold kdN; rw [if_neg (by omega), if_pos h2]
    unfold kEnd
    rw [hk, if_neg (by simp)]
theorem kEnd_0 {n s : Nat} {b : Nat → Nat} : kEnd n b s = 0 ↔ n ≤ s := by
  have hk : kdN n b s = 0 ↔ n ≤ s := by
    unfold kdN
    split
    · rename_i q; exact ⟨fun _ => q, fun _ => rfl⟩
    · rename_i q
      constructor
      · intro z
        split at z
        · cases z
        · split at z
          · cases z
          · split at z <;> cases z
      · intro z; exact absurd z q
  unfold kEnd
  split
  · rename_i q
    rw [q.1] at hk
    constructor
    · intro z; cases z
    · intro z; have := hk.mpr z; cases this
  · exact hk
theorem kEnd_lt {n s : Nat} {b : Nat → Nat} : kEnd n b s < 5 := by
  unfold kEnd; split
  · decide
  · exact kdN_lt
theorem vEnd_L {n s : Nat} {b : Nat → Nat} (hs : s < n) (hL : isL (b s) = true) : vEnd n b s = hvI b s (eoT n b s - s) ∧ xEnd n b s = eoT n b s := by
  have hk : kdN n b s = 1 := by unfold kdN; rw [if_neg (by omega), if_pos hL]
  unfold vEnd xEnd
  rw [hk, if_pos rfl, if_pos (Or.inl rfl)]
  exact ⟨rfl, rfl⟩
theorem item_bad {n p : Nat} {b : Nat → Nat} {s : RS} (h : tKn n b p ≤ 3) : itemS n b s p = .error p := by
  unfold itemS
  rw [if_neg (by omega), if_neg (by omega), if_neg (by omega)]
