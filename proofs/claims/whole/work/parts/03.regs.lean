/-! the cells by registers: g the int fields (100 times the cell, and the slot), h the long ones, T the rows of ints and booleans, L the rows of longs -/
def dsc : Nat → List (Nat × Nat)
  | 0 => [(0, 0), (0, 0), (0, 0), (0, 0), (0, 0), (2, 1), (2, 2)]
  | 1 => [(0, 0), (2, 1), (2, 2), (2, 3), (2, 4), (2, 5)]
  | 2 => [(3, 1), (0, 0), (2, 1), (2, 2), (2, 3), (0, 0), (0, 0), (0, 0)]
  | 3 => [(0, 0), (0, 0), (0, 0), (0, 0), (0, 0), (0, 0), (0, 0), (2, 1), (2, 2), (2, 3), (2, 4), (0, 0), (0, 0), (2, 5), (2, 6)]
  | 4 => [(0, 0), (2, 1), (2, 2), (2, 3), (2, 4)]
  | 5 => [(2, 1), (0, 0), (2, 2), (2, 6), (2, 13), (2, 20), (2, 23), (2, 24), (2, 25), (2, 31), (1, 0)]
  | _ => [(2, 1), (0, 0), (0, 0), (0, 0), (2, 2), (2, 3), (2, 4), (2, 5), (0, 0), (0, 0), (0, 0), (0, 0), (0, 0), (0, 0), (0, 0), (0, 0), (2, 6), (0, 0), (2, 7), (2, 8), (2, 9), (2, 10), (1, 0), (0, 0), (0, 0), (0, 0), (1, 0), (0, 0), (0, 0), (2, 11), (2, 12), (2, 13), (2, 14), (2, 15), (0, 0), (2, 16), (2, 17), (2, 18), (2, 19)]
def kdL : List (Nat × Nat) := [(0, 5), (1, 200), (0, 2), (1, 201), (1, 201), (1, 201), (0, 3), (1, 7), (1, 7), (1, 7), (1, 7), (1, 128), (3, 128), (0, 3), (1, 7), (1, 7), (1, 7), (1, 7), (1, 128), (3, 128), (0, 0), (1, 10), (1, 10), (4, 2), (3, 2), (0, 1), (1, 256), (1, 256), (1, 256), (1, 256), (3, 256), (0, 4), (1, 8), (1, 8), (1, 8), (5, 6), (2, 256), (2, 256), (2, 256), (2, 256), (2, 256), (2, 256), (0, 0), (1, 10), (1, 10), (0, 0), (1, 10), (1, 10), (0, 6), (1, 200), (1, 7), (1, 7), (1, 7), (1, 7), (1, 20), (1, 8), (1, 8), (1, 8), (1, 60), (1, 28), (1, 7), (1, 4), (1, 256), (1, 256), (3, 256), (1, 256), (2, 256), (2, 256)]
def kd (k : Nat) : Nat × Nat := kdL.getD k (9, 0)
def fsG (ad : Nat → Nat) (g : Nat → Int32) (h : Nat → Int64) (k : Nat) : Nat → List (Nat × Nat) → List Value
  | _, [] => []
  | j, (0, _) :: l => Value.int (g (100 * k + j)) :: fsG ad g h k (j + 1) l
  | j, (1, _) :: l => Value.long (h (100 * k + j)) :: fsG ad g h k (j + 1) l
  | j, (2, d) :: l => Value.ref (ad (k + d)) :: fsG ad g h k (j + 1) l
  | j, (_, d) :: l => (if g (100 * k + j) = 0 then Value.null else Value.ref (ad d)) :: fsG ad g h k (j + 1) l
def qRow (f : Nat → Option Nat) : (Nat → Int32) ⊕ (Nat → Int64) ⊕ (Nat → UInt32) ⊕ (Nat → UInt64) ⊕ (Nat → Option Nat) := .inr (.inr (.inr (.inr f)))
def cellG (E : EN) (g : Nat → Int32) (h : Nat → Int64) (T : Nat → Nat → Int32) (L : Nat → Nat → Int64) (k : Nat) : va_E := match kd k with
  | (0, ci) => .inr (ci, fsG (eA E) g h k 0 (dsc ci))
  | (1, n) => .inl (eC E 0, n, .inl (T k))
  | (2, n) => .inl (eC E 1, n, .inr (.inl (L k)))
  | (3, n) => .inl (eC E 2, n, .inl (T k))
  | (4, n) => .inl (eC E 3, n, qRow (fun j => some (eA E (42 + 3 * j))))
  | (_, n) => .inl (eC E 4, n, qRow (fun j => some (eA E (36 + j))))
def wS (E : EN) (g : Nat → Int32) (h : Nat → Int64) (T : Nat → Nat → Int32) (L : Nat → Nat → Int64) : Nat → va_E := fun k => if eS E k = true then cellG E g h T L k else eW E k
theorem kd_small (k : Nat) : (kd k).2 < 2 ^ 31 := by
  by_cases hk : k < 68
  · have h : (List.range 68).all (fun k => decide ((kd k).2 < 1000)) = true := by decide +kernel
    have := List.all_eq_true.mp h k (List.mem_range.mpr hk)
    have := of_decide_eq_true this
    omega
  · have : kd k = (9, 0) := by
      unfold kd
      rw [List.getD_eq_getElem?_getD, List.getElem?_eq_none (by show 68 ≤ k; omega)]
      rfl
    rw [this]
    decide
theorem dsc_len (ci : Nat) : (dsc ci).length ≤ 39 := by
  unfold dsc
  split <;> decide
theorem fsG_get0 {ad : Nat → Nat} {g : Nat → Int32} {h : Nat → Int64} {k : Nat} : ∀ (l : List (Nat × Nat)) (b j d : Nat), l[j]? = some (0, d) → (fsG ad g h k b l)[j]? = some (.int (g (100 * k + (b + j))))
  | [], _, _, _, h => by simp at h
  | (t, e) :: l, b, 0, d, hh => by
    simp at hh
    obtain ⟨rfl, rfl⟩ := hh
    simp [fsG]
  | (t, e) :: l, b, j + 1, d, hh => by
    have := fsG_get0 (ad := ad) (g := g) (h := h) (k := k) l (b + 1) j d (by simpa using hh)
    rw [show b + 1 + j = b + (j + 1) by omega] at this
    match t with
    | 0 => simpa [fsG] using this
    | 1 => simpa [fsG] using this
    | 2 => simpa [fsG] using this
    | t + 3 => simpa [fsG] using this
theorem fsG_get1 {ad : Nat → Nat} {g : Nat → Int32} {h : Nat → Int64} {k : Nat} : ∀ (l : List (Nat × Nat)) (b j d : Nat), l[j]? = some (1, d) → (fsG ad g h k b l)[j]? = some (.long (h (100 * k + (b + j))))
  | [], _, _, _, h => by simp at h
  | (t, e) :: l, b, 0, d, hh => by
    simp at hh
    obtain ⟨rfl, rfl⟩ := hh
    simp [fsG]
  | (t, e) :: l, b, j + 1, d, hh => by
    have := fsG_get1 (ad := ad) (g := g) (h := h) (k := k) l (b + 1) j d (by simpa using hh)
    rw [show b + 1 + j = b + (j + 1) by omega] at this
    match t with
    | 0 => simpa [fsG] using this
    | 1 => simpa [fsG] using this
    | 2 => simpa [fsG] using this
    | t + 3 => simpa [fsG] using this
theorem fsG_get2 {ad : Nat → Nat} {g : Nat → Int32} {h : Nat → Int64} {k : Nat} : ∀ (l : List (Nat × Nat)) (b j d : Nat), l[j]? = some (2, d) → (fsG ad g h k b l)[j]? = some (.ref (ad (k + d)))
  | [], _, _, _, h => by simp at h
  | (t, e) :: l, b, 0, d, hh => by
    simp at hh
    obtain ⟨rfl, rfl⟩ := hh
    simp [fsG]
  | (t, e) :: l, b, j + 1, d, hh => by
    have := fsG_get2 (ad := ad) (g := g) (h := h) (k := k) l (b + 1) j d (by simpa using hh)
    match t with
    | 0 => simpa [fsG] using this
    | 1 => simpa [fsG] using this
    | 2 => simpa [fsG] using this
    | t + 3 => simpa [fsG] using this
theorem fsG_get3 {ad : Nat → Nat} {g : Nat → Int32} {h : Nat → Int64} {k : Nat} : ∀ (l : List (Nat × Nat)) (b j d : Nat), l[j]? = some (3, d) → (fsG ad g h k b l)[j]? = some (if g (100 * k + (b + j)) = 0 then Value.null else Value.ref (ad d))
  | [], _, _, _, h => by simp at h
  | (t, e) :: l, b, 0, d, hh => by
    simp at hh
    obtain ⟨rfl, rfl⟩ := hh
    simp [fsG]
  | (t, e) :: l, b, j + 1, d, hh => by
    have := fsG_get3 (ad := ad) (g := g) (h := h) (k := k) l (b + 1) j d (by simpa using hh)
    rw [show b + 1 + j = b + (j + 1) by omega] at this
    match t with
    | 0 => simpa [fsG] using this
    | 1 => simpa [fsG] using this
    | 2 => simpa [fsG] using this
    | t + 3 => simpa [fsG] using this
theorem fsG_len {ad : Nat → Nat} {g : Nat → Int32} {h : Nat → Int64} {k : Nat} : ∀ (l : List (Nat × Nat)) (b : Nat), (fsG ad g h k b l).length = l.length
  | [], _ => rfl
  | (t, e) :: l, b => by
    have := fsG_len (ad := ad) (g := g) (h := h) (k := k) l (b + 1)
    match t with
    | 0 => simp [fsG, this]
    | 1 => simp [fsG, this]
    | 2 => simp [fsG, this]
    | t + 3 => simp [fsG, this]
/-- rows of the same registers where they are read -/
theorem fsG_congr {ad : Nat → Nat} {g g' : Nat → Int32} {h h' : Nat → Int64} {k : Nat} : ∀ (l : List (Nat × Nat)) (b : Nat), (∀ j, b ≤ j → j < b + l.length → g (100 * k + j) = g' (100 * k + j) ∧ h (100 * k + j) = h' (100 * k + j)) → fsG ad g h k b l = fsG ad g' h' k b l
  | [], _, _ => rfl
  | (t, e) :: l, b, hh => by
    have ih := fsG_congr (ad := ad) (g := g) (g' := g') (h := h) (h' := h') (k := k) l (b + 1) (fun j h1 h2 => hh j (by omega) (by simp; omega))
    have h0 := hh b (Nat.le_refl _) (by simp)
    match t with
    | 0 => simp [fsG, ih, h0.1]
    | 1 => simp [fsG, ih, h0.2]
    | 2 => simp [fsG, ih]
    | t + 3 => simp [fsG, ih, h0.1]
theorem fsG_set0 {ad : Nat → Nat} {g : Nat → Int32} {h : Nat → Int64} {k : Nat} (v : Int32) : ∀ (l : List (Nat × Nat)) (b j d : Nat), l[j]? = some (0, d) → (fsG ad g h k b l).set j (.int v) = fsG ad (upd g (100 * k + (b + j)) v) h k b l
  | [], _, _, _, h => by simp at h
  | (t, e) :: l, b, 0, d, hh => by
    simp at hh
    obtain ⟨rfl, rfl⟩ := hh
    have := fsG_congr (ad := ad) (g := g) (g' := upd g (100 * k + b) v) (h := h) (h' := h) (k := k) l (b + 1) (fun j h1 h2 => ⟨by unfold upd; rw [if_neg (by omega)], rfl⟩)
    simp only [fsG, List.set_cons_zero, Nat.add_zero]
    rw [this]
    simp [upd]
  | (t, e) :: l, b, j + 1, d, hh => by
    have := fsG_set0 (ad := ad) (g := g) (h := h) (k := k) v l (b + 1) j d (by simpa using hh)
    rw [show b + 1 + j = b + (j + 1) by omega] at this
    have hne : upd g (100 * k + (b + (j + 1))) v (100 * k + b) = g (100 * k + b) := by unfold upd; rw [if_neg (by omega)]
    match t with
    | 0 => simp only [fsG, List.set_cons_succ, this, hne]
    | 1 => simp only [fsG, List.set_cons_succ, this]
    | 2 => simp only [fsG, List.set_cons_succ, this]
    | t + 3 => simp only [fsG, List.set_cons_succ, this, hne]
theorem fsG_set1 {ad : Nat → Nat} {g : Nat → Int32} {h : Nat → Int64} {k : Nat} (v : Int64) : ∀ (l : List (Nat × Nat)) (b j d : Nat), l[j]? = some (1, d) → (fsG ad g h k b l).set j (.long v) = fsG ad g (vp_updL h (100 * k + (b + j)) v) k b l
  | [], _, _, _, h => by simp at h
  | (t, e) :: l, b, 0, d, hh => by
    simp at hh
    obtain ⟨rfl, rfl⟩ := hh
    have := fsG_congr (ad := ad) (g := g) (g' := g) (h := h) (h' := vp_updL h (100 * k + b) v) (k := k) l (b + 1) (fun j h1 h2 => ⟨rfl, by unfold vp_updL; rw [if_neg (by omega)]⟩)
    simp only [fsG, List.set_cons_zero, Nat.add_zero]
    rw [this]
    simp [vp_updL]
  | (t, e) :: l, b, j + 1, d, hh => by
    have := fsG_set1 (ad := ad) (g := g) (h := h) (k := k) v l (b + 1) j d (by simpa using hh)
    rw [show b + 1 + j = b + (j + 1) by omega] at this
    have hne : vp_updL h (100 * k + (b + (j + 1))) v (100 * k + b) = h (100 * k + b) := by unfold vp_updL; rw [if_neg (by omega)]
    match t with
    | 0 => simp only [fsG, List.set_cons_succ, this]
    | 1 => simp only [fsG, List.set_cons_succ, this, hne]
    | 2 => simp only [fsG, List.set_cons_succ, this]
    | t + 3 => simp only [fsG, List.set_cons_succ, this]
theorem fsG_set3 {ad : Nat → Nat} {g : Nat → Int32} {h : Nat → Int64} {k : Nat} : ∀ (l : List (Nat × Nat)) (b j d : Nat), l[j]? = some (3, d) → (fsG ad g h k b l).set j (.ref (ad d)) = fsG ad (upd g (100 * k + (b + j)) 1) h k b l
  | [], _, _, _, h => by simp at h
  | (t, e) :: l, b, 0, d, hh => by
    simp at hh
    obtain ⟨rfl, rfl⟩ := hh
    have := fsG_congr (ad := ad) (g := g) (g' := upd g (100 * k + b) 1) (h := h) (h' := h) (k := k) l (b + 1) (fun j h1 h2 => ⟨by unfold upd; rw [if_neg (by omega)], rfl⟩)
    simp only [fsG, List.set_cons_zero, Nat.add_zero]
    rw [this]
    simp [upd]
  | (t, e) :: l, b, j + 1, d, hh => by
    have := fsG_set3 (ad := ad) (g := g) (h := h) (k := k) l (b + 1) j d (by simpa using hh)
    rw [show b + 1 + j = b + (j + 1) by omega] at this
    have hne : upd g (100 * k + (b + (j + 1))) 1 (100 * k + b) = g (100 * k + b) := by unfold upd; rw [if_neg (by omega)]
    match t with
    | 0 => simp only [fsG, List.set_cons_succ, this, hne]
    | 1 => simp only [fsG, List.set_cons_succ, this]
    | 2 => simp only [fsG, List.set_cons_succ, this]
    | t + 3 => simp only [fsG, List.set_cons_succ, this, hne]
section WS
variable {E : EN} {g : Nat → Int32} {h : Nat → Int64} {T : Nat → Nat → Int32} {L : Nat → Nat → Int64} {k n : Nat}
theorem wS_obj {ci : Nat} (hk : kd k = (0, ci)) (hs : eS E k = true) : wS E g h T L k = .inr (ci, fsG (eA E) g h k 0 (dsc ci)) := by
  simp [wS, hs, cellG, hk]
theorem wS_int (hk : kd k = (1, n)) (hs : eS E k = true) : wS E g h T L k = .inl (eC E 0, n, .inl (T k)) := by
  simp [wS, hs, cellG, hk]
theorem wS_long (hk : kd k = (2, n)) (hs : eS E k = true) : wS E g h T L k = .inl (eC E 1, n, .inr (.inl (L k))) := by
  simp [wS, hs, cellG, hk]
theorem wS_bool (hk : kd k = (3, n)) (hs : eS E k = true) : wS E g h T L k = .inl (eC E 2, n, .inl (T k)) := by
  simp [wS, hs, cellG, hk]
theorem wS_moms (hk : kd k = (4, n)) (hs : eS E k = true) : wS E g h T L k = .inl (eC E 3, n, .inr (.inr (.inr (.inr (fun j => some (eA E (42 + 3 * j))))))) := by
  simp [wS, hs, cellG, hk, qRow]
theorem wS_grid (hk : kd k = (5, n)) (hs : eS E k = true) : wS E g h T L k = .inl (eC E 4, n, .inr (.inr (.inr (.inr (fun j => some (eA E (36 + j))))))) := by
  simp [wS, hs, cellG, hk, qRow]
theorem cellG_g {g' : Nat → Int32} {h' : Nat → Int64} (hh : ∀ j, j < 100 → g (100 * k + j) = g' (100 * k + j) ∧ h (100 * k + j) = h' (100 * k + j)) : cellG E g h T L k = cellG E g' h' T L k := by
  unfold cellG
  split
  · rename_i ci _
    rw [fsG_congr (ad := eA E) (g := g) (g' := g') (h := h) (h' := h') (k := k) (dsc ci) 0 (fun j _ h2 => hh j (by have := dsc_len ci; omega))]
  all_goals rfl
theorem wS_puti {ci j d : Nat} (v : Int32) (hk : kd k = (0, ci)) (hs : eS E k = true) (hj : (dsc ci)[j]? = some (0, d)) : va_up (wS E g h T L) k (.inr (ci, (fsG (eA E) g h k 0 (dsc ci)).set j (.int v))) = wS E (upd g (100 * k + j) v) h T L := by
  have hj2 : j < 39 := by have := (List.getElem?_eq_some_iff.mp hj).1; have := dsc_len ci; omega
  funext i
  by_cases hi : i = k
  · subst hi
    rw [wS_obj hk hs, fsG_set0 v (dsc ci) 0 j d hj, Nat.zero_add]
    simp [va_up]
  · simp only [va_up, if_neg hi, wS]
    split
    · exact cellG_g (fun j' hj' => ⟨by unfold upd; rw [if_neg (by omega)], rfl⟩)
    · rfl
theorem wS_putl {ci j d : Nat} (v : Int64) (hk : kd k = (0, ci)) (hs : eS E k = true) (hj : (dsc ci)[j]? = some (1, d)) : va_up (wS E g h T L) k (.inr (ci, (fsG (eA E) g h k 0 (dsc ci)).set j (.long v))) = wS E g (vp_updL h (100 * k + j) v) T L := by
  have hj2 : j < 39 := by have := (List.getElem?_eq_some_iff.mp hj).1; have := dsc_len ci; omega
  funext i
  by_cases hi : i = k
  · subst hi
    rw [wS_obj hk hs, fsG_set1 v (dsc ci) 0 j d hj, Nat.zero_add]
    simp [va_up]
  · simp only [va_up, if_neg hi, wS]
    split
    · exact cellG_g (fun j' hj' => ⟨rfl, by unfold vp_updL; rw [if_neg (by omega)]⟩)
    · rfl
theorem wS_putn {ci j d : Nat} (hk : kd k = (0, ci)) (hs : eS E k = true) (hj : (dsc ci)[j]? = some (3, d)) : va_up (wS E g h T L) k (.inr (ci, (fsG (eA E) g h k 0 (dsc ci)).set j (.ref (eA E d)))) = wS E (upd g (100 * k + j) 1) h T L := by
  have hj2 : j < 39 := by have := (List.getElem?_eq_some_iff.mp hj).1; have := dsc_len ci; omega
  funext i
  by_cases hi : i = k
  · subst hi
    rw [wS_obj hk hs, fsG_set3 (dsc ci) 0 j d hj, Nat.zero_add]
    simp [va_up]
  · simp only [va_up, if_neg hi, wS]
    split
    · exact cellG_g (fun j' hj' => ⟨by unfold upd; rw [if_neg (by omega)], rfl⟩)
    · rfl
theorem cellG_T {f : Nat → Int32} {i : Nat} (hi : i ≠ k) : cellG E g h (va_up T k f) L i = cellG E g h T L i := by
  unfold cellG
  split <;> simp [va_up, hi]
theorem cellG_L {f : Nat → Int64} {i : Nat} (hi : i ≠ k) : cellG E g h T (va_up L k f) i = cellG E g h T L i := by
  unfold cellG
  split <;> simp [va_up, hi]
theorem wS_sti {f : Nat → Int32} (hk : kd k = (1, n)) (hs : eS E k = true) : va_up (wS E g h T L) k (.inl (eC E 0, n, .inl f)) = wS E g h (va_up T k f) L := by
  funext i
  by_cases hi : i = k
  · subst hi
    rw [wS_int hk hs]
    simp [va_up]
  · simp only [va_up, if_neg hi, wS]
    split
    · exact (cellG_T hi).symm
    · rfl
theorem wS_stz {f : Nat → Int32} (hk : kd k = (3, n)) (hs : eS E k = true) : va_up (wS E g h T L) k (.inl (eC E 2, n, .inl f)) = wS E g h (va_up T k f) L := by
  funext i
  by_cases hi : i = k
  · subst hi
    rw [wS_bool hk hs]
    simp [va_up]
  · simp only [va_up, if_neg hi, wS]
    split
    · exact (cellG_T hi).symm
    · rfl
theorem wS_stl {f : Nat → Int64} (hk : kd k = (2, n)) (hs : eS E k = true) : va_up (wS E g h T L) k (.inl (eC E 1, n, .inr (.inl f))) = wS E g h T (va_up L k f) := by
  funext i
  by_cases hi : i = k
  · subst hi
    rw [wS_long hk hs]
    simp [va_up]
  · simp only [va_up, if_neg hi, wS]
    split
    · exact (cellG_L hi).symm
    · rfl
end WS
section GR
variable {E : EN} {Y : YN} {cc : ByteArray} {nL : Nat} {own : String} {Ts : List Cond} {R : Room} {cs ss : Nat} {g : Nat → Int32} {h : Nat → Int64} {T : Nat → Nat → Int32} {L : Nat → Nat → Int64} {pc : Nat} {lv : List (Option Value)} {st : List Value}
theorem Cx.lt (C : Cx E Y cc nL own Ts R) {k : Nat} (hs : eS E k = true) : k < eN E := C.2.2.2.2.2.2.2.2.2 k hs
theorem own0 : ∀ j, j < 7 → (TX0 j).1 = RX0 := by decide +kernel
theorem G0_geti (C : Cx E Y cc nL own Ts R) {idx k n : Nat} (j : Nat) (hd : decode cc pc = .ok (.getfield idx, 3)) (hl : Cond.fieldLink own idx RX0 (TX0 j).2.1 (TX0 j).2.2.1 ∈ Ts) (hi : ∀ x ∈ wsX00, x ∈ Ts) (hk : kd k = (0, 0)) (hs : eS E k = true) (hj : (dsc 0)[j]? = some (0, 0)) (hn : 100 * k + j = n) (kk : J E Y (eN E) cs ss (wS E g h T L) (pc + 3) lv (.int (g n) :: st)) : J E Y (eN E) cs ss (wS E g h T L) pc lv (.ref (eA E k) :: st) := J_get C k j hd hl hi (by rfl) (C.lt hs) rfl (wS_obj hk hs) (List.getElem?_eq_some_iff.mp hj).1 (own0 j (List.getElem?_eq_some_iff.mp hj).1) (by rw [fsG_get0 (dsc 0) 0 j 0 hj, Nat.zero_add, hn]) kk
theorem G0_getr (C : Cx E Y cc nL own Ts R) {idx k n : Nat} (j : Nat) (hd : decode cc pc = .ok (.getfield idx, 3)) (hl : Cond.fieldLink own idx RX0 (TX0 j).2.1 (TX0 j).2.2.1 ∈ Ts) (hi : ∀ x ∈ wsX00, x ∈ Ts) (hk : kd k = (0, 0)) (hs : eS E k = true) {d : Nat} (hj : (dsc 0)[j]? = some (2, d)) (hn : k + d = n) (kk : J E Y (eN E) cs ss (wS E g h T L) (pc + 3) lv (.ref (eA E n) :: st)) : J E Y (eN E) cs ss (wS E g h T L) pc lv (.ref (eA E k) :: st) := J_get C k j hd hl hi (by rfl) (C.lt hs) rfl (wS_obj hk hs) (List.getElem?_eq_some_iff.mp hj).1 (own0 j (List.getElem?_eq_some_iff.mp hj).1) (by rw [fsG_get2 (dsc 0) 0 j d hj, hn]) kk
theorem G0_puti (C : Cx E Y cc nL own Ts R) {idx k n : Nat} (j : Nat) (hd : decode cc pc = .ok (.putfield idx, 3)) (hl : Cond.fieldLink own idx RX0 (TX0 j).2.1 (TX0 j).2.2.1 ∈ Ts) (hi : ∀ x ∈ wsX00, x ∈ Ts) (hk : kd k = (0, 0)) (hs : eS E k = true) {v : Int32} (hfin : (TX0 j).2.2.2 = false) (hty : parseFieldDescriptor (TX0 j).2.2.1 = some .int) (hj : (dsc 0)[j]? = some (0, 0)) (hn : 100 * k + j = n) (kk : J E Y (eN E) cs ss (wS E (upd g n v) h T L) (pc + 3) lv st) : J E Y (eN E) cs ss (wS E g h T L) pc lv (.int v :: .ref (eA E k) :: st) := by
  have hlt := (List.getElem?_eq_some_iff.mp hj).1
  refine J_put C (ty := .int) k j hd hl hi tyX0 tyX0_ok nmX0 (by rfl) (C.lt hs) rfl (wS_obj hk hs) hlt (own0 j hlt) hfin hty (by rfl) (by rfl) (by rw [fsG_len]; exact hlt) ?_
  rw [wS_puti v hk hs hj, hn]
  exact kk
theorem own1 : ∀ j, j < 6 → (TX1 j).1 = RX1 := by decide +kernel
theorem G1_geti (C : Cx E Y cc nL own Ts R) {idx k n : Nat} (j : Nat) (hd : decode cc pc = .ok (.getfield idx, 3)) (hl : Cond.fieldLink own idx RX1 (TX1 j).2.1 (TX1 j).2.2.1 ∈ Ts) (hi : ∀ x ∈ wsX10, x ∈ Ts) (hk : kd k = (0, 1)) (hs : eS E k = true) (hj : (dsc 1)[j]? = some (0, 0)) (hn : 100 * k + j = n) (kk : J E Y (eN E) cs ss (wS E g h T L) (pc + 3) lv (.int (g n) :: st)) : J E Y (eN E) cs ss (wS E g h T L) pc lv (.ref (eA E k) :: st) := J_get C k j hd hl hi (by rfl) (C.lt hs) rfl (wS_obj hk hs) (List.getElem?_eq_some_iff.mp hj).1 (own1 j (List.getElem?_eq_some_iff.mp hj).1) (by rw [fsG_get0 (dsc 1) 0 j 0 hj, Nat.zero_add, hn]) kk
theorem G1_getr (C : Cx E Y cc nL own Ts R) {idx k n : Nat} (j : Nat) (hd : decode cc pc = .ok (.getfield idx, 3)) (hl : Cond.fieldLink own idx RX1 (TX1 j).2.1 (TX1 j).2.2.1 ∈ Ts) (hi : ∀ x ∈ wsX10, x ∈ Ts) (hk : kd k = (0, 1)) (hs : eS E k = true) {d : Nat} (hj : (dsc 1)[j]? = some (2, d)) (hn : k + d = n) (kk : J E Y (eN E) cs ss (wS E g h T L) (pc + 3) lv (.ref (eA E n) :: st)) : J E Y (eN E) cs ss (wS E g h T L) pc lv (.ref (eA E k) :: st) := J_get C k j hd hl hi (by rfl) (C.lt hs) rfl (wS_obj hk hs) (List.getElem?_eq_some_iff.mp hj).1 (own1 j (List.getElem?_eq_some_iff.mp hj).1) (by rw [fsG_get2 (dsc 1) 0 j d hj, hn]) kk
theorem G1_puti (C : Cx E Y cc nL own Ts R) {idx k n : Nat} (j : Nat) (hd : decode cc pc = .ok (.putfield idx, 3)) (hl : Cond.fieldLink own idx RX1 (TX1 j).2.1 (TX1 j).2.2.1 ∈ Ts) (hi : ∀ x ∈ wsX10, x ∈ Ts) (hk : kd k = (0, 1)) (hs : eS E k = true) {v : Int32} (hfin : (TX1 j).2.2.2 = false) (hty : parseFieldDescriptor (TX1 j).2.2.1 = some .int) (hj : (dsc 1)[j]? = some (0, 0)) (hn : 100 * k + j = n) (kk : J E Y (eN E) cs ss (wS E (upd g n v) h T L) (pc + 3) lv st) : J E Y (eN E) cs ss (wS E g h T L) pc lv (.int v :: .ref (eA E k) :: st) := by
  have hlt := (List.getElem?_eq_some_iff.mp hj).1
  refine J_put C (ty := .int) k j hd hl hi tyX1 tyX1_ok nmX1 (by rfl) (C.lt hs) rfl (wS_obj hk hs) hlt (own1 j hlt) hfin hty (by rfl) (by rfl) (by rw [fsG_len]; exact hlt) ?_
  rw [wS_puti v hk hs hj, hn]
  exact kk
theorem own2 : ∀ j, j < 8 → (TX2 j).1 = RX2 := by decide +kernel
theorem G2_geti (C : Cx E Y cc nL own Ts R) {idx k n : Nat} (j : Nat) (hd : decode cc pc = .ok (.getfield idx, 3)) (hl : Cond.fieldLink own idx RX2 (TX2 j).2.1 (TX2 j).2.2.1 ∈ Ts) (hi : ∀ x ∈ wsX20, x ∈ Ts) (hk : kd k = (0, 2)) (hs : eS E k = true) (hj : (dsc 2)[j]? = some (0, 0)) (hn : 100 * k + j = n) (kk : J E Y (eN E) cs ss (wS E g h T L) (pc + 3) lv (.int (g n) :: st)) : J E Y (eN E) cs ss (wS E g h T L) pc lv (.ref (eA E k) :: st) := J_get C k j hd hl hi (by rfl) (C.lt hs) rfl (wS_obj hk hs) (List.getElem?_eq_some_iff.mp hj).1 (own2 j (List.getElem?_eq_some_iff.mp hj).1) (by rw [fsG_get0 (dsc 2) 0 j 0 hj, Nat.zero_add, hn]) kk
theorem G2_getr (C : Cx E Y cc nL own Ts R) {idx k n : Nat} (j : Nat) (hd : decode cc pc = .ok (.getfield idx, 3)) (hl : Cond.fieldLink own idx RX2 (TX2 j).2.1 (TX2 j).2.2.1 ∈ Ts) (hi : ∀ x ∈ wsX20, x ∈ Ts) (hk : kd k = (0, 2)) (hs : eS E k = true) {d : Nat} (hj : (dsc 2)[j]? = some (2, d)) (hn : k + d = n) (kk : J E Y (eN E) cs ss (wS E g h T L) (pc + 3) lv (.ref (eA E n) :: st)) : J E Y (eN E) cs ss (wS E g h T L) pc lv (.ref (eA E k) :: st) := J_get C k j hd hl hi (by rfl) (C.lt hs) rfl (wS_obj hk hs) (List.getElem?_eq_some_iff.mp hj).1 (own2 j (List.getElem?_eq_some_iff.mp hj).1) (by rw [fsG_get2 (dsc 2) 0 j d hj, hn]) kk
theorem G2_getn (C : Cx E Y cc nL own Ts R) {idx k n : Nat} (j : Nat) (hd : decode cc pc = .ok (.getfield idx, 3)) (hl : Cond.fieldLink own idx RX2 (TX2 j).2.1 (TX2 j).2.2.1 ∈ Ts) (hi : ∀ x ∈ wsX20, x ∈ Ts) (hk : kd k = (0, 2)) (hs : eS E k = true) {d : Nat} (hj : (dsc 2)[j]? = some (3, d)) (hn : ¬ g (100 * k + j) = 0) (kk : J E Y (eN E) cs ss (wS E g h T L) (pc + 3) lv (.ref (eA E d) :: st)) : J E Y (eN E) cs ss (wS E g h T L) pc lv (.ref (eA E k) :: st) := J_get C k j hd hl hi (by rfl) (C.lt hs) rfl (wS_obj hk hs) (List.getElem?_eq_some_iff.mp hj).1 (own2 j (List.getElem?_eq_some_iff.mp hj).1) (by rw [fsG_get3 (dsc 2) 0 j d hj, Nat.zero_add, if_neg hn]) kk
theorem G2_puti (C : Cx E Y cc nL own Ts R) {idx k n : Nat} (j : Nat) (hd : decode cc pc = .ok (.putfield idx, 3)) (hl : Cond.fieldLink own idx RX2 (TX2 j).2.1 (TX2 j).2.2.1 ∈ Ts) (hi : ∀ x ∈ wsX20, x ∈ Ts) (hk : kd k = (0, 2)) (hs : eS E k = true) {v : Int32} (hfin : (TX2 j).2.2.2 = false) (hty : parseFieldDescriptor (TX2 j).2.2.1 = some .int) (hj : (dsc 2)[j]? = some (0, 0)) (hn : 100 * k + j = n) (kk : J E Y (eN E) cs ss (wS E (upd g n v) h T L) (pc + 3) lv st) : J E Y (eN E) cs ss (wS E g h T L) pc lv (.int v :: .ref (eA E k) :: st) := by
  have hlt := (List.getElem?_eq_some_iff.mp hj).1
  refine J_put C (ty := .int) k j hd hl hi tyX2 tyX2_ok nmX2 (by rfl) (C.lt hs) rfl (wS_obj hk hs) hlt (own2 j hlt) hfin hty (by rfl) (by rfl) (by rw [fsG_len]; exact hlt) ?_
  rw [wS_puti v hk hs hj, hn]
  exact kk
theorem G2_putn (C : Cx E Y cc nL own Ts R) {idx k n : Nat} (j : Nat) (hd : decode cc pc = .ok (.putfield idx, 3)) (hl : Cond.fieldLink own idx RX2 (TX2 j).2.1 (TX2 j).2.2.1 ∈ Ts) (hi : ∀ x ∈ wsX20, x ∈ Ts) (hk : kd k = (0, 2)) (hs : eS E k = true) {d : Nat} (hfin : (TX2 j).2.2.2 = false) (hty : parseFieldDescriptor (TX2 j).2.2.1 = some (.array .int)) (hj : (dsc 2)[j]? = some (3, d)) (hn : 100 * k + j = n) (kk : J E Y (eN E) cs ss (wS E (upd g n 1) h T L) (pc + 3) lv st) : J E Y (eN E) cs ss (wS E g h T L) pc lv (.ref (eA E d) :: .ref (eA E k) :: st) := by
  have hlt := (List.getElem?_eq_some_iff.mp hj).1
  refine J_put C (ty := (.array .int)) k j hd hl hi tyX2 tyX2_ok nmX2 (by rfl) (C.lt hs) rfl (wS_obj hk hs) hlt (own2 j hlt) hfin hty (by rfl) (by rfl) (by rw [fsG_len]; exact hlt) ?_
  rw [wS_putn hk hs hj, hn]
  exact kk
theorem own3 : ∀ j, j < 15 → (TX3 j).1 = RX3 := by decide +kernel
theorem G3_geti (C : Cx E Y cc nL own Ts R) {idx k n : Nat} (j : Nat) (hd : decode cc pc = .ok (.getfield idx, 3)) (hl : Cond.fieldLink own idx RX3 (TX3 j).2.1 (TX3 j).2.2.1 ∈ Ts) (hi : ∀ x ∈ wsX30, x ∈ Ts) (hk : kd k = (0, 3)) (hs : eS E k = true) (hj : (dsc 3)[j]? = some (0, 0)) (hn : 100 * k + j = n) (kk : J E Y (eN E) cs ss (wS E g h T L) (pc + 3) lv (.int (g n) :: st)) : J E Y (eN E) cs ss (wS E g h T L) pc lv (.ref (eA E k) :: st) := J_get C k j hd hl hi (by rfl) (C.lt hs) rfl (wS_obj hk hs) (List.getElem?_eq_some_iff.mp hj).1 (own3 j (List.getElem?_eq_some_iff.mp hj).1) (by rw [fsG_get0 (dsc 3) 0 j 0 hj, Nat.zero_add, hn]) kk
theorem G3_getr (C : Cx E Y cc nL own Ts R) {idx k n : Nat} (j : Nat) (hd : decode cc pc = .ok (.getfield idx, 3)) (hl : Cond.fieldLink own idx RX3 (TX3 j).2.1 (TX3 j).2.2.1 ∈ Ts) (hi : ∀ x ∈ wsX30, x ∈ Ts) (hk : kd k = (0, 3)) (hs : eS E k = true) {d : Nat} (hj : (dsc 3)[j]? = some (2, d)) (hn : k + d = n) (kk : J E Y (eN E) cs ss (wS E g h T L) (pc + 3) lv (.ref (eA E n) :: st)) : J E Y (eN E) cs ss (wS E g h T L) pc lv (.ref (eA E k) :: st) := J_get C k j hd hl hi (by rfl) (C.lt hs) rfl (wS_obj hk hs) (List.getElem?_eq_some_iff.mp hj).1 (own3 j (List.getElem?_eq_some_iff.mp hj).1) (by rw [fsG_get2 (dsc 3) 0 j d hj, hn]) kk
theorem G3_puti (C : Cx E Y cc nL own Ts R) {idx k n : Nat} (j : Nat) (hd : decode cc pc = .ok (.putfield idx, 3)) (hl : Cond.fieldLink own idx RX3 (TX3 j).2.1 (TX3 j).2.2.1 ∈ Ts) (hi : ∀ x ∈ wsX30, x ∈ Ts) (hk : kd k = (0, 3)) (hs : eS E k = true) {v : Int32} (hfin : (TX3 j).2.2.2 = false) (hty : parseFieldDescriptor (TX3 j).2.2.1 = some .int) (hj : (dsc 3)[j]? = some (0, 0)) (hn : 100 * k + j = n) (kk : J E Y (eN E) cs ss (wS E (upd g n v) h T L) (pc + 3) lv st) : J E Y (eN E) cs ss (wS E g h T L) pc lv (.int v :: .ref (eA E k) :: st) := by
  have hlt := (List.getElem?_eq_some_iff.mp hj).1
  refine J_put C (ty := .int) k j hd hl hi tyX3 tyX3_ok nmX3 (by rfl) (C.lt hs) rfl (wS_obj hk hs) hlt (own3 j hlt) hfin hty (by rfl) (by rfl) (by rw [fsG_len]; exact hlt) ?_
  rw [wS_puti v hk hs hj, hn]
  exact kk
theorem own4 : ∀ j, j < 5 → (TX4 j).1 = RX4 := by decide +kernel
theorem G4_geti (C : Cx E Y cc nL own Ts R) {idx k n : Nat} (j : Nat) (hd : decode cc pc = .ok (.getfield idx, 3)) (hl : Cond.fieldLink own idx RX4 (TX4 j).2.1 (TX4 j).2.2.1 ∈ Ts) (hi : ∀ x ∈ wsX40, x ∈ Ts) (hk : kd k = (0, 4)) (hs : eS E k = true) (hj : (dsc 4)[j]? = some (0, 0)) (hn : 100 * k + j = n) (kk : J E Y (eN E) cs ss (wS E g h T L) (pc + 3) lv (.int (g n) :: st)) : J E Y (eN E) cs ss (wS E g h T L) pc lv (.ref (eA E k) :: st) := J_get C k j hd hl hi (by rfl) (C.lt hs) rfl (wS_obj hk hs) (List.getElem?_eq_some_iff.mp hj).1 (own4 j (List.getElem?_eq_some_iff.mp hj).1) (by rw [fsG_get0 (dsc 4) 0 j 0 hj, Nat.zero_add, hn]) kk
theorem G4_getr (C : Cx E Y cc nL own Ts R) {idx k n : Nat} (j : Nat) (hd : decode cc pc = .ok (.getfield idx, 3)) (hl : Cond.fieldLink own idx RX4 (TX4 j).2.1 (TX4 j).2.2.1 ∈ Ts) (hi : ∀ x ∈ wsX40, x ∈ Ts) (hk : kd k = (0, 4)) (hs : eS E k = true) {d : Nat} (hj : (dsc 4)[j]? = some (2, d)) (hn : k + d = n) (kk : J E Y (eN E) cs ss (wS E g h T L) (pc + 3) lv (.ref (eA E n) :: st)) : J E Y (eN E) cs ss (wS E g h T L) pc lv (.ref (eA E k) :: st) := J_get C k j hd hl hi (by rfl) (C.lt hs) rfl (wS_obj hk hs) (List.getElem?_eq_some_iff.mp hj).1 (own4 j (List.getElem?_eq_some_iff.mp hj).1) (by rw [fsG_get2 (dsc 4) 0 j d hj, hn]) kk
theorem G4_puti (C : Cx E Y cc nL own Ts R) {idx k n : Nat} (j : Nat) (hd : decode cc pc = .ok (.putfield idx, 3)) (hl : Cond.fieldLink own idx RX4 (TX4 j).2.1 (TX4 j).2.2.1 ∈ Ts) (hi : ∀ x ∈ wsX40, x ∈ Ts) (hk : kd k = (0, 4)) (hs : eS E k = true) {v : Int32} (hfin : (TX4 j).2.2.2 = false) (hty : parseFieldDescriptor (TX4 j).2.2.1 = some .int) (hj : (dsc 4)[j]? = some (0, 0)) (hn : 100 * k + j = n) (kk : J E Y (eN E) cs ss (wS E (upd g n v) h T L) (pc + 3) lv st) : J E Y (eN E) cs ss (wS E g h T L) pc lv (.int v :: .ref (eA E k) :: st) := by
  have hlt := (List.getElem?_eq_some_iff.mp hj).1
  refine J_put C (ty := .int) k j hd hl hi tyX4 tyX4_ok nmX4 (by rfl) (C.lt hs) rfl (wS_obj hk hs) hlt (own4 j hlt) hfin hty (by rfl) (by rfl) (by rw [fsG_len]; exact hlt) ?_
  rw [wS_puti v hk hs hj, hn]
  exact kk
theorem own5 : ∀ j, j < 11 → (TX5 j).1 = RX5 := by decide +kernel
theorem G5_geti (C : Cx E Y cc nL own Ts R) {idx k n : Nat} (j : Nat) (hd : decode cc pc = .ok (.getfield idx, 3)) (hl : Cond.fieldLink own idx RX5 (TX5 j).2.1 (TX5 j).2.2.1 ∈ Ts) (hi : ∀ x ∈ wsX50, x ∈ Ts) (hk : kd k = (0, 5)) (hs : eS E k = true) (hj : (dsc 5)[j]? = some (0, 0)) (hn : 100 * k + j = n) (kk : J E Y (eN E) cs ss (wS E g h T L) (pc + 3) lv (.int (g n) :: st)) : J E Y (eN E) cs ss (wS E g h T L) pc lv (.ref (eA E k) :: st) := J_get C k j hd hl hi (by rfl) (C.lt hs) rfl (wS_obj hk hs) (List.getElem?_eq_some_iff.mp hj).1 (own5 j (List.getElem?_eq_some_iff.mp hj).1) (by rw [fsG_get0 (dsc 5) 0 j 0 hj, Nat.zero_add, hn]) kk
theorem G5_getl (C : Cx E Y cc nL own Ts R) {idx k n : Nat} (j : Nat) (hd : decode cc pc = .ok (.getfield idx, 3)) (hl : Cond.fieldLink own idx RX5 (TX5 j).2.1 (TX5 j).2.2.1 ∈ Ts) (hi : ∀ x ∈ wsX50, x ∈ Ts) (hk : kd k = (0, 5)) (hs : eS E k = true) (hj : (dsc 5)[j]? = some (1, 0)) (hn : 100 * k + j = n) (kk : J E Y (eN E) cs ss (wS E g h T L) (pc + 3) lv (.long (h n) :: st)) : J E Y (eN E) cs ss (wS E g h T L) pc lv (.ref (eA E k) :: st) := J_get C k j hd hl hi (by rfl) (C.lt hs) rfl (wS_obj hk hs) (List.getElem?_eq_some_iff.mp hj).1 (own5 j (List.getElem?_eq_some_iff.mp hj).1) (by rw [fsG_get1 (dsc 5) 0 j 0 hj, Nat.zero_add, hn]) kk
theorem G5_getr (C : Cx E Y cc nL own Ts R) {idx k n : Nat} (j : Nat) (hd : decode cc pc = .ok (.getfield idx, 3)) (hl : Cond.fieldLink own idx RX5 (TX5 j).2.1 (TX5 j).2.2.1 ∈ Ts) (hi : ∀ x ∈ wsX50, x ∈ Ts) (hk : kd k = (0, 5)) (hs : eS E k = true) {d : Nat} (hj : (dsc 5)[j]? = some (2, d)) (hn : k + d = n) (kk : J E Y (eN E) cs ss (wS E g h T L) (pc + 3) lv (.ref (eA E n) :: st)) : J E Y (eN E) cs ss (wS E g h T L) pc lv (.ref (eA E k) :: st) := J_get C k j hd hl hi (by rfl) (C.lt hs) rfl (wS_obj hk hs) (List.getElem?_eq_some_iff.mp hj).1 (own5 j (List.getElem?_eq_some_iff.mp hj).1) (by rw [fsG_get2 (dsc 5) 0 j d hj, hn]) kk
theorem G5_puti (C : Cx E Y cc nL own Ts R) {idx k n : Nat} (j : Nat) (hd : decode cc pc = .ok (.putfield idx, 3)) (hl : Cond.fieldLink own idx RX5 (TX5 j).2.1 (TX5 j).2.2.1 ∈ Ts) (hi : ∀ x ∈ wsX50, x ∈ Ts) (hk : kd k = (0, 5)) (hs : eS E k = true) {v : Int32} (hfin : (TX5 j).2.2.2 = false) (hty : parseFieldDescriptor (TX5 j).2.2.1 = some .int) (hj : (dsc 5)[j]? = some (0, 0)) (hn : 100 * k + j = n) (kk : J E Y (eN E) cs ss (wS E (upd g n v) h T L) (pc + 3) lv st) : J E Y (eN E) cs ss (wS E g h T L) pc lv (.int v :: .ref (eA E k) :: st) := by
  have hlt := (List.getElem?_eq_some_iff.mp hj).1
  refine J_put C (ty := .int) k j hd hl hi tyX5 tyX5_ok nmX5 (by rfl) (C.lt hs) rfl (wS_obj hk hs) hlt (own5 j hlt) hfin hty (by rfl) (by rfl) (by rw [fsG_len]; exact hlt) ?_
  rw [wS_puti v hk hs hj, hn]
  exact kk
theorem G5_putl (C : Cx E Y cc nL own Ts R) {idx k n : Nat} (j : Nat) (hd : decode cc pc = .ok (.putfield idx, 3)) (hl : Cond.fieldLink own idx RX5 (TX5 j).2.1 (TX5 j).2.2.1 ∈ Ts) (hi : ∀ x ∈ wsX50, x ∈ Ts) (hk : kd k = (0, 5)) (hs : eS E k = true) {v : Int64} (hfin : (TX5 j).2.2.2 = false) (hty : parseFieldDescriptor (TX5 j).2.2.1 = some .long) (hj : (dsc 5)[j]? = some (1, 0)) (hn : 100 * k + j = n) (kk : J E Y (eN E) cs ss (wS E g (vp_updL h n v) T L) (pc + 3) lv st) : J E Y (eN E) cs ss (wS E g h T L) pc lv (.long v :: .ref (eA E k) :: st) := by
  have hlt := (List.getElem?_eq_some_iff.mp hj).1
  refine J_put C (ty := .long) k j hd hl hi tyX5 tyX5_ok nmX5 (by rfl) (C.lt hs) rfl (wS_obj hk hs) hlt (own5 j hlt) hfin hty (by rfl) (by rfl) (by rw [fsG_len]; exact hlt) ?_
  rw [wS_putl v hk hs hj, hn]
  exact kk
theorem own6 : ∀ j, j < 39 → (TX6 j).1 = RX6 := by decide +kernel
theorem G6_geti (C : Cx E Y cc nL own Ts R) {idx k n : Nat} (j : Nat) (hd : decode cc pc = .ok (.getfield idx, 3)) (hl : Cond.fieldLink own idx RX6 (TX6 j).2.1 (TX6 j).2.2.1 ∈ Ts) (hi : ∀ x ∈ wsX60, x ∈ Ts) (hk : kd k = (0, 6)) (hs : eS E k = true) (hj : (dsc 6)[j]? = some (0, 0)) (hn : 100 * k + j = n) (kk : J E Y (eN E) cs ss (wS E g h T L) (pc + 3) lv (.int (g n) :: st)) : J E Y (eN E) cs ss (wS E g h T L) pc lv (.ref (eA E k) :: st) := J_get C k j hd hl hi (by rfl) (C.lt hs) rfl (wS_obj hk hs) (List.getElem?_eq_some_iff.mp hj).1 (own6 j (List.getElem?_eq_some_iff.mp hj).1) (by rw [fsG_get0 (dsc 6) 0 j 0 hj, Nat.zero_add, hn]) kk
theorem G6_getl (C : Cx E Y cc nL own Ts R) {idx k n : Nat} (j : Nat) (hd : decode cc pc = .ok (.getfield idx, 3)) (hl : Cond.fieldLink own idx RX6 (TX6 j).2.1 (TX6 j).2.2.1 ∈ Ts) (hi : ∀ x ∈ wsX60, x ∈ Ts) (hk : kd k = (0, 6)) (hs : eS E k = true) (hj : (dsc 6)[j]? = some (1, 0)) (hn : 100 * k + j = n) (kk : J E Y (eN E) cs ss (wS E g h T L) (pc + 3) lv (.long (h n) :: st)) : J E Y (eN E) cs ss (wS E g h T L) pc lv (.ref (eA E k) :: st) := J_get C k j hd hl hi (by rfl) (C.lt hs) rfl (wS_obj hk hs) (List.getElem?_eq_some_iff.mp hj).1 (own6 j (List.getElem?_eq_some_iff.mp hj).1) (by rw [fsG_get1 (dsc 6) 0 j 0 hj, Nat.zero_add, hn]) kk
theorem G6_getr (C : Cx E Y cc nL own Ts R) {idx k n : Nat} (j : Nat) (hd : decode cc pc = .ok (.getfield idx, 3)) (hl : Cond.fieldLink own idx RX6 (TX6 j).2.1 (TX6 j).2.2.1 ∈ Ts) (hi : ∀ x ∈ wsX60, x ∈ Ts) (hk : kd k = (0, 6)) (hs : eS E k = true) {d : Nat} (hj : (dsc 6)[j]? = some (2, d)) (hn : k + d = n) (kk : J E Y (eN E) cs ss (wS E g h T L) (pc + 3) lv (.ref (eA E n) :: st)) : J E Y (eN E) cs ss (wS E g h T L) pc lv (.ref (eA E k) :: st) := J_get C k j hd hl hi (by rfl) (C.lt hs) rfl (wS_obj hk hs) (List.getElem?_eq_some_iff.mp hj).1 (own6 j (List.getElem?_eq_some_iff.mp hj).1) (by rw [fsG_get2 (dsc 6) 0 j d hj, hn]) kk
theorem G6_puti (C : Cx E Y cc nL own Ts R) {idx k n : Nat} (j : Nat) (hd : decode cc pc = .ok (.putfield idx, 3)) (hl : Cond.fieldLink own idx RX6 (TX6 j).2.1 (TX6 j).2.2.1 ∈ Ts) (hi : ∀ x ∈ wsX60, x ∈ Ts) (hk : kd k = (0, 6)) (hs : eS E k = true) {v : Int32} (hfin : (TX6 j).2.2.2 = false) (hty : parseFieldDescriptor (TX6 j).2.2.1 = some .int) (hj : (dsc 6)[j]? = some (0, 0)) (hn : 100 * k + j = n) (kk : J E Y (eN E) cs ss (wS E (upd g n v) h T L) (pc + 3) lv st) : J E Y (eN E) cs ss (wS E g h T L) pc lv (.int v :: .ref (eA E k) :: st) := by
  have hlt := (List.getElem?_eq_some_iff.mp hj).1
  refine J_put C (ty := .int) k j hd hl hi tyX6 tyX6_ok nmX6 (by rfl) (C.lt hs) rfl (wS_obj hk hs) hlt (own6 j hlt) hfin hty (by rfl) (by rfl) (by rw [fsG_len]; exact hlt) ?_
  rw [wS_puti v hk hs hj, hn]
  exact kk
theorem G6_putl (C : Cx E Y cc nL own Ts R) {idx k n : Nat} (j : Nat) (hd : decode cc pc = .ok (.putfield idx, 3)) (hl : Cond.fieldLink own idx RX6 (TX6 j).2.1 (TX6 j).2.2.1 ∈ Ts) (hi : ∀ x ∈ wsX60, x ∈ Ts) (hk : kd k = (0, 6)) (hs : eS E k = true) {v : Int64} (hfin : (TX6 j).2.2.2 = false) (hty : parseFieldDescriptor (TX6 j).2.2.1 = some .long) (hj : (dsc 6)[j]? = some (1, 0)) (hn : 100 * k + j = n) (kk : J E Y (eN E) cs ss (wS E g (vp_updL h n v) T L) (pc + 3) lv st) : J E Y (eN E) cs ss (wS E g h T L) pc lv (.long v :: .ref (eA E k) :: st) := by
  have hlt := (List.getElem?_eq_some_iff.mp hj).1
  refine J_put C (ty := .long) k j hd hl hi tyX6 tyX6_ok nmX6 (by rfl) (C.lt hs) rfl (wS_obj hk hs) hlt (own6 j hlt) hfin hty (by rfl) (by rfl) (by rw [fsG_len]; exact hlt) ?_
  rw [wS_putl v hk hs hj, hn]
  exact kk
theorem G_iald (C : Cx E Y cc nL own Ts R) {k n : Nat} {i : Int32} (j : Nat) (hd : decode cc pc = .ok (.iaload, 1)) (hk : kd k = (1, n)) (hs : eS E k = true) (hi : i = nI j) (hj : j < n) (kk : J E Y (eN E) cs ss (wS E g h T L) (pc + 1) lv (.int (T k j) :: st)) : J E Y (eN E) cs ss (wS E g h T L) pc lv (.int i :: .ref (eA E k) :: st) := J_iald C k j hd (C.lt hs) rfl (wS_int hk hs) (by have := kd_small k; rw [hk] at this; exact this) hi hj kk
theorem G_zald (C : Cx E Y cc nL own Ts R) {k n : Nat} {i : Int32} (j : Nat) (hd : decode cc pc = .ok (.baload, 1)) (hk : kd k = (3, n)) (hs : eS E k = true) (hi : i = nI j) (hj : j < n) (kk : J E Y (eN E) cs ss (wS E g h T L) (pc + 1) lv (.int (T k j) :: st)) : J E Y (eN E) cs ss (wS E g h T L) pc lv (.int i :: .ref (eA E k) :: st) := J_zald C k j hd (C.lt hs) rfl (wS_bool hk hs) (by have := kd_small k; rw [hk] at this; exact this) hi hj kk
theorem G_lald (C : Cx E Y cc nL own Ts R) {k n : Nat} {i : Int32} (j : Nat) (hd : decode cc pc = .ok (.laload, 1)) (hk : kd k = (2, n)) (hs : eS E k = true) (hi : i = nI j) (hj : j < n) (kk : J E Y (eN E) cs ss (wS E g h T L) (pc + 1) lv (.long (L k j) :: st)) : J E Y (eN E) cs ss (wS E g h T L) pc lv (.int i :: .ref (eA E k) :: st) := J_lald C k j hd (C.lt hs) rfl (wS_long hk hs) (by have := kd_small k; rw [hk] at this; exact this) hi hj kk
theorem G_mald (C : Cx E Y cc nL own Ts R) {k n m : Nat} {i : Int32} (j : Nat) (hd : decode cc pc = .ok (.aaload, 1)) (hk : kd k = (4, n)) (hs : eS E k = true) (hi : i = nI j) (hj : j < n) (hm : 42 + 3 * j = m) (kk : J E Y (eN E) cs ss (wS E g h T L) (pc + 1) lv (.ref (eA E m) :: st)) : J E Y (eN E) cs ss (wS E g h T L) pc lv (.int i :: .ref (eA E k) :: st) := J_qald C k j hd (C.lt hs) rfl (wS_moms hk hs) (by have := kd_small k; rw [hk] at this; exact this) hi hj (by rw [hm]; exact kk)
theorem G_iast (C : Cx E Y cc nL own Ts R) {k n : Nat} {i : Int32} {x : Int32} (j : Nat) (hd : decode cc pc = .ok (.iastore, 1)) (hk : kd k = (1, n)) (hs : eS E k = true) (hi : i = nI j) (hj : j < n) (kk : J E Y (eN E) cs ss (wS E g h (va_up T k (upd (T k) j x)) L) (pc + 1) lv st) : J E Y (eN E) cs ss (wS E g h T L) pc lv (.int x :: .int i :: .ref (eA E k) :: st) := J_iast C k j hd (C.lt hs) rfl (wS_int hk hs) (by have := kd_small k; rw [hk] at this; exact this) hi hj (by rw [wS_sti hk hs]; exact kk)
theorem G_zast (C : Cx E Y cc nL own Ts R) {k n : Nat} {i : Int32} {x : Int32} (j : Nat) (hd : decode cc pc = .ok (.bastore, 1)) (hk : kd k = (3, n)) (hs : eS E k = true) (hi : i = nI j) (hj : j < n) (hx : vp_nar .boolean x = x) (kk : J E Y (eN E) cs ss (wS E g h (va_up T k (upd (T k) j x)) L) (pc + 1) lv st) : J E Y (eN E) cs ss (wS E g h T L) pc lv (.int x :: .int i :: .ref (eA E k) :: st) := J_zast C k j hd (C.lt hs) rfl (wS_bool hk hs) (by have := kd_small k; rw [hk] at this; exact this) hi hj hx (by rw [wS_stz hk hs]; exact kk)
theorem G_last (C : Cx E Y cc nL own Ts R) {k n : Nat} {i : Int32} {x : Int64} (j : Nat) (hd : decode cc pc = .ok (.lastore, 1)) (hk : kd k = (2, n)) (hs : eS E k = true) (hi : i = nI j) (hj : j < n) (kk : J E Y (eN E) cs ss (wS E g h T (va_up L k (vp_updL (L k) j x))) (pc + 1) lv st) : J E Y (eN E) cs ss (wS E g h T L) pc lv (.long x :: .int i :: .ref (eA E k) :: st) := J_last C k j hd (C.lt hs) rfl (wS_long hk hs) (by have := kd_small k; rw [hk] at this; exact this) hi hj (by rw [wS_stl hk hs]; exact kk)
theorem rmOK_b {rm R : Room} {maxL mc ms cs ss : Nat} (h : (rm.cells == mc && rm.slots == ms && Nat.ble (rm.frames + 1) R.frames && Nat.ble (8 + (maxL + 11) + rm.locals) R.locals && Nat.ble (cs + mc) R.cells && Nat.ble (ss + ms) R.slots) = true) : rmOK rm R maxL mc ms cs ss := by
  simp only [Bool.and_eq_true, beq_iff_eq] at h
  obtain ⟨⟨⟨⟨⟨h1, h2⟩, h3⟩, h4⟩, h5⟩, h6⟩ := h
  exact ⟨h1, h2, ⟨Nat.le_of_ble_eq_true h3, Nat.le_of_ble_eq_true h4⟩, Nat.le_of_ble_eq_true h5, Nat.le_of_ble_eq_true h6⟩
def GtI (E : EN) (y : MethodName) (ws : List Cond) (rm : Room) (av : List Value) (g : Nat → Int32) (h : Nat → Int64) (T : Nat → Nat → Int32) (L : Nat → Nat → Int64) (post : Int32 → (Nat → Int32) → (Nat → Int64) → (Nat → Nat → Int32) → (Nat → Nat → Int64) → Prop) : Prop := CtI E (eN E) (eN E) y ws rm 0 0 av (wS E g h T L) (fun r w2 => ∃ g2 h2 T2 L2, w2 = wS E g2 h2 T2 L2 ∧ post r g2 h2 T2 L2)
def GpI (E : EN) (y : MethodName) (ws : List Cond) (rm : Room) (av : List Value) (g : Nat → Int32) (h : Nat → Int64) (T : Nat → Nat → Int32) (L : Nat → Nat → Int64) (post : Int32 → Prop) : Prop := CtI E (eN E) (eN E) y ws rm 0 0 av (wS E g h T L) (fun r w2 => w2 = wS E g h T L ∧ post r )
def GtL (E : EN) (y : MethodName) (ws : List Cond) (rm : Room) (av : List Value) (g : Nat → Int32) (h : Nat → Int64) (T : Nat → Nat → Int32) (L : Nat → Nat → Int64) (post : Int64 → (Nat → Int32) → (Nat → Int64) → (Nat → Nat → Int32) → (Nat → Nat → Int64) → Prop) : Prop := CtL E (eN E) (eN E) y ws rm 0 0 av (wS E g h T L) (fun r w2 => ∃ g2 h2 T2 L2, w2 = wS E g2 h2 T2 L2 ∧ post r g2 h2 T2 L2)
def GpL (E : EN) (y : MethodName) (ws : List Cond) (rm : Room) (av : List Value) (g : Nat → Int32) (h : Nat → Int64) (T : Nat → Nat → Int32) (L : Nat → Nat → Int64) (post : Int64 → Prop) : Prop := CtL E (eN E) (eN E) y ws rm 0 0 av (wS E g h T L) (fun r w2 => w2 = wS E g h T L ∧ post r )
def GtV (E : EN) (y : MethodName) (ws : List Cond) (rm : Room) (av : List Value) (g : Nat → Int32) (h : Nat → Int64) (T : Nat → Nat → Int32) (L : Nat → Nat → Int64) (post : (Nat → Int32) → (Nat → Int64) → (Nat → Nat → Int32) → (Nat → Nat → Int64) → Prop) : Prop := CtV E (eN E) (eN E) y ws rm 0 0 av (wS E g h T L) (fun w2 => ∃ g2 h2 T2 L2, w2 = wS E g2 h2 T2 L2 ∧ post g2 h2 T2 L2)
theorem G_vti (C : Cx E Y cc nL own Ts R) {Cn : String} {TT : u_T} {N0 ci k : Nat} {idx n maxL : Nat} {y : MethodName} {ws ws' : List Cond} {rm : Room} {bytes : ByteArray} {ret : Option FieldType} {As rest st0 : List Value} {post : Int32 → (Nat → Int32) → (Nat → Int64) → (Nat → Nat → Int32) → (Nat → Nat → Int64) → Prop} (hd : decode cc pc = .ok (.invokevirtual idx, 3)) (hM : GtI E y ws rm (.ref (eA E k) :: As) g h T L post) (hT : GoodIn Ts (wsV own idx Cn y ws)) (hw : ws = .code y bytes maxL ret :: ws') (hdm : y.cls = Cn ∧ y.cls ≠ "java/lang/invoke/MethodHandle" ∧ y.cls ≠ "java/lang/invoke/VarHandle" ∧ (parseMethodDescriptor y.desc).map (fun d => d.parameters.length) = some n) (hc : vwCl[ci]? = some (Cn, TT, N0)) (hk : kd k = (0, ci)) (hs : eS E k = true) (hn : As.length = n) (hst : st0 = As.reverse ++ .ref (eA E k) :: rest) (hW : (rest.map fun v => v.category).sum ≤ 8) (hrm : rmOK rm R maxL 0 0 cs ss) (kk : ∀ (r : Int32) g2 h2 T2 L2, post r g2 h2 T2 L2 → J E Y (eN E) cs ss (wS E g2 h2 T2 L2) (pc + 3) lv (.int r :: rest)) : J E Y (eN E) cs ss (wS E g h T L) pc lv st0 := J_cvi C hd hM hT hw hdm hc (C.lt hs) rfl (wS_obj hk hs) (Nat.le_refl _) hn hst hW hrm (fun r w2 hp => by obtain ⟨g2, h2, T2, L2, rfl, hp⟩ := hp; exact kk r g2 h2 T2 L2 hp)
theorem G_vpi (C : Cx E Y cc nL own Ts R) {Cn : String} {TT : u_T} {N0 ci k : Nat} {idx n maxL : Nat} {y : MethodName} {ws ws' : List Cond} {rm : Room} {bytes : ByteArray} {ret : Option FieldType} {As rest st0 : List Value} {post : Int32 → Prop} (hd : decode cc pc = .ok (.invokevirtual idx, 3)) (hM : GpI E y ws rm (.ref (eA E k) :: As) g h T L post) (hT : GoodIn Ts (wsV own idx Cn y ws)) (hw : ws = .code y bytes maxL ret :: ws') (hdm : y.cls = Cn ∧ y.cls ≠ "java/lang/invoke/MethodHandle" ∧ y.cls ≠ "java/lang/invoke/VarHandle" ∧ (parseMethodDescriptor y.desc).map (fun d => d.parameters.length) = some n) (hc : vwCl[ci]? = some (Cn, TT, N0)) (hk : kd k = (0, ci)) (hs : eS E k = true) (hn : As.length = n) (hst : st0 = As.reverse ++ .ref (eA E k) :: rest) (hW : (rest.map fun v => v.category).sum ≤ 8) (hrm : rmOK rm R maxL 0 0 cs ss) (kk : ∀ r : Int32, post r → J E Y (eN E) cs ss (wS E g h T L) (pc + 3) lv (.int r :: rest)) : J E Y (eN E) cs ss (wS E g h T L) pc lv st0 := J_cvi C hd hM hT hw hdm hc (C.lt hs) rfl (wS_obj hk hs) (Nat.le_refl _) hn hst hW hrm (fun r w2 hp => by obtain ⟨rfl, hp⟩ := hp; exact kk r hp)
theorem G_vtl (C : Cx E Y cc nL own Ts R) {Cn : String} {TT : u_T} {N0 ci k : Nat} {idx n maxL : Nat} {y : MethodName} {ws ws' : List Cond} {rm : Room} {bytes : ByteArray} {ret : Option FieldType} {As rest st0 : List Value} {post : Int64 → (Nat → Int32) → (Nat → Int64) → (Nat → Nat → Int32) → (Nat → Nat → Int64) → Prop} (hd : decode cc pc = .ok (.invokevirtual idx, 3)) (hM : GtL E y ws rm (.ref (eA E k) :: As) g h T L post) (hT : GoodIn Ts (wsV own idx Cn y ws)) (hw : ws = .code y bytes maxL ret :: ws') (hdm : y.cls = Cn ∧ y.cls ≠ "java/lang/invoke/MethodHandle" ∧ y.cls ≠ "java/lang/invoke/VarHandle" ∧ (parseMethodDescriptor y.desc).map (fun d => d.parameters.length) = some n) (hc : vwCl[ci]? = some (Cn, TT, N0)) (hk : kd k = (0, ci)) (hs : eS E k = true) (hn : As.length = n) (hst : st0 = As.reverse ++ .ref (eA E k) :: rest) (hW : (rest.map fun v => v.category).sum ≤ 8) (hrm : rmOK rm R maxL 0 0 cs ss) (kk : ∀ (r : Int64) g2 h2 T2 L2, post r g2 h2 T2 L2 → J E Y (eN E) cs ss (wS E g2 h2 T2 L2) (pc + 3) lv (.long r :: rest)) : J E Y (eN E) cs ss (wS E g h T L) pc lv st0 := J_cvl C hd hM hT hw hdm hc (C.lt hs) rfl (wS_obj hk hs) (Nat.le_refl _) hn hst hW hrm (fun r w2 hp => by obtain ⟨g2, h2, T2, L2, rfl, hp⟩ := hp; exact kk r g2 h2 T2 L2 hp)
theorem G_vpl (C : Cx E Y cc nL own Ts R) {Cn : String} {TT : u_T} {N0 ci k : Nat} {idx n maxL : Nat} {y : MethodName} {ws ws' : List Cond} {rm : Room} {bytes : ByteArray} {ret : Option FieldType} {As rest st0 : List Value} {post : Int64 → Prop} (hd : decode cc pc = .ok (.invokevirtual idx, 3)) (hM : GpL E y ws rm (.ref (eA E k) :: As) g h T L post) (hT : GoodIn Ts (wsV own idx Cn y ws)) (hw : ws = .code y bytes maxL ret :: ws') (hdm : y.cls = Cn ∧ y.cls ≠ "java/lang/invoke/MethodHandle" ∧ y.cls ≠ "java/lang/invoke/VarHandle" ∧ (parseMethodDescriptor y.desc).map (fun d => d.parameters.length) = some n) (hc : vwCl[ci]? = some (Cn, TT, N0)) (hk : kd k = (0, ci)) (hs : eS E k = true) (hn : As.length = n) (hst : st0 = As.reverse ++ .ref (eA E k) :: rest) (hW : (rest.map fun v => v.category).sum ≤ 8) (hrm : rmOK rm R maxL 0 0 cs ss) (kk : ∀ r : Int64, post r → J E Y (eN E) cs ss (wS E g h T L) (pc + 3) lv (.long r :: rest)) : J E Y (eN E) cs ss (wS E g h T L) pc lv st0 := J_cvl C hd hM hT hw hdm hc (C.lt hs) rfl (wS_obj hk hs) (Nat.le_refl _) hn hst hW hrm (fun r w2 hp => by obtain ⟨rfl, hp⟩ := hp; exact kk r hp)
theorem G_vtv (C : Cx E Y cc nL own Ts R) {Cn : String} {TT : u_T} {N0 ci k : Nat} {idx n maxL : Nat} {y : MethodName} {ws ws' : List Cond} {rm : Room} {bytes : ByteArray} {ret : Option FieldType} {As rest st0 : List Value} {post : (Nat → Int32) → (Nat → Int64) → (Nat → Nat → Int32) → (Nat → Nat → Int64) → Prop} (hd : decode cc pc = .ok (.invokevirtual idx, 3)) (hM : GtV E y ws rm (.ref (eA E k) :: As) g h T L post) (hT : GoodIn Ts (wsV own idx Cn y ws)) (hw : ws = .code y bytes maxL ret :: ws') (hdm : y.cls = Cn ∧ y.cls ≠ "java/lang/invoke/MethodHandle" ∧ y.cls ≠ "java/lang/invoke/VarHandle" ∧ (parseMethodDescriptor y.desc).map (fun d => d.parameters.length) = some n) (hc : vwCl[ci]? = some (Cn, TT, N0)) (hk : kd k = (0, ci)) (hs : eS E k = true) (hn : As.length = n) (hst : st0 = As.reverse ++ .ref (eA E k) :: rest) (hW : (rest.map fun v => v.category).sum ≤ 8) (hrm : rmOK rm R maxL 0 0 cs ss) (kk : ∀  g2 h2 T2 L2, post g2 h2 T2 L2 → J E Y (eN E) cs ss (wS E g2 h2 T2 L2) (pc + 3) lv (rest)) : J E Y (eN E) cs ss (wS E g h T L) pc lv st0 := J_cvv C hd hM hT hw hdm hc (C.lt hs) rfl (wS_obj hk hs) (Nat.le_refl _) hn hst hW hrm (fun w2 hp => by obtain ⟨g2, h2, T2, L2, rfl, hp⟩ := hp; exact kk g2 h2 T2 L2 hp)
theorem G_sti (C : Cx E Y cc nL own Ts R) {idx n maxL : Nat} {y : MethodName} {ws ws' : List Cond} {rm : Room} {bytes : ByteArray} {ret : Option FieldType} {As rest st0 : List Value} {post : Int32 → (Nat → Int32) → (Nat → Int64) → (Nat → Nat → Int32) → (Nat → Nat → Int64) → Prop} (hd : decode cc pc = .ok (.invokestatic idx, 3)) (hM : GtI E y ws rm As g h T L post) (hT : GoodIn Ts (va_wsS own idx y ws)) (hw : ws = .code y bytes maxL ret :: ws') (hdm : y.cls ≠ "java/lang/invoke/MethodHandle" ∧ y.cls ≠ "java/lang/invoke/VarHandle" ∧ (parseMethodDescriptor y.desc).map (fun d => d.parameters.length) = some n) (hn : As.length = n) (hst : st0 = As.reverse ++ rest) (hW : (rest.map fun v => v.category).sum ≤ 8) (hrm : rmOK rm R maxL 0 0 cs ss) (kk : ∀ (r : Int32) g2 h2 T2 L2, post r g2 h2 T2 L2 → J E Y (eN E) cs ss (wS E g2 h2 T2 L2) (pc + 3) lv (.int r :: rest)) : J E Y (eN E) cs ss (wS E g h T L) pc lv st0 := J_csi C hd hM hT hw hdm (Nat.le_refl _) hn hst hW hrm (fun r w2 hp => by obtain ⟨g2, h2, T2, L2, rfl, hp⟩ := hp; exact kk r g2 h2 T2 L2 hp)
theorem G_spi (C : Cx E Y cc nL own Ts R) {idx n maxL : Nat} {y : MethodName} {ws ws' : List Cond} {rm : Room} {bytes : ByteArray} {ret : Option FieldType} {As rest st0 : List Value} {post : Int32 → Prop} (hd : decode cc pc = .ok (.invokestatic idx, 3)) (hM : GpI E y ws rm As g h T L post) (hT : GoodIn Ts (va_wsS own idx y ws)) (hw : ws = .code y bytes maxL ret :: ws') (hdm : y.cls ≠ "java/lang/invoke/MethodHandle" ∧ y.cls ≠ "java/lang/invoke/VarHandle" ∧ (parseMethodDescriptor y.desc).map (fun d => d.parameters.length) = some n) (hn : As.length = n) (hst : st0 = As.reverse ++ rest) (hW : (rest.map fun v => v.category).sum ≤ 8) (hrm : rmOK rm R maxL 0 0 cs ss) (kk : ∀ r : Int32, post r → J E Y (eN E) cs ss (wS E g h T L) (pc + 3) lv (.int r :: rest)) : J E Y (eN E) cs ss (wS E g h T L) pc lv st0 := J_csi C hd hM hT hw hdm (Nat.le_refl _) hn hst hW hrm (fun r w2 hp => by obtain ⟨rfl, hp⟩ := hp; exact kk r hp)
theorem G_stl (C : Cx E Y cc nL own Ts R) {idx n maxL : Nat} {y : MethodName} {ws ws' : List Cond} {rm : Room} {bytes : ByteArray} {ret : Option FieldType} {As rest st0 : List Value} {post : Int64 → (Nat → Int32) → (Nat → Int64) → (Nat → Nat → Int32) → (Nat → Nat → Int64) → Prop} (hd : decode cc pc = .ok (.invokestatic idx, 3)) (hM : GtL E y ws rm As g h T L post) (hT : GoodIn Ts (va_wsS own idx y ws)) (hw : ws = .code y bytes maxL ret :: ws') (hdm : y.cls ≠ "java/lang/invoke/MethodHandle" ∧ y.cls ≠ "java/lang/invoke/VarHandle" ∧ (parseMethodDescriptor y.desc).map (fun d => d.parameters.length) = some n) (hn : As.length = n) (hst : st0 = As.reverse ++ rest) (hW : (rest.map fun v => v.category).sum ≤ 8) (hrm : rmOK rm R maxL 0 0 cs ss) (kk : ∀ (r : Int64) g2 h2 T2 L2, post r g2 h2 T2 L2 → J E Y (eN E) cs ss (wS E g2 h2 T2 L2) (pc + 3) lv (.long r :: rest)) : J E Y (eN E) cs ss (wS E g h T L) pc lv st0 := J_csl C hd hM hT hw hdm (Nat.le_refl _) hn hst hW hrm (fun r w2 hp => by obtain ⟨g2, h2, T2, L2, rfl, hp⟩ := hp; exact kk r g2 h2 T2 L2 hp)
theorem G_spl (C : Cx E Y cc nL own Ts R) {idx n maxL : Nat} {y : MethodName} {ws ws' : List Cond} {rm : Room} {bytes : ByteArray} {ret : Option FieldType} {As rest st0 : List Value} {post : Int64 → Prop} (hd : decode cc pc = .ok (.invokestatic idx, 3)) (hM : GpL E y ws rm As g h T L post) (hT : GoodIn Ts (va_wsS own idx y ws)) (hw : ws = .code y bytes maxL ret :: ws') (hdm : y.cls ≠ "java/lang/invoke/MethodHandle" ∧ y.cls ≠ "java/lang/invoke/VarHandle" ∧ (parseMethodDescriptor y.desc).map (fun d => d.parameters.length) = some n) (hn : As.length = n) (hst : st0 = As.reverse ++ rest) (hW : (rest.map fun v => v.category).sum ≤ 8) (hrm : rmOK rm R maxL 0 0 cs ss) (kk : ∀ r : Int64, post r → J E Y (eN E) cs ss (wS E g h T L) (pc + 3) lv (.long r :: rest)) : J E Y (eN E) cs ss (wS E g h T L) pc lv st0 := J_csl C hd hM hT hw hdm (Nat.le_refl _) hn hst hW hrm (fun r w2 hp => by obtain ⟨rfl, hp⟩ := hp; exact kk r hp)
theorem G_stv (C : Cx E Y cc nL own Ts R) {idx n maxL : Nat} {y : MethodName} {ws ws' : List Cond} {rm : Room} {bytes : ByteArray} {ret : Option FieldType} {As rest st0 : List Value} {post : (Nat → Int32) → (Nat → Int64) → (Nat → Nat → Int32) → (Nat → Nat → Int64) → Prop} (hd : decode cc pc = .ok (.invokestatic idx, 3)) (hM : GtV E y ws rm As g h T L post) (hT : GoodIn Ts (va_wsS own idx y ws)) (hw : ws = .code y bytes maxL ret :: ws') (hdm : y.cls ≠ "java/lang/invoke/MethodHandle" ∧ y.cls ≠ "java/lang/invoke/VarHandle" ∧ (parseMethodDescriptor y.desc).map (fun d => d.parameters.length) = some n) (hn : As.length = n) (hst : st0 = As.reverse ++ rest) (hW : (rest.map fun v => v.category).sum ≤ 8) (hrm : rmOK rm R maxL 0 0 cs ss) (kk : ∀  g2 h2 T2 L2, post g2 h2 T2 L2 → J E Y (eN E) cs ss (wS E g2 h2 T2 L2) (pc + 3) lv (rest)) : J E Y (eN E) cs ss (wS E g h T L) pc lv st0 := J_csv C hd hM hT hw hdm (Nat.le_refl _) hn hst hW hrm (fun w2 hp => by obtain ⟨g2, h2, T2, L2, rfl, hp⟩ := hp; exact kk g2 h2 T2 L2 hp)
end GR
