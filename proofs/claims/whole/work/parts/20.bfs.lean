/-! standings in the order in which they are found: a list of (standing, crossings, place it was found from, set) -/
abbrev BE : Type := Nat × Nat × Nat × Nat
def bIn (l : List BE) (s : Nat) : Bool := l.any (fun x => x.1 == s)
def bAdd (l : List BE) (e : BE) : List BE := if bIn l e.1 = true then l else l ++ [e]
def bStep (c : Nat → Nat → Option Nat) (l : List BE) (k b : Nat) : List BE := match l[k]? with
  | none => l
  | some e => match c e.1 b with
    | none => l
    | some t => bAdd l (t, e.2.1 + 1, k, b)
def bInn (c : Nat → Nat → Option Nat) (k : Nat) (l : List BE) : Nat → List BE
  | 0 => l
  | b + 1 => bStep c (bInn c k l b) k b
def bOut (c : Nat → Nat → Option Nat) (B s0 : Nat) : Nat → List BE
  | 0 => [(s0, 0, 0, 0)]
  | k + 1 => bInn c k (bOut c B s0 k) B
def bfs (c : Nat → Nat → Option Nat) (B s0 : Nat) : List BE := bOut c B s0 256
theorem bIn_iff {l : List BE} {s : Nat} : bIn l s = true ↔ ∃ (i : Nat) (e : BE), l[i]? = some e ∧ e.1 = s := by
  unfold bIn
  rw [List.any_eq_true]
  constructor
  · rintro ⟨e, he, h⟩
    obtain ⟨i, hi⟩ := List.getElem?_of_mem he
    exact ⟨i, e, hi, by simpa using h⟩
  · rintro ⟨i, e, hi, h⟩
    exact ⟨e, List.mem_of_getElem? hi, by simpa using h⟩
def llt (a b c d : Nat) : Prop := a < c ∨ (a = c ∧ b < d)
/-- what holds when all pairs of a place and a set ahead of (k, j) have been tried -/
def BI (c : Nat → Nat → Option Nat) (B s0 : Nat) (l : List BE) (k j : Nat) : Prop :=
  l[0]? = some (s0, 0, 0, 0) ∧
  (∀ (i i' : Nat) (e e' : BE), l[i]? = some e → l[i']? = some e' → e.1 = e'.1 → i = i') ∧
  (∀ (i : Nat) (e : BE), l[i]? = some e → e.1 < 256) ∧
  (∀ (i : Nat) (e : BE), l[i]? = some e → 0 < i → e.2.2.1 < i ∧ llt e.2.2.1 e.2.2.2 k j ∧ e.2.2.2 < B ∧ ∃ p : BE, l[e.2.2.1]? = some p ∧ c p.1 e.2.2.2 = some e.1 ∧ e.2.1 = p.2.1 + 1) ∧
  (∀ (i i' : Nat) (e e' : BE), 0 < i → i < i' → l[i]? = some e → l[i']? = some e' → llt e.2.2.1 e.2.2.2 e'.2.2.1 e'.2.2.2) ∧
  (∀ (p : Nat) (q : BE) (b t : Nat), l[p]? = some q → llt p b k j → b < B → c q.1 b = some t → ∃ (i : Nat) (e : BE), l[i]? = some e ∧ e.1 = t ∧ (i = 0 ∨ llt e.2.2.1 e.2.2.2 p (b + 1)))
theorem get_app {l : List BE} {e x : BE} {i : Nat} (h : (l ++ [e])[i]? = some x) : l[i]? = some x ∨ (i = l.length ∧ x = e) := by
  by_cases hi : i < l.length
  · rw [List.getElem?_append_left hi] at h
    exact Or.inl h
  · rw [List.getElem?_append_right (by omega)] at h
    have h1 : i - l.length < 1 := (List.getElem?_eq_some_iff.mp h).1
    have h2 : i - l.length = 0 := by omega
    rw [h2] at h
    simp at h
    exact Or.inr ⟨by omega, h.symm⟩
theorem get_lt {l : List BE} {x : BE} {i : Nat} (h : l[i]? = some x) : i < l.length := (List.getElem?_eq_some_iff.mp h).1
theorem get_left {l : List BE} {e x : BE} {i : Nat} (h : l[i]? = some x) : (l ++ [e])[i]? = some x := by
  rw [List.getElem?_append_left (get_lt h)]; exact h
theorem get_new {l : List BE} {e : BE} : (l ++ [e])[l.length]? = some e := by simp
theorem bAdd_pre {l : List BE} {e x : BE} {i : Nat} (h : l[i]? = some x) : (bAdd l e)[i]? = some x := by
  unfold bAdd
  split
  · exact h
  · exact get_left h
theorem bStep_pre {c : Nat → Nat → Option Nat} {l : List BE} {x : BE} {k b i : Nat} (h : l[i]? = some x) : (bStep c l k b)[i]? = some x := by
  unfold bStep
  split
  · exact h
  · split
    · exact h
    · exact bAdd_pre h
theorem bInn_pre {c : Nat → Nat → Option Nat} {k : Nat} {l : List BE} {x : BE} {i : Nat} (h : l[i]? = some x) : ∀ b, (bInn c k l b)[i]? = some x
  | 0 => h
  | b + 1 => bStep_pre (bInn_pre h b)
theorem BI.same {c : Nat → Nat → Option Nat} {B s0 k j : Nat} {l : List BE} (h : BI c B s0 l k j) (hc : ∀ (q : BE) (t : Nat), l[k]? = some q → j < B → c q.1 j = some t → bIn l t = true) : BI c B s0 l k (j + 1) := by
  obtain ⟨h1, h2, h3, h4, h5, h6⟩ := h
  refine ⟨h1, h2, h3, fun i e hi h0 => ?_, h5, fun p q b t hp hl hb ht => ?_⟩
  · obtain ⟨a1, a2, a3, a4⟩ := h4 i e hi h0
    refine ⟨a1, ?_, a3, a4⟩
    rcases a2 with a2 | a2
    · exact Or.inl a2
    · exact Or.inr ⟨a2.1, by omega⟩
  · by_cases hn : llt p b k j
    · exact h6 p q b t hp hn hb ht
    · have e : p = k ∧ b = j := by
        unfold llt at hl hn
        omega
      obtain ⟨rfl, rfl⟩ := e
      obtain ⟨i, e, hi, he⟩ := bIn_iff.mp (hc q t hp hb ht)
      refine ⟨i, e, hi, he, ?_⟩
      by_cases i0 : i = 0
      · exact Or.inl i0
      · obtain ⟨-, a2, -, -⟩ := h4 i e hi (by omega)
        refine Or.inr ?_
        unfold llt at a2 ⊢
        omega
theorem BI.step {c : Nat → Nat → Option Nat} {B s0 k j : Nat} {l : List BE} (hc : ∀ s b t, s < 256 → b < B → c s b = some t → t < 256) (hj : j < B) (h : BI c B s0 l k j) : BI c B s0 (bStep c l k j) k (j + 1) := by
  unfold bStep
  cases hk : l[k]? with
  | none =>
    exact h.same (fun q t hq => by rw [hk] at hq; cases hq)
  | some e =>
    simp only []
    cases hce : c e.1 j with
    | none => exact h.same (fun q t hq _ ht => by rw [hk] at hq; cases hq; rw [hce] at ht; cases ht)
    | some t =>
      simp only []
      unfold bAdd
      by_cases hin : bIn l t = true
      · rw [if_pos hin]
        exact h.same (fun q t' hq _ ht => by rw [hk] at hq; cases hq; rw [hce] at ht; cases ht; exact hin)
      · rw [if_neg hin]
        have hfr : ∀ (i : Nat) (x : BE), l[i]? = some x → x.1 ≠ t := fun i x hi hx => hin (bIn_iff.mpr ⟨i, x, hi, hx⟩)
        obtain ⟨h1, h2, h3, h4, h5, h6⟩ := h
        have hkl := get_lt hk
        refine ⟨get_left h1, ?_, ?_, ?_, ?_, ?_⟩
        · intro i i' x y hx hy hxy
          rcases get_app hx with a | ⟨a, rfl⟩ <;> rcases get_app hy with b | ⟨b, rfl⟩
          · exact h2 i i' x y a b hxy
          · exact absurd hxy (hfr i x a)
          · exact absurd hxy.symm (hfr i' y b)
          · omega
        · intro i x hx
          rcases get_app hx with a | ⟨a, rfl⟩
          · exact h3 i x a
          · exact hc e.1 j t (h3 k e hk) hj hce
        · intro i x hx h0
          rcases get_app hx with a | ⟨a, rfl⟩
          · obtain ⟨a1, a2, a3, p, a4, a5⟩ := h4 i x a h0
            refine ⟨a1, ?_, a3, p, get_left a4, a5⟩
            unfold llt at a2 ⊢
            omega
          · refine ⟨by show k < i; omega, ?_, hj, e, get_left hk, hce, rfl⟩
            show llt k j k (j + 1)
            exact Or.inr ⟨rfl, by omega⟩
        · intro i i' x y h0 hi hx hy
          rcases get_app hx with a | ⟨a, rfl⟩ <;> rcases get_app hy with b | ⟨b, rfl⟩
          · exact h5 i i' x y h0 hi a b
          · obtain ⟨-, a2, -, -⟩ := h4 i x a h0
            exact a2
          · have := get_lt b
            omega
          · omega
        · intro p q b t' hp hl hb ht
          rcases get_app hp with a | ⟨a, rfl⟩
          · by_cases hn : llt p b k j
            · obtain ⟨i, x, b1, b2, b3⟩ := h6 p q b t' a hn hb ht
              exact ⟨i, x, get_left b1, b2, b3⟩
            · have e9 : p = k ∧ b = j := by
                unfold llt at hl hn
                omega
              obtain ⟨rfl, rfl⟩ := e9
              rw [hk] at a
              cases a
              rw [hce] at ht
              cases ht
              exact ⟨l.length, _, get_new, rfl, Or.inr (Or.inr ⟨rfl, by show b < b + 1; omega⟩)⟩
          · exfalso
            unfold llt at hl
            omega
theorem BI.inn {c : Nat → Nat → Option Nat} {B s0 k : Nat} {l : List BE} (hc : ∀ s b t, s < 256 → b < B → c s b = some t → t < 256) (h : BI c B s0 l k 0) : ∀ j, j ≤ B → BI c B s0 (bInn c k l j) k j
  | 0, _ => h
  | j + 1, hj => (BI.inn hc h j (by omega)).step hc (by omega)
theorem BI.next {c : Nat → Nat → Option Nat} {B s0 k : Nat} {l : List BE} (h : BI c B s0 l k B) : BI c B s0 l (k + 1) 0 := by
  obtain ⟨h1, h2, h3, h4, h5, h6⟩ := h
  refine ⟨h1, h2, h3, fun i e hi h0 => ?_, h5, fun p q b t hp hl hb ht => ?_⟩
  · obtain ⟨a1, a2, a3, a4⟩ := h4 i e hi h0
    refine ⟨a1, ?_, a3, a4⟩
    unfold llt at a2 ⊢
    omega
  · refine h6 p q b t hp ?_ hb ht
    unfold llt at hl ⊢
    omega
theorem BI.zero {c : Nat → Nat → Option Nat} {B s0 : Nat} (hs : s0 < 256) : BI c B s0 [(s0, 0, 0, 0)] 0 0 := by
  have key : ∀ (i : Nat) (e : BE), ([(s0, 0, 0, 0)] : List BE)[i]? = some e → i = 0 ∧ e = (s0, 0, 0, 0) := by
    intro i e h
    have : i < 1 := get_lt h
    have e0 : i = 0 := by omega
    subst e0
    simp at h
    exact ⟨rfl, h.symm⟩
  refine ⟨rfl, ?_, ?_, ?_, ?_, ?_⟩
  · intro i i' e e' h1 h2 _
    rw [(key i e h1).1, (key i' e' h2).1]
  · intro i e h
    rw [(key i e h).2]
    exact hs
  · intro i e h h0
    have := (key i e h).1
    omega
  · intro i i' e e' h0 hi h1 h2
    have := (key i' e' h2).1
    omega
  · intro p q b t h hl
    unfold llt at hl
    omega
theorem BI.out {c : Nat → Nat → Option Nat} {B s0 : Nat} (hc : ∀ s b t, s < 256 → b < B → c s b = some t → t < 256) (hs : s0 < 256) : ∀ k, BI c B s0 (bOut c B s0 k) k 0
  | 0 => BI.zero hs
  | k + 1 => (BI.inn hc (BI.out hc hs k) B (Nat.le_refl B)).next
theorem fb_holes : ∀ (m n : Nat) (f : Nat → Nat), (∀ i, i < n → f i < m) → (∀ i j, i < j → j < n → f i ≠ f j) → n ≤ m
  | 0, n, f, h, _ => by
    rcases Nat.eq_zero_or_pos n with q | q
    · omega
    · exact absurd (h 0 q) (Nat.not_lt_zero _)
  | m + 1, n, f, h, hne => by
    rcases Nat.eq_zero_or_pos n with q | q
    · omega
    · have key : n - 1 ≤ m := by
        refine fb_holes m (n - 1) (fun i => if f i = m then f (n - 1) else f i) ?_ ?_
        · intro i hi
          have h1 := h i (by omega)
          have h2 := h (n - 1) (by omega)
          have h3 := hne i (n - 1) (by omega) (by omega)
          show (if f i = m then f (n - 1) else f i) < m
          split
          · omega
          · omega
        · intro i j hij hj
          have h3 := hne i j hij (by omega)
          have h4 := hne i (n - 1) (by omega) (by omega)
          have h5 := hne j (n - 1) (by omega) (by omega)
          show (if f i = m then f (n - 1) else f i) ≠ (if f j = m then f (n - 1) else f j)
          split <;> split <;> omega
      omega
theorem BI.len {c : Nat → Nat → Option Nat} {B s0 k j : Nat} {l : List BE} (h : BI c B s0 l k j) : l.length ≤ 256 := by
  refine fb_holes 256 l.length (fun i => (l.getD i (0, 0, 0, 0)).1) ?_ ?_
  · intro i hi
    have e : l[i]? = some (l[i]) := List.getElem?_eq_getElem hi
    have := h.2.2.1 i _ e
    simpa [List.getD_eq_getElem?_getD, e] using this
  · intro i i' hi hi' heq
    have e1 : l[i]? = some (l[i]'(by omega)) := List.getElem?_eq_getElem (by omega)
    have e2 : l[i']? = some (l[i']) := List.getElem?_eq_getElem hi'
    have := h.2.1 i i' _ _ e1 e2 (by simpa [List.getD_eq_getElem?_getD, e1, e2] using heq)
    omega
theorem bStep_none {c : Nat → Nat → Option Nat} {l : List BE} {k b : Nat} (h : ∀ e : BE, l[k]? = some e → c e.1 b = none) : bStep c l k b = l := by
  unfold bStep
  cases hk : l[k]? with
  | none => rfl
  | some e => simp only []; rw [h e hk]
theorem bInn_skip {c : Nat → Nat → Option Nat} {k : Nat} {l : List BE} {x : BE} (hk : l[k]? = some x) : ∀ (d b : Nat), (∀ i, b ≤ i → i < b + d → c x.1 i = none) → bInn c k l (b + d) = bInn c k l b
  | 0, b, _ => rfl
  | d + 1, b, h => by
    have ih := bInn_skip (c := c) hk d b (fun i h1 h2 => h i h1 (by omega))
    show bStep c (bInn c k l (b + d)) k (b + d) = _
    rw [ih]
    apply bStep_none
    intro e he
    rw [bInn_pre hk b] at he
    cases he
    exact h (b + d) (by omega) (by omega)
theorem bInn_past {c : Nat → Nat → Option Nat} {k : Nat} {l : List BE} (hk : l.length ≤ k) : ∀ b, bInn c k l b = l
  | 0 => rfl
  | b + 1 => by
    show bStep c (bInn c k l b) k b = l
    rw [bInn_past hk b]
    apply bStep_none
    intro e he
    have := get_lt he
    omega
theorem bOut_past {c : Nat → Nat → Option Nat} {B s0 k : Nat} (hk : (bOut c B s0 k).length ≤ k) : ∀ d, bOut c B s0 (k + d) = bOut c B s0 k
  | 0 => rfl
  | d + 1 => by
    show bInn c (k + d) (bOut c B s0 (k + d)) B = _
    rw [bOut_past hk d]
    exact bInn_past (by omega) B
theorem bOut_end {c : Nat → Nat → Option Nat} {B s0 k : Nat} (hk : (bOut c B s0 k).length ≤ k) (h256 : k ≤ 256) : bOut c B s0 k = bfs c B s0 := by
  have := bOut_past (c := c) (B := B) (s0 := s0) hk (256 - k)
  rw [show k + (256 - k) = 256 by omega] at this
  exact this.symm
/-- the same crossings, the same list -/
theorem bStep_congr {c c' : Nat → Nat → Option Nat} {l : List BE} {k b : Nat} (h : ∀ e : BE, l[k]? = some e → c e.1 b = c' e.1 b) : bStep c l k b = bStep c' l k b := by
  unfold bStep
  cases hk : l[k]? with
  | none => rfl
  | some e => simp only []; rw [h e hk]
theorem bInn_congr {c c' : Nat → Nat → Option Nat} {k : Nat} {l : List BE} {B : Nat} (h : ∀ (e : BE) (b : Nat), l[k]? = some e → b < B → c e.1 b = c' e.1 b) : ∀ b, b ≤ B → bInn c k l b = bInn c' k l b
  | 0, _ => rfl
  | b + 1, hb => by
    show bStep c (bInn c k l b) k b = bStep c' (bInn c' k l b) k b
    rw [← bInn_congr h b (by omega)]
    apply bStep_congr
    intro e he
    by_cases hkl : k < l.length
    · have e0 : l[k]? = some (l[k]) := List.getElem?_eq_getElem hkl
      have := bInn_pre (c := c) (k := k) e0 b
      rw [he] at this
      cases this
      exact h _ b e0 (by omega)
    · rw [bInn_past (by omega) b] at he
      have := get_lt he
      omega
theorem bfs_congr {c c' : Nat → Nat → Option Nat} {B s0 : Nat} (hc : ∀ s b t, s < 256 → b < B → c s b = some t → t < 256) (hs : s0 < 256) (h : ∀ s b, s < 256 → b < B → c s b = c' s b) : ∀ k, bOut c B s0 k = bOut c' B s0 k
  | 0 => rfl
  | k + 1 => by
    show bInn c k (bOut c B s0 k) B = bInn c' k (bOut c' B s0 k) B
    rw [← bfs_congr hc hs h k]
    exact bInn_congr (fun e b he hb => h e.1 b ((BI.out hc hs k).2.2.1 k e he) hb) B (Nat.le_refl B)
/-- the sets of a set in their order -/
def nxN (b h : Nat) : Nat := (b + 128 - h) &&& h
theorem nx_ok : ((List.range 128).all fun h => (List.range 128).all fun b => (b &&& h != b) || (b == h) || (decide (b < nxN b h) && (nxN b h &&& h == nxN b h) && (List.range (nxN b h - b - 1)).all (fun d => (b + 1 + d) &&& h != b + 1 + d))) = true := by decide +kernel
theorem nx_end : ∀ h, h < 128 → nxN h h = 0 := by decide +kernel
theorem nx_spec {b h : Nat} (hh : h < 128) (hb : b &&& h = b) (hne : b ≠ h) : b < nxN b h ∧ nxN b h &&& h = nxN b h ∧ ∀ x, b < x → x < nxN b h → ¬ x &&& h = x := by
  have hbl : b < 128 := sub_lt hb hh
  have h1 := List.all_eq_true.mp (List.all_eq_true.mp nx_ok h (List.mem_range.mpr hh)) b (List.mem_range.mpr hbl)
  simp only [Bool.or_eq_true, Bool.and_eq_true, bne_iff_ne, ne_eq, beq_iff_eq, decide_eq_true_eq] at h1
  rcases h1 with (h1 | h1) | h1
  · exact absurd hb h1
  · exact absurd h1 hne
  · obtain ⟨⟨a1, a2⟩, a3⟩ := h1
    refine ⟨a1, a2, fun x h2 h3 => ?_⟩
    have := List.all_eq_true.mp a3 (x - b - 1) (List.mem_range.mpr (by omega))
    rw [show b + 1 + (x - b - 1) = x by omega] at this
    simpa using this
theorem nx_i : ((List.range 128).all fun h => (List.range 128).all fun b => decide ((nI b - nI h) &&& nI h = nI (nxN b h))) = true := by decide +kernel
theorem nx_int {b h : Nat} (hh : h < 128) (hb : b < 128) : (nI b - nI h) &&& nI h = nI (nxN b h) := of_decide_eq_true (List.all_eq_true.mp (List.all_eq_true.mp nx_i h (List.mem_range.mpr hh)) b (List.mem_range.mpr hb))
/-- how many sets of h are less than x -/
def rkN (h : Nat) : Nat → Nat
  | 0 => 0
  | x + 1 => rkN h x + if x &&& h = x then 1 else 0
def pcN (h : Nat) : Nat := (List.range 7).countP (fun i => h.testBit i)
theorem rk_all : ∀ h, h < 128 → rkN h (h + 1) = 2 ^ pcN h := by decide +kernel
theorem rk_same {h : Nat} : ∀ (d x : Nat), (∀ y, x ≤ y → y < x + d → ¬ y &&& h = y) → rkN h (x + d) = rkN h x
  | 0, _, _ => rfl
  | d + 1, x, hh => by
    show rkN h (x + d) + (if (x + d) &&& h = x + d then 1 else 0) = _
    rw [if_neg (hh (x + d) (by omega) (by omega)), rk_same d x (fun y h1 h2 => hh y h1 (by omega))]
    rfl
theorem rk_mono {h : Nat} : ∀ (d x : Nat), rkN h x ≤ rkN h (x + d)
  | 0, _ => Nat.le_refl _
  | d + 1, x => by
    have := rk_mono (h := h) d x
    show rkN h x ≤ rkN h (x + d) + _
    omega
theorem rk_next {b h : Nat} (hh : h < 128) (hb : b &&& h = b) (hne : b ≠ h) : rkN h (nxN b h) = rkN h b + 1 := by
  obtain ⟨h1, h2, h3⟩ := nx_spec hh hb hne
  have e := rk_same (h := h) (nxN b h - (b + 1)) (b + 1) (fun y a1 a2 => h3 y (by omega) (by omega))
  rw [show b + 1 + (nxN b h - (b + 1)) = nxN b h by omega] at e
  rw [e]
  show rkN h b + (if b &&& h = b then 1 else 0) = _
  rw [if_pos hb]
theorem rk_lt {b h : Nat} (hh : h < 128) (hb : b &&& h = b) : rkN h b < 2 ^ pcN h := by
  rw [← rk_all h hh]
  have hle : b ≤ h := by rw [← hb]; exact Nat.and_le_right
  have := rk_mono (h := h) (h - b) (b + 1)
  rw [show b + 1 + (h - b) = h + 1 by omega] at this
  have e : rkN h (b + 1) = rkN h b + 1 := by
    show rkN h b + (if b &&& h = b then 1 else 0) = _
    rw [if_pos hb]
  omega
theorem crN_sub {m : Nat} {wt fr : Nat → Nat} {ld th a b : Nat} (h : ¬ b &&& (hN m a &&& th) = b) : crN m wt fr ld th a b = none := by
  unfold crN
  rw [if_neg (fun q => h q.1)]
theorem crN_lt {m : Nat} {wt fr : Nat → Nat} {ld th a b t : Nat} (hm : m ≤ 7) (ha : a < 256) (h : crN m wt fr ld th a b = some t) : t < 256 ∧ b < 2 ^ m := by
  unfold crN at h
  split at h
  · rename_i hc
    cases h
    have hb : b < 2 ^ m := sub_lt hc.1 (Nat.lt_of_le_of_lt Nat.and_le_left hN_lt)
    have := p7 hm
    exact ⟨x8_lt ha (by omega), hb⟩
  · cases h
