def FrP (g g2 : Nat → Int32) (T T2 : Nat → Nat → Int32) : Prop := (∀ k, k ≠ 4834 → g2 k = g k) ∧ ∀ k, (k < 62 ∨ 65 < k) → T2 k = T k
theorem FrP.rf {g : Nat → Int32} {T : Nat → Nat → Int32} : FrP g g T T := ⟨fun _ _ => rfl, fun _ _ => rfl⟩
theorem FrP.of {g g2 : Nat → Int32} {T T2 : Nat → Nat → Int32} (h : FrM g g2 T T2) : FrP g g2 T T2 := ⟨h.1, fun k hk => h.2 k (by omega) (by omega)⟩
theorem wN_le2 {f : Nat → Nat} {b v : Nat} : ∀ {m : Nat}, (∀ t, t < m → f t ≤ v) → wN f b m ≤ v * m
  | 0, _ => by simp [wN]
  | m + 1, h => by
    have h1 := wN_le2 (f := f) (b := b) (v := v) (m := m) (fun t ht => h t (by omega))
    have h2 := h m (by omega)
    rw [Nat.mul_succ]
    simp only [wN]
    split <;> omega
theorem rtE_le {m : Nat} {ρ : Nat → Nat → Nat} (hm : m ≤ 7) (h : ∀ t, t < m → ρ 1 t ≤ 9) (e : BE) : rtE ρ m e ≤ 63 := by
  unfold rtE
  have := wN_le2 (b := wrN (ρ 0) e.1 m) (v := 9) (m := m) h
  omega
def RI (l : List BE) (R : BE → Nat) (dn k ls nn : Nat) : Prop := (k = 0 ∧ ls = 1000 ∧ nn = 0) ∨ ∃ i e, i < k ∧ l[i]? = some e ∧ e.2.1 ≤ dn ∧ ls = R e ∧ nn = e.2.1 ∧ ∀ (j : Nat) (e' : BE), j < k → l[j]? = some e' → e'.2.1 ≤ dn → R e ≤ R e' ∧ (j < i → R e < R e')
theorem RI.skip {l : List BE} {R : BE → Nat} {dn k ls nn : Nat} {e' : BE} (h : RI l R dn k ls nn) (h0 : ∀ e, l[0]? = some e → e.2.1 = 0) (hR : ∀ e, R e ≤ 63) (he : l[k]? = some e') (hc : e'.2.1 ≤ dn → ls ≤ R e') : RI l R dn (k + 1) ls nn := by
  rcases h with ⟨rfl, rfl, rfl⟩ | ⟨i, e, h1, h2, h3, h4, h5, h6⟩
  · have := hc (by rw [h0 e' he]; exact Nat.zero_le _)
    have := hR e'
    omega
  · refine Or.inr ⟨i, e, by omega, h2, h3, h4, h5, fun j f hj hf hd => ?_⟩
    by_cases q : j = k
    · subst q
      rw [he] at hf
      cases hf
      exact ⟨by rw [← h4]; exact hc hd, fun q => by omega⟩
    · exact h6 j f (by omega) hf hd
theorem RI.take {l : List BE} {R : BE → Nat} {dn k ls nn : Nat} {e' : BE} (h : RI l R dn k ls nn) (hR : ∀ e, R e ≤ 63) (he : l[k]? = some e') (hd : e'.2.1 ≤ dn) (hc : R e' < ls) : RI l R dn (k + 1) (R e') e'.2.1 := by
  refine Or.inr ⟨k, e', by omega, he, hd, rfl, rfl, fun j f hj hf hd => ?_⟩
  by_cases q : j = k
  · subst q
    rw [he] at hf
    cases hf
    exact ⟨Nat.le_refl _, fun q => by omega⟩
  · rcases h with ⟨rfl, rfl, rfl⟩ | ⟨i, e, h1, h2, h3, h4, h5, h6⟩
    · omega
    · have := (h6 j f (by omega) hf hd).1
      exact ⟨by omega, fun _ => by omega⟩
theorem RI.fin {l : List BE} {R : BE → Nat} {dn ls nn : Nat} (hl : 0 < l.length) (h : RI l R dn l.length ls nn) : ∃ i e, isLeast R l dn i e ∧ ls = R e ∧ nn = e.2.1 := by
  rcases h with ⟨h1, _⟩ | ⟨i, e, h1, h2, h3, h4, h5, h6⟩
  · omega
  · exact ⟨i, e, ⟨h2, h3, fun j f hf hd => h6 j f (get_lt hf) hf hd⟩, h4, h5⟩
theorem thJ_tb {m j i : Nat} (hm : m ≤ 7) : (thJ m j).testBit i = (decide (i < m) && decide (i ≠ j)) := by
  unfold thJ
  simp only [Nat.testBit_and, Nat.testBit_xor, Nat.testBit_two_pow_sub_one, Nat.testBit_two_pow]
  by_cases h : i < m
  · have h7 : i < 7 := by omega
    by_cases e : j = i
    · subst e; simp [h, h7]
    · have e2 : ¬ i = j := fun q => e q.symm
      simp [h, h7, e, e2]
  · simp [h]
def wtJ (wt : Nat → Nat) (j : Nat) : Nat → Nat := fun t => if t = j then 100 else wt t
def waJ (wa : Nat → Nat) (j : Nat) : Nat → Nat := fun t => if t = j then 2 else wa t
def frJ (fr : Nat → Nat) (j : Nat) : Nat → Nat := fun t => if t = j then 0 else fr t &&& (2 ^ j ^^^ (2 ^ 7 - 1))
theorem wrN_J {wa : Nat → Nat} {a m j : Nat} (hm : m ≤ 7) : wrN (waJ wa j) a m = wrN wa a m &&& thJ m j := by
  apply Nat.eq_of_testBit_eq
  intro i
  rw [Nat.testBit_and, thJ_tb hm, wrN_tb hm, wrN_tb hm]
  unfold waJ
  by_cases e : i = j
  · simp [e]
  · by_cases h : i < m
    · simp [e, h]
    · simp [h]
theorem wN_J0 {wt : Nat → Nat} {b j : Nat} (hb : b.testBit j = false) : ∀ m, wN (wtJ wt j) b m = wN wt b m
  | 0 => rfl
  | m + 1 => by
    simp only [wN, wN_J0 hb m]
    by_cases e : m = j
    · subst e; simp [hb]
    · simp [wtJ, e]
theorem wN_J1 {wt : Nat → Nat} {b j : Nat} (hb : b.testBit j = true) : ∀ m, j < m → 100 ≤ wN (wtJ wt j) b m
  | 0, h => by omega
  | m + 1, h => by
    simp only [wN]
    by_cases e : m = j
    · subst e; simp [hb, wtJ]
    · have := wN_J1 (wt := wt) hb m (by omega)
      omega
theorem sfN_if2 {fr : Nat → Nat} {b m : Nat} : sfN fr b m = true ↔ ∀ t, t < m → b.testBit t = true → fr t &&& b = 0 := by
  unfold sfN
  rw [List.all_eq_true]
  constructor
  · intro h t ht hb
    have := h t (List.mem_range.mpr ht)
    simpa [hb] using this
  · intro h t ht
    have h1 := h t (List.mem_range.mp ht)
    cases hb : b.testBit t with
    | false => simp
    | true => simp [h1 hb]
theorem and_J {f A j m : Nat} (hm : m ≤ 7) (hA : A < 2 ^ m) : (f &&& (2 ^ j ^^^ (2 ^ 7 - 1))) &&& A = f &&& (A &&& thJ m j) := by
  apply Nat.eq_of_testBit_eq
  intro i
  simp only [Nat.testBit_and, Nat.testBit_xor, Nat.testBit_two_pow_sub_one, Nat.testBit_two_pow, thJ_tb hm]
  by_cases h : i < m
  · have h7 : i < 7 := by omega
    by_cases e : j = i
    · subst e; simp [h7]
    · have e2 : ¬ i = j := fun q => e q.symm
      simp [h, h7, e, e2]
  · have : A.testBit i = false := Nat.testBit_lt_two_pow (Nat.lt_of_lt_of_le hA (Nat.pow_le_pow_right (by decide) (by omega)))
    simp [this]
theorem crN_J {m : Nat} {wt fr : Nat → Nat} {ld s b j : Nat} (hm : m ≤ 7) (hj : j < m) (hld : ld < 100) (hb : b < 2 ^ m) : crN m (wtJ wt j) (frJ fr j) ld (2 ^ m - 1) s b = crN m wt fr ld (thJ m j) s b := by
  have hh : hN m s < 2 ^ m := hN_lt
  have hid : hN m s &&& (2 ^ m - 1) = hN m s := by rw [Nat.and_two_pow_sub_one_eq_mod, Nat.mod_eq_of_lt hh]
  unfold crN
  rw [hid]
  cases hbj : b.testBit j with
  | true =>
    have h1 := wN_J1 (wt := wt) hbj m hj
    rw [if_neg (fun ⟨_, q, _⟩ => by omega), if_neg (fun ⟨q, _, _⟩ => by
      have := congrArg (fun z => Nat.testBit z j) q
      simp only [Nat.testBit_and, thJ_tb hm, hbj] at this
      simp at this)]
  | false =>
    rw [wN_J0 hbj m]
    have hsub : b &&& hN m s = b ↔ b &&& (hN m s &&& thJ m j) = b := by
      have : b &&& (hN m s &&& thJ m j) = b &&& hN m s := by
        apply Nat.eq_of_testBit_eq
        intro i
        simp only [Nat.testBit_and, thJ_tb hm]
        by_cases e : i = j
        · subst e; simp [hbj]
        · by_cases h : i < m
          · simp [e, h]
          · have : b.testBit i = false := Nat.testBit_lt_two_pow (Nat.lt_of_lt_of_le hb (Nat.pow_le_pow_right (by decide) (by omega)))
            simp [this]
      rw [this]
    have hA : hN m s ^^^ b < 2 ^ m := Nat.xor_lt_two_pow hh hb
    have hA2 : (hN m s &&& thJ m j) ^^^ b = (hN m s ^^^ b) &&& thJ m j := by
      apply Nat.eq_of_testBit_eq
      intro i
      simp only [Nat.testBit_and, Nat.testBit_xor, thJ_tb hm]
      by_cases e : i = j
      · subst e; simp [hbj]
      · by_cases h : i < m
        · simp [e, h]
        · have : b.testBit i = false := Nat.testBit_lt_two_pow (Nat.lt_of_lt_of_le hb (Nat.pow_le_pow_right (by decide) (by omega)))
          simp [this, h]
    have hsf : sfN (frJ fr j) (hN m s ^^^ b) m = true ↔ sfN fr ((hN m s &&& thJ m j) ^^^ b) m = true := by
      rw [hA2, sfN_if2, sfN_if2]
      constructor
      · intro h t ht hq
        rw [Nat.testBit_and, thJ_tb hm] at hq
        have e : t ≠ j := by
          intro e
          subst e
          simp at hq
        have h1 := h t ht (by
          cases hz : (hN m s ^^^ b).testBit t with
          | true => rfl
          | false => rw [hz] at hq; simp at hq)
        unfold frJ at h1
        rw [if_neg e, and_J hm hA] at h1
        exact h1
      · intro h t ht hq
        unfold frJ
        split
        · simp
        · rename_i e
          rw [and_J hm hA]
          refine h t ht ?_
          rw [Nat.testBit_and, thJ_tb hm, hq]
          simp [ht, e]
    by_cases q : b &&& hN m s = b ∧ wN wt b m ≤ ld ∧ sfN (frJ fr j) (hN m s ^^^ b) m = true
    · rw [if_pos q, if_pos ⟨hsub.mp q.1, q.2.1, hsf.mp q.2.2⟩]
    · rw [if_neg q, if_neg (fun z => q ⟨hsub.mpr z.1, z.2.1, hsf.mpr z.2.2⟩)]
def rhJ (ρ : Nat → Nat → Nat) (j : Nat) : Nat → Nat → Nat := fun a => if a = 0 then waJ (ρ 0) j else if a = 2 then wtJ (ρ 2) j else if a = 3 then frJ (ρ 3) j else ρ a
theorem bl_J {m : Nat} {ρ : Nat → Nat → Nat} {ld s j : Nat} (hm : m ≤ 7) (hj : j < m) (hld : ld < 100) (hs : s < 256) : bl m (rhJ ρ j) ld (2 ^ m - 1) s = bl m ρ ld (thJ m j) s := bfs_congr (fun s b t hs _ h => (crN_lt hm hs h).1) hs (fun s b _ hb => crN_J hm hj hld hb) 256
theorem frJ_lt {fr : Nat → Nat} {m j t : Nat} (h : fr t < 2 ^ m) : frJ fr j t < 2 ^ m := by
  unfold frJ
  split
  · exact Nat.two_pow_pos m
  · exact Nat.lt_of_le_of_lt Nat.and_le_left h
