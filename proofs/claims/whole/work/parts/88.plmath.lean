theorem isFirst.congr {P Q : BE → Prop} {l : List BE} {o : Option Nat} (hpq : ∀ e, P e ↔ Q e) (h : isFirst P l o) : isFirst Q l o := by
  cases o with
  | none => exact fun j e he hq => h j e he ((hpq e).mpr hq)
  | some i =>
    obtain ⟨⟨e, h1, h2⟩, h3⟩ := h
    exact ⟨⟨e, h1, (hpq e).mp h2⟩, fun j e hj he hq => h3 j e hj he ((hpq e).mpr hq)⟩
theorem isFirst_ex {P : BE → Prop} {l : List BE} : ∃ o, isFirst P l o := by
  by_cases h : ∃ (n : Nat) (e : BE), l[n]? = some e ∧ P e
  · have hex : ∀ n : Nat, (∃ e : BE, l[n]? = some e ∧ P e) → ∃ i : Nat, (∃ e : BE, l[i]? = some e ∧ P e) ∧ ∀ (j : Nat) (e : BE), j < i → l[j]? = some e → ¬ P e := by
      intro n
      induction n using Nat.strongRecOn with
      | _ n ih =>
        intro hn
        by_cases q : ∃ j : Nat, j < n ∧ ∃ e : BE, l[j]? = some e ∧ P e
        · obtain ⟨j, hj, hq⟩ := q
          exact ih j hj hq
        · exact ⟨n, hn, fun j e hj he hp => q ⟨j, hj, e, he, hp⟩⟩
    obtain ⟨n, hn⟩ := h
    obtain ⟨i, hi⟩ := hex n hn
    exact ⟨some i, hi⟩
  · exact ⟨none, fun j e he hp => h ⟨j, e, he, hp⟩⟩
def plF (x : Int32) (l : List BE) (p n : Nat) (v : Int32) : Int32 := if v < 0 then x else if v < nI n then nI (sts l (anc l p (n - 1 - i2n v))) else -5
theorem plF_of {x : Int32} {l : List BE} {p n : Nat} {v r : Int32} (hn : n < 2 ^ 31) (hv : 0 ≤ v) (h : (∃ i, v = nI i ∧ i < n ∧ r = nI (sts l (anc l p (n - 1 - i)))) ∨ ((v < 0 ∨ nI n ≤ v) ∧ r = (-5))) : r = plF x l p n v := by
  unfold plF
  rw [if_neg (Int32.not_lt.mpr hv)]
  rcases h with ⟨i, rfl, hi, hr⟩ | ⟨h1, hr⟩
  · rw [if_pos (nI_lt hi hn), i2n_nI (by omega)]
    exact hr
  · rw [if_neg (Int32.not_lt.mpr (h1.resolve_left (Int32.not_lt.mpr hv)))]
    exact hr
def Pd (m : Nat) (ρ : Nat → Nat → Nat) (th : Nat) : BE → Prop := fun e => wrN (ρ 0) e.1 m &&& th = 0
theorem Pd_all {m : Nat} {ρ : Nat → Nat → Nat} (e : BE) : Pd m ρ (2 ^ m - 1) e ↔ wrN (ρ 0) e.1 m = 0 := by
  unfold Pd
  rw [Nat.and_two_pow_sub_one_eq_mod, Nat.mod_eq_of_lt wrN_lt]
abbrev bl (m : Nat) (ρ : Nat → Nat → Nat) (ld th s : Nat) : List BE := bfs (crN m (ρ 2) (ρ 3) ld th) (2 ^ m) s
def DnR (l : List BE) (P : BE → Prop) (v r : Int32) : Prop := (v < -1 ∧ r = -1) ∨ (¬ v < -1 ∧ ((isFirst P l none ∧ r = -9) ∨ ∃ p e, isFirst P l (some p) ∧ l[p]? = some e ∧ r = plF (nI e.2.1) l p e.2.1 v))
theorem DnR.uni {l : List BE} {P : BE → Prop} {v r r' : Int32} (h : DnR l P v r) (h' : DnR l P v r') : r = r' := by
  rcases h with ⟨a, b⟩ | ⟨a, b⟩
  · rcases h' with ⟨a', b'⟩ | ⟨a', _⟩
    · rw [b, b']
    · exact absurd a a'
  · rcases h' with ⟨a', _⟩ | ⟨_, b'⟩
    · exact absurd a' a
    · rcases b with ⟨c, d⟩ | ⟨p, e, c, d, f⟩
      · rcases b' with ⟨c', d'⟩ | ⟨p', e', c', d', f'⟩
        · rw [d, d']
        · have := c.uni c'
          cases this
      · rcases b' with ⟨c', d'⟩ | ⟨p', e', c', d', f'⟩
        · have := c.uni c'
          cases this
        · have := c.uni c'
          cases this
          rw [d] at d'
          cases d'
          rw [f, f']
theorem isLeast.uni {R : BE → Nat} {l : List BE} {d i i' : Nat} {e e' : BE} (h : isLeast R l d i e) (h' : isLeast R l d i' e') : i = i' ∧ e = e' := by
  obtain ⟨a, b, c⟩ := h
  obtain ⟨a', b', c'⟩ := h'
  rcases Nat.lt_trichotomy i i' with q | q | q
  · have h1 := (c' i e a b).2 q
    have h2 := (c i' e' a' b').1
    omega
  · subst q
    rw [a] at a'
    cases a'
    exact ⟨rfl, rfl⟩
  · have h1 := (c i' e' a' b').2 q
    have h2 := (c' i e a b).1
    omega
def RnR (l : List BE) (R : BE → Nat) (d v r : Int32) : Prop := (((¬ (0 ≤ d ∧ d ≤ 20)) ∨ v < -1) ∧ r = -1) ∨ ∃ dn, d = nI dn ∧ dn ≤ 20 ∧ ¬ v < -1 ∧ ∃ p e, isLeast R l dn p e ∧ r = plF (nI (R e)) l p e.2.1 v
theorem RnR.uni {l : List BE} {R : BE → Nat} {d v r r' : Int32} (h : RnR l R d v r) (h' : RnR l R d v r') : r = r' := by
  rcases h with ⟨a, b⟩ | ⟨dn, a1, a2, a3, p, e, a4, a5⟩
  · rcases h' with ⟨a', b'⟩ | ⟨dn', a1', a2', a3', _⟩
    · rw [b, b']
    · exfalso
      rcases a with a | a
      · exact a (by rw [a1']; exact ⟨nI_pos' (by omega), nI_le a2' (by decide)⟩)
      · exact a3' a
  · rcases h' with ⟨a', b'⟩ | ⟨dn', a1', a2', a3', p', e', a4', a5'⟩
    · exfalso
      rcases a' with a | a
      · exact a (by rw [a1]; exact ⟨nI_pos' (by omega), nI_le a2 (by decide)⟩)
      · exact a3 a
    · have hd : dn = dn' := nI_inj (by omega) (by omega) (by rw [← a1, ← a1'])
      subst hd
      obtain ⟨rfl, rfl⟩ := a4.uni a4'
      rw [a5, a5']
def Dn (m : Nat) (ρ : Nat → Nat → Nat) (s ld : Nat) : Prop := ∃ (i : Nat) (e : BE), (bl m ρ ld (2 ^ m - 1) s)[i]? = some e ∧ Pd m ρ (2 ^ m - 1) e
theorem crN_mono {m : Nat} {wt fr : Nat → Nat} {ld ld' th a b t : Nat} (hl : ld ≤ ld') (h : crN m wt fr ld th a b = some t) : crN m wt fr ld' th a b = some t := by
  unfold crN at h ⊢
  split at h
  · rename_i q
    rw [if_pos ⟨q.1, Nat.le_trans q.2.1 hl, q.2.2⟩]
    exact h
  · cases h
theorem reach_mono {m : Nat} {ρ : Nat → Nat → Nat} {ld ld' th s : Nat} (hm : m ≤ 7) (hs : s < 256) (hl : ld ≤ ld') : ∀ (i : Nat) (e : BE), (bl m ρ ld th s)[i]? = some e → ∃ (i' : Nat) (e' : BE), (bl m ρ ld' th s)[i']? = some e' ∧ e'.1 = e.1 := by
  have B := bfs_BI (wt := ρ 2) (fr := ρ 3) (ld := ld) (th := th) hm hs
  have B' := bfs_BI (wt := ρ 2) (fr := ρ 3) (ld := ld') (th := th) hm hs
  intro i
  induction i using Nat.strongRecOn with
  | _ i ih =>
    intro e he
    rcases Nat.eq_zero_or_pos i with q | q
    · subst q
      have h0 : (bl m ρ ld th s)[0]? = some (s, 0, 0, 0) := B.1
      rw [h0] at he
      cases he
      exact ⟨0, _, B'.1, rfl⟩
    · obtain ⟨a1, a2, a3, p, a4, a5, a6⟩ := B.2.2.2.1 i e he q
      obtain ⟨i', p', h1, h2⟩ := ih _ a1 p a4
      have hlt : i' < 256 := Nat.lt_of_lt_of_le (get_lt h1) B'.len
      obtain ⟨i2, e2, h3, h4, -⟩ := B'.2.2.2.2.2 i' p' e.2.2.2 e.1 h1 (Or.inl hlt) a3 (by rw [h2]; exact crN_mono hl a5)
      exact ⟨i2, e2, h3, h4⟩
theorem Dn_mono {m : Nat} {ρ : Nat → Nat → Nat} {s ld ld' : Nat} (hm : m ≤ 7) (hs : s < 256) (hl : ld ≤ ld') (h : Dn m ρ s ld) : Dn m ρ s ld' := by
  obtain ⟨i, e, h1, h2⟩ := h
  obtain ⟨i', e', h3, h4⟩ := reach_mono hm hs hl i e h1
  exact ⟨i', e', h3, by unfold Pd; rw [h4]; exact h2⟩
theorem stO_some {m : Nat} {ρ : Nat → Nat → Nat} {s ld th : Nat} (hm : m ≤ 7) (hs : s < 256) {P : BE → Prop} {p : Nat} (h : isFirst P (bl m ρ ld th s) (some p)) : ∃ e, (bl m ρ ld th s)[p]? = some e ∧ stO (bl m ρ ld th s) (some p) = nI e.2.1 ∧ e.2.1 < 256 := by
  obtain ⟨⟨e, he, -⟩, -⟩ := h
  have B := bfs_BI (wt := ρ 2) (fr := ρ 3) (ld := ld) (th := th) hm hs
  refine ⟨e, he, ?_, ?_⟩
  · show nI ((bl m ρ ld th s).getD p (0, 0, 0, 0)).2.1 = _
    rw [getD_of he]
  · have h1 := steps_le B p e he
    have h2 := get_lt he
    have h3 : (bl m ρ ld th s).length ≤ 256 := B.len
    omega
theorem stO_neg {m : Nat} {ρ : Nat → Nat → Nat} {s ld : Nat} (hm : m ≤ 7) (hs : s < 256) {o : Option Nat} (h : isFirst (Pd m ρ (2 ^ m - 1)) (bl m ρ ld (2 ^ m - 1) s) o) : (0 ≤ stO (bl m ρ ld (2 ^ m - 1) s) o ↔ Dn m ρ s ld) := by
  cases o with
  | none =>
    constructor
    · intro q
      exact absurd q (by show ¬ (0 : Int32) ≤ -1; decide)
    · rintro ⟨i, e, h1, h2⟩
      exact absurd h2 (h i e h1)
  | some p =>
    obtain ⟨e, he, h1, h2⟩ := stO_some hm hs h
    constructor
    · intro _
      obtain ⟨⟨e2, he2, hp⟩, -⟩ := h
      exact ⟨p, e2, he2, hp⟩
    · intro _
      rw [h1]
      exact nI_pos' (by omega)
def LsR (D : Nat → Prop) (r : Int32) : Prop := ((∀ k, 1 ≤ k → k ≤ 20 → ¬ D k) ∧ r = -9) ∨ ∃ k, 1 ≤ k ∧ k ≤ 20 ∧ D k ∧ (∀ k', 1 ≤ k' → k' < k → ¬ D k') ∧ r = nI k
theorem LsR.uni {D : Nat → Prop} {r r' : Int32} (h : LsR D r) (h' : LsR D r') : r = r' := by
  rcases h with ⟨a, b⟩ | ⟨k, a1, a2, a3, a4, a5⟩
  · rcases h' with ⟨a', b'⟩ | ⟨k', a1', a2', a3', a4', a5'⟩
    · rw [b, b']
    · exact absurd a3' (a k' a1' a2')
  · rcases h' with ⟨a', b'⟩ | ⟨k', a1', a2', a3', a4', a5'⟩
    · exact absurd a3 (a' k a1 a2)
    · rcases Nat.lt_trichotomy k k' with q | q | q
      · exact absurd a3 (a4' k a1 q)
      · rw [a5, a5', q]
      · exact absurd a3' (a4 k' a1' q)
def thJ (m j : Nat) : Nat := (2 ^ m - 1) &&& (2 ^ j ^^^ (2 ^ 7 - 1))
def soV (a b : Int32) : Int32 := if a < 0 then -1000000 else if b < 0 then -1000000 else a - b
def SoR (m : Nat) (ρ : Nat → Nat → Nat) (ld s : Nat) (t r : Int32) : Prop := (¬ (0 ≤ t ∧ t < nI m) ∧ r = -1000000) ∨ ∃ j, t = nI j ∧ j < m ∧ ∃ o o', isFirst (Pd m ρ (2 ^ m - 1)) (bl m ρ ld (2 ^ m - 1) s) o ∧ isFirst (Pd m ρ (thJ m j)) (bl m ρ ld (thJ m j) s) o' ∧ r = soV (stO (bl m ρ ld (2 ^ m - 1) s) o) (stO (bl m ρ ld (thJ m j) s) o')
theorem SoR.uni {m : Nat} {ρ : Nat → Nat → Nat} {ld s : Nat} {t r r' : Int32} (hm : m ≤ 7) (h : SoR m ρ ld s t r) (h' : SoR m ρ ld s t r') : r = r' := by
  rcases h with ⟨a, b⟩ | ⟨j, rfl, hj, o, o2, a1, a2, a3⟩
  · rcases h' with ⟨a', b'⟩ | ⟨j', rfl, hj', _⟩
    · rw [b, b']
    · exact absurd ⟨nI_pos' (by omega), nI_lt hj' (by omega)⟩ a
  · rcases h' with ⟨a', b'⟩ | ⟨j', e, hj', o', o2', a1', a2', a3'⟩
    · exact absurd ⟨nI_pos' (by omega), nI_lt hj (by omega)⟩ a'
    · have hjj : j = j' := nI_inj (by omega) (by omega) e
      subst hjj
      rw [a3, a3', a1.uni a1', a2.uni a2']
