/-! how many plans fit: ways behind so many crossings, as natural numbers -/
def acS (c : Nat → Nat → Option Nat) (ok : Nat → Bool) (ws s : Nat) (a : Nat → Nat) (b : Nat) : Nat → Nat := match c s b with
  | none => a
  | some t => if ok t = true then (fun j => if j = t then a j + ws else a j) else a
def acI (c : Nat → Nat → Option Nat) (ok : Nat → Bool) (ws s : Nat) (a : Nat → Nat) : Nat → Nat → Nat
  | 0 => a
  | b + 1 => acS c ok ws s (acI c ok ws s a b) b
def acO (c : Nat → Nat → Option Nat) (ok : Nat → Bool) (w : Nat → Nat) (B : Nat) : Nat → Nat → Nat
  | 0 => fun _ => 0
  | s + 1 => acI c ok (w s) s (acO c ok w B s) B
/-- cf: the crossings of a level; ag: what agrees with all that was seen of it -/
def wy (cf : Nat → Nat → Nat → Option Nat) (ag : Nat → Nat → Bool) (B bg : Nat) : Nat → Nat → Nat
  | 0 => fun s => if s = bg ∧ ag 0 s = true then 1 else 0
  | k + 1 => acO (cf (k + 1)) (ag (k + 1)) (wy cf ag B bg k) B 256
def smN (f : Nat → Nat) : Nat → Nat
  | 0 => 0
  | n + 1 => smN f n + f n
theorem acS_none {c : Nat → Nat → Option Nat} {ok : Nat → Bool} {ws s : Nat} {a : Nat → Nat} {b : Nat} (h : c s b = none) : acS c ok ws s a b = a := by
  unfold acS
  rw [h]
theorem acI_skip {c : Nat → Nat → Option Nat} {ok : Nat → Bool} {ws s : Nat} {a : Nat → Nat} : ∀ (d b : Nat), (∀ i, b ≤ i → i < b + d → c s i = none) → acI c ok ws s a (b + d) = acI c ok ws s a b
  | 0, _, _ => rfl
  | d + 1, b, h => by
    show acS c ok ws s (acI c ok ws s a (b + d)) (b + d) = _
    rw [acS_none (h (b + d) (by omega) (by omega))]
    exact acI_skip d b (fun i h1 h2 => h i h1 (by omega))
theorem acS_zero {c : Nat → Nat → Option Nat} {ok : Nat → Bool} {s : Nat} {a : Nat → Nat} {b : Nat} : acS c ok 0 s a b = a := by
  unfold acS
  split
  · rfl
  · split
    · funext j
      split <;> rfl
    · rfl
theorem acI_zero {c : Nat → Nat → Option Nat} {ok : Nat → Bool} {s : Nat} {a : Nat → Nat} : ∀ b, acI c ok 0 s a b = a
  | 0 => rfl
  | b + 1 => by
    show acS c ok 0 s (acI c ok 0 s a b) b = a
    rw [acS_zero, acI_zero b]
theorem acS_at {c : Nat → Nat → Option Nat} {ok : Nat → Bool} {ws s : Nat} {a : Nat → Nat} {b t : Nat} : acS c ok ws s a b t = a t + (if c s b = some t ∧ ok t = true then ws else 0) := by
  unfold acS
  cases h : c s b with
  | none => simp
  | some u =>
    by_cases e : u = t
    · subst e
      by_cases q : ok u = true
      · simp [q]
      · simp [q]
    · by_cases q : ok u = true
      · simp [q, e, Ne.symm e]
      · simp [q, e]
/-- no two sets lead from one standing to one -/
def inj2 (c : Nat → Nat → Option Nat) : Prop := ∀ s b b' t, c s b = some t → c s b' = some t → b = b'
theorem acI_at {c : Nat → Nat → Option Nat} {ok : Nat → Bool} {ws s : Nat} {a : Nat → Nat} {t : Nat} (hi : inj2 c) : ∀ b, acI c ok ws s a b t ≤ a t + ws ∧ ((∀ b', b' < b → c s b' ≠ some t) → acI c ok ws s a b t = a t)
  | 0 => ⟨Nat.le_add_right _ _, fun _ => rfl⟩
  | b + 1 => by
    obtain ⟨h1, h2⟩ := acI_at (c := c) (ok := ok) (ws := ws) (s := s) (a := a) (t := t) hi b
    show acS c ok ws s (acI c ok ws s a b) b t ≤ _ ∧ (_ → acS c ok ws s (acI c ok ws s a b) b t = _)
    rw [acS_at]
    constructor
    · by_cases q : c s b = some t ∧ ok t = true
      · rw [if_pos q, h2 (fun b' hb' hc => by have := hi s b' b t hc q.1; omega)]
        exact Nat.le_refl _
      · rw [if_neg q]
        omega
    · intro hh
      rw [if_neg (fun q => hh b (by omega) q.1), h2 (fun b' hb' => hh b' (by omega))]
      rfl
theorem acO_le {c : Nat → Nat → Option Nat} {ok : Nat → Bool} {w : Nat → Nat} {B M t : Nat} (hi : inj2 c) (hw : ∀ s, w s ≤ M) : ∀ s, acO c ok w B s t ≤ s * M
  | 0 => by simp [acO]
  | s + 1 => by
    have h1 := acO_le (c := c) (ok := ok) (w := w) (B := B) (t := t) hi hw s
    have h2 := (acI_at (c := c) (ok := ok) (ws := w s) (s := s) (a := acO c ok w B s) (t := t) hi B).1
    have h3 := hw s
    show acI c ok (w s) s (acO c ok w B s) B t ≤ _
    rw [Nat.succ_mul]
    omega
theorem wy_le {cf : Nat → Nat → Nat → Option Nat} {ag : Nat → Nat → Bool} {B bg : Nat} (hi : ∀ k, inj2 (cf k)) : ∀ k s, wy cf ag B bg k s ≤ 256 ^ k
  | 0, s => by
    unfold wy
    split <;> simp
  | k + 1, s => by
    have := acO_le (ok := ag (k + 1)) (B := B) (t := s) (hi (k + 1)) (fun s => wy_le (ag := ag) (B := B) (bg := bg) hi k s) 256
    show acO (cf (k + 1)) (ag (k + 1)) (wy cf ag B bg k) B 256 s ≤ _
    rw [Nat.pow_succ, Nat.mul_comm]
    exact this
theorem wy_small {cf : Nat → Nat → Nat → Option Nat} {ag : Nat → Nat → Bool} {B bg : Nat} (hi : ∀ k, inj2 (cf k)) {k s : Nat} (hk : k ≤ 5) : wy cf ag B bg k s ≤ 1099511627776 := by
  have h1 := wy_le (ag := ag) (B := B) (bg := bg) hi k s
  have h2 : 256 ^ k ≤ 256 ^ 5 := Nat.pow_le_pow_right (by omega) hk
  have h3 : (256 : Nat) ^ 5 = 1099511627776 := by decide
  omega
theorem smN_le {f : Nat → Nat} {M : Nat} (h : ∀ s, f s ≤ M) : ∀ n, smN f n ≤ n * M
  | 0 => by simp [smN]
  | n + 1 => by
    have := smN_le h n
    have := h n
    rw [smN, Nat.succ_mul]
    omega
theorem smN_pos {f : Nat → Nat} : ∀ n, smN f n ≠ 0 ↔ ∃ s, s < n ∧ f s ≠ 0
  | 0 => by simp [smN]
  | n + 1 => by
    have ih := smN_pos (f := f) n
    rw [smN]
    constructor
    · intro h
      by_cases q : f n = 0
      · obtain ⟨s, h1, h2⟩ := ih.mp (by omega)
        exact ⟨s, by omega, h2⟩
      · exact ⟨n, by omega, q⟩
    · rintro ⟨s, h1, h2⟩
      by_cases q : s = n
      · subst q
        omega
      · have := ih.mpr ⟨s, by omega, h2⟩
        omega
theorem acI_pos {c : Nat → Nat → Option Nat} {ok : Nat → Bool} {ws s : Nat} {a : Nat → Nat} {t : Nat} : ∀ b, acI c ok ws s a b t ≠ 0 ↔ a t ≠ 0 ∨ (ws ≠ 0 ∧ ok t = true ∧ ∃ b', b' < b ∧ c s b' = some t)
  | 0 => by simp [acI]
  | b + 1 => by
    have ih := acI_pos (c := c) (ok := ok) (ws := ws) (s := s) (a := a) (t := t) b
    show acS c ok ws s (acI c ok ws s a b) b t ≠ 0 ↔ _
    rw [acS_at]
    constructor
    · intro h
      by_cases q : acI c ok ws s a b t = 0
      · by_cases q2 : c s b = some t ∧ ok t = true
        · rw [if_pos q2] at h
          exact Or.inr ⟨by omega, q2.2, b, by omega, q2.1⟩
        · rw [if_neg q2] at h
          omega
      · rcases ih.mp q with h1 | ⟨h1, h2, b', h3, h4⟩
        · exact Or.inl h1
        · exact Or.inr ⟨h1, h2, b', by omega, h4⟩
    · rintro (h1 | ⟨h1, h2, b', h3, h4⟩)
      · have := ih.mpr (Or.inl h1)
        omega
      · by_cases q : b' = b
        · subst q
          rw [if_pos ⟨h4, h2⟩]
          omega
        · have := ih.mpr (Or.inr ⟨h1, h2, b', by omega, h4⟩)
          omega
theorem acO_pos {c : Nat → Nat → Option Nat} {ok : Nat → Bool} {w : Nat → Nat} {B t : Nat} : ∀ s, acO c ok w B s t ≠ 0 ↔ ok t = true ∧ ∃ s' b, s' < s ∧ b < B ∧ w s' ≠ 0 ∧ c s' b = some t
  | 0 => by simp [acO]
  | s + 1 => by
    have ih := acO_pos (c := c) (ok := ok) (w := w) (B := B) (t := t) s
    show acI c ok (w s) s (acO c ok w B s) B t ≠ 0 ↔ _
    rw [acI_pos, ih]
    constructor
    · rintro (⟨h1, s', b, h2, h3, h4, h5⟩ | ⟨h1, h2, b, h3, h4⟩)
      · exact ⟨h1, s', b, by omega, h3, h4, h5⟩
      · exact ⟨h2, s, b, by omega, h3, h1, h4⟩
    · rintro ⟨h1, s', b, h2, h3, h4, h5⟩
      by_cases q : s' = s
      · subst q
        exact Or.inr ⟨h4, h1, b, h3, h5⟩
      · exact Or.inl ⟨h1, s', b, by omega, h3, h4, h5⟩
theorem wy_pos {cf : Nat → Nat → Nat → Option Nat} {ag : Nat → Nat → Bool} {B bg k t : Nat} : wy cf ag B bg (k + 1) t ≠ 0 ↔ ag (k + 1) t = true ∧ ∃ s b, s < 256 ∧ b < B ∧ wy cf ag B bg k s ≠ 0 ∧ cf (k + 1) s b = some t := acO_pos 256
/-- standings behind the k-th crossing from which the n-th can be reached (d crossings more) -/
def Vn (c : Nat → Nat → Option Nat) (w : Nat → Nat → Nat) (B n : Nat) : Nat → Nat → Prop
  | 0 => fun s => s < 256 ∧ w n s ≠ 0
  | d + 1 => fun s => s < 256 ∧ w (n - (d + 1)) s ≠ 0 ∧ ∃ b t, b < B ∧ c s b = some t ∧ Vn c w B n d t
/-- the crossings of a level, in the cc-th those of sets with a thing alone -/
def cfT (c : Nat → Nat → Option Nat) (cc tt : Nat) : Nat → Nat → Nat → Option Nat := fun k s b => if k = cc ∧ b.testBit tt = false then none else c s b
theorem wy_before {c : Nat → Nat → Option Nat} {ag : Nat → Nat → Bool} {B bg cc tt : Nat} : ∀ k, k < cc → wy (cfT c cc tt) ag B bg k = wy (fun _ => c) ag B bg k
  | 0, _ => rfl
  | k + 1, h => by
    show acO (cfT c cc tt (k + 1)) (ag (k + 1)) (wy (cfT c cc tt) ag B bg k) B 256 = acO c (ag (k + 1)) (wy (fun _ => c) ag B bg k) B 256
    rw [wy_before k (by omega)]
    have : cfT c cc tt (k + 1) = c := by
      funext s b
      unfold cfT
      rw [if_neg (by omega)]
    rw [this]
theorem wy_mono {c : Nat → Nat → Option Nat} {ag : Nat → Nat → Bool} {B bg cc tt : Nat} : ∀ k s, wy (cfT c cc tt) ag B bg k s ≠ 0 → wy (fun _ => c) ag B bg k s ≠ 0
  | 0, s, h => h
  | k + 1, s, h => by
    obtain ⟨h1, s', b, h2, h3, h4, h5⟩ := wy_pos.mp h
    refine wy_pos.mpr ⟨h1, s', b, h2, h3, wy_mono k s' h4, ?_⟩
    unfold cfT at h5
    split at h5
    · cases h5
    · exact h5
theorem Vn_sub {c : Nat → Nat → Option Nat} {w : Nat → Nat → Nat} {B n : Nat} : ∀ d s, Vn c w B n d s → s < 256 ∧ w (n - d) s ≠ 0
  | 0, s, h => h
  | d + 1, s, h => ⟨h.1, h.2.1⟩
theorem aboard_down {c : Nat → Nat → Option Nat} {ag : Nat → Nat → Bool} {B bg cc tt n : Nat} (hcl : ∀ s b t, s < 256 → c s b = some t → t < 256) : ∀ d, d + cc ≤ n → ((∃ s, s < 256 ∧ wy (cfT c cc tt) ag B bg n s ≠ 0) ↔ ∃ s, wy (cfT c cc tt) ag B bg (n - d) s ≠ 0 ∧ Vn c (wy (fun _ => c) ag B bg) B n d s)
  | 0, _ => by
    constructor
    · rintro ⟨s, h0, h⟩
      exact ⟨s, h, h0, wy_mono n s h⟩
    · rintro ⟨s, h, h1⟩
      exact ⟨s, h1.1, h⟩
  | d + 1, hd => by
    rw [aboard_down hcl d (by omega)]
    have e : n - d = (n - (d + 1)) + 1 := by omega
    constructor
    · rintro ⟨t, h, hV⟩
      rw [e] at h
      obtain ⟨h1, s, b, h2, h3, h4, h5⟩ := wy_pos.mp h
      have h6 : c s b = some t := by
        unfold cfT at h5
        rw [if_neg (by omega)] at h5
        exact h5
      exact ⟨s, h4, h2, wy_mono _ s h4, b, t, h3, h6, hV⟩
    · rintro ⟨s, h, h0, h1, b, t, h2, h3, hV⟩
      refine ⟨t, ?_, hV⟩
      have h4 := (Vn_sub d t hV).2
      rw [e] at h4
      have h5 := (wy_pos.mp h4).1
      rw [e]
      refine wy_pos.mpr ⟨h5, s, b, h0, h2, h, ?_⟩
      unfold cfT
      rw [if_neg (by omega)]
      exact h3
theorem aboard_iff {c : Nat → Nat → Option Nat} {ag : Nat → Nat → Bool} {B bg cc tt n : Nat} (hcl : ∀ s b t, s < 256 → c s b = some t → t < 256) (h0 : 0 < cc) (hn : cc ≤ n) : (∃ s, s < 256 ∧ wy (cfT c cc tt) ag B bg n s ≠ 0) ↔ ∃ s b t, s < 256 ∧ b < B ∧ wy (fun _ => c) ag B bg (cc - 1) s ≠ 0 ∧ c s b = some t ∧ Vn c (wy (fun _ => c) ag B bg) B n (n - cc) t ∧ b.testBit tt = true := by
  rw [aboard_down hcl (n - cc) (by omega)]
  have e1 : n - (n - cc) = cc := by omega
  have e2 : cc = (cc - 1) + 1 := by omega
  rw [e1]
  constructor
  · rintro ⟨t, h, hV⟩
    have hb := wy_before (c := c) (ag := ag) (B := B) (bg := bg) (cc := cc) (tt := tt) (cc - 1) (by omega)
    rw [e2] at h
    obtain ⟨h1, s, b, h2, h3, h4, h5⟩ := wy_pos.mp h
    rw [← e2] at h4 h5
    rw [hb] at h4
    unfold cfT at h5
    split at h5
    · cases h5
    · rename_i hq
      refine ⟨s, b, t, h2, h3, h4, h5, hV, ?_⟩
      cases hb : b.testBit tt
      · exact absurd ⟨rfl, hb⟩ hq
      · rfl
  · rintro ⟨s, b, t, h2, h3, h4, h5, hV, h6⟩
    refine ⟨t, ?_, hV⟩
    have hb := wy_before (c := c) (ag := ag) (B := B) (bg := bg) (cc := cc) (tt := tt) (cc - 1) (by omega)
    have h7 := (Vn_sub _ t hV).2
    rw [e1, e2] at h7
    have h8 := (wy_pos.mp h7).1
    have h9 : wy (cfT c cc tt) ag B bg ((cc - 1) + 1) t ≠ 0 := by
      refine wy_pos.mpr ⟨h8, s, b, h2, h3, by rw [hb]; exact h4, ?_⟩
      rw [← e2]
      unfold cfT
      rw [if_neg (fun q => by rw [h6] at q; cases q.2)]
      exact h5
    rw [← e2] at h9
    exact h9
theorem crN_inj {m : Nat} {wt fr : Nat → Nat} {ld th : Nat} : inj2 (crN m wt fr ld th) := by
  intro s b b' t h h'
  unfold crN at h h'
  split at h
  · split at h'
    · have e1 := Option.some.inj h
      have e2 := Option.some.inj h'
      have e3 : s ^^^ b ^^^ 128 = s ^^^ b' ^^^ 128 := e1.trans e2.symm
      apply Nat.eq_of_testBit_eq
      intro i
      have := congrArg (fun x => Nat.testBit x i) e3
      simp only [Nat.testBit_xor] at this
      cases h1 : s.testBit i <;> cases h2 : b.testBit i <;> cases h3 : b'.testBit i <;> cases h4 : Nat.testBit 128 i <;> simp_all
    · cases h'
  · cases h
theorem cfT_inj {c : Nat → Nat → Option Nat} (h : inj2 c) {cc tt k : Nat} : inj2 (cfT c cc tt k) := by
  intro s b b' t h1 h2
  unfold cfT at h1 h2
  split at h1
  · cases h1
  · split at h2
    · cases h2
    · exact h s b b' t h1 h2
/-- what was seen of a standing behind the c-th crossing -/
def agN (sn : List (Nat × Nat × Nat)) (c s : Nat) : Bool := sn.all (fun q => !(q.1 == c) || ((if s.testBit q.2.1 = true then 1 else 0) == q.2.2))
theorem lN_z {a : Nat} (ha : a < 2 ^ 63) : lN a = 0 ↔ a = 0 := by
  rw [show (0 : Int64) = lN 0 by decide]
  constructor
  · intro h
    have h1 := pk_lT ha
    have h2 := pk_lT (show 0 < 2 ^ 63 by decide)
    have : ((a : Nat) : Int) = ((0 : Nat) : Int) := by rw [← h1, ← h2, h]
    omega
  · rintro rfl
    rfl
theorem cmp_z {x : Int64} : lg_cmp x 0 = 0 ↔ x = 0 := by
  unfold lg_cmp
  by_cases h1 : x > 0
  · rw [if_pos h1]
    constructor
    · intro h; exact absurd h (by decide)
    · rintro rfl; exact absurd h1 Int64.lt_irrefl
  · rw [if_neg h1]
    by_cases h2 : x = 0
    · simp [h2]
    · rw [if_neg h2]
      constructor
      · intro h; exact absurd h (by decide)
      · intro h; exact absurd h h2
theorem cmp_lez {a : Nat} (ha : a < 2 ^ 63) : lg_cmp (lN a) 0 ≤ 0 ↔ a = 0 := by
  rw [← Int32.not_lt, cmp_gt, show (0 : Int64) = lN 0 by decide, pk_lLT (by decide) ha]
  omega
