/-! numbers of this system: sets of things as natural numbers; who is at the ferry, weights, peace, who is wrong, rents, crossings -/
/-- those at the ferry's bank -/
def hN (m a : Nat) : Nat := (if 128 ≤ a then a else a ^^^ 255) &&& (2 ^ m - 1)
def wN (wt : Nat → Nat) (b : Nat) : Nat → Nat
  | 0 => 0
  | t + 1 => wN wt b t + if b.testBit t then wt t else 0
def sfN (fr : Nat → Nat) (b m : Nat) : Bool := (List.range m).all (fun t => !b.testBit t || (fr t &&& b) == 0)
/-- the things (below k) whose number f tells v -/
def bsN (f : Nat → Nat) (v : Nat) : Nat → Nat
  | 0 => 0
  | t + 1 => bsN f v t ||| if f t = v then 2 ^ t else 0
def wrN (wa : Nat → Nat) (a m : Nat) : Nat := (a &&& bsN wa 0 m) ||| ((a ^^^ 255) &&& bsN wa 1 m)
/-- a crossing of the set b by a ferry of load ld, those alone told that are in th -/
def crN (m : Nat) (wt fr : Nat → Nat) (ld th a b : Nat) : Option Nat :=
  if b &&& (hN m a &&& th) = b ∧ wN wt b m ≤ ld ∧ sfN fr ((hN m a &&& th) ^^^ b) m = true then some (a ^^^ b ^^^ 128) else none
theorem tb255 {i : Nat} (h : i < 8) : Nat.testBit 255 i = true := by
  have : (255 : Nat) = 2 ^ 8 - 1 := by decide
  rw [this, Nat.testBit_two_pow_sub_one]
  simp [h]
theorem tb255' (i : Nat) : Nat.testBit 255 i = decide (i < 8) := by
  have : (255 : Nat) = 2 ^ 8 - 1 := by decide
  rw [this, Nat.testBit_two_pow_sub_one]
theorem tb128 (i : Nat) : Nat.testBit 128 i = decide (i = 7) := by
  have : (128 : Nat) = 2 ^ 7 := by decide
  rw [this, Nat.testBit_two_pow]
  exact decide_eq_decide.mpr eq_comm
theorem hN_tb {m a i : Nat} (hm : m ≤ 7) : (hN m a).testBit i = (decide (i < m) && (if 128 ≤ a then a.testBit i else !a.testBit i)) := by
  unfold hN
  rw [Nat.testBit_and, Nat.testBit_two_pow_sub_one]
  by_cases h : i < m
  · split
    · simp [h]
    · rw [Nat.testBit_xor, tb255 (by omega)]
      simp [h]
  · simp [h]
theorem hN_lt {m a : Nat} : hN m a < 2 ^ m := by
  unfold hN
  have h1 : (if 128 ≤ a then a else a ^^^ 255) &&& (2 ^ m - 1) ≤ 2 ^ m - 1 := Nat.and_le_right
  have : 0 < 2 ^ m := Nat.two_pow_pos m
  omega
theorem p7 {m : Nat} (hm : m ≤ 7) : 2 ^ m ≤ 128 := by
  have := Nat.pow_le_pow_right (n := 2) (by omega) hm
  simpa using this
theorem sub_lt {b h n : Nat} (hb : b &&& h = b) (hh : h < n) : b < n := by
  have : b &&& h ≤ h := Nat.and_le_right
  omega
theorem wN_congr {f f' : Nat → Nat} {b b' : Nat} : ∀ {m : Nat}, (∀ t, t < m → b.testBit t = b'.testBit t ∧ f t = f' t) → wN f b m = wN f' b' m
  | 0, _ => rfl
  | m + 1, h => by
    have := wN_congr (f := f) (f' := f') (b := b) (b' := b') (m := m) (fun t ht => h t (by omega))
    have h2 := h m (by omega)
    simp only [wN, this, h2.1, h2.2]
theorem sfN_iff {fr : Nat → Nat} {b m : Nat} : sfN fr b m = true ↔ ∀ t, t < m → b.testBit t = true → fr t &&& b = 0 := by
  unfold sfN
  rw [List.all_eq_true]
  constructor
  · intro h t ht hb
    have := h t (List.mem_range.mpr ht)
    simp [hb] at this
    exact this
  · intro h t ht
    have := h t (List.mem_range.mp ht)
    cases hb : b.testBit t
    · simp
    · simp [this hb]
theorem bsN_tb {f : Nat → Nat} {v i : Nat} : ∀ {m : Nat}, (bsN f v m).testBit i = (decide (i < m) && decide (f i = v))
  | 0 => by simp [bsN]
  | m + 1 => by
    rw [bsN, Nat.testBit_or, bsN_tb]
    by_cases h : f m = v
    · rw [if_pos h, Nat.testBit_two_pow]
      by_cases e : m = i
      · subst e
        simp [h]
      · by_cases hi : i < m
        · simp [hi, e, Nat.lt_succ_of_lt hi]
        · have : ¬ i < m + 1 := by omega
          simp [hi, e, this]
    · rw [if_neg h]
      by_cases e : m = i
      · subst e
        simp [h]
      · by_cases hi : i < m
        · simp [hi, Nat.lt_succ_of_lt hi]
        · have : ¬ i < m + 1 := by omega
          simp [hi, this]
theorem bsN_lt {f : Nat → Nat} {v : Nat} : ∀ {m : Nat}, bsN f v m < 2 ^ m
  | 0 => by simp [bsN]
  | m + 1 => by
    rw [bsN]
    have ih := bsN_lt (f := f) (v := v) (m := m)
    apply Nat.or_lt_two_pow
    · exact Nat.lt_of_lt_of_le ih (Nat.pow_le_pow_right (by omega) (by omega))
    · split
      · exact Nat.pow_lt_pow_right (by omega) (by omega)
      · exact Nat.two_pow_pos _
theorem wrN_tb {wa : Nat → Nat} {a m i : Nat} (hm : m ≤ 7) : (wrN wa a m).testBit i = (decide (i < m) && ((decide (wa i = 0) && a.testBit i) || (decide (wa i = 1) && !a.testBit i))) := by
  unfold wrN
  rw [Nat.testBit_or, Nat.testBit_and, Nat.testBit_and, Nat.testBit_xor, bsN_tb, bsN_tb, tb255']
  by_cases h : i < m
  · have : i < 8 := by omega
    simp only [h, this, decide_true, Bool.true_and, Bool.xor_true]
    cases a.testBit i <;> simp
  · simp [h]
theorem wrN_lt {wa : Nat → Nat} {a m : Nat} : wrN wa a m < 2 ^ m := by
  unfold wrN
  apply Nat.or_lt_two_pow
  · have := bsN_lt (f := wa) (v := 0) (m := m)
    exact Nat.lt_of_le_of_lt Nat.and_le_right this
  · have := bsN_lt (f := wa) (v := 1) (m := m)
    exact Nat.lt_of_le_of_lt Nat.and_le_right this
/-- int arithmetic over small sets -/
theorem nI_inj {a b : Nat} (ha : a < 2 ^ 32) (hb : b < 2 ^ 32) (h : nI a = nI b) : a = b := by
  have h1 := pk_tn ha
  have h2 := pk_tn hb
  rw [← h1, ← h2, h]
theorem nI_and (a b : Nat) : nI a &&& nI b = nI (a &&& b) := by
  apply Int32.toBitVec_inj.mp
  show (BitVec.ofNat 32 a) &&& (BitVec.ofNat 32 b) = BitVec.ofNat 32 (a &&& b)
  apply BitVec.eq_of_toNat_eq
  rw [BitVec.toNat_and, BitVec.toNat_ofNat, BitVec.toNat_ofNat, BitVec.toNat_ofNat, Nat.and_mod_two_pow]
theorem nI_or (a b : Nat) : nI a ||| nI b = nI (a ||| b) := by
  apply Int32.toBitVec_inj.mp
  show (BitVec.ofNat 32 a) ||| (BitVec.ofNat 32 b) = BitVec.ofNat 32 (a ||| b)
  apply BitVec.eq_of_toNat_eq
  rw [BitVec.toNat_or, BitVec.toNat_ofNat, BitVec.toNat_ofNat, BitVec.toNat_ofNat, Nat.or_mod_two_pow]
theorem nI_xor (a b : Nat) : nI a ^^^ nI b = nI (a ^^^ b) := by
  apply Int32.toBitVec_inj.mp
  show (BitVec.ofNat 32 a) ^^^ (BitVec.ofNat 32 b) = BitVec.ofNat 32 (a ^^^ b)
  apply BitVec.eq_of_toNat_eq
  rw [BitVec.toNat_xor, BitVec.toNat_ofNat, BitVec.toNat_ofNat, BitVec.toNat_ofNat, Nat.xor_mod_two_pow]
theorem m1_nI : (-1 : Int32) = nI (2 ^ 32 - 1) := by decide
/-- a & ~b -/
theorem nI_andn {a b n : Nat} (hn : n ≤ 32) (ha : a < 2 ^ n) : nI a &&& (nI b ^^^ (-1)) = nI (a &&& (b ^^^ (2 ^ n - 1))) := by
  rw [m1_nI, nI_xor, nI_and]
  congr 1
  apply Nat.eq_of_testBit_eq
  intro i
  rw [Nat.testBit_and, Nat.testBit_and, Nat.testBit_xor, Nat.testBit_xor, Nat.testBit_two_pow_sub_one, Nat.testBit_two_pow_sub_one]
  by_cases h : i < n
  · have : i < 32 := by omega
    simp [h, this]
  · have : a.testBit i = false := Nat.testBit_lt_two_pow (Nat.lt_of_lt_of_le ha (Nat.pow_le_pow_right (by omega) (by omega)))
    simp [this]
theorem nI_nand {a b n : Nat} (hn : n ≤ 32) (ha : a < 2 ^ n) : (nI b ^^^ (-1)) &&& nI a = nI ((b ^^^ (2 ^ n - 1)) &&& a) := by
  rw [m1_nI, nI_xor, nI_and]
  congr 1
  apply Nat.eq_of_testBit_eq
  intro i
  rw [Nat.testBit_and, Nat.testBit_and, Nat.testBit_xor, Nat.testBit_xor, Nat.testBit_two_pow_sub_one, Nat.testBit_two_pow_sub_one]
  by_cases h : i < n
  · have : i < 32 := by omega
    simp [h, this]
  · have : a.testBit i = false := Nat.testBit_lt_two_pow (Nat.lt_of_lt_of_le ha (Nat.pow_le_pow_right (by omega) (by omega)))
    simp [this]
theorem nI_sh1 : ∀ t, t < 31 → (1 : Int32) <<< (nI t &&& 31) = nI (2 ^ t) := by decide +kernel
theorem nI_z {a : Nat} (ha : a < 2 ^ 32) : nI a = 0 ↔ a = 0 := by
  constructor
  · intro h
    exact nI_inj ha (by decide) h
  · rintro rfl
    rfl
theorem tb_iff {a t : Nat} : (a &&& 2 ^ t = 0) ↔ a.testBit t = false := by
  constructor
  · intro h
    have := congrArg (fun x => Nat.testBit x t) h
    simpa [Nat.testBit_and, Nat.testBit_two_pow] using this
  · intro h
    apply Nat.eq_of_testBit_eq
    intro i
    rw [Nat.testBit_and, Nat.testBit_two_pow, Nat.zero_testBit]
    by_cases e : t = i
    · subst e
      simp [h]
    · simp [e]
/-- subset by what is left outside -/
theorem sub_iff {b h n : Nat} (hb : b < 2 ^ n) : b &&& (h ^^^ (2 ^ n - 1)) = 0 ↔ b &&& h = b := by
  constructor
  · intro e
    apply Nat.eq_of_testBit_eq
    intro i
    have := congrArg (fun x => Nat.testBit x i) e
    simp only [Nat.testBit_and, Nat.testBit_xor, Nat.testBit_two_pow_sub_one, Nat.zero_testBit] at this
    rw [Nat.testBit_and]
    by_cases hi : i < n
    · simp [hi] at this
      cases hb1 : b.testBit i
      · simp
      · simp [this hb1]
    · have : b.testBit i = false := Nat.testBit_lt_two_pow (Nat.lt_of_lt_of_le hb (Nat.pow_le_pow_right (by omega) (by omega)))
      simp [this]
  · intro e
    apply Nat.eq_of_testBit_eq
    intro i
    have := congrArg (fun x => Nat.testBit x i) e
    simp only [Nat.testBit_and] at this
    rw [Nat.testBit_and, Nat.testBit_xor, Nat.testBit_two_pow_sub_one, Nat.zero_testBit]
    by_cases hi : i < n
    · simp [hi]
      intro hb1
      simp [hb1] at this
      exact this
    · have : b.testBit i = false := Nat.testBit_lt_two_pow (Nat.lt_of_lt_of_le hb (Nat.pow_le_pow_right (by omega) (by omega)))
      simp [this]
/-- what is left of h without its part b -/
theorem diff_eq {b h n : Nat} (hh : h < 2 ^ n) (hb : b &&& h = b) : h &&& (b ^^^ (2 ^ n - 1)) = h ^^^ b := by
  apply Nat.eq_of_testBit_eq
  intro i
  have := congrArg (fun x => Nat.testBit x i) hb
  simp only [Nat.testBit_and] at this
  rw [Nat.testBit_and, Nat.testBit_xor, Nat.testBit_xor, Nat.testBit_two_pow_sub_one]
  by_cases hi : i < n
  · simp only [hi, decide_true, Bool.xor_true]
    cases h1 : b.testBit i <;> cases h2 : h.testBit i <;> simp_all
  · have : h.testBit i = false := Nat.testBit_lt_two_pow (Nat.lt_of_lt_of_le hh (Nat.pow_le_pow_right (by omega) (by omega)))
    simp_all
theorem diff_lt {b h n : Nat} (hh : h < 2 ^ n) (hb : b &&& h = b) : h ^^^ b < 2 ^ n := by
  rw [← diff_eq hh hb]
  exact Nat.lt_of_le_of_lt Nat.and_le_left hh
theorem nI_f128 {a : Nat} (ha : a < 256) : nI a &&& 128 = nI (a &&& 128) := by
  rw [show (128 : Int32) = nI 128 by decide, nI_and]
theorem a128 : ∀ a, a < 256 → ((a &&& 128 = 0) ↔ ¬ 128 ≤ a) := by decide +kernel
theorem x8_lt {a b : Nat} (ha : a < 256) (hb : b < 128) : a ^^^ b ^^^ 128 < 256 := by
  have h1 : a ^^^ b < 2 ^ 8 := Nat.xor_lt_two_pow (by omega) (by omega)
  have h2 : a ^^^ b ^^^ 128 < 2 ^ 8 := Nat.xor_lt_two_pow h1 (by omega)
  omega
theorem wN_le {f : Nat → Nat} {b c : Nat} : ∀ {m : Nat}, (∀ t, t < m → f t ≤ c) → wN f b m ≤ m * c
  | 0, _ => by simp [wN]
  | m + 1, h => by
    have := wN_le (f := f) (b := b) (c := c) (m := m) (fun t ht => h t (by omega))
    have h2 := h m (by omega)
    rw [wN, Nat.succ_mul]
    split <;> omega
