/-! the reference's small methods, over registers -/
theorem cmp_lt {x y : Int64} : lg_cmp x y < 0 ↔ x < y := by
  unfold lg_cmp
  by_cases h1 : x > y
  · rw [if_pos h1]
    constructor
    · intro h; exact absurd h (by decide)
    · intro h; exact absurd (Int64.lt_trans h h1) Int64.lt_irrefl
  · rw [if_neg h1]
    by_cases h2 : x = y
    · rw [if_pos h2]
      constructor
      · intro h; exact absurd h (by decide)
      · intro h; subst h2; exact absurd h Int64.lt_irrefl
    · rw [if_neg h2]
      constructor
      · intro _
        exact Int64.lt_of_le_of_ne (Int64.not_lt.mp h1) h2
      · intro _; decide
theorem cmp_gt {x y : Int64} : 0 < lg_cmp x y ↔ y < x := by
  unfold lg_cmp
  by_cases h1 : x > y
  · rw [if_pos h1]
    exact ⟨fun _ => h1, fun _ => by decide⟩
  · rw [if_neg h1]
    constructor
    · intro h
      split at h <;> exact absurd h (by decide)
    · intro h; exact absurd h h1
theorem w64_le (a b : Int32) : a.toInt64 ≤ b.toInt64 ↔ a ≤ b := by
  rw [Int64.le_iff_toInt_le, Int32.le_iff_toInt_le]
  simp
def RvM (g : Nat → Int32) (T : Nat → Nat → Int32) (m : Nat) (ρ : Nat → Nat → Nat) : Prop :=
  m ≤ 7 ∧ g 4802 = nI m ∧ (∀ t, t < m → T 50 t = nI (ρ 0 t) ∧ T 51 t = nI (ρ 1 t) ∧ T 52 t = nI (ρ 2 t) ∧ T 53 t = nI (ρ 3 t)) ∧
  (∀ t, t < m → ρ 1 t ≤ 9 ∧ ρ 2 t ≤ 100 ∧ ρ 0 t ≤ 2 ∧ ρ 3 t < 2 ^ m)
theorem shr_amt : ∀ t, t < 32 → ((nI t &&& 31).toBitVec.smod 32).toNat = t := by decide +kernel
theorem nI_shr {b t : Nat} (hb : b < 2 ^ 31) (ht : t < 32) : nI b >>> (nI t &&& 31) = nI (b / 2 ^ t) := pk_shrN hb _ t (shr_amt t ht)
theorem nI_a1 (b : Nat) : nI b &&& 1 = nI (b % 2) := by
  rw [show (1 : Int32) = nI 1 by decide, nI_and]
  congr 1
  exact Nat.and_one_is_mod b
theorem tb_div (b t : Nat) : b / 2 ^ t % 2 = if b.testBit t then 1 else 0 := by
  rw [Nat.testBit_eq_decide_div_mod_eq]
  have : b / 2 ^ t % 2 < 2 := Nat.mod_lt _ (by omega)
  by_cases h : b / 2 ^ t % 2 = 1
  · simp [h]
  · have : b / 2 ^ t % 2 = 0 := by omega
    simp [this]
theorem bit_i {b t : Nat} (hb : b < 2 ^ 31) (ht : t < 32) : nI b >>> (nI t &&& 31) &&& 1 = if b.testBit t then 1 else 0 := by
  rw [nI_shr hb ht, nI_a1, tb_div]
  split <;> rfl
theorem sfN_succ {fr : Nat → Nat} {b m : Nat} : sfN fr b (m + 1) = (sfN fr b m && (!b.testBit m || (fr m &&& b) == 0)) := by
  unfold sfN
  rw [List.range_succ, List.all_append]
  simp
theorem wrN_succ {wa : Nat → Nat} {a m : Nat} (ha : a < 256) (hm : m < 7) : wrN wa a (m + 1) = wrN wa a m ||| (if (wa m = 0 ∧ a.testBit m = true) ∨ (wa m = 1 ∧ a.testBit m = false) then 2 ^ m else 0) := by
  apply Nat.eq_of_testBit_eq
  intro i
  rw [Nat.testBit_or, wrN_tb (by omega), wrN_tb (by omega)]
  by_cases e : i = m
  · subst e
    simp
    by_cases h0 : wa i = 0 <;> by_cases h1 : wa i = 1 <;> cases hb : a.testBit i <;> simp [h0, h1, Nat.testBit_two_pow] <;> omega
  · have : (if (wa m = 0 ∧ a.testBit m = true) ∨ (wa m = 1 ∧ a.testBit m = false) then 2 ^ m else 0).testBit i = false := by
      split
      · rw [Nat.testBit_two_pow]; simp; omega
      · simp
    rw [this]
    by_cases hi : i < m
    · simp [hi, Nat.lt_succ_of_lt hi]
    · have : ¬ i < m + 1 := by omega
      simp [hi, this]
theorem tb7 : ∀ a, a < 256 → (128 ≤ a ↔ a.testBit 7 = true) := by decide +kernel
theorem left_to {a b m : Nat} (hm : m ≤ 7) (ha : a < 256) (hs : b &&& hN m a = b) : (2 ^ m - 1) ^^^ hN m (a ^^^ b ^^^ 128) = hN m a ^^^ b := by
  have h7 := p7 hm
  have hb : b < 2 ^ m := sub_lt hs hN_lt
  have hto := x8_lt ha (b := b) (by omega)
  apply Nat.eq_of_testBit_eq
  intro i
  have hsi := congrArg (fun x => Nat.testBit x i) hs
  simp only [Nat.testBit_and, hN_tb hm] at hsi
  rw [Nat.testBit_xor, Nat.testBit_xor, Nat.testBit_two_pow_sub_one, hN_tb hm, hN_tb hm]
  by_cases hi : i < m
  · have hbi : (a ^^^ b ^^^ 128).testBit i = (a.testBit i ^^ b.testBit i) := by
      rw [Nat.testBit_xor, Nat.testBit_xor, tb128]
      have : i ≠ 7 := by omega
      simp [this]
    have hb7 : (a ^^^ b ^^^ 128).testBit 7 = !a.testBit 7 := by
      rw [Nat.testBit_xor, Nat.testBit_xor, tb128]
      have : b.testBit 7 = false := Nat.testBit_lt_two_pow (by omega)
      simp [this]
    have hf : (128 ≤ a ^^^ b ^^^ 128) ↔ ¬ 128 ≤ a := by
      rw [tb7 _ hto, tb7 _ ha, hb7]
      simp
    simp only [hi, decide_true, Bool.true_and, hbi] at hsi ⊢
    by_cases hc : 128 ≤ a
    · have : ¬ 128 ≤ a ^^^ b ^^^ 128 := by rw [hf]; simp [hc]
      simp only [if_pos hc, if_neg this] at hsi ⊢
      cases h1 : a.testBit i <;> cases h2 : b.testBit i <;> simp_all
    · have : 128 ≤ a ^^^ b ^^^ 128 := hf.mpr hc
      simp only [if_neg hc, if_pos this] at hsi ⊢
      cases h1 : a.testBit i <;> cases h2 : b.testBit i <;> simp_all
  · have : b.testBit i = false := by
      apply Nat.testBit_lt_two_pow
      exact Nat.lt_of_lt_of_le hb (Nat.pow_le_pow_right (by omega) (by omega))
    simp [hi, this]
theorem hN_all {m a : Nat} : hN m a &&& (2 ^ m - 1) = hN m a := by
  rw [Nat.and_two_pow_sub_one_eq_mod, Nat.mod_eq_of_lt hN_lt]
theorem sh1_i {t : Nat} (ht : t ≤ 7) : (1 : Int32) <<< (nI t &&& 31) - 1 = nI (2 ^ t - 1) := by
  have := Nat.two_pow_pos t
  rw [nI_sh1 t (by omega), show (1 : Int32) = nI 1 by decide, pk_sub (by omega)]
theorem lt_nI {t m : Nat} (ht : t < 2 ^ 31) (h : ¬ nI m ≤ nI t) : t < m := by
  rcases Nat.lt_or_ge t m with q | q
  · exact q
  · exact absurd (nI_le q ht) h
theorem ge_nI {t m : Nat} (hm : m < 2 ^ 31) (h : nI m ≤ nI t) : m ≤ t := by
  rcases Nat.lt_or_ge t m with q | q
  · exact absurd h (nI_ge q hm)
  · exact q

abbrev rmX6_in : Room := { frames := 0, cells := 0, slots := 0, locals := 0 }
set_option maxRecDepth 100000 in
set_option maxHeartbeats 4000000 in
theorem c_X6_in (E : EN) (hM : EM E) (v a b : Int64) (g : Nat → Int32) (h : Nat → Int64) (T : Nat → Nat → Int32) (L : Nat → Nat → Int64) : GpI E yX6_in wsX6_in rmX6_in [.long v, .long a, .long b] g h T L (fun r => r = if a ≤ v ∧ v ≤ b then 1 else 0) := by
  refine CtZ_of (cc := cX6_in) (nL := 6) RX6 [some (.long v), none, some (.long a), none, some (.long b), none] ⟨rfl, rfl⟩ (by decide) rfl rfl (Nat.le_of_ble_eq_true rfl) ⟨0, rfl⟩ hM.2 (fun Y C hQ => ?_)
  refine J_lload_0 C dX6_in_0 ?_
  refine J_lload_2 C dX6_in_1 ?_
  refine J_lcmp C dX6_in_2 ?_
  refine J_if_lt C 17 dX6_in_3 (by decide) (fun hc3 => ?_) (fun hc3 => ?_)
  · skip
    refine J_iconst C (0) dX6_in_17 ic_0 ?_
    refine hQ _ _ _ _ dX6_in_18 rfl ⟨rfl, ?_⟩
    first
    | exact (if_neg (fun h => absurd h.1 (Int64.not_le.mpr (cmp_lt.mp hc3)))).symm
    | exact (if_neg (fun h => absurd h.2 (Int64.not_le.mpr (cmp_gt.mp hc10)))).symm
    | exact (if_pos ⟨Int64.not_lt.mp (fun h => hc3 (cmp_lt.mpr h)), Int64.not_lt.mp (fun h => hc10 (cmp_gt.mpr h))⟩).symm
  · skip
    refine J_lload_0 C dX6_in_6 ?_
    refine J_lload_4 C dX6_in_7 ?_
    refine J_lcmp C dX6_in_9 ?_
    refine J_if_gt C 17 dX6_in_10 (by decide) (fun hc10 => ?_) (fun hc10 => ?_)
    · skip
      refine J_iconst C (0) dX6_in_17 ic_0 ?_
      refine hQ _ _ _ _ dX6_in_18 rfl ⟨rfl, ?_⟩
      first
      | exact (if_neg (fun h => absurd h.1 (Int64.not_le.mpr (cmp_lt.mp hc3)))).symm
      | exact (if_neg (fun h => absurd h.2 (Int64.not_le.mpr (cmp_gt.mp hc10)))).symm
      | exact (if_pos ⟨Int64.not_lt.mp (fun h => hc3 (cmp_lt.mpr h)), Int64.not_lt.mp (fun h => hc10 (cmp_gt.mpr h))⟩).symm
    · skip
      refine J_iconst C (1) dX6_in_13 ic_1 ?_
      refine J_goto C 18 dX6_in_14 (by decide) ?_
      refine hQ _ _ _ _ dX6_in_18 rfl ⟨rfl, ?_⟩
      first
      | exact (if_neg (fun h => absurd h.1 (Int64.not_le.mpr (cmp_lt.mp hc3)))).symm
      | exact (if_neg (fun h => absurd h.2 (Int64.not_le.mpr (cmp_gt.mp hc10)))).symm
      | exact (if_pos ⟨Int64.not_lt.mp (fun h => hc3 (cmp_lt.mpr h)), Int64.not_lt.mp (fun h => hc10 (cmp_gt.mpr h))⟩).symm
abbrev rmX6_has : Room := { frames := 0, cells := 0, slots := 0, locals := 0 }
set_option maxRecDepth 100000 in
set_option maxHeartbeats 4000000 in
theorem c_X6_has (E : EN) (hM : EM E) (b t : Nat) (hb : b < 2 ^ 31) (ht : t < 32) (g : Nat → Int32) (h : Nat → Int64) (T : Nat → Nat → Int32) (L : Nat → Nat → Int64) : GpI E yX6_has wsX6_has rmX6_has [.int (nI b), .int (nI t)] g h T L (fun r => r = if b.testBit t = true then 1 else 0) := by
  refine CtZ_of (cc := cX6_has) (nL := 2) RX6 [some (.int (nI b)), some (.int (nI t))] ⟨rfl, rfl⟩ (by decide) rfl rfl (Nat.le_of_ble_eq_true rfl) ⟨0, rfl⟩ hM.2 (fun Y C hQ => ?_)
  refine J_iload_0 C dX6_has_0 ?_
  refine J_iload_1 C dX6_has_1 ?_
  refine J_ishr C dX6_has_2 ?_
  refine J_iconst C (1) dX6_has_3 ic_1 ?_
  refine J_iand C dX6_has_4 ?_
  refine J_iconst C (1) dX6_has_5 ic_1 ?_
  refine J_icmp_ne C 13 dX6_has_6 (by decide) (fun hc6 => ?_) (fun hc6 => ?_)
  · skip
    refine J_iconst C (0) dX6_has_13 ic_0 ?_
    refine hQ _ _ _ _ dX6_has_14 rfl ⟨rfl, ?_⟩
    rw [bit_i hb ht] at hc6
    by_cases q : b.testBit t = true
    · rw [if_pos q] at hc6
      rw [if_pos q]
      try exact absurd rfl hc6
    · rw [if_neg q] at hc6
      rw [if_neg q]
      try exact absurd hc6 (by decide)
  · skip
    refine J_iconst C (1) dX6_has_9 ic_1 ?_
    refine J_goto C 14 dX6_has_10 (by decide) ?_
    refine hQ _ _ _ _ dX6_has_14 rfl ⟨rfl, ?_⟩
    rw [bit_i hb ht] at hc6
    by_cases q : b.testBit t = true
    · rw [if_pos q] at hc6
      rw [if_pos q]
      try exact absurd rfl hc6
    · rw [if_neg q] at hc6
      rw [if_neg q]
      try exact absurd hc6 (by decide)
abbrev rmX6_isThing : Room := { frames := 1, cells := 0, slots := 0, locals := 25 }
theorem fX6_isThing_82 : Cond.fieldLink RX6 82 RX6 (TX6 2).2.1 (TX6 2).2.2.1 ∈ wsX6_isThing := by decide +kernel
theorem iX6_isThing_6 : ∀ x ∈ wsX60, x ∈ wsX6_isThing := by decide +kernel
theorem dm_X6_in : yX6_in.cls ≠ "java/lang/invoke/MethodHandle" ∧ yX6_in.cls ≠ "java/lang/invoke/VarHandle" ∧ (parseMethodDescriptor yX6_in.desc).map (fun d => d.parameters.length) = some 3 := by decide +kernel
set_option maxRecDepth 100000 in
set_option maxHeartbeats 4000000 in
theorem c_X6_isThing (E : EN) (hM : EM E) (m : Nat) (ρ : Nat → Nat → Nat) (g : Nat → Int32) (h : Nat → Int64) (T : Nat → Nat → Int32) (L : Nat → Nat → Int64) (hR : RvM g T m ρ) (t : Int32) : GpI E yX6_isThing wsX6_isThing rmX6_isThing [.ref (eA E 48), .int t] g h T L (fun r => r = if 0 ≤ t ∧ t < nI m then 1 else 0) := by
  refine CtZ_of (cc := cX6_isThing) (nL := 2) RX6 [some (.ref (eA E 48)), some (.int t)] ⟨rfl, rfl⟩ (by decide) rfl rfl (Nat.le_of_ble_eq_true rfl) ⟨0, rfl⟩ hM.2 (fun Y C hQ => ?_)
  have hM0 := hM
  have hR0 := hR
  obtain ⟨hS, hNN⟩ := hM
  obtain ⟨hm, hg0, harr, hrn⟩ := hR
  have h7 := p7 hm
  refine J_iload_1 C dX6_isThing_0 ?_
  refine J_i2l C dX6_isThing_1 ?_
  refine J_lconst C (0) dX6_isThing_2 lc_0 ?_
  refine J_aload_0 C dX6_isThing_3 ?_
  refine G6_geti C (n := 4802) 2 dX6_isThing_4 fX6_isThing_82 iX6_isThing_6 rfl (hS _ (by decide)) rfl rfl ?_
  refine J_iconst C (1) dX6_isThing_7 ic_1 ?_
  refine J_isub C dX6_isThing_8 ?_
  refine J_i2l C dX6_isThing_9 ?_
  refine G_spi C dX6_isThing_10 (c_X6_in E hM0 _ _ _ g h T L) gX6_isThing_X6_in rfl dm_X6_in rfl rfl (Nat.le_of_ble_eq_true rfl) (rmOK_b rfl) (fun r10 hr10 => ?_)
  subst hr10
  rw [hg0]
  refine hQ _ _ _ _ dX6_isThing_13 (by split <;> rfl) ⟨rfl, ?_⟩
  have e : (t.toInt64 ≤ (nI m - 1).toInt64) ↔ t < nI m := by
    rw [w64_le, Int32.le_iff_toInt_le, Int32.lt_iff_toInt_lt, nI_toInt (by omega)]
    have : (nI m - 1).toInt = (m : Int) - 1 := by
      rw [show (1 : Int32) = nI 1 by decide, pk_sub_toInt (by omega) (by omega)]
      rfl
    omega
  have e0 : ((0 : Int64) ≤ t.toInt64) ↔ 0 ≤ t := by
    rw [show (0 : Int64) = (0 : Int32).toInt64 by decide, w64_le]
  by_cases q : 0 ≤ t ∧ t < nI m
  · rw [if_pos q, if_pos ⟨e0.mpr q.1, e.mpr q.2⟩]
  · rw [if_neg q, if_neg (fun h => q ⟨e0.mp h.1, e.mp h.2⟩)]
abbrev rmX6_ferryOf : Room := { frames := 0, cells := 0, slots := 0, locals := 0 }
set_option maxRecDepth 100000 in
set_option maxHeartbeats 4000000 in
theorem c_X6_ferryOf (E : EN) (hM : EM E) (a : Nat) (ha : a < 256) (g : Nat → Int32) (h : Nat → Int64) (T : Nat → Nat → Int32) (L : Nat → Nat → Int64) : GpI E yX6_ferryOf wsX6_ferryOf rmX6_ferryOf [.int (nI a)] g h T L (fun v => v = nI (a / 128)) := by
  refine CtI_of (cc := cX6_ferryOf) (nL := 1) RX6 [some (.int (nI a))] ⟨rfl, rfl⟩ (by decide) rfl rfl (Nat.le_of_ble_eq_true rfl) ⟨0, rfl⟩ hM.2 (fun Y C hQ => ?_)
  refine J_iload_0 C dX6_ferryOf_0 ?_
  refine J_sipush C (128) dX6_ferryOf_1 sc_128 ?_
  refine J_idiv C dX6_ferryOf_4 (by decide) ?_
  refine hQ _ _ _ _ dX6_ferryOf_5 ⟨rfl, ?_⟩
  rw [show (128 : Int32) = nI 128 by decide]
  exact pk_div (by omega) (by omega) (by omega)
abbrev rmX6_there : Room := { frames := 1, cells := 0, slots := 0, locals := 20 }
theorem fX6_there_82 : Cond.fieldLink RX6 82 RX6 (TX6 2).2.1 (TX6 2).2.2.1 ∈ wsX6_there := by decide +kernel
theorem iX6_there_6 : ∀ x ∈ wsX60, x ∈ wsX6_there := by decide +kernel
theorem dm_X6_ferryOf : yX6_ferryOf.cls ≠ "java/lang/invoke/MethodHandle" ∧ yX6_ferryOf.cls ≠ "java/lang/invoke/VarHandle" ∧ (parseMethodDescriptor yX6_ferryOf.desc).map (fun d => d.parameters.length) = some 1 := by decide +kernel
set_option maxRecDepth 100000 in
set_option maxHeartbeats 4000000 in
theorem c_X6_there (E : EN) (hM : EM E) (m : Nat) (ρ : Nat → Nat → Nat) (g : Nat → Int32) (h : Nat → Int64) (T : Nat → Nat → Int32) (L : Nat → Nat → Int64) (hR : RvM g T m ρ) (a : Nat) (ha : a < 256) : GpI E yX6_there wsX6_there rmX6_there [.ref (eA E 48), .int (nI a)] g h T L (fun v => v = nI (hN m a)) := by
  refine CtI_of (cc := cX6_there) (nL := 3) RX6 [some (.ref (eA E 48)), some (.int (nI a)), none] ⟨rfl, rfl⟩ (by decide) rfl rfl (Nat.le_of_ble_eq_true rfl) ⟨1, rfl⟩ hM.2 (fun Y C hQ => ?_)
  have hM0 := hM
  have hR0 := hR
  obtain ⟨hS, hNN⟩ := hM
  obtain ⟨hm, hg0, harr, hrn⟩ := hR
  have h7 := p7 hm
  refine J_iconst C (1) dX6_there_0 ic_1 ?_
  refine J_aload_0 C dX6_there_1 ?_
  refine G6_geti C (n := 4802) 2 dX6_there_2 fX6_there_82 iX6_there_6 rfl (hS _ (by decide)) rfl rfl ?_
  refine J_ishl C dX6_there_5 ?_
  refine J_iconst C (1) dX6_there_6 ic_1 ?_
  refine J_isub C dX6_there_7 ?_
  rw [hg0, sh1_i hm]
  refine J_istore_2 C dX6_there_8 (by decide) trivial ?_
  refine J_iload_1 C dX6_there_9 ?_
  refine G_spi C dX6_there_10 (c_X6_ferryOf E hM0 a ha g h T L) gX6_there_X6_ferryOf rfl dm_X6_ferryOf rfl rfl (Nat.le_of_ble_eq_true rfl) (rmOK_b rfl) (fun r10 hr10 => ?_)
  subst hr10
  refine J_iconst C (1) dX6_there_13 ic_1 ?_
  refine J_icmp_ne C 23 dX6_there_14 (by decide) (fun hc14 => ?_) (fun hc14 => ?_)
  · skip
    refine J_iload_1 C dX6_there_23 ?_
    refine J_iconst C (-1) dX6_there_24 ic_m1 ?_
    refine J_ixor C dX6_there_25 ?_
    refine J_iload_2 C dX6_there_26 ?_
    refine J_iand C dX6_there_27 ?_
    refine hQ _ _ _ _ dX6_there_28 ⟨rfl, ?_⟩
    first
    | exact at2 ((nI_1eq ha).mp hc14)
    | exact at1 hm ha (fun h => hc14 ((nI_1eq ha).mpr h))
  · skip
    refine J_iload_1 C dX6_there_17 ?_
    refine J_iload_2 C dX6_there_18 ?_
    refine J_iand C dX6_there_19 ?_
    refine J_goto C 28 dX6_there_20 (by decide) ?_
    refine hQ _ _ _ _ dX6_there_28 ⟨rfl, ?_⟩
    first
    | exact at2 ((nI_1eq ha).mp hc14)
    | exact at1 hm ha (fun h => hc14 ((nI_1eq ha).mpr h))
abbrev rmX6_isSafe : Room := { frames := 2, cells := 0, slots := 0, locals := 42 }
theorem fX6_isSafe_22 : Cond.fieldLink RX6 22 RX6 (TX6 7).2.1 (TX6 7).2.2.1 ∈ wsX6_isSafe := by decide +kernel
theorem fX6_isSafe_82 : Cond.fieldLink RX6 82 RX6 (TX6 2).2.1 (TX6 2).2.2.1 ∈ wsX6_isSafe := by decide +kernel
theorem iX6_isSafe_6 : ∀ x ∈ wsX60, x ∈ wsX6_isSafe := by decide +kernel
theorem dm_X6_has : yX6_has.cls ≠ "java/lang/invoke/MethodHandle" ∧ yX6_has.cls ≠ "java/lang/invoke/VarHandle" ∧ (parseMethodDescriptor yX6_has.desc).map (fun d => d.parameters.length) = some 2 := by decide +kernel
theorem dm_X6_there : yX6_there.cls = RX6 ∧ yX6_there.cls ≠ "java/lang/invoke/MethodHandle" ∧ yX6_there.cls ≠ "java/lang/invoke/VarHandle" ∧ (parseMethodDescriptor yX6_there.desc).map (fun d => d.parameters.length) = some 1 := by decide +kernel
set_option maxRecDepth 100000 in
set_option maxHeartbeats 4000000 in
theorem c_X6_isSafe (E : EN) (hM : EM E) (m : Nat) (ρ : Nat → Nat → Nat) (g : Nat → Int32) (h : Nat → Int64) (T : Nat → Nat → Int32) (L : Nat → Nat → Int64) (hR : RvM g T m ρ) (a : Nat) (ha : a < 256) : GpI E yX6_isSafe wsX6_isSafe rmX6_isSafe [.ref (eA E 48), .int (nI a)] g h T L (fun v => v = if sfN (ρ 3) ((2 ^ m - 1) ^^^ hN m a) m = true then 1 else 0) := by
  refine CtZ_of (cc := cX6_isSafe) (nL := 5) RX6 [some (.ref (eA E 48)), some (.int (nI a)), none, none, none] ⟨rfl, rfl⟩ (by decide) rfl rfl (Nat.le_of_ble_eq_true rfl) ⟨3, rfl⟩ hM.2 (fun Y C hQ => ?_)
  have hM0 := hM
  have hR0 := hR
  obtain ⟨hS, hNN⟩ := hM
  obtain ⟨hm, hg0, harr, hrn⟩ := hR
  have h7 := p7 hm
  refine J_iconst C (1) dX6_isSafe_0 ic_1 ?_
  refine J_aload_0 C dX6_isSafe_1 ?_
  refine G6_geti C (n := 4802) 2 dX6_isSafe_2 fX6_isSafe_82 iX6_isSafe_6 rfl (hS _ (by decide)) rfl rfl ?_
  refine J_ishl C dX6_isSafe_5 ?_
  refine J_iconst C (1) dX6_isSafe_6 ic_1 ?_
  refine J_isub C dX6_isSafe_7 ?_
  refine J_aload_0 C dX6_isSafe_8 ?_
  refine J_iload_1 C dX6_isSafe_9 ?_
  refine G_vpi C dX6_isSafe_10 (c_X6_there E hM0 m ρ g h T L hR0 a ha) gX6_isSafe_X6_there rfl dm_X6_there rfl rfl (hS _ (by decide)) rfl rfl (Nat.le_of_ble_eq_true rfl) (rmOK_b rfl) (fun r10 hr10 => ?_)
  subst hr10
  refine J_iconst C (-1) dX6_isSafe_13 ic_m1 ?_
  refine J_ixor C dX6_isSafe_14 ?_
  refine J_iand C dX6_isSafe_15 ?_
  rw [hg0, sh1_i hm, left_i hm]
  have hl := left_lt (m := m) (a := a)
  refine J_istore_2 C dX6_isSafe_16 (by decide) trivial ?_
  refine J_iconst C (1) dX6_isSafe_17 ic_1 ?_
  refine J_istore_3 C dX6_isSafe_18 (by decide) trivial ?_
  refine J_iconst C (0) dX6_isSafe_19 ic_0 ?_
  refine J_istore_4 C dX6_isSafe_20 (by decide) trivial ?_
  have loop : ∀ (n : Nat) (t : Nat), t ≤ m → m < n + t → J E Y (eN E) 0 0 (wS E g h T L) 22 [some (.ref (eA E 48)), some (.int (nI a)), some (.int (nI ((2 ^ m - 1) ^^^ hN m a))), some (.int (if sfN (ρ 3) ((2 ^ m - 1) ^^^ hN m a) t = true then 1 else 0)), some (.int (nI t))] [] := by
    intro n
    induction n with
    | zero =>
      intro t h1 h2
      omega
    | succ n ih =>
      intro t h1 h2
      refine J_iload_4 C dX6_isSafe_22 ?_
      refine J_aload_0 C dX6_isSafe_24 ?_
      refine G6_geti C (n := 4802) 2 dX6_isSafe_25 fX6_isSafe_82 iX6_isSafe_6 rfl (hS _ (by decide)) rfl rfl ?_
      refine J_icmp_ge C 68 dX6_isSafe_28 (by decide) (fun hc28 => ?_) (fun hc28 => ?_)
      · skip
        rw [hg0] at hc28
        have hge := ge_nI (by omega) hc28
        refine J_iload_3 C dX6_isSafe_68 ?_
        refine hQ _ _ _ _ dX6_isSafe_69 (by split <;> rfl) ⟨rfl, ?_⟩
        rw [show t = m by omega]
      · skip
        rw [hg0] at hc28
        have hlt := lt_nI (by omega) hc28
        refine J_iload_3 C dX6_isSafe_31 ?_
        refine J_if_eq C 60 dX6_isSafe_32 (by decide) (fun hc32 => ?_) (fun hc32 => ?_)
        · skip
          refine J_iconst C (0) dX6_isSafe_60 ic_0 ?_
          refine J_istore_3 C dX6_isSafe_61 (by decide) trivial ?_
          refine J_iinc_4 C (1) dX6_isSafe_62 (by decide) trivial ic_1 ?_
          refine J_goto C 22 dX6_isSafe_65 (by decide) ?_
          rw [nI_1]
          have hx := ih (t + 1) (by omega) (by omega)
          rw [sfN_succ] at hx
          by_cases q1 : sfN (ρ 3) ((2 ^ m - 1) ^^^ hN m a) t = true
          · by_cases q2 : ((2 ^ m - 1) ^^^ hN m a).testBit t = true
            · by_cases q3 : (ρ 3 t &&& ((2 ^ m - 1) ^^^ hN m a)) = 0
              · simp only [q1, q2, q3, if_true, Bool.true_and, Bool.not_true, Bool.false_or, beq_self_eq_true] at hx
                first
                | exact hx
                | (rw [if_pos q1] at hc32; exact absurd hc32 (by decide))
                | (rw [(harr t hlt).2.2.2, nI_and, q3] at hc53; exact absurd rfl hc53)
              · have q3' : ((ρ 3 t &&& ((2 ^ m - 1) ^^^ hN m a)) == 0) = false := beq_eq_false_iff_ne.mpr q3
                simp only [q1, q2, q3', if_true, Bool.true_and, Bool.not_true, Bool.or_self, Bool.false_eq_true, if_false] at hx
                first
                | exact hx
                | (rw [if_pos q1] at hc32; exact absurd hc32 (by decide))
                | (rw [if_pos q2] at hc41; exact absurd hc41 (by decide))
                | (rw [(harr t hlt).2.2.2, nI_and, nI_z (Nat.lt_of_le_of_lt Nat.and_le_right (by omega))] at hc53; exact absurd hc53 q3)
            · have q2' : ((2 ^ m - 1) ^^^ hN m a).testBit t = false := by simpa using q2
              simp only [q1, q2', if_true, Bool.true_and, Bool.not_false, Bool.true_or] at hx
              first
              | exact hx
              | (rw [if_pos q1] at hc32; exact absurd hc32 (by decide))
              | (rw [if_neg q2] at hc41; exact absurd rfl hc41)
          · have q1' : sfN (ρ 3) ((2 ^ m - 1) ^^^ hN m a) t = false := by simpa using q1
            simp only [q1', Bool.false_and, Bool.false_eq_true, if_false] at hx
            first
            | exact hx
            | (rw [if_neg q1] at hc32; exact absurd rfl hc32)
        · skip
          refine J_iload_2 C dX6_isSafe_35 ?_
          refine J_iload_4 C dX6_isSafe_36 ?_
          refine G_spi C dX6_isSafe_38 (c_X6_has E hM0 ((2 ^ m - 1) ^^^ hN m a) t (by omega) (by omega) g h T L) gX6_isSafe_X6_has rfl dm_X6_has rfl rfl (Nat.le_of_ble_eq_true rfl) (rmOK_b rfl) (fun r38 hr38 => ?_)
          subst hr38
          refine J_if_eq C 56 dX6_isSafe_41 (by decide) (fun hc41 => ?_) (fun hc41 => ?_)
          · skip
            refine J_iconst C (1) dX6_isSafe_56 ic_1 ?_
            refine J_goto C 61 dX6_isSafe_57 (by decide) ?_
            refine J_istore_3 C dX6_isSafe_61 (by decide) trivial ?_
            refine J_iinc_4 C (1) dX6_isSafe_62 (by decide) trivial ic_1 ?_
            refine J_goto C 22 dX6_isSafe_65 (by decide) ?_
            rw [nI_1]
            have hx := ih (t + 1) (by omega) (by omega)
            rw [sfN_succ] at hx
            by_cases q1 : sfN (ρ 3) ((2 ^ m - 1) ^^^ hN m a) t = true
            · by_cases q2 : ((2 ^ m - 1) ^^^ hN m a).testBit t = true
              · by_cases q3 : (ρ 3 t &&& ((2 ^ m - 1) ^^^ hN m a)) = 0
                · simp only [q1, q2, q3, if_true, Bool.true_and, Bool.not_true, Bool.false_or, beq_self_eq_true] at hx
                  first
                  | exact hx
                  | (rw [if_pos q1] at hc32; exact absurd hc32 (by decide))
                  | (rw [(harr t hlt).2.2.2, nI_and, q3] at hc53; exact absurd rfl hc53)
                · have q3' : ((ρ 3 t &&& ((2 ^ m - 1) ^^^ hN m a)) == 0) = false := beq_eq_false_iff_ne.mpr q3
                  simp only [q1, q2, q3', if_true, Bool.true_and, Bool.not_true, Bool.or_self, Bool.false_eq_true, if_false] at hx
                  first
                  | exact hx
                  | (rw [if_pos q1] at hc32; exact absurd hc32 (by decide))
                  | (rw [if_pos q2] at hc41; exact absurd hc41 (by decide))
                  | (rw [(harr t hlt).2.2.2, nI_and, nI_z (Nat.lt_of_le_of_lt Nat.and_le_right (by omega))] at hc53; exact absurd hc53 q3)
              · have q2' : ((2 ^ m - 1) ^^^ hN m a).testBit t = false := by simpa using q2
                simp only [q1, q2', if_true, Bool.true_and, Bool.not_false, Bool.true_or] at hx
                first
                | exact hx
                | (rw [if_pos q1] at hc32; exact absurd hc32 (by decide))
                | (rw [if_neg q2] at hc41; exact absurd rfl hc41)
            · have q1' : sfN (ρ 3) ((2 ^ m - 1) ^^^ hN m a) t = false := by simpa using q1
              simp only [q1', Bool.false_and, Bool.false_eq_true, if_false] at hx
              first
              | exact hx
              | (rw [if_neg q1] at hc32; exact absurd rfl hc32)
          · skip
            refine J_aload_0 C dX6_isSafe_44 ?_
            refine G6_getr C (n := 53) 7 dX6_isSafe_45 fX6_isSafe_22 iX6_isSafe_6 rfl (hS _ (by decide)) rfl rfl ?_
            refine J_iload_4 C dX6_isSafe_48 ?_
            refine G_iald C _ dX6_isSafe_50 rfl (hS _ (by decide)) rfl (by omega) ?_
            refine J_iload_2 C dX6_isSafe_51 ?_
            refine J_iand C dX6_isSafe_52 ?_
            refine J_if_ne C 60 dX6_isSafe_53 (by decide) (fun hc53 => ?_) (fun hc53 => ?_)
            · skip
              refine J_iconst C (0) dX6_isSafe_60 ic_0 ?_
              refine J_istore_3 C dX6_isSafe_61 (by decide) trivial ?_
              refine J_iinc_4 C (1) dX6_isSafe_62 (by decide) trivial ic_1 ?_
              refine J_goto C 22 dX6_isSafe_65 (by decide) ?_
              rw [nI_1]
              have hx := ih (t + 1) (by omega) (by omega)
              rw [sfN_succ] at hx
              by_cases q1 : sfN (ρ 3) ((2 ^ m - 1) ^^^ hN m a) t = true
              · by_cases q2 : ((2 ^ m - 1) ^^^ hN m a).testBit t = true
                · by_cases q3 : (ρ 3 t &&& ((2 ^ m - 1) ^^^ hN m a)) = 0
                  · simp only [q1, q2, q3, if_true, Bool.true_and, Bool.not_true, Bool.false_or, beq_self_eq_true] at hx
                    first
                    | exact hx
                    | (rw [if_pos q1] at hc32; exact absurd hc32 (by decide))
                    | (rw [(harr t hlt).2.2.2, nI_and, q3] at hc53; exact absurd rfl hc53)
                  · have q3' : ((ρ 3 t &&& ((2 ^ m - 1) ^^^ hN m a)) == 0) = false := beq_eq_false_iff_ne.mpr q3
                    simp only [q1, q2, q3', if_true, Bool.true_and, Bool.not_true, Bool.or_self, Bool.false_eq_true, if_false] at hx
                    first
                    | exact hx
                    | (rw [if_pos q1] at hc32; exact absurd hc32 (by decide))
                    | (rw [if_pos q2] at hc41; exact absurd hc41 (by decide))
                    | (rw [(harr t hlt).2.2.2, nI_and, nI_z (Nat.lt_of_le_of_lt Nat.and_le_right (by omega))] at hc53; exact absurd hc53 q3)
                · have q2' : ((2 ^ m - 1) ^^^ hN m a).testBit t = false := by simpa using q2
                  simp only [q1, q2', if_true, Bool.true_and, Bool.not_false, Bool.true_or] at hx
                  first
                  | exact hx
                  | (rw [if_pos q1] at hc32; exact absurd hc32 (by decide))
                  | (rw [if_neg q2] at hc41; exact absurd rfl hc41)
              · have q1' : sfN (ρ 3) ((2 ^ m - 1) ^^^ hN m a) t = false := by simpa using q1
                simp only [q1', Bool.false_and, Bool.false_eq_true, if_false] at hx
                first
                | exact hx
                | (rw [if_neg q1] at hc32; exact absurd rfl hc32)
            · skip
              refine J_iconst C (1) dX6_isSafe_56 ic_1 ?_
              refine J_goto C 61 dX6_isSafe_57 (by decide) ?_
              refine J_istore_3 C dX6_isSafe_61 (by decide) trivial ?_
              refine J_iinc_4 C (1) dX6_isSafe_62 (by decide) trivial ic_1 ?_
              refine J_goto C 22 dX6_isSafe_65 (by decide) ?_
              rw [nI_1]
              have hx := ih (t + 1) (by omega) (by omega)
              rw [sfN_succ] at hx
              by_cases q1 : sfN (ρ 3) ((2 ^ m - 1) ^^^ hN m a) t = true
              · by_cases q2 : ((2 ^ m - 1) ^^^ hN m a).testBit t = true
                · by_cases q3 : (ρ 3 t &&& ((2 ^ m - 1) ^^^ hN m a)) = 0
                  · simp only [q1, q2, q3, if_true, Bool.true_and, Bool.not_true, Bool.false_or, beq_self_eq_true] at hx
                    first
                    | exact hx
                    | (rw [if_pos q1] at hc32; exact absurd hc32 (by decide))
                    | (rw [(harr t hlt).2.2.2, nI_and, q3] at hc53; exact absurd rfl hc53)
                  · have q3' : ((ρ 3 t &&& ((2 ^ m - 1) ^^^ hN m a)) == 0) = false := beq_eq_false_iff_ne.mpr q3
                    simp only [q1, q2, q3', if_true, Bool.true_and, Bool.not_true, Bool.or_self, Bool.false_eq_true, if_false] at hx
                    first
                    | exact hx
                    | (rw [if_pos q1] at hc32; exact absurd hc32 (by decide))
                    | (rw [if_pos q2] at hc41; exact absurd hc41 (by decide))
                    | (rw [(harr t hlt).2.2.2, nI_and, nI_z (Nat.lt_of_le_of_lt Nat.and_le_right (by omega))] at hc53; exact absurd hc53 q3)
                · have q2' : ((2 ^ m - 1) ^^^ hN m a).testBit t = false := by simpa using q2
                  simp only [q1, q2', if_true, Bool.true_and, Bool.not_false, Bool.true_or] at hx
                  first
                  | exact hx
                  | (rw [if_pos q1] at hc32; exact absurd hc32 (by decide))
                  | (rw [if_neg q2] at hc41; exact absurd rfl hc41)
              · have q1' : sfN (ρ 3) ((2 ^ m - 1) ^^^ hN m a) t = false := by simpa using q1
                simp only [q1', Bool.false_and, Bool.false_eq_true, if_false] at hx
                first
                | exact hx
                | (rw [if_neg q1] at hc32; exact absurd rfl hc32)
  exact loop (m + 1) 0 (by omega) (by omega)
abbrev rmX6_wrongOf : Room := { frames := 0, cells := 0, slots := 0, locals := 0 }
theorem fX6_wrongOf_13 : Cond.fieldLink RX6 13 RX6 (TX6 4).2.1 (TX6 4).2.2.1 ∈ wsX6_wrongOf := by decide +kernel
theorem fX6_wrongOf_82 : Cond.fieldLink RX6 82 RX6 (TX6 2).2.1 (TX6 2).2.2.1 ∈ wsX6_wrongOf := by decide +kernel
theorem iX6_wrongOf_6 : ∀ x ∈ wsX60, x ∈ wsX6_wrongOf := by decide +kernel
theorem ic_2 : Int32.ofInt (2) = (2) := by decide
set_option maxRecDepth 100000 in
set_option maxHeartbeats 4000000 in
theorem c_X6_wrongOf (E : EN) (hM : EM E) (m : Nat) (ρ : Nat → Nat → Nat) (g : Nat → Int32) (h : Nat → Int64) (T : Nat → Nat → Int32) (L : Nat → Nat → Int64) (hR : RvM g T m ρ) (a : Nat) (ha : a < 256) : GpI E yX6_wrongOf wsX6_wrongOf rmX6_wrongOf [.ref (eA E 48), .int (nI a)] g h T L (fun v => v = nI (wrN (ρ 0) a m)) := by
  refine CtI_of (cc := cX6_wrongOf) (nL := 4) RX6 [some (.ref (eA E 48)), some (.int (nI a)), none, none] ⟨rfl, rfl⟩ (by decide) rfl rfl (Nat.le_of_ble_eq_true rfl) ⟨2, rfl⟩ hM.2 (fun Y C hQ => ?_)
  have hM0 := hM
  have hR0 := hR
  obtain ⟨hS, hNN⟩ := hM
  obtain ⟨hm, hg0, harr, hrn⟩ := hR
  have h7 := p7 hm
  refine J_iconst C (0) dX6_wrongOf_0 ic_0 ?_
  refine J_istore_2 C dX6_wrongOf_1 (by decide) trivial ?_
  refine J_iconst C (0) dX6_wrongOf_2 ic_0 ?_
  refine J_istore_3 C dX6_wrongOf_3 (by decide) trivial ?_
  have loop : ∀ (n : Nat) (t : Nat), t ≤ m → m < n + t → J E Y (eN E) 0 0 (wS E g h T L) 4 [some (.ref (eA E 48)), some (.int (nI a)), some (.int (nI (wrN (ρ 0) a t))), some (.int (nI t))] [] := by
    intro n
    induction n with
    | zero =>
      intro t h1 h2
      omega
    | succ n ih =>
      intro t h1 h2
      refine J_iload_3 C dX6_wrongOf_4 ?_
      refine J_aload_0 C dX6_wrongOf_5 ?_
      refine G6_geti C (n := 4802) 2 dX6_wrongOf_6 fX6_wrongOf_82 iX6_wrongOf_6 rfl (hS _ (by decide)) rfl rfl ?_
      refine J_icmp_ge C 52 dX6_wrongOf_9 (by decide) (fun hc9 => ?_) (fun hc9 => ?_)
      · skip
        rw [hg0] at hc9
        have hge := ge_nI (by omega) hc9
        refine J_iload_2 C dX6_wrongOf_52 ?_
        refine hQ _ _ _ _ dX6_wrongOf_53 ⟨rfl, ?_⟩
        rw [show t = m by omega]
      · skip
        rw [hg0] at hc9
        have hlt := lt_nI (by omega) hc9
        refine J_iload_2 C dX6_wrongOf_12 ?_
        refine J_aload_0 C dX6_wrongOf_13 ?_
        refine G6_getr C (n := 50) 4 dX6_wrongOf_14 fX6_wrongOf_13 iX6_wrongOf_6 rfl (hS _ (by decide)) rfl rfl ?_
        refine J_iload_3 C dX6_wrongOf_17 ?_
        refine G_iald C _ dX6_wrongOf_18 rfl (hS _ (by decide)) rfl (by omega) ?_
        refine J_iconst C (2) dX6_wrongOf_19 ic_2 ?_
        refine J_icmp_ge C 43 dX6_wrongOf_20 (by decide) (fun hc20 => ?_) (fun hc20 => ?_)
        · skip
          refine J_iconst C (0) dX6_wrongOf_43 ic_0 ?_
          refine J_ior C dX6_wrongOf_44 ?_
          refine J_istore_2 C dX6_wrongOf_45 (by decide) trivial ?_
          refine J_iinc_3 C (1) dX6_wrongOf_46 (by decide) trivial ic_1 ?_
          refine J_goto C 4 dX6_wrongOf_49 (by decide) ?_
          rw [nI_1]
          have hx := ih (t + 1) (by omega) (by omega)
          rw [wrN_succ ha (by omega), ← nI_or] at hx
          have hw0 := (hrn t hlt).2.2.1
          rw [(harr t hlt).1] at hc20
          have hsm : ρ 0 t = 0 ∨ ρ 0 t = 1 ∨ ρ 0 t = 2 := by omega
          rcases hsm with q | q | q
          · rw [q] at hc20
            first
            | exact absurd hc20 (by decide)
            | (rw [bit_i (by omega) (by omega), (harr t hlt).1, q] at hc34
               cases hb : a.testBit t
               · rw [hb] at hc34
                 simp only [q, hb] at hx
                 first
                 | exact hx
                 | exact absurd rfl hc34
               · rw [hb] at hc34
                 simp only [q, hb] at hx
                 rw [nI_sh1 t (by omega)]
                 exact hx)
            | (rw [bit_i (by omega) (by omega), (harr t hlt).1, q] at hc34
               cases hb : a.testBit t
               · rw [hb] at hc34
                 simp only [q, hb] at hx
                 first
                 | exact hx
                 | exact absurd rfl hc34
               · rw [hb] at hc34
                 exact absurd hc34 (by decide))
          · rw [q] at hc20
            first
            | exact absurd hc20 (by decide)
            | (rw [bit_i (by omega) (by omega), (harr t hlt).1, q] at hc34
               cases hb : a.testBit t
               · rw [hb] at hc34
                 simp only [q, hb] at hx
                 rw [nI_sh1 t (by omega)]
                 exact hx
               · rw [hb] at hc34
                 exact absurd rfl hc34)
            | (rw [bit_i (by omega) (by omega), (harr t hlt).1, q] at hc34
               cases hb : a.testBit t
               · rw [hb] at hc34
                 exact absurd hc34 (by decide)
               · simp only [q, hb] at hx
                 exact hx)
          · rw [q] at hc20
            first
            | exact absurd (by decide) hc20
            | (simp only [q] at hx
               exact hx)
        · skip
          refine J_iload_1 C dX6_wrongOf_23 ?_
          refine J_iload_3 C dX6_wrongOf_24 ?_
          refine J_ishr C dX6_wrongOf_25 ?_
          refine J_iconst C (1) dX6_wrongOf_26 ic_1 ?_
          refine J_iand C dX6_wrongOf_27 ?_
          refine J_aload_0 C dX6_wrongOf_28 ?_
          refine G6_getr C (n := 50) 4 dX6_wrongOf_29 fX6_wrongOf_13 iX6_wrongOf_6 rfl (hS _ (by decide)) rfl rfl ?_
          refine J_iload_3 C dX6_wrongOf_32 ?_
          refine G_iald C _ dX6_wrongOf_33 rfl (hS _ (by decide)) rfl (by omega) ?_
          refine J_icmp_eq C 43 dX6_wrongOf_34 (by decide) (fun hc34 => ?_) (fun hc34 => ?_)
          · skip
            refine J_iconst C (0) dX6_wrongOf_43 ic_0 ?_
            refine J_ior C dX6_wrongOf_44 ?_
            refine J_istore_2 C dX6_wrongOf_45 (by decide) trivial ?_
            refine J_iinc_3 C (1) dX6_wrongOf_46 (by decide) trivial ic_1 ?_
            refine J_goto C 4 dX6_wrongOf_49 (by decide) ?_
            rw [nI_1]
            have hx := ih (t + 1) (by omega) (by omega)
            rw [wrN_succ ha (by omega), ← nI_or] at hx
            have hw0 := (hrn t hlt).2.2.1
            rw [(harr t hlt).1] at hc20
            have hsm : ρ 0 t = 0 ∨ ρ 0 t = 1 ∨ ρ 0 t = 2 := by omega
            rcases hsm with q | q | q
            · rw [q] at hc20
              first
              | exact absurd hc20 (by decide)
              | (rw [bit_i (by omega) (by omega), (harr t hlt).1, q] at hc34
                 cases hb : a.testBit t
                 · rw [hb] at hc34
                   simp only [q, hb] at hx
                   first
                   | exact hx
                   | exact absurd rfl hc34
                 · rw [hb] at hc34
                   simp only [q, hb] at hx
                   rw [nI_sh1 t (by omega)]
                   exact hx)
              | (rw [bit_i (by omega) (by omega), (harr t hlt).1, q] at hc34
                 cases hb : a.testBit t
                 · rw [hb] at hc34
                   simp only [q, hb] at hx
                   first
                   | exact hx
                   | exact absurd rfl hc34
                 · rw [hb] at hc34
                   exact absurd hc34 (by decide))
            · rw [q] at hc20
              first
              | exact absurd hc20 (by decide)
              | (rw [bit_i (by omega) (by omega), (harr t hlt).1, q] at hc34
                 cases hb : a.testBit t
                 · rw [hb] at hc34
                   simp only [q, hb] at hx
                   rw [nI_sh1 t (by omega)]
                   exact hx
                 · rw [hb] at hc34
                   exact absurd rfl hc34)
              | (rw [bit_i (by omega) (by omega), (harr t hlt).1, q] at hc34
                 cases hb : a.testBit t
                 · rw [hb] at hc34
                   exact absurd hc34 (by decide)
                 · simp only [q, hb] at hx
                   exact hx)
            · rw [q] at hc20
              first
              | exact absurd (by decide) hc20
              | (simp only [q] at hx
                 exact hx)
          · skip
            refine J_iconst C (1) dX6_wrongOf_37 ic_1 ?_
            refine J_iload_3 C dX6_wrongOf_38 ?_
            refine J_ishl C dX6_wrongOf_39 ?_
            refine J_goto C 44 dX6_wrongOf_40 (by decide) ?_
            refine J_ior C dX6_wrongOf_44 ?_
            refine J_istore_2 C dX6_wrongOf_45 (by decide) trivial ?_
            refine J_iinc_3 C (1) dX6_wrongOf_46 (by decide) trivial ic_1 ?_
            refine J_goto C 4 dX6_wrongOf_49 (by decide) ?_
            rw [nI_1]
            have hx := ih (t + 1) (by omega) (by omega)
            rw [wrN_succ ha (by omega), ← nI_or] at hx
            have hw0 := (hrn t hlt).2.2.1
            rw [(harr t hlt).1] at hc20
            have hsm : ρ 0 t = 0 ∨ ρ 0 t = 1 ∨ ρ 0 t = 2 := by omega
            rcases hsm with q | q | q
            · rw [q] at hc20
              first
              | exact absurd hc20 (by decide)
              | (rw [bit_i (by omega) (by omega), (harr t hlt).1, q] at hc34
                 cases hb : a.testBit t
                 · rw [hb] at hc34
                   simp only [q, hb] at hx
                   first
                   | exact hx
                   | exact absurd rfl hc34
                 · rw [hb] at hc34
                   simp only [q, hb] at hx
                   rw [nI_sh1 t (by omega)]
                   exact hx)
              | (rw [bit_i (by omega) (by omega), (harr t hlt).1, q] at hc34
                 cases hb : a.testBit t
                 · rw [hb] at hc34
                   simp only [q, hb] at hx
                   first
                   | exact hx
                   | exact absurd rfl hc34
                 · rw [hb] at hc34
                   exact absurd hc34 (by decide))
            · rw [q] at hc20
              first
              | exact absurd hc20 (by decide)
              | (rw [bit_i (by omega) (by omega), (harr t hlt).1, q] at hc34
                 cases hb : a.testBit t
                 · rw [hb] at hc34
                   simp only [q, hb] at hx
                   rw [nI_sh1 t (by omega)]
                   exact hx
                 · rw [hb] at hc34
                   exact absurd rfl hc34)
              | (rw [bit_i (by omega) (by omega), (harr t hlt).1, q] at hc34
                 cases hb : a.testBit t
                 · rw [hb] at hc34
                   exact absurd hc34 (by decide)
                 · simp only [q, hb] at hx
                   exact hx)
            · rw [q] at hc20
              first
              | exact absurd (by decide) hc20
              | (simp only [q] at hx
                 exact hx)
  have hx := loop (m + 1) 0 (by omega) (by omega)
  rw [show wrN (ρ 0) a 0 = 0 by simp [wrN, bsN]] at hx
  exact hx
abbrev rmX6_rentOf : Room := { frames := 1, cells := 0, slots := 0, locals := 23 }
theorem fX6_rentOf_16 : Cond.fieldLink RX6 16 RX6 (TX6 5).2.1 (TX6 5).2.2.1 ∈ wsX6_rentOf := by decide +kernel
theorem fX6_rentOf_82 : Cond.fieldLink RX6 82 RX6 (TX6 2).2.1 (TX6 2).2.2.1 ∈ wsX6_rentOf := by decide +kernel
theorem iX6_rentOf_6 : ∀ x ∈ wsX60, x ∈ wsX6_rentOf := by decide +kernel
theorem dm_X6_wrongOf : yX6_wrongOf.cls = RX6 ∧ yX6_wrongOf.cls ≠ "java/lang/invoke/MethodHandle" ∧ yX6_wrongOf.cls ≠ "java/lang/invoke/VarHandle" ∧ (parseMethodDescriptor yX6_wrongOf.desc).map (fun d => d.parameters.length) = some 1 := by decide +kernel
set_option maxRecDepth 100000 in
set_option maxHeartbeats 4000000 in
theorem c_X6_rentOf (E : EN) (hM : EM E) (m : Nat) (ρ : Nat → Nat → Nat) (g : Nat → Int32) (h : Nat → Int64) (T : Nat → Nat → Int32) (L : Nat → Nat → Int64) (hR : RvM g T m ρ) (a : Nat) (ha : a < 256) : GpI E yX6_rentOf wsX6_rentOf rmX6_rentOf [.ref (eA E 48), .int (nI a)] g h T L (fun v => v = nI (wN (ρ 1) (wrN (ρ 0) a m) m)) := by
  refine CtI_of (cc := cX6_rentOf) (nL := 4) RX6 [some (.ref (eA E 48)), some (.int (nI a)), none, none] ⟨rfl, rfl⟩ (by decide) rfl rfl (Nat.le_of_ble_eq_true rfl) ⟨2, rfl⟩ hM.2 (fun Y C hQ => ?_)
  have hM0 := hM
  have hR0 := hR
  obtain ⟨hS, hNN⟩ := hM
  obtain ⟨hm, hg0, harr, hrn⟩ := hR
  have h7 := p7 hm
  have hwl := wrN_lt (wa := ρ 0) (a := a) (m := m)
  refine J_iconst C (0) dX6_rentOf_0 ic_0 ?_
  refine J_istore_2 C dX6_rentOf_1 (by decide) trivial ?_
  refine J_iconst C (0) dX6_rentOf_2 ic_0 ?_
  refine J_istore_3 C dX6_rentOf_3 (by decide) trivial ?_
  have loop : ∀ (n : Nat) (t : Nat), t ≤ m → m < n + t → J E Y (eN E) 0 0 (wS E g h T L) 4 [some (.ref (eA E 48)), some (.int (nI a)), some (.int (nI (wN (ρ 1) (wrN (ρ 0) a m) t))), some (.int (nI t))] [] := by
    intro n
    induction n with
    | zero =>
      intro t h1 h2
      omega
    | succ n ih =>
      intro t h1 h2
      refine J_iload_3 C dX6_rentOf_4 ?_
      refine J_aload_0 C dX6_rentOf_5 ?_
      refine G6_geti C (n := 4802) 2 dX6_rentOf_6 fX6_rentOf_82 iX6_rentOf_6 rfl (hS _ (by decide)) rfl rfl ?_
      refine J_icmp_ge C 43 dX6_rentOf_9 (by decide) (fun hc9 => ?_) (fun hc9 => ?_)
      · skip
        rw [hg0] at hc9
        have hge := ge_nI (by omega) hc9
        refine J_iload_2 C dX6_rentOf_43 ?_
        refine hQ _ _ _ _ dX6_rentOf_44 ⟨rfl, ?_⟩
        rw [show t = m by omega]
      · skip
        rw [hg0] at hc9
        have hlt := lt_nI (by omega) hc9
        refine J_iload_2 C dX6_rentOf_12 ?_
        refine J_aload_0 C dX6_rentOf_13 ?_
        refine J_iload_1 C dX6_rentOf_14 ?_
        refine G_vpi C dX6_rentOf_15 (c_X6_wrongOf E hM0 m ρ g h T L hR0 a ha) gX6_rentOf_X6_wrongOf rfl dm_X6_wrongOf rfl rfl (hS _ (by decide)) rfl rfl (Nat.le_of_ble_eq_true rfl) (rmOK_b rfl) (fun r15 hr15 => ?_)
        subst hr15
        refine J_iload_3 C dX6_rentOf_18 ?_
        refine G_spi C dX6_rentOf_19 (c_X6_has E hM0 (wrN (ρ 0) a m) t (by omega) (by omega) g h T L) gX6_rentOf_X6_has rfl dm_X6_has rfl rfl (Nat.le_of_ble_eq_true rfl) (rmOK_b rfl) (fun r19 hr19 => ?_)
        subst hr19
        refine J_if_eq C 34 dX6_rentOf_22 (by decide) (fun hc22 => ?_) (fun hc22 => ?_)
        · skip
          refine J_iconst C (0) dX6_rentOf_34 ic_0 ?_
          refine J_iadd C dX6_rentOf_35 ?_
          refine J_istore_2 C dX6_rentOf_36 (by decide) trivial ?_
          refine J_iinc_3 C (1) dX6_rentOf_37 (by decide) trivial ic_1 ?_
          refine J_goto C 4 dX6_rentOf_40 (by decide) ?_
          rw [nI_1]
          have hx := ih (t + 1) (by omega) (by omega)
          by_cases q : (wrN (ρ 0) a m).testBit t = true
          · simp only [wN, if_pos q] at hx
            first
            | (rw [(harr t hlt).2.1, nI_add]; exact hx)
            | (rw [if_pos q] at hc22; exact absurd hc22 (by decide))
          · simp only [wN, if_neg q] at hx
            first
            | (rw [show (0 : Int32) = nI 0 from rfl, nI_add]; exact hx)
            | (rw [if_neg q] at hc22; exact absurd rfl hc22)
        · skip
          refine J_aload_0 C dX6_rentOf_25 ?_
          refine G6_getr C (n := 51) 5 dX6_rentOf_26 fX6_rentOf_16 iX6_rentOf_6 rfl (hS _ (by decide)) rfl rfl ?_
          refine J_iload_3 C dX6_rentOf_29 ?_
          refine G_iald C _ dX6_rentOf_30 rfl (hS _ (by decide)) rfl (by omega) ?_
          refine J_goto C 35 dX6_rentOf_31 (by decide) ?_
          refine J_iadd C dX6_rentOf_35 ?_
          refine J_istore_2 C dX6_rentOf_36 (by decide) trivial ?_
          refine J_iinc_3 C (1) dX6_rentOf_37 (by decide) trivial ic_1 ?_
          refine J_goto C 4 dX6_rentOf_40 (by decide) ?_
          rw [nI_1]
          have hx := ih (t + 1) (by omega) (by omega)
          by_cases q : (wrN (ρ 0) a m).testBit t = true
          · simp only [wN, if_pos q] at hx
            first
            | (rw [(harr t hlt).2.1, nI_add]; exact hx)
            | (rw [if_pos q] at hc22; exact absurd hc22 (by decide))
          · simp only [wN, if_neg q] at hx
            first
            | (rw [show (0 : Int32) = nI 0 from rfl, nI_add]; exact hx)
            | (rw [if_neg q] at hc22; exact absurd rfl hc22)
  exact loop (m + 1) 0 (by omega) (by omega)
abbrev rmX6_weightOf : Room := { frames := 1, cells := 0, slots := 0, locals := 21 }
theorem fX6_weightOf_19 : Cond.fieldLink RX6 19 RX6 (TX6 6).2.1 (TX6 6).2.2.1 ∈ wsX6_weightOf := by decide +kernel
theorem fX6_weightOf_82 : Cond.fieldLink RX6 82 RX6 (TX6 2).2.1 (TX6 2).2.2.1 ∈ wsX6_weightOf := by decide +kernel
theorem iX6_weightOf_6 : ∀ x ∈ wsX60, x ∈ wsX6_weightOf := by decide +kernel
set_option maxRecDepth 100000 in
set_option maxHeartbeats 4000000 in
theorem c_X6_weightOf (E : EN) (hM : EM E) (m : Nat) (ρ : Nat → Nat → Nat) (g : Nat → Int32) (h : Nat → Int64) (T : Nat → Nat → Int32) (L : Nat → Nat → Int64) (hR : RvM g T m ρ) (b : Nat) (hb : b < 2 ^ 31) : GpI E yX6_weightOf wsX6_weightOf rmX6_weightOf [.ref (eA E 48), .int (nI b)] g h T L (fun v => v = nI (wN (ρ 2) b m)) := by
  refine CtI_of (cc := cX6_weightOf) (nL := 4) RX6 [some (.ref (eA E 48)), some (.int (nI b)), none, none] ⟨rfl, rfl⟩ (by decide) rfl rfl (Nat.le_of_ble_eq_true rfl) ⟨2, rfl⟩ hM.2 (fun Y C hQ => ?_)
  have hM0 := hM
  have hR0 := hR
  obtain ⟨hS, hNN⟩ := hM
  obtain ⟨hm, hg0, harr, hrn⟩ := hR
  have h7 := p7 hm
  refine J_iconst C (0) dX6_weightOf_0 ic_0 ?_
  refine J_istore_2 C dX6_weightOf_1 (by decide) trivial ?_
  refine J_iconst C (0) dX6_weightOf_2 ic_0 ?_
  refine J_istore_3 C dX6_weightOf_3 (by decide) trivial ?_
  have loop : ∀ (n : Nat) (t : Nat), t ≤ m → m < n + t → J E Y (eN E) 0 0 (wS E g h T L) 4 [some (.ref (eA E 48)), some (.int (nI b)), some (.int (nI (wN (ρ 2) b t))), some (.int (nI t))] [] := by
    intro n
    induction n with
    | zero =>
      intro t h1 h2
      omega
    | succ n ih =>
      intro t h1 h2
      refine J_iload_3 C dX6_weightOf_4 ?_
      refine J_aload_0 C dX6_weightOf_5 ?_
      refine G6_geti C (n := 4802) 2 dX6_weightOf_6 fX6_weightOf_82 iX6_weightOf_6 rfl (hS _ (by decide)) rfl rfl ?_
      refine J_icmp_ge C 39 dX6_weightOf_9 (by decide) (fun hc9 => ?_) (fun hc9 => ?_)
      · skip
        rw [hg0] at hc9
        have hge := ge_nI (by omega) hc9
        refine J_iload_2 C dX6_weightOf_39 ?_
        refine hQ _ _ _ _ dX6_weightOf_40 ⟨rfl, ?_⟩
        rw [show t = m by omega]
      · skip
        rw [hg0] at hc9
        have hlt := lt_nI (by omega) hc9
        refine J_iload_2 C dX6_weightOf_12 ?_
        refine J_iload_1 C dX6_weightOf_13 ?_
        refine J_iload_3 C dX6_weightOf_14 ?_
        refine G_spi C dX6_weightOf_15 (c_X6_has E hM0 b t hb (by omega) g h T L) gX6_weightOf_X6_has rfl dm_X6_has rfl rfl (Nat.le_of_ble_eq_true rfl) (rmOK_b rfl) (fun r15 hr15 => ?_)
        subst hr15
        refine J_if_eq C 30 dX6_weightOf_18 (by decide) (fun hc18 => ?_) (fun hc18 => ?_)
        · skip
          refine J_iconst C (0) dX6_weightOf_30 ic_0 ?_
          refine J_iadd C dX6_weightOf_31 ?_
          refine J_istore_2 C dX6_weightOf_32 (by decide) trivial ?_
          refine J_iinc_3 C (1) dX6_weightOf_33 (by decide) trivial ic_1 ?_
          refine J_goto C 4 dX6_weightOf_36 (by decide) ?_
          rw [nI_1]
          have hx := ih (t + 1) (by omega) (by omega)
          by_cases q : (b).testBit t = true
          · simp only [wN, if_pos q] at hx
            first
            | (rw [(harr t hlt).2.2.1, nI_add]; exact hx)
            | (rw [if_pos q] at hc18; exact absurd hc18 (by decide))
          · simp only [wN, if_neg q] at hx
            first
            | (rw [show (0 : Int32) = nI 0 from rfl, nI_add]; exact hx)
            | (rw [if_neg q] at hc18; exact absurd rfl hc18)
        · skip
          refine J_aload_0 C dX6_weightOf_21 ?_
          refine G6_getr C (n := 52) 6 dX6_weightOf_22 fX6_weightOf_19 iX6_weightOf_6 rfl (hS _ (by decide)) rfl rfl ?_
          refine J_iload_3 C dX6_weightOf_25 ?_
          refine G_iald C _ dX6_weightOf_26 rfl (hS _ (by decide)) rfl (by omega) ?_
          refine J_goto C 31 dX6_weightOf_27 (by decide) ?_
          refine J_iadd C dX6_weightOf_31 ?_
          refine J_istore_2 C dX6_weightOf_32 (by decide) trivial ?_
          refine J_iinc_3 C (1) dX6_weightOf_33 (by decide) trivial ic_1 ?_
          refine J_goto C 4 dX6_weightOf_36 (by decide) ?_
          rw [nI_1]
          have hx := ih (t + 1) (by omega) (by omega)
          by_cases q : (b).testBit t = true
          · simp only [wN, if_pos q] at hx
            first
            | (rw [(harr t hlt).2.2.1, nI_add]; exact hx)
            | (rw [if_pos q] at hc18; exact absurd hc18 (by decide))
          · simp only [wN, if_neg q] at hx
            first
            | (rw [show (0 : Int32) = nI 0 from rfl, nI_add]; exact hx)
            | (rw [if_neg q] at hc18; exact absurd rfl hc18)
  exact loop (m + 1) 0 (by omega) (by omega)
abbrev rmX6_crosses : Room := { frames := 3, cells := 0, slots := 0, locals := 66 }
theorem dm_X6_isSafe : yX6_isSafe.cls = RX6 ∧ yX6_isSafe.cls ≠ "java/lang/invoke/MethodHandle" ∧ yX6_isSafe.cls ≠ "java/lang/invoke/VarHandle" ∧ (parseMethodDescriptor yX6_isSafe.desc).map (fun d => d.parameters.length) = some 1 := by decide +kernel
theorem dm_X6_weightOf : yX6_weightOf.cls = RX6 ∧ yX6_weightOf.cls ≠ "java/lang/invoke/MethodHandle" ∧ yX6_weightOf.cls ≠ "java/lang/invoke/VarHandle" ∧ (parseMethodDescriptor yX6_weightOf.desc).map (fun d => d.parameters.length) = some 1 := by decide +kernel
set_option maxRecDepth 100000 in
set_option maxHeartbeats 4000000 in
theorem c_X6_crosses (E : EN) (hM : EM E) (m : Nat) (ρ : Nat → Nat → Nat) (g : Nat → Int32) (h : Nat → Int64) (T : Nat → Nat → Int32) (L : Nat → Nat → Int64) (hR : RvM g T m ρ) (a b ld : Nat) (ha : a < 256) (hb : b < 2 ^ 31) (hld : ld < 1000) : GpI E yX6_crosses wsX6_crosses rmX6_crosses [.ref (eA E 48), .int (nI a), .int (nI b), .int (nI ld)] g h T L (fun v => v = match crN m (ρ 2) (ρ 3) ld (2 ^ m - 1) a b with | some c => nI c | none => (-1)) := by
  refine CtI_of (cc := cX6_crosses) (nL := 5) RX6 [some (.ref (eA E 48)), some (.int (nI a)), some (.int (nI b)), some (.int (nI ld)), none] ⟨rfl, rfl⟩ (by decide) rfl rfl (Nat.le_of_ble_eq_true rfl) ⟨1, rfl⟩ hM.2 (fun Y C hQ => ?_)
  have hM0 := hM
  have hR0 := hR
  obtain ⟨hS, hNN⟩ := hM
  obtain ⟨hm, hg0, harr, hrn⟩ := hR
  have h7 := p7 hm
  have hh : hN m a < 2 ^ m := hN_lt
  have hle := wN_le (f := ρ 2) (m := m) (b := b) (fun t ht => (hrn t ht).2.1)
  refine J_iload_2 C dX6_crosses_0 ?_
  refine J_aload_0 C dX6_crosses_1 ?_
  refine J_iload_1 C dX6_crosses_2 ?_
  refine G_vpi C dX6_crosses_3 (c_X6_there E hM0 m ρ g h T L hR0 a ha) gX6_crosses_X6_there rfl dm_X6_there rfl rfl (hS _ (by decide)) rfl rfl (Nat.le_of_ble_eq_true rfl) (rmOK_b rfl) (fun r3 hr3 => ?_)
  subst hr3
  refine J_iconst C (-1) dX6_crosses_6 ic_m1 ?_
  refine J_ixor C dX6_crosses_7 ?_
  refine J_iand C dX6_crosses_8 ?_
  refine J_if_ne C 21 dX6_crosses_9 (by decide) (fun hc9 => ?_) (fun hc9 => ?_)
  · skip
    refine J_iconst C (-1) dX6_crosses_21 ic_m1 ?_
    refine hQ _ _ _ _ dX6_crosses_22 ⟨rfl, ?_⟩
    unfold crN
    rw [hN_all]
    first
    | (have e : ¬ b &&& hN m a = b := by
        intro e
        apply hc9
        rw [nI_andn (n := 31) (by omega) hb, (sub_iff hb).mpr e]
        rfl
       rw [if_neg (fun h => e h.1)])
    | (have e : ¬ wN (ρ 2) b m ≤ ld := fun e => hc18 ((nI_leI (by omega) (by omega)).mpr e)
       rw [if_neg (fun h => e h.2.1)])
  · skip
    rw [nI_andn (n := 31) (by omega) hb] at hc9
    have hsub : b &&& hN m a = b := by
      rw [nI_z (by have : b &&& (hN m a ^^^ 2 ^ 31 - 1) ≤ b := Nat.and_le_left; omega)] at hc9
      exact (sub_iff hb).mp hc9
    have hbl : b < 2 ^ m := sub_lt hsub hh
    refine J_aload_0 C dX6_crosses_12 ?_
    refine J_iload_2 C dX6_crosses_13 ?_
    refine G_vpi C dX6_crosses_14 (c_X6_weightOf E hM0 m ρ g h T L hR0 b hb) gX6_crosses_X6_weightOf rfl dm_X6_weightOf rfl rfl (hS _ (by decide)) rfl rfl (Nat.le_of_ble_eq_true rfl) (rmOK_b rfl) (fun r14 hr14 => ?_)
    subst hr14
    refine J_iload_3 C dX6_crosses_17 ?_
    refine J_icmp_le C 23 dX6_crosses_18 (by decide) (fun hc18 => ?_) (fun hc18 => ?_)
    · skip
      have hw := (nI_leI (by omega) (by omega)).mp hc18
      refine J_iload_1 C dX6_crosses_23 ?_
      refine J_iload_2 C dX6_crosses_24 ?_
      refine J_ixor C dX6_crosses_25 ?_
      refine J_sipush C (128) dX6_crosses_26 sc_128 ?_
      refine J_ixor C dX6_crosses_29 ?_
      rw [show (128 : Int32) = nI 128 by decide, nI_xor, nI_xor]
      refine J_istore_4 C dX6_crosses_30 (by decide) trivial ?_
      refine J_aload_0 C dX6_crosses_32 ?_
      refine J_iload_4 C dX6_crosses_33 ?_
      refine G_vpi C dX6_crosses_35 (c_X6_isSafe E hM0 m ρ g h T L hR0 (a ^^^ b ^^^ 128) (x8_lt ha (by omega))) gX6_crosses_X6_isSafe rfl dm_X6_isSafe rfl rfl (hS _ (by decide)) rfl rfl (Nat.le_of_ble_eq_true rfl) (rmOK_b rfl) (fun r35 hr35 => ?_)
      subst hr35
      rw [left_to hm ha hsub]
      refine J_if_eq C 46 dX6_crosses_38 (by decide) (fun hc38 => ?_) (fun hc38 => ?_)
      · skip
        refine J_iconst C (-1) dX6_crosses_46 ic_m1 ?_
        refine hQ _ _ _ _ dX6_crosses_47 ⟨rfl, ?_⟩
        unfold crN
        rw [hN_all]
        by_cases q : sfN (ρ 3) (hN m a ^^^ b) m = true
        · rw [if_pos q] at hc38
          first
          | exact absurd hc38 (by decide)
          | rw [if_pos ⟨hsub, hw, q⟩]
        · rw [if_neg q] at hc38
          first
          | exact absurd rfl hc38
          | rw [if_neg (fun h => q h.2.2)]
      · skip
        refine J_iload_4 C dX6_crosses_41 ?_
        refine J_goto C 47 dX6_crosses_43 (by decide) ?_
        refine hQ _ _ _ _ dX6_crosses_47 ⟨rfl, ?_⟩
        unfold crN
        rw [hN_all]
        by_cases q : sfN (ρ 3) (hN m a ^^^ b) m = true
        · rw [if_pos q] at hc38
          first
          | exact absurd hc38 (by decide)
          | rw [if_pos ⟨hsub, hw, q⟩]
        · rw [if_neg q] at hc38
          first
          | exact absurd rfl hc38
          | rw [if_neg (fun h => q h.2.2)]
    · skip
      refine J_iconst C (-1) dX6_crosses_21 ic_m1 ?_
      refine hQ _ _ _ _ dX6_crosses_22 ⟨rfl, ?_⟩
      unfold crN
      rw [hN_all]
      first
      | (have e : ¬ b &&& hN m a = b := by
          intro e
          apply hc9
          rw [nI_andn (n := 31) (by omega) hb, (sub_iff hb).mpr e]
          rfl
         rw [if_neg (fun h => e h.1)])
      | (have e : ¬ wN (ρ 2) b m ≤ ld := fun e => hc18 ((nI_leI (by omega) (by omega)).mpr e)
         rw [if_neg (fun h => e h.2.1)])
