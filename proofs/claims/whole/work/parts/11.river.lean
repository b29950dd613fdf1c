/-! the small methods of the river, over registers -/
theorem lc_0 : Int64.ofNat ((0 : Fin 2) : Nat) = 0 := by decide
theorem lc_1 : Int64.ofNat ((1 : Fin 2) : Nat) = 1 := by decide
/-- where the main objects stand -/
def EM (E : EN) : Prop := (∀ k, k < 68 → eS E k = true) ∧ (∀ k, eS E k = true → k < eN E)
def RvX (g : Nat → Int32) (T : Nat → Nat → Int32) (m : Nat) (ρ : Nat → Nat → Nat) : Prop :=
  m ≤ 7 ∧ g 600 = nI m ∧ g 601 = nI (2 ^ m - 1) ∧ g 611 = nI (bsN (ρ 0) 0 m) ∧ g 612 = nI (bsN (ρ 0) 1 m) ∧
  (∀ t, t < m → T 7 t = nI (ρ 0 t) ∧ T 8 t = nI (ρ 1 t) ∧ T 9 t = nI (ρ 2 t) ∧ T 10 t = nI (ρ 3 t)) ∧
  (∀ b, b < 2 ^ m → T 11 b = nI (wN (ρ 2) b m)) ∧ (∀ b, b < 2 ^ m → T 12 b = if sfN (ρ 3) b m = true then 1 else 0) ∧
  (∀ t, t < m → ρ 1 t ≤ 9 ∧ 1 ≤ ρ 2 t ∧ ρ 2 t ≤ 9 ∧ ρ 0 t ≤ 2 ∧ ρ 3 t < 2 ^ m)
theorem ferry1 {a : Nat} (ha : a < 256) (hc : nI a &&& 128 = 0) : (0 : Int32) = nI (a / 128) := by
  rw [nI_f128 ha, nI_z (by have : a &&& 128 ≤ a := Nat.and_le_left; omega), a128 a ha] at hc
  rw [show a / 128 = 0 by omega]; rfl
theorem ferry2 {a : Nat} (ha : a < 256) (hc : ¬ nI a &&& 128 = 0) : (1 : Int32) = nI (a / 128) := by
  rw [nI_f128 ha, nI_z (by have : a &&& 128 ≤ a := Nat.and_le_left; omega), a128 a ha] at hc
  rw [show a / 128 = 1 by omega]; rfl
theorem nI_1eq {a : Nat} (ha : a < 256) : nI (a / 128) = 1 ↔ 128 ≤ a := by
  rw [show (1 : Int32) = nI 1 by decide]
  constructor
  · intro h
    have := nI_inj (by omega) (by decide) h
    omega
  · intro h
    rw [show a / 128 = 1 by omega]
theorem at1 {a m : Nat} (hm : m ≤ 7) (ha : a < 256) (h : ¬ 128 ≤ a) : (nI a ^^^ (-1)) &&& nI (2 ^ m - 1) = nI (hN m a) := by
  have := p7 hm
  have := Nat.two_pow_pos m
  rw [nI_nand (n := 8) (by omega) (by omega)]
  unfold hN
  rw [if_neg h]
theorem at2 {a m : Nat} (h : 128 ≤ a) : nI a &&& nI (2 ^ m - 1) = nI (hN m a) := by
  rw [nI_and]
  unfold hN
  rw [if_pos h]
theorem left_i {a m : Nat} (hm : m ≤ 7) : nI (2 ^ m - 1) &&& (nI (hN m a) ^^^ (-1)) = nI ((2 ^ m - 1) ^^^ hN m a) := by
  have := p7 hm
  have := Nat.two_pow_pos m
  rw [nI_andn (n := m) (by omega) (by omega)]
  congr 1
  apply diff_eq (by omega)
  have := hN_lt (m := m) (a := a)
  rw [Nat.and_two_pow_sub_one_eq_mod, Nat.mod_eq_of_lt this]
theorem left_lt {a m : Nat} : (2 ^ m - 1) ^^^ hN m a < 2 ^ m := by
  have := Nat.two_pow_pos m
  exact Nat.xor_lt_two_pow (by omega) hN_lt
theorem wrong_i {a m : Nat} {f : Nat → Nat} (hm : m ≤ 7) (ha : a < 256) : nI a &&& nI (bsN f 0 m) ||| (nI a ^^^ (-1)) &&& nI (bsN f 1 m) = nI (wrN f a m) := by
  have h0 := bsN_lt (f := f) (v := 1) (m := m)
  have := p7 hm
  rw [nI_and, nI_nand (n := 8) (by omega) (by omega), nI_or]
  rfl
theorem ge0 (n : Nat) (h : n < 2 ^ 31) : ¬ nI n < 0 := nI_pos h

abbrev rmX3_has : Room := { frames := 0, cells := 0, slots := 0, locals := 0 }
theorem fX3_has_35 : Cond.fieldLink RX3 35 RX3 (TX3 0).2.1 (TX3 0).2.2.1 ∈ wsX3_has := by decide +kernel
theorem iX3_has_3 : ∀ x ∈ wsX30, x ∈ wsX3_has := by decide +kernel
theorem ic_0 : Int32.ofInt (0) = (0) := by decide
theorem ic_1 : Int32.ofInt (1) = (1) := by decide
set_option maxRecDepth 100000 in
set_option maxHeartbeats 4000000 in
theorem c_X3_has (E : EN) (hE : ∀ k, eS E k = true → k < eN E) (r : Nat) (hkr : kd r = (0, 3)) (hsr : eS E r = true) (t : Int32) (g : Nat → Int32) (h : Nat → Int64) (T : Nat → Nat → Int32) (L : Nat → Nat → Int64) : GpI E yX3_has wsX3_has rmX3_has [.ref (eA E r), .int t] g h T L (fun v => v = if 0 ≤ t ∧ t < g (100 * r + 0) then 1 else 0) := by
  refine CtZ_of (cc := cX3_has) (nL := 2) RX3 [some (.ref (eA E r)), some (.int t)] ⟨rfl, rfl⟩ (by decide) rfl rfl (Nat.le_of_ble_eq_true rfl) ⟨0, rfl⟩ hE (fun Y C hQ => ?_)
  refine J_iload_1 C dX3_has_0 ?_
  refine J_if_lt C 16 dX3_has_1 (by decide) (fun hc1 => ?_) (fun hc1 => ?_)
  · skip
    refine J_iconst C (0) dX3_has_16 ic_0 ?_
    refine hQ _ _ _ _ dX3_has_17 rfl ⟨rfl, ?_⟩
    first
    | exact (if_neg (fun h => absurd h.1 (Int32.not_le.mpr hc1))).symm
    | exact (if_neg (fun h => absurd h.2 (Int32.not_lt.mpr hc9))).symm
    | exact (if_pos ⟨Int32.not_lt.mp hc1, Int32.not_le.mp hc9⟩).symm
  · skip
    refine J_iload_1 C dX3_has_4 ?_
    refine J_aload_0 C dX3_has_5 ?_
    refine G3_geti C (n := 100 * r + 0) 0 dX3_has_6 fX3_has_35 iX3_has_3 hkr hsr rfl rfl ?_
    refine J_icmp_ge C 16 dX3_has_9 (by decide) (fun hc9 => ?_) (fun hc9 => ?_)
    · skip
      refine J_iconst C (0) dX3_has_16 ic_0 ?_
      refine hQ _ _ _ _ dX3_has_17 rfl ⟨rfl, ?_⟩
      first
      | exact (if_neg (fun h => absurd h.1 (Int32.not_le.mpr hc1))).symm
      | exact (if_neg (fun h => absurd h.2 (Int32.not_lt.mpr hc9))).symm
      | exact (if_pos ⟨Int32.not_lt.mp hc1, Int32.not_le.mp hc9⟩).symm
    · skip
      refine J_iconst C (1) dX3_has_12 ic_1 ?_
      refine J_goto C 17 dX3_has_13 (by decide) ?_
      refine hQ _ _ _ _ dX3_has_17 rfl ⟨rfl, ?_⟩
      first
      | exact (if_neg (fun h => absurd h.1 (Int32.not_le.mpr hc1))).symm
      | exact (if_neg (fun h => absurd h.2 (Int32.not_lt.mpr hc9))).symm
      | exact (if_pos ⟨Int32.not_lt.mp hc1, Int32.not_le.mp hc9⟩).symm
abbrev rmX3_ferryOf : Room := { frames := 0, cells := 0, slots := 0, locals := 0 }
theorem sc_128 : (Int16.ofInt (128)).toInt32 = (128) := by decide
set_option maxRecDepth 100000 in
set_option maxHeartbeats 4000000 in
theorem c_X3_ferryOf (E : EN) (hM : EM E) (a : Nat) (ha : a < 256) (g : Nat → Int32) (h : Nat → Int64) (T : Nat → Nat → Int32) (L : Nat → Nat → Int64) : GpI E yX3_ferryOf wsX3_ferryOf rmX3_ferryOf [.int (nI a)] g h T L (fun v => v = nI (a / 128)) := by
  refine CtI_of (cc := cX3_ferryOf) (nL := 1) RX3 [some (.int (nI a))] ⟨rfl, rfl⟩ (by decide) rfl rfl (Nat.le_of_ble_eq_true rfl) ⟨0, rfl⟩ hM.2 (fun Y C hQ => ?_)
  refine J_iload_0 C dX3_ferryOf_0 ?_
  refine J_sipush C (128) dX3_ferryOf_1 sc_128 ?_
  refine J_iand C dX3_ferryOf_4 ?_
  refine J_if_eq C 12 dX3_ferryOf_5 (by decide) (fun hc5 => ?_) (fun hc5 => ?_)
  · skip
    refine J_iconst C (0) dX3_ferryOf_12 ic_0 ?_
    refine hQ _ _ _ _ dX3_ferryOf_13 ⟨rfl, ?_⟩
    first
    | exact ferry1 ha hc5
    | exact ferry2 ha hc5
  · skip
    refine J_iconst C (1) dX3_ferryOf_8 ic_1 ?_
    refine J_goto C 13 dX3_ferryOf_9 (by decide) ?_
    refine hQ _ _ _ _ dX3_ferryOf_13 ⟨rfl, ?_⟩
    first
    | exact ferry1 ha hc5
    | exact ferry2 ha hc5
abbrev rmX3_atFerry : Room := { frames := 1, cells := 0, slots := 0, locals := 20 }
theorem fX3_atFerry_39 : Cond.fieldLink RX3 39 RX3 (TX3 1).2.1 (TX3 1).2.2.1 ∈ wsX3_atFerry := by decide +kernel
theorem iX3_atFerry_3 : ∀ x ∈ wsX30, x ∈ wsX3_atFerry := by decide +kernel
theorem dm_X3_ferryOf : yX3_ferryOf.cls ≠ "java/lang/invoke/MethodHandle" ∧ yX3_ferryOf.cls ≠ "java/lang/invoke/VarHandle" ∧ (parseMethodDescriptor yX3_ferryOf.desc).map (fun d => d.parameters.length) = some 1 := by decide +kernel
theorem ic_m1 : Int32.ofInt (-1) = (-1) := by decide
set_option maxRecDepth 100000 in
set_option maxHeartbeats 4000000 in
theorem c_X3_atFerry (E : EN) (hM : EM E) (m : Nat) (ρ : Nat → Nat → Nat) (g : Nat → Int32) (h : Nat → Int64) (T : Nat → Nat → Int32) (L : Nat → Nat → Int64) (hR : RvX g T m ρ) (a : Nat) (ha : a < 256) : GpI E yX3_atFerry wsX3_atFerry rmX3_atFerry [.ref (eA E 6), .int (nI a)] g h T L (fun v => v = nI (hN m a)) := by
  refine CtI_of (cc := cX3_atFerry) (nL := 2) RX3 [some (.ref (eA E 6)), some (.int (nI a))] ⟨rfl, rfl⟩ (by decide) rfl rfl (Nat.le_of_ble_eq_true rfl) ⟨0, rfl⟩ hM.2 (fun Y C hQ => ?_)
  have hM0 := hM
  obtain ⟨hS, hNN⟩ := hM
  obtain ⟨hm, hg0, hall, hne, hfa, harr, hwt, hpe, hrn⟩ := hR
  refine J_iload_1 C dX3_atFerry_0 ?_
  refine G_spi C dX3_atFerry_1 (c_X3_ferryOf E hM0 a ha g h T L) gX3_atFerry_X3_ferryOf rfl dm_X3_ferryOf rfl rfl (Nat.le_of_ble_eq_true rfl) (rmOK_b rfl) (fun r1 hr1 => ?_)
  subst hr1
  refine J_iconst C (1) dX3_atFerry_4 ic_1 ?_
  refine J_icmp_ne C 12 dX3_atFerry_5 (by decide) (fun hc5 => ?_) (fun hc5 => ?_)
  · skip
    refine J_iload_1 C dX3_atFerry_12 ?_
    refine J_iconst C (-1) dX3_atFerry_13 ic_m1 ?_
    refine J_ixor C dX3_atFerry_14 ?_
    refine J_aload_0 C dX3_atFerry_15 ?_
    refine G3_geti C (n := 601) 1 dX3_atFerry_16 fX3_atFerry_39 iX3_atFerry_3 rfl (hS _ (by decide)) rfl rfl ?_
    refine J_iand C dX3_atFerry_19 ?_
    refine hQ _ _ _ _ dX3_atFerry_20 ⟨rfl, ?_⟩
    rw [hall]
    first
    | exact at1 hm ha (fun h => hc5 ((nI_1eq ha).mpr h))
    | exact at2 ((nI_1eq ha).mp hc5)
  · skip
    refine J_iload_1 C dX3_atFerry_8 ?_
    refine J_goto C 15 dX3_atFerry_9 (by decide) ?_
    refine J_aload_0 C dX3_atFerry_15 ?_
    refine G3_geti C (n := 601) 1 dX3_atFerry_16 fX3_atFerry_39 iX3_atFerry_3 rfl (hS _ (by decide)) rfl rfl ?_
    refine J_iand C dX3_atFerry_19 ?_
    refine hQ _ _ _ _ dX3_atFerry_20 ⟨rfl, ?_⟩
    rw [hall]
    first
    | exact at1 hm ha (fun h => hc5 ((nI_1eq ha).mpr h))
    | exact at2 ((nI_1eq ha).mp hc5)
abbrev rmX3_isSafe : Room := { frames := 2, cells := 0, slots := 0, locals := 41 }
theorem fX3_isSafe_25 : Cond.fieldLink RX3 25 RX3 (TX3 14).2.1 (TX3 14).2.2.1 ∈ wsX3_isSafe := by decide +kernel
theorem fX3_isSafe_39 : Cond.fieldLink RX3 39 RX3 (TX3 1).2.1 (TX3 1).2.2.1 ∈ wsX3_isSafe := by decide +kernel
theorem iX3_isSafe_3 : ∀ x ∈ wsX30, x ∈ wsX3_isSafe := by decide +kernel
theorem dm_X3_atFerry : yX3_atFerry.cls = RX3 ∧ yX3_atFerry.cls ≠ "java/lang/invoke/MethodHandle" ∧ yX3_atFerry.cls ≠ "java/lang/invoke/VarHandle" ∧ (parseMethodDescriptor yX3_atFerry.desc).map (fun d => d.parameters.length) = some 1 := by decide +kernel
set_option maxRecDepth 100000 in
set_option maxHeartbeats 4000000 in
theorem c_X3_isSafe (E : EN) (hM : EM E) (m : Nat) (ρ : Nat → Nat → Nat) (g : Nat → Int32) (h : Nat → Int64) (T : Nat → Nat → Int32) (L : Nat → Nat → Int64) (hR : RvX g T m ρ) (a : Nat) (ha : a < 256) : GpI E yX3_isSafe wsX3_isSafe rmX3_isSafe [.ref (eA E 6), .int (nI a)] g h T L (fun v => v = if sfN (ρ 3) ((2 ^ m - 1) ^^^ hN m a) m = true then 1 else 0) := by
  refine CtZ_of (cc := cX3_isSafe) (nL := 2) RX3 [some (.ref (eA E 6)), some (.int (nI a))] ⟨rfl, rfl⟩ (by decide) rfl rfl (Nat.le_of_ble_eq_true rfl) ⟨0, rfl⟩ hM.2 (fun Y C hQ => ?_)
  have hM0 := hM
  have hR0 := hR
  obtain ⟨hS, hNN⟩ := hM
  obtain ⟨hm, hg0, hall, hne, hfa, harr, hwt, hpe, hrn⟩ := hR
  refine J_aload_0 C dX3_isSafe_0 ?_
  refine G3_getr C (n := 12) 14 dX3_isSafe_1 fX3_isSafe_25 iX3_isSafe_3 rfl (hS _ (by decide)) rfl rfl ?_
  refine J_aload_0 C dX3_isSafe_4 ?_
  refine G3_geti C (n := 601) 1 dX3_isSafe_5 fX3_isSafe_39 iX3_isSafe_3 rfl (hS _ (by decide)) rfl rfl ?_
  refine J_aload_0 C dX3_isSafe_8 ?_
  refine J_iload_1 C dX3_isSafe_9 ?_
  refine G_vpi C dX3_isSafe_10 (c_X3_atFerry E hM0 m ρ g h T L hR0 a ha) gX3_isSafe_X3_atFerry rfl dm_X3_atFerry rfl rfl (hS _ (by decide)) rfl rfl (Nat.le_of_ble_eq_true rfl) (rmOK_b rfl) (fun r10 hr10 => ?_)
  subst hr10
  refine J_iconst C (-1) dX3_isSafe_13 ic_m1 ?_
  refine J_ixor C dX3_isSafe_14 ?_
  refine J_iand C dX3_isSafe_15 ?_
  refine G_zald C ((2 ^ m - 1) ^^^ hN m a) dX3_isSafe_16 rfl (hS _ (by decide)) (by rw [hall]; exact left_i hm) (Nat.lt_of_lt_of_le left_lt (p7 hm)) ?_
  refine hQ _ _ _ _ dX3_isSafe_17 (by rw [hpe _ left_lt]; split <;> rfl) ⟨rfl, ?_⟩
  exact hpe _ left_lt
abbrev rmX3_wrongOf : Room := { frames := 0, cells := 0, slots := 0, locals := 0 }
theorem fX3_wrongOf_57 : Cond.fieldLink RX3 57 RX3 (TX3 11).2.1 (TX3 11).2.2.1 ∈ wsX3_wrongOf := by decide +kernel
theorem fX3_wrongOf_60 : Cond.fieldLink RX3 60 RX3 (TX3 12).2.1 (TX3 12).2.2.1 ∈ wsX3_wrongOf := by decide +kernel
theorem iX3_wrongOf_3 : ∀ x ∈ wsX30, x ∈ wsX3_wrongOf := by decide +kernel
set_option maxRecDepth 100000 in
set_option maxHeartbeats 4000000 in
theorem c_X3_wrongOf (E : EN) (hM : EM E) (m : Nat) (ρ : Nat → Nat → Nat) (g : Nat → Int32) (h : Nat → Int64) (T : Nat → Nat → Int32) (L : Nat → Nat → Int64) (hR : RvX g T m ρ) (a : Nat) (ha : a < 256) : GpI E yX3_wrongOf wsX3_wrongOf rmX3_wrongOf [.ref (eA E 6), .int (nI a)] g h T L (fun v => v = nI (wrN (ρ 0) a m)) := by
  refine CtI_of (cc := cX3_wrongOf) (nL := 2) RX3 [some (.ref (eA E 6)), some (.int (nI a))] ⟨rfl, rfl⟩ (by decide) rfl rfl (Nat.le_of_ble_eq_true rfl) ⟨0, rfl⟩ hM.2 (fun Y C hQ => ?_)
  obtain ⟨hS, hNN⟩ := hM
  obtain ⟨hm, hg0, hall, hne, hfa, harr, hwt, hpe, hrn⟩ := hR
  refine J_iload_1 C dX3_wrongOf_0 ?_
  refine J_aload_0 C dX3_wrongOf_1 ?_
  refine G3_geti C (n := 611) 11 dX3_wrongOf_2 fX3_wrongOf_57 iX3_wrongOf_3 rfl (hS _ (by decide)) rfl rfl ?_
  refine J_iand C dX3_wrongOf_5 ?_
  refine J_iload_1 C dX3_wrongOf_6 ?_
  refine J_iconst C (-1) dX3_wrongOf_7 ic_m1 ?_
  refine J_ixor C dX3_wrongOf_8 ?_
  refine J_aload_0 C dX3_wrongOf_9 ?_
  refine G3_geti C (n := 612) 12 dX3_wrongOf_10 fX3_wrongOf_60 iX3_wrongOf_3 rfl (hS _ (by decide)) rfl rfl ?_
  refine J_iand C dX3_wrongOf_13 ?_
  refine J_ior C dX3_wrongOf_14 ?_
  refine hQ _ _ _ _ dX3_wrongOf_15 ⟨rfl, ?_⟩
  rw [hne, hfa]
  exact wrong_i hm ha
abbrev rmX3_rentOf : Room := { frames := 1, cells := 0, slots := 0, locals := 21 }
theorem fX3_rentOf_13 : Cond.fieldLink RX3 13 RX3 (TX3 8).2.1 (TX3 8).2.2.1 ∈ wsX3_rentOf := by decide +kernel
theorem fX3_rentOf_35 : Cond.fieldLink RX3 35 RX3 (TX3 0).2.1 (TX3 0).2.2.1 ∈ wsX3_rentOf := by decide +kernel
theorem iX3_rentOf_3 : ∀ x ∈ wsX30, x ∈ wsX3_rentOf := by decide +kernel
theorem dm_X3_wrongOf : yX3_wrongOf.cls = RX3 ∧ yX3_wrongOf.cls ≠ "java/lang/invoke/MethodHandle" ∧ yX3_wrongOf.cls ≠ "java/lang/invoke/VarHandle" ∧ (parseMethodDescriptor yX3_wrongOf.desc).map (fun d => d.parameters.length) = some 1 := by decide +kernel
set_option maxRecDepth 100000 in
set_option maxHeartbeats 4000000 in
theorem c_X3_rentOf (E : EN) (hM : EM E) (m : Nat) (ρ : Nat → Nat → Nat) (g : Nat → Int32) (h : Nat → Int64) (T : Nat → Nat → Int32) (L : Nat → Nat → Int64) (hR : RvX g T m ρ) (a : Nat) (ha : a < 256) : GpI E yX3_rentOf wsX3_rentOf rmX3_rentOf [.ref (eA E 6), .int (nI a)] g h T L (fun v => v = nI (wN (ρ 1) (wrN (ρ 0) a m) m)) := by
  refine CtI_of (cc := cX3_rentOf) (nL := 5) RX3 [some (.ref (eA E 6)), some (.int (nI a)), none, none, none] ⟨rfl, rfl⟩ (by decide) rfl rfl (Nat.le_of_ble_eq_true rfl) ⟨3, rfl⟩ hM.2 (fun Y C hQ => ?_)
  have hM0 := hM
  have hR0 := hR
  obtain ⟨hS, hNN⟩ := hM
  obtain ⟨hm, hg0, hall, hne, hfa, harr, hwt, hpe, hrn⟩ := hR
  refine J_aload_0 C dX3_rentOf_0 ?_
  refine J_iload_1 C dX3_rentOf_1 ?_
  refine G_vpi C dX3_rentOf_2 (c_X3_wrongOf E hM0 m ρ g h T L hR0 a ha) gX3_rentOf_X3_wrongOf rfl dm_X3_wrongOf rfl rfl (hS _ (by decide)) rfl rfl (Nat.le_of_ble_eq_true rfl) (rmOK_b rfl) (fun r2 hr2 => ?_)
  subst hr2
  refine J_istore_2 C dX3_rentOf_5 (by decide) trivial ?_
  refine J_iconst C (0) dX3_rentOf_6 ic_0 ?_
  refine J_istore_3 C dX3_rentOf_7 (by decide) trivial ?_
  refine J_iconst C (0) dX3_rentOf_8 ic_0 ?_
  refine J_istore_4 C dX3_rentOf_9 (by decide) trivial ?_
  have loop : ∀ (n : Nat) (t : Nat), t ≤ m → m < n + t → J E Y (eN E) 0 0 (wS E g h T L) 11 [some (.ref (eA E 6)), some (.int (nI a)), some (.int (nI (wrN (ρ 0) a m))), some (.int (nI (wN (ρ 1) (wrN (ρ 0) a m) t))), some (.int (nI t))] [] := by
    intro n
    induction n with
    | zero =>
      intro t h1 h2
      omega
    | succ n ih =>
      intro t h1 h2
      refine J_iload_4 C dX3_rentOf_11 ?_
      refine J_aload_0 C dX3_rentOf_13 ?_
      refine G3_geti C (n := 600) 0 dX3_rentOf_14 fX3_rentOf_35 iX3_rentOf_3 rfl (hS _ (by decide)) rfl rfl ?_
      refine J_icmp_ge C 49 dX3_rentOf_17 (by decide) (fun hc17 => ?_) (fun hc17 => ?_)
      · skip
        refine J_iload_3 C dX3_rentOf_49 ?_
        refine hQ _ _ _ _ dX3_rentOf_50 ⟨rfl, ?_⟩
        have e : t = m := by
          rw [hg0] at hc17
          rcases Nat.lt_or_ge t m with q | q
          · exact absurd hc17 (nI_ge q (by omega))
          · omega
        rw [e]
      · skip
        have hlt : t < m := by
          rw [hg0] at hc17
          rcases Nat.lt_or_ge t m with q | q
          · exact q
          · exact absurd (nI_le q (by omega)) hc17
        refine J_iload_3 C dX3_rentOf_20 ?_
        refine J_iload_2 C dX3_rentOf_21 ?_
        refine J_iconst C (1) dX3_rentOf_22 ic_1 ?_
        refine J_iload_4 C dX3_rentOf_23 ?_
        refine J_ishl C dX3_rentOf_25 ?_
        refine J_iand C dX3_rentOf_26 ?_
        refine J_if_eq C 40 dX3_rentOf_27 (by decide) (fun hc27 => ?_) (fun hc27 => ?_)
        · skip
          refine J_iconst C (0) dX3_rentOf_40 ic_0 ?_
          refine J_iadd C dX3_rentOf_41 ?_
          refine J_istore_3 C dX3_rentOf_42 (by decide) trivial ?_
          refine J_iinc_4 C (1) dX3_rentOf_43 (by decide) trivial ic_1 ?_
          refine J_goto C 11 dX3_rentOf_46 (by decide) ?_
          rw [nI_1]
          first
          | rw [show (0 : Int32) = nI 0 from rfl, nI_add]
            have e : wN (ρ 1) (wrN (ρ 0) a m) t + 0 = wN (ρ 1) (wrN (ρ 0) a m) (t + 1) := by
              rw [nI_sh1 t (by omega), nI_and, nI_z (Nat.lt_of_le_of_lt Nat.and_le_left (by have := wrN_lt (wa := ρ 0) (a := a) (m := m); have := p7 hm; omega)), tb_iff] at hc27
              simp [wN, hc27]
            rw [e]
            exact ih (t + 1) (by omega) (by omega)
          | rw [(harr t (by omega)).2.1, nI_add]
            have e : wN (ρ 1) (wrN (ρ 0) a m) t + ρ 1 t = wN (ρ 1) (wrN (ρ 0) a m) (t + 1) := by
              rw [nI_sh1 t (by omega), nI_and, nI_z (Nat.lt_of_le_of_lt Nat.and_le_left (by have := wrN_lt (wa := ρ 0) (a := a) (m := m); have := p7 hm; omega)), tb_iff] at hc27
              simp [wN, hc27]
            rw [e]
            exact ih (t + 1) (by omega) (by omega)
        · skip
          refine J_aload_0 C dX3_rentOf_30 ?_
          refine G3_getr C (n := 8) 8 dX3_rentOf_31 fX3_rentOf_13 iX3_rentOf_3 rfl (hS _ (by decide)) rfl rfl ?_
          refine J_iload_4 C dX3_rentOf_34 ?_
          refine G_iald C _ dX3_rentOf_36 rfl (hS _ (by decide)) rfl (by omega) ?_
          refine J_goto C 41 dX3_rentOf_37 (by decide) ?_
          refine J_iadd C dX3_rentOf_41 ?_
          refine J_istore_3 C dX3_rentOf_42 (by decide) trivial ?_
          refine J_iinc_4 C (1) dX3_rentOf_43 (by decide) trivial ic_1 ?_
          refine J_goto C 11 dX3_rentOf_46 (by decide) ?_
          rw [nI_1]
          first
          | rw [show (0 : Int32) = nI 0 from rfl, nI_add]
            have e : wN (ρ 1) (wrN (ρ 0) a m) t + 0 = wN (ρ 1) (wrN (ρ 0) a m) (t + 1) := by
              rw [nI_sh1 t (by omega), nI_and, nI_z (Nat.lt_of_le_of_lt Nat.and_le_left (by have := wrN_lt (wa := ρ 0) (a := a) (m := m); have := p7 hm; omega)), tb_iff] at hc27
              simp [wN, hc27]
            rw [e]
            exact ih (t + 1) (by omega) (by omega)
          | rw [(harr t (by omega)).2.1, nI_add]
            have e : wN (ρ 1) (wrN (ρ 0) a m) t + ρ 1 t = wN (ρ 1) (wrN (ρ 0) a m) (t + 1) := by
              rw [nI_sh1 t (by omega), nI_and, nI_z (Nat.lt_of_le_of_lt Nat.and_le_left (by have := wrN_lt (wa := ρ 0) (a := a) (m := m); have := p7 hm; omega)), tb_iff] at hc27
              simp [wN, hc27]
            rw [e]
            exact ih (t + 1) (by omega) (by omega)
  exact loop (m + 1) 0 (by omega) (by omega)
abbrev rmX3_crossing : Room := { frames := 2, cells := 0, slots := 0, locals := 41 }
theorem fX3_crossing_22 : Cond.fieldLink RX3 22 RX3 (TX3 13).2.1 (TX3 13).2.2.1 ∈ wsX3_crossing := by decide +kernel
theorem fX3_crossing_25 : Cond.fieldLink RX3 25 RX3 (TX3 14).2.1 (TX3 14).2.2.1 ∈ wsX3_crossing := by decide +kernel
theorem iX3_crossing_3 : ∀ x ∈ wsX30, x ∈ wsX3_crossing := by decide +kernel
set_option maxRecDepth 100000 in
set_option maxHeartbeats 4000000 in
theorem c_X3_crossing (E : EN) (hM : EM E) (m : Nat) (ρ : Nat → Nat → Nat) (g : Nat → Int32) (h : Nat → Int64) (T : Nat → Nat → Int32) (L : Nat → Nat → Int64) (hR : RvX g T m ρ) (a b ld th : Nat) (ha : a < 256) (hb : b < 2 ^ 31) (hld : ld < 1000) : GpI E yX3_crossing wsX3_crossing rmX3_crossing [.ref (eA E 6), .int (nI a), .int (nI b), .int (nI ld), .int (nI th)] g h T L (fun v => v = match crN m (ρ 2) (ρ 3) ld th a b with | some c => nI c | none => (-1)) := by
  refine CtI_of (cc := cX3_crossing) (nL := 6) RX3 [some (.ref (eA E 6)), some (.int (nI a)), some (.int (nI b)), some (.int (nI ld)), some (.int (nI th)), none] ⟨rfl, rfl⟩ (by decide) rfl rfl (Nat.le_of_ble_eq_true rfl) ⟨1, rfl⟩ hM.2 (fun Y C hQ => ?_)
  have hM0 := hM
  have hR0 := hR
  obtain ⟨hS, hNN⟩ := hM
  obtain ⟨hm, hg0, hall, hne, hfa, harr, hwt, hpe, hrn⟩ := hR
  have hh : hN m a &&& th < 2 ^ m := Nat.lt_of_le_of_lt Nat.and_le_left hN_lt
  have h7 := p7 hm
  refine J_aload_0 C dX3_crossing_0 ?_
  refine J_iload_1 C dX3_crossing_1 ?_
  refine G_vpi C dX3_crossing_2 (c_X3_atFerry E hM0 m ρ g h T L hR0 a ha) gX3_crossing_X3_atFerry rfl dm_X3_atFerry rfl rfl (hS _ (by decide)) rfl rfl (Nat.le_of_ble_eq_true rfl) (rmOK_b rfl) (fun r2 hr2 => ?_)
  subst hr2
  refine J_iload_4 C dX3_crossing_5 ?_
  refine J_iand C dX3_crossing_7 ?_
  rw [nI_and]
  refine J_istore_5 C dX3_crossing_8 (by decide) trivial ?_
  refine J_iload_2 C dX3_crossing_10 ?_
  refine J_iload_5 C dX3_crossing_11 ?_
  refine J_iconst C (-1) dX3_crossing_13 ic_m1 ?_
  refine J_ixor C dX3_crossing_14 ?_
  refine J_iand C dX3_crossing_15 ?_
  refine J_if_ne C 43 dX3_crossing_16 (by decide) (fun hc16 => ?_) (fun hc16 => ?_)
  · skip
    refine J_iconst C (-1) dX3_crossing_43 ic_m1 ?_
    refine hQ _ _ _ _ dX3_crossing_44 ⟨rfl, ?_⟩
    first
    | (have e : ¬ b &&& (hN m a &&& th) = b := by
        intro e
        apply hc16
        rw [nI_andn (n := 31) (by omega) hb, (sub_iff hb).mpr e]
        rfl
       rw [crN, if_neg (fun h => e h.1)])
    | (have e : ¬ wN (ρ 2) b m ≤ ld := by
        intro e
        rw [hwt b hbl] at hc26
        exact nI_nlt e (by omega) hc26
       rw [crN, if_neg (fun h => e h.2.1)])
    | (have e : ¬ sfN (ρ 3) ((hN m a &&& th) ^^^ b) m = true := by
        intro e
        rw [hpe _ (diff_lt hh hsub), if_pos e] at hc40
        exact absurd hc40 (by decide)
       rw [crN, if_neg (fun h => e h.2.2)])
  · skip
    rw [nI_andn (n := 31) (by omega) hb] at hc16
    have hsub : b &&& (hN m a &&& th) = b := by
      rw [nI_z (by have : b &&& (hN m a &&& th ^^^ 2 ^ 31 - 1) ≤ b := Nat.and_le_left; omega)] at hc16
      exact (sub_iff hb).mp hc16
    have hbl : b < 2 ^ m := sub_lt hsub hh
    refine J_aload_0 C dX3_crossing_19 ?_
    refine G3_getr C (n := 11) 13 dX3_crossing_20 fX3_crossing_22 iX3_crossing_3 rfl (hS _ (by decide)) rfl rfl ?_
    refine J_iload_2 C dX3_crossing_23 ?_
    refine G_iald C b dX3_crossing_24 rfl (hS _ (by decide)) rfl (Nat.lt_of_lt_of_le hbl h7) ?_
    refine J_iload_3 C dX3_crossing_25 ?_
    refine J_icmp_gt C 43 dX3_crossing_26 (by decide) (fun hc26 => ?_) (fun hc26 => ?_)
    · skip
      refine J_iconst C (-1) dX3_crossing_43 ic_m1 ?_
      refine hQ _ _ _ _ dX3_crossing_44 ⟨rfl, ?_⟩
      first
      | (have e : ¬ b &&& (hN m a &&& th) = b := by
          intro e
          apply hc16
          rw [nI_andn (n := 31) (by omega) hb, (sub_iff hb).mpr e]
          rfl
         rw [crN, if_neg (fun h => e h.1)])
      | (have e : ¬ wN (ρ 2) b m ≤ ld := by
          intro e
          rw [hwt b hbl] at hc26
          exact nI_nlt e (by omega) hc26
         rw [crN, if_neg (fun h => e h.2.1)])
      | (have e : ¬ sfN (ρ 3) ((hN m a &&& th) ^^^ b) m = true := by
          intro e
          rw [hpe _ (diff_lt hh hsub), if_pos e] at hc40
          exact absurd hc40 (by decide)
         rw [crN, if_neg (fun h => e h.2.2)])
    · skip
      rw [hwt b hbl] at hc26
      have hw : wN (ρ 2) b m ≤ ld := by
        rcases Nat.lt_or_ge ld (wN (ρ 2) b m) with q | q
        · exact absurd (nI_lt q (by have := wN_le (m := m) (b := b) (fun t ht => (hrn t ht).2.2.1); omega)) hc26
        · exact q
      refine J_aload_0 C dX3_crossing_29 ?_
      refine G3_getr C (n := 12) 14 dX3_crossing_30 fX3_crossing_25 iX3_crossing_3 rfl (hS _ (by decide)) rfl rfl ?_
      refine J_iload_5 C dX3_crossing_33 ?_
      refine J_iload_2 C dX3_crossing_35 ?_
      refine J_iconst C (-1) dX3_crossing_36 ic_m1 ?_
      refine J_ixor C dX3_crossing_37 ?_
      refine J_iand C dX3_crossing_38 ?_
      refine G_zald C ((hN m a &&& th) ^^^ b) dX3_crossing_39 rfl (hS _ (by decide)) (by rw [nI_andn (n := m) (by omega) hh, diff_eq hh hsub]) (Nat.lt_of_lt_of_le (diff_lt hh hsub) h7) ?_
      refine J_if_ne C 45 dX3_crossing_40 (by decide) (fun hc40 => ?_) (fun hc40 => ?_)
      · skip
        refine J_iload_1 C dX3_crossing_45 ?_
        refine J_iload_2 C dX3_crossing_46 ?_
        refine J_ixor C dX3_crossing_47 ?_
        refine J_sipush C (128) dX3_crossing_48 sc_128 ?_
        refine J_ixor C dX3_crossing_51 ?_
        refine hQ _ _ _ _ dX3_crossing_52 ⟨rfl, ?_⟩
        have e : sfN (ρ 3) ((hN m a &&& th) ^^^ b) m = true := by
          rw [hpe _ (diff_lt hh hsub)] at hc40
          by_cases q : sfN (ρ 3) ((hN m a &&& th) ^^^ b) m = true
          · exact q
          · rw [if_neg q] at hc40
            exact absurd rfl hc40
        rw [crN, if_pos ⟨hsub, hw, e⟩]
        show nI a ^^^ nI b ^^^ 128 = nI (a ^^^ b ^^^ 128)
        rw [nI_xor, show (128 : Int32) = nI 128 by decide, nI_xor]
      · skip
        refine J_iconst C (-1) dX3_crossing_43 ic_m1 ?_
        refine hQ _ _ _ _ dX3_crossing_44 ⟨rfl, ?_⟩
        first
        | (have e : ¬ b &&& (hN m a &&& th) = b := by
            intro e
            apply hc16
            rw [nI_andn (n := 31) (by omega) hb, (sub_iff hb).mpr e]
            rfl
           rw [crN, if_neg (fun h => e h.1)])
        | (have e : ¬ wN (ρ 2) b m ≤ ld := by
            intro e
            rw [hwt b hbl] at hc26
            exact nI_nlt e (by omega) hc26
           rw [crN, if_neg (fun h => e h.2.1)])
        | (have e : ¬ sfN (ρ 3) ((hN m a &&& th) ^^^ b) m = true := by
            intro e
            rw [hpe _ (diff_lt hh hsub), if_pos e] at hc40
            exact absurd hc40 (by decide)
           rw [crN, if_neg (fun h => e h.2.2)])
