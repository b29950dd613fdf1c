/-! the small commands -/
def byN (v : Int64) (k : Nat) : Nat := v.toBitVec.toNat / 2 ^ (8 * k) % 256
theorem byN_lt {v : Int64} {k : Nat} : byN v k < 256 := Nat.mod_lt _ (by decide)
theorem and255 (x : Int32) : x &&& 255 = nI (x.toBitVec.toNat % 256) := by
  apply Int32.toBitVec_inj.mp
  apply BitVec.eq_of_toNat_eq
  have h : (x &&& 255).toBitVec.toNat = x.toBitVec.toNat &&& 255 := by simp [Int32.toBitVec_and, BitVec.toNat_and]
  have h2 : (nI (x.toBitVec.toNat % 256)).toBitVec.toNat = x.toBitVec.toNat % 256 := by
    show (BitVec.ofNat 32 (x.toBitVec.toNat % 256)).toNat = _
    rw [BitVec.toNat_ofNat]
    omega
  rw [h, h2, show (255 : Nat) = 2 ^ 8 - 1 from rfl, Nat.and_two_pow_sub_one_eq_mod]
theorem by_c (v : Int64) : ∀ k, k < 8 → ((v.toUInt64 >>> ((8 * nI k).toInt64.toUInt64 &&& Int64.toUInt64 63)).toInt64).toInt32 &&& 255 = nI (byN v k) := by
  intro k hk
  rw [and255]
  congr 1
  have hs : (((8 * nI k).toInt64.toUInt64 &&& Int64.toUInt64 63).toBitVec % 64).toNat = 8 * k := by
    revert k
    decide +kernel
  have h1 : ((v.toUInt64 >>> ((8 * nI k).toInt64.toUInt64 &&& Int64.toUInt64 63)).toInt64).toInt32.toBitVec.toNat = v.toBitVec.toNat / 2 ^ (8 * k) % 2 ^ 32 := by
    show (BitVec.signExtend 32 (v.toUInt64 >>> ((8 * nI k).toInt64.toUInt64 &&& Int64.toUInt64 63)).toBitVec).toNat = _
    rw [BitVec.signExtend_eq_setWidth_of_le _ (by decide), BitVec.toNat_setWidth, UInt64.toBitVec_shiftRight, BitVec.ushiftRight_eq', BitVec.toNat_ushiftRight, hs, Nat.shiftRight_eq_div_pow]
    rfl
  rw [h1]
  unfold byN
  omega
theorem by_m (v : Int64) : ∀ k, k < 8 → ((v >>> ((8 * nI k).toInt64 &&& 63)) &&& 255).toInt32 = nI (byN v k) := by
  intro k hk
  have hs : (((8 * nI k).toInt64 &&& 63).toBitVec.smod 64).toNat = 8 * k := by
    revert k
    decide +kernel
  apply Int32.toBitVec_inj.mp
  have h1 : ((v >>> ((8 * nI k).toInt64 &&& 63)) &&& 255).toInt32.toBitVec = BitVec.setWidth 32 ((v.toBitVec.sshiftRight (8 * k)) &&& 255#64) := by
    show BitVec.signExtend 32 ((v >>> ((8 * nI k).toInt64 &&& 63)) &&& 255).toBitVec = _
    rw [BitVec.signExtend_eq_setWidth_of_le _ (by decide), Int64.toBitVec_and, Int64.toBitVec_shiftRight, BitVec.sshiftRight_eq', hs]
    rfl
  rw [h1]
  apply BitVec.eq_of_getLsbD_eq
  intro i hi
  have h255 : (255#64).getLsbD i = decide (i < 8) := by
    rw [show (255#64) = BitVec.ofNat 64 (2 ^ 8 - 1) from rfl, BitVec.getLsbD_ofNat, Nat.testBit_two_pow_sub_one]
    simp
    omega
  have hR : (nI (byN v k)).toBitVec.getLsbD i = (byN v k).testBit i := by
    show (BitVec.ofNat 32 (byN v k)).getLsbD i = _
    rw [BitVec.getLsbD_ofNat]
    simp [hi]
  rw [hR, BitVec.getLsbD_setWidth, BitVec.getLsbD_and, h255, BitVec.getLsbD_sshiftRight]
  unfold byN
  rw [show (256 : Nat) = 2 ^ 8 from rfl, Nat.testBit_mod_two_pow, Nat.testBit_div_two_pow]
  by_cases q : i < 8
  · simp [q, hi, show ¬ 64 ≤ i by omega, show 8 * k + i < 64 by omega]
    rw [Nat.add_comm i]
    rfl
  · simp [q]
abbrev rmX0_begin : Room := { frames := 0, cells := 0, slots := 0, locals := 0 }
theorem fX0_begin_13 : Cond.fieldLink RX0 13 RX0 (TX0 1).2.1 (TX0 1).2.2.1 ∈ wsX0_begin := by decide +kernel
theorem fX0_begin_16 : Cond.fieldLink RX0 16 RX0 (TX0 2).2.1 (TX0 2).2.2.1 ∈ wsX0_begin := by decide +kernel
theorem fX0_begin_22 : Cond.fieldLink RX0 22 RX0 (TX0 4).2.1 (TX0 4).2.2.1 ∈ wsX0_begin := by decide +kernel
theorem fX0_begin_32 : Cond.fieldLink RX0 32 RX3 (TX3 3).2.1 (TX3 3).2.2.1 ∈ wsX0_begin := by decide +kernel
theorem fX0_begin_37 : Cond.fieldLink RX0 37 RX3 (TX3 5).2.1 (TX3 5).2.2.1 ∈ wsX0_begin := by decide +kernel
theorem fX0_begin_7 : Cond.fieldLink RX0 7 RX0 (TX0 0).2.1 (TX0 0).2.2.1 ∈ wsX0_begin := by decide +kernel
theorem iX0_begin_0 : ∀ x ∈ wsX00, x ∈ wsX0_begin := by decide +kernel
theorem iX0_begin_3 : ∀ x ∈ wsX30, x ∈ wsX0_begin := by decide +kernel
set_option maxRecDepth 100000 in
set_option maxHeartbeats 4000000 in
theorem c_X0_begin (E : EN) (hM : EM E) (g : Nat → Int32) (h : Nat → Int64) (T : Nat → Nat → Int32) (L : Nat → Nat → Int64) : GtV E yX0_begin wsX0_begin rmX0_begin [.ref (eA E 20), .ref (eA E 6)] g h T L (fun g2 h2 T2 L2 => g2 = upd (upd (upd (upd g 2000 (g 603)) 2001 (g 605)) 2002 0) 2004 0 ∧ h2 = h ∧ T2 = T ∧ L2 = L) := by
  refine CtV_of (cc := cX0_begin) (nL := 2) RX0 [some (.ref (eA E 20)), some (.ref (eA E 6))] ⟨rfl, rfl⟩ (by decide) rfl rfl (Nat.le_of_ble_eq_true rfl) ⟨0, rfl⟩ hM.2 (fun Y hnm C hQ => ?_)
  have hM0 := hM
  obtain ⟨hS, hNN⟩ := hM
  refine J_aload_0 C dX0_begin_0 ?_
  refine J_aload_1 C dX0_begin_1 ?_
  refine G3_geti C (n := 603) 3 dX0_begin_2 fX0_begin_32 iX0_begin_3 rfl (hS _ (by decide)) rfl rfl ?_
  refine G0_puti C (n := 2000) 0 dX0_begin_5 fX0_begin_7 iX0_begin_0 rfl (hS _ (by decide)) rfl (tyX0_ok 0 (by decide)) rfl rfl ?_
  refine J_aload_0 C dX0_begin_8 ?_
  refine J_aload_1 C dX0_begin_9 ?_
  refine G3_geti C (n := 605) 5 dX0_begin_10 fX0_begin_37 iX0_begin_3 rfl (hS _ (by decide)) rfl rfl ?_
  refine G0_puti C (n := 2001) 1 dX0_begin_13 fX0_begin_13 iX0_begin_0 rfl (hS _ (by decide)) rfl (tyX0_ok 1 (by decide)) rfl rfl ?_
  refine J_aload_0 C dX0_begin_16 ?_
  refine J_iconst C (0) dX0_begin_17 ic_0 ?_
  refine G0_puti C (n := 2002) 2 dX0_begin_18 fX0_begin_16 iX0_begin_0 rfl (hS _ (by decide)) rfl (tyX0_ok 2 (by decide)) rfl rfl ?_
  refine J_aload_0 C dX0_begin_21 ?_
  refine J_iconst C (0) dX0_begin_22 ic_0 ?_
  refine G0_puti C (n := 2004) 4 dX0_begin_23 fX0_begin_22 iX0_begin_0 rfl (hS _ (by decide)) rfl (tyX0_ok 4 (by decide)) rfl rfl ?_
  refine hQ _ _ _ dX0_begin_26 ⟨_, _, _, _, rfl, ?_⟩
  exact ⟨rfl, rfl, rfl, rfl⟩
abbrev rmX5_clear : Room := { frames := 0, cells := 0, slots := 0, locals := 0 }
theorem fX5_clear_13 : Cond.fieldLink RX5 13 RX5 (TX5 1).2.1 (TX5 1).2.2.1 ∈ wsX5_clear := by decide +kernel
theorem iX5_clear_5 : ∀ x ∈ wsX50, x ∈ wsX5_clear := by decide +kernel
set_option maxRecDepth 100000 in
set_option maxHeartbeats 4000000 in
theorem c_X5_clear (E : EN) (hM : EM E) (g : Nat → Int32) (h : Nat → Int64) (T : Nat → Nat → Int32) (L : Nat → Nat → Int64) : GtI E yX5_clear wsX5_clear rmX5_clear [.ref (eA E 0)] g h T L (fun r g2 h2 T2 L2 => r = g 1 ∧ g2 = upd g 1 0 ∧ h2 = h ∧ T2 = T ∧ L2 = L) := by
  refine CtI_of (cc := cX5_clear) (nL := 2) RX5 [some (.ref (eA E 0)), none] ⟨rfl, rfl⟩ (by decide) rfl rfl (Nat.le_of_ble_eq_true rfl) ⟨1, rfl⟩ hM.2 (fun Y C hQ => ?_)
  have hM0 := hM
  obtain ⟨hS, hNN⟩ := hM
  refine J_aload_0 C dX5_clear_0 ?_
  refine G5_geti C (n := 1) 1 dX5_clear_1 fX5_clear_13 iX5_clear_5 rfl (hS _ (by decide)) rfl rfl ?_
  refine J_istore_1 C dX5_clear_4 (by decide) trivial ?_
  refine J_aload_0 C dX5_clear_5 ?_
  refine J_iconst C (0) dX5_clear_6 ic_0 ?_
  refine G5_puti C (n := 1) 1 dX5_clear_7 fX5_clear_13 iX5_clear_5 rfl (hS _ (by decide)) rfl (tyX5_ok 1 (by decide)) rfl rfl ?_
  refine J_iload_1 C dX5_clear_10 ?_
  refine hQ _ _ _ _ dX5_clear_11 ⟨_, _, _, _, rfl, ?_⟩
  exact ⟨rfl, rfl, rfl, rfl, rfl⟩
abbrev rmX6_clear : Room := { frames := 0, cells := 0, slots := 0, locals := 0 }
theorem fX6_clear_91 : Cond.fieldLink RX6 91 RX6 (TX6 1).2.1 (TX6 1).2.2.1 ∈ wsX6_clear := by decide +kernel
theorem iX6_clear_6 : ∀ x ∈ wsX60, x ∈ wsX6_clear := by decide +kernel
set_option maxRecDepth 100000 in
set_option maxHeartbeats 4000000 in
theorem c_X6_clear (E : EN) (hM : EM E) (g : Nat → Int32) (h : Nat → Int64) (T : Nat → Nat → Int32) (L : Nat → Nat → Int64) : GtI E yX6_clear wsX6_clear rmX6_clear [.ref (eA E 48)] g h T L (fun r g2 h2 T2 L2 => r = g 4801 ∧ g2 = upd g 4801 0 ∧ h2 = h ∧ T2 = T ∧ L2 = L) := by
  refine CtI_of (cc := cX6_clear) (nL := 2) RX6 [some (.ref (eA E 48)), none] ⟨rfl, rfl⟩ (by decide) rfl rfl (Nat.le_of_ble_eq_true rfl) ⟨1, rfl⟩ hM.2 (fun Y C hQ => ?_)
  have hM0 := hM
  obtain ⟨hS, hNN⟩ := hM
  refine J_aload_0 C dX6_clear_0 ?_
  refine G6_geti C (n := 4801) 1 dX6_clear_1 fX6_clear_91 iX6_clear_6 rfl (hS _ (by decide)) rfl rfl ?_
  refine J_istore_1 C dX6_clear_4 (by decide) trivial ?_
  refine J_aload_0 C dX6_clear_5 ?_
  refine J_iconst C (0) dX6_clear_6 ic_0 ?_
  refine G6_puti C (n := 4801) 1 dX6_clear_7 fX6_clear_91 iX6_clear_6 rfl (hS _ (by decide)) rfl (tyX6_ok 1 (by decide)) rfl rfl ?_
  refine J_iload_1 C dX6_clear_10 ?_
  refine hQ _ _ _ _ dX6_clear_11 ⟨_, _, _, _, rfl, ?_⟩
  exact ⟨rfl, rfl, rfl, rfl, rfl⟩
abbrev rmX5_lot : Room := { frames := 0, cells := 0, slots := 0, locals := 0 }
theorem fX5_lot_151 : Cond.fieldLink RX5 151 RX0 (TX0 3).2.1 (TX0 3).2.2.1 ∈ wsX5_lot := by decide +kernel
theorem fX5_lot_37 : Cond.fieldLink RX5 37 RX5 (TX5 5).2.1 (TX5 5).2.2.1 ∈ wsX5_lot := by decide +kernel
theorem iX5_lot_0 : ∀ x ∈ wsX00, x ∈ wsX5_lot := by decide +kernel
theorem iX5_lot_5 : ∀ x ∈ wsX50, x ∈ wsX5_lot := by decide +kernel
set_option maxRecDepth 100000 in
set_option maxHeartbeats 4000000 in
theorem c_X5_lot (E : EN) (hM : EM E) (g : Nat → Int32) (h : Nat → Int64) (T : Nat → Nat → Int32) (L : Nat → Nat → Int64) (v : Int32) : GtI E yX5_lot wsX5_lot rmX5_lot [.ref (eA E 0), .int v] g h T L (fun r g2 h2 T2 L2 => r = g 2003 ∧ g2 = upd g 2003 v ∧ h2 = h ∧ T2 = T ∧ L2 = L) := by
  refine CtI_of (cc := cX5_lot) (nL := 3) RX5 [some (.ref (eA E 0)), some (.int v), none] ⟨rfl, rfl⟩ (by decide) rfl rfl (Nat.le_of_ble_eq_true rfl) ⟨1, rfl⟩ hM.2 (fun Y C hQ => ?_)
  have hM0 := hM
  obtain ⟨hS, hNN⟩ := hM
  refine J_aload_0 C dX5_lot_0 ?_
  refine G5_getr C (n := 20) 5 dX5_lot_1 fX5_lot_37 iX5_lot_5 rfl (hS _ (by decide)) rfl rfl ?_
  refine G0_geti C (n := 2003) 3 dX5_lot_4 fX5_lot_151 iX5_lot_0 rfl (hS _ (by decide)) rfl rfl ?_
  refine J_istore_2 C dX5_lot_7 (by decide) trivial ?_
  refine J_aload_0 C dX5_lot_8 ?_
  refine G5_getr C (n := 20) 5 dX5_lot_9 fX5_lot_37 iX5_lot_5 rfl (hS _ (by decide)) rfl rfl ?_
  refine J_iload_1 C dX5_lot_12 ?_
  refine G0_puti C (n := 2003) 3 dX5_lot_13 fX5_lot_151 iX5_lot_0 rfl (hS _ (by decide)) rfl (tyX0_ok 3 (by decide)) rfl rfl ?_
  refine J_iload_2 C dX5_lot_16 ?_
  refine hQ _ _ _ _ dX5_lot_17 ⟨_, _, _, _, rfl, ?_⟩
  exact ⟨rfl, rfl, rfl, rfl, rfl⟩
abbrev rmX6_lot : Room := { frames := 0, cells := 0, slots := 0, locals := 0 }
theorem fX6_lot_35 : Cond.fieldLink RX6 35 RX6 (TX6 14).2.1 (TX6 14).2.2.1 ∈ wsX6_lot := by decide +kernel
theorem iX6_lot_6 : ∀ x ∈ wsX60, x ∈ wsX6_lot := by decide +kernel
set_option maxRecDepth 100000 in
set_option maxHeartbeats 4000000 in
theorem c_X6_lot (E : EN) (hM : EM E) (g : Nat → Int32) (h : Nat → Int64) (T : Nat → Nat → Int32) (L : Nat → Nat → Int64) (v : Int32) : GtI E yX6_lot wsX6_lot rmX6_lot [.ref (eA E 48), .int v] g h T L (fun r g2 h2 T2 L2 => r = g 4814 ∧ g2 = upd g 4814 v ∧ h2 = h ∧ T2 = T ∧ L2 = L) := by
  refine CtI_of (cc := cX6_lot) (nL := 3) RX6 [some (.ref (eA E 48)), some (.int v), none] ⟨rfl, rfl⟩ (by decide) rfl rfl (Nat.le_of_ble_eq_true rfl) ⟨1, rfl⟩ hM.2 (fun Y C hQ => ?_)
  have hM0 := hM
  obtain ⟨hS, hNN⟩ := hM
  refine J_aload_0 C dX6_lot_0 ?_
  refine G6_geti C (n := 4814) 14 dX6_lot_1 fX6_lot_35 iX6_lot_6 rfl (hS _ (by decide)) rfl rfl ?_
  refine J_istore_2 C dX6_lot_4 (by decide) trivial ?_
  refine J_aload_0 C dX6_lot_5 ?_
  refine J_iload_1 C dX6_lot_6 ?_
  refine G6_puti C (n := 4814) 14 dX6_lot_7 fX6_lot_35 iX6_lot_6 rfl (hS _ (by decide)) rfl (tyX6_ok 14 (by decide)) rfl rfl ?_
  refine J_iload_2 C dX6_lot_10 ?_
  refine hQ _ _ _ _ dX6_lot_11 ⟨_, _, _, _, rfl, ?_⟩
  exact ⟨rfl, rfl, rfl, rfl, rfl⟩
