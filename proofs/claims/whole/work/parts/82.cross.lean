def i2n (x : Int32) : Nat := x.toInt.toNat
theorem i2n_nI {n : Nat} (h : n < 2 ^ 31) : i2n (nI n) = n := by
  unfold i2n
  rw [nI_toInt h]
  rfl
def moveS (μ : MO) (s d : Nat) : MO := (s, d, μ.2.2.1, μ.2.2.2.1, pushU μ.2.2.2.2 (μ.1, μ.2.1))
theorem moveS_ok {μ : MO} (h : MoOK μ) {s d : Nat} (hs : s < 256) (hd : d ≤ 20) : MoOK (moveS μ s d) := by
  obtain ⟨h1, h2, h3, h4, h5⟩ := h
  obtain ⟨p1, p2⟩ := pushU_ok (x := (μ.1, μ.2.1)) h4 h5 ⟨h1, h2⟩
  exact ⟨hs, hd, h3, p1, p2⟩
def crossB (c : Nat → Nat → Option Nat) (μ : MO) (b : Nat) : Int32 × MO := match c μ.1 b with
  | some t => if μ.2.1 = 0 then (-2, μ) else (nI (μ.2.1 - 1), moveS μ t (μ.2.1 - 1))
  | none => (-2, μ)
def crossS (m : Nat) (c : Nat → Nat → Option Nat) (v : Int32) (μ : MO) : Int32 × MO := if 0 ≤ v ∧ v ≤ nI (2 ^ m - 1) then crossB c μ (i2n v) else (-1, μ)
def slideB (m : Nat) (ρ : Nat → Nat → Nat) (μ : MO) (j : Nat) : Int32 × MO := if ρ 2 j ≤ μ.2.2.1 ∧ sfN (ρ 3) ((2 ^ m - 1) ^^^ hN m (μ.1 ^^^ 2 ^ j)) m = true then ((if (μ.1 ^^^ 2 ^ j).testBit j = true then 1 else 0), moveS μ (μ.1 ^^^ 2 ^ j) μ.2.1) else (-2, μ)
def slideS (m : Nat) (ρ : Nat → Nat → Nat) (t : Int32) (μ : MO) : Int32 × MO := if 0 ≤ t ∧ t < nI m then slideB m ρ μ (i2n t) else (-1, μ)
theorem crossS_ok {m : Nat} {wt fr : Nat → Nat} {ld th : Nat} {v : Int32} {μ : MO} (hm : m ≤ 7) (h : MoOK μ) : MoOK (crossS m (crN m wt fr ld th) v μ).2 := by
  unfold crossS crossB
  split
  · split
    · rename_i t ht
      split
      · exact h
      · exact moveS_ok h (crN_lt hm h.1 ht).1 (by have := h.2.1; omega)
    · exact h
  · exact h
theorem xor2_lt {s j : Nat} (hs : s < 256) (hj : j < 7) : s ^^^ 2 ^ j < 256 := Nat.xor_lt_two_pow (n := 8) hs (Nat.pow_lt_pow_of_lt (by decide) (by omega))
theorem slideS_ok {m : Nat} {ρ : Nat → Nat → Nat} {t : Int32} {μ : MO} (hm : m ≤ 7) (h : MoOK μ) : MoOK (slideS m ρ t μ).2 := by
  unfold slideS slideB
  split
  · rename_i ht
    obtain ⟨j, rfl, hj⟩ := t_in hm ht
    rw [i2n_nI (by omega)]
    split
    · exact moveS_ok h (xor2_lt h.1 (by omega)) h.2.1
    · exact h
  · exact h
theorem in_i {v k : Int32} : ((0 : Int64) ≤ v.toInt64 ∧ v.toInt64 ≤ k.toInt64) ↔ (0 ≤ v ∧ v ≤ k) := by
  rw [Int64.le_iff_toInt_le, Int64.le_iff_toInt_le, Int32.toInt_toInt64, Int32.toInt_toInt64, Int32.le_iff_toInt_le, Int32.le_iff_toInt_le]
  exact Iff.rfl
theorem all_in {v : Int32} {m : Nat} (hm : m ≤ 7) (h : 0 ≤ v ∧ v ≤ nI (2 ^ m - 1)) : ∃ b, v = nI b ∧ b < 2 ^ m := by
  have := p7 hm
  have hp := Nat.two_pow_pos m
  obtain ⟨b, h1, h2⟩ := nI_of2 (x := v) (M := nI (2 ^ m - 1)) (n := 2 ^ m - 1) (nI_toInt (by omega)) (Int32.not_lt.mpr h.1) h.2
  exact ⟨b, h2, by omega⟩
theorem allbits {v : Int32} {m : Nat} (hm : m ≤ 7) : v &&& (nI (2 ^ m - 1) ^^^ (-1)) = 0 ↔ (0 ≤ v ∧ v ≤ nI (2 ^ m - 1)) := by
  have h128 := p7 hm
  have hp := Nat.two_pow_pos m
  constructor
  · intro h
    have hx : v.toBitVec.toNat < 2 ^ 32 := v.toBitVec.isLt
    have hn : v = nI v.toBitVec.toNat := by
      apply Int32.toBitVec_inj.mp
      apply BitVec.eq_of_toNat_eq
      rw [pk_tn hx]
    rw [hn, nI_andn (n := 32) (by omega) hx] at h
    have h0 : v.toBitVec.toNat &&& ((2 ^ m - 1) ^^^ (2 ^ 32 - 1)) = 0 := by
      have hle : v.toBitVec.toNat &&& ((2 ^ m - 1) ^^^ (2 ^ 32 - 1)) ≤ v.toBitVec.toNat := Nat.and_le_left
      exact nI_inj (by omega) (by decide) h
    have hb : v.toBitVec.toNat < 2 ^ m := by
      apply Nat.lt_pow_two_of_testBit
      intro i hi
      by_cases hi2 : i < 32
      · have ht := congrArg (fun z => Nat.testBit z i) h0
        simp only [Nat.testBit_and, Nat.testBit_xor, Nat.testBit_two_pow_sub_one, Nat.zero_testBit] at ht
        rw [show decide (i < m) = false from decide_eq_false (by omega), show decide (i < 32) = true from decide_eq_true hi2] at ht
        simpa using ht
      · exact Nat.testBit_lt_two_pow (Nat.lt_of_lt_of_le hx (Nat.pow_le_pow_right (by decide) (by omega)))
    rw [hn]
    exact ⟨nI_pos' (by omega), nI_le (by omega) (by omega)⟩
  · intro h
    obtain ⟨b, rfl, hb⟩ := all_in hm h
    rw [nI_andn (n := 7) (by omega) (by omega)]
    rw [show b &&& ((2 ^ m - 1) ^^^ (2 ^ 7 - 1)) = 0 from ?_]
    · rfl
    apply Nat.eq_of_testBit_eq
    intro i
    simp only [Nat.testBit_and, Nat.testBit_xor, Nat.testBit_two_pow_sub_one, Nat.zero_testBit]
    by_cases hi : i < m
    · rw [show decide (i < m) = true from decide_eq_true hi, show decide (i < 7) = true from decide_eq_true (by omega)]
      simp
    · rw [Nat.testBit_lt_two_pow (Nat.lt_of_lt_of_le hb (Nat.pow_le_pow_right (by decide) (by omega)))]
      simp
abbrev rmX5_cross : Room := { frames := 3, cells := 0, slots := 0, locals := 66 }
theorem fX5_cross_104 : Cond.fieldLink RX5 104 RX3 (TX3 4).2.1 (TX3 4).2.2.1 ∈ wsX5_cross := by decide +kernel
theorem fX5_cross_107 : Cond.fieldLink RX5 107 RX0 (TX0 1).2.1 (TX0 1).2.2.1 ∈ wsX5_cross := by decide +kernel
theorem fX5_cross_122 : Cond.fieldLink RX5 122 RX3 (TX3 1).2.1 (TX3 1).2.2.1 ∈ wsX5_cross := by decide +kernel
theorem fX5_cross_27 : Cond.fieldLink RX5 27 RX5 (TX5 3).2.1 (TX5 3).2.2.1 ∈ wsX5_cross := by decide +kernel
theorem fX5_cross_37 : Cond.fieldLink RX5 37 RX5 (TX5 5).2.1 (TX5 5).2.2.1 ∈ wsX5_cross := by decide +kernel
theorem fX5_cross_98 : Cond.fieldLink RX5 98 RX0 (TX0 0).2.1 (TX0 0).2.2.1 ∈ wsX5_cross := by decide +kernel
theorem iX5_cross_0 : ∀ x ∈ wsX00, x ∈ wsX5_cross := by decide +kernel
theorem iX5_cross_3 : ∀ x ∈ wsX30, x ∈ wsX5_cross := by decide +kernel
theorem iX5_cross_5 : ∀ x ∈ wsX50, x ∈ wsX5_cross := by decide +kernel
set_option maxRecDepth 100000 in
set_option maxHeartbeats 4000000 in
theorem c_X5_cross (E : EN) (hM : EM E) (g : Nat → Int32) (h : Nat → Int64) (T : Nat → Nat → Int32) (L : Nat → Nat → Int64) (m : Nat) (ρ : Nat → Nat → Nat) (hR : RvX g T m ρ) (μ : MO) (hmu : MomX g T 20 μ) (hok : MoOK μ) (ld : Nat) (hld : ld < 1000) (hgl : g 604 = nI ld) (v : Int32) : GtI E yX5_cross wsX5_cross rmX5_cross [.ref (eA E 0), .int v] g h T L (fun r g2 h2 T2 L2 => (r = (crossS m (crN m (ρ 2) (ρ 3) ld (2 ^ m - 1)) v μ).1 ∧ MomX g2 T2 20 (crossS m (crN m (ρ 2) (ρ 3) ld (2 ^ m - 1)) v μ).2 ∧ FrMo g g2 T T2) ∧ h2 = h ∧ L2 = L) := by
  refine CtI_of (cc := cX5_cross) (nL := 3) RX5 [some (.ref (eA E 0)), some (.int v), none] ⟨rfl, rfl⟩ (by decide) rfl rfl (Nat.le_of_ble_eq_true rfl) ⟨1, rfl⟩ hM.2 (fun Y C hQ => ?_)
  have hM0 := hM
  obtain ⟨hS, hNN⟩ := hM
  have hmu0 := hmu
  obtain ⟨a1, a2, a3, a4, a5, a6⟩ := hmu
  obtain ⟨o1, o2, o3, o4, o5⟩ := hok
  have hm := hR.1
  have hall : g 601 = nI (2 ^ m - 1) := hR.2.2.1
  refine J_iload_1 C dX5_cross_0 ?_
  refine J_aload_0 C dX5_cross_1 ?_
  refine G5_getr C (n := 6) 3 dX5_cross_2 fX5_cross_27 iX5_cross_5 rfl (hS _ (by decide)) rfl rfl ?_
  refine G3_geti C (n := 601) 1 dX5_cross_5 fX5_cross_122 iX5_cross_3 rfl (hS _ (by decide)) rfl rfl ?_
  refine J_iconst C (-1) dX5_cross_8 ic_m1 ?_
  refine J_ixor C dX5_cross_9 ?_
  refine J_iand C dX5_cross_10 ?_
  refine J_if_eq C 16 dX5_cross_11 (by decide) (fun hc11 => ?_) (fun hc11 => ?_)
  · skip
    have hin : 0 ≤ v ∧ v ≤ nI (2 ^ m - 1) := (allbits hm).mp (by rw [← hall]; exact hc11)
    obtain ⟨b, rfl, hb⟩ := all_in hm hin
    have hb7 := p7 hm
    have hbi : i2n (nI b) = b := i2n_nI (by omega)
    have hS1 : crossS m (crN m (ρ 2) (ρ 3) ld (2 ^ m - 1)) (nI b) μ = crossB (crN m (ρ 2) (ρ 3) ld (2 ^ m - 1)) μ b := by unfold crossS; rw [if_pos hin, hbi]
    rw [hS1] at hQ
    refine J_aload_0 C dX5_cross_16 ?_
    refine G5_getr C (n := 6) 3 dX5_cross_17 fX5_cross_27 iX5_cross_5 rfl (hS _ (by decide)) rfl rfl ?_
    refine J_aload_0 C dX5_cross_20 ?_
    refine G5_getr C (n := 20) 5 dX5_cross_21 fX5_cross_37 iX5_cross_5 rfl (hS _ (by decide)) rfl rfl ?_
    refine G0_geti C (n := 2000) 0 dX5_cross_24 fX5_cross_98 iX5_cross_0 rfl (hS _ (by decide)) rfl rfl ?_
    refine J_top (y := nI μ.1) a1 ?_
    refine J_iload_1 C dX5_cross_27 ?_
    refine J_aload_0 C dX5_cross_28 ?_
    refine G5_getr C (n := 6) 3 dX5_cross_29 fX5_cross_27 iX5_cross_5 rfl (hS _ (by decide)) rfl rfl ?_
    refine G3_geti C (n := 604) 4 dX5_cross_32 fX5_cross_104 iX5_cross_3 rfl (hS _ (by decide)) rfl rfl ?_
    refine J_top (y := nI ld) hgl ?_
    refine J_aload_0 C dX5_cross_35 ?_
    refine G5_getr C (n := 6) 3 dX5_cross_36 fX5_cross_27 iX5_cross_5 rfl (hS _ (by decide)) rfl rfl ?_
    refine G3_geti C (n := 601) 1 dX5_cross_39 fX5_cross_122 iX5_cross_3 rfl (hS _ (by decide)) rfl rfl ?_
    refine J_top (y := nI (2 ^ m - 1)) hall ?_
    refine G_vpi C dX5_cross_42 (c_X3_crossing E hM0 m ρ g h T L hR μ.1 b ld (2 ^ m - 1) o1 (by omega) hld) gX5_cross_X3_crossing rfl dm_X3_crossing rfl rfl (hS _ (by decide)) rfl rfl (Nat.le_of_ble_eq_true rfl) (rmOK_b rfl) (fun r42 hr42 => ?_)
    obtain ⟨o, ho⟩ : ∃ o, o = (crN m (ρ 2) (ρ 3) ld (2 ^ m - 1)) μ.1 b := ⟨_, rfl⟩
    rw [← ho] at hr42
    have hro : r42 = oI o := by rw [hr42]; cases o <;> rfl
    clear hr42
    subst hro
    refine J_istore_2 C dX5_cross_45 (by decide) trivial ?_
    refine J_iload_2 C dX5_cross_46 ?_
    refine J_if_lt C 60 dX5_cross_47 (by decide) (fun hc47 => ?_) (fun hc47 => ?_)
    · skip
      refine J_bipush C (-2) dX5_cross_60 bc_m2 ?_
      refine hQ _ _ _ _ dX5_cross_62 ⟨_, _, _, _, rfl, ?_⟩
      have hz : crossB (crN m (ρ 2) (ρ 3) ld (2 ^ m - 1)) μ b = (-2, μ) := by
        unfold crossB
        rw [← ho]
        first
        | (have hd : μ.2.1 = 0 := by
             have h2 := hc57
             rw [show g 2001 = nI μ.2.1 from a2] at h2
             exact Decidable.byContradiction fun z => h2 ((nI_ltI (a := 0) (b := μ.2.1) (by decide) (by omega)).mpr (by omega))
           show (if μ.2.1 = 0 then _ else _) = _
           rw [if_pos hd])
        | (have h2 := hc47
           cases o with
           | none => rfl
           | some t => exact absurd h2 (nI_pos (by have := (crN_lt hm o1 ho.symm).1; omega)))
      rw [hz]
      exact ⟨⟨rfl, hmu0, fun _ _ => rfl, fun _ _ _ => rfl⟩, rfl, rfl⟩
    · skip
      obtain ⟨t, rfl⟩ : ∃ t, o = some t := by
        cases o with
        | none => exact absurd (show oI none < 0 by decide) hc47
        | some t => exact ⟨t, rfl⟩
      have ht := (crN_lt hm o1 ho.symm).1
      refine J_aload_0 C dX5_cross_50 ?_
      refine G5_getr C (n := 20) 5 dX5_cross_51 fX5_cross_37 iX5_cross_5 rfl (hS _ (by decide)) rfl rfl ?_
      refine G0_geti C (n := 2001) 1 dX5_cross_54 fX5_cross_107 iX5_cross_0 rfl (hS _ (by decide)) rfl rfl ?_
      refine J_if_gt C 63 dX5_cross_57 (by decide) (fun hc57 => ?_) (fun hc57 => ?_)
      · skip
        have hd : μ.2.1 ≠ 0 := fun z => by
          rw [show g 2001 = nI μ.2.1 from a2, z] at hc57
          exact absurd hc57 (by decide)
        refine J_aload_0 C dX5_cross_63 ?_
        refine G5_getr C (n := 20) 5 dX5_cross_64 fX5_cross_37 iX5_cross_5 rfl (hS _ (by decide)) rfl rfl ?_
        refine G_vtv C dX5_cross_67 (c_X0_remember E hM0 g h T L μ hmu0 ⟨o1, o2, o3, o4, o5⟩) gX5_cross_X0_remember rfl dm_X0_remember rfl rfl (hS _ (by decide)) rfl rfl (Nat.le_of_ble_eq_true rfl) (rmOK_b rfl) (fun g67 h67 T67 L67 hp67 => ?_)
        obtain ⟨rfl, rfl, hg67, hT67, hm67⟩ := hp67
        obtain ⟨b1, b2, b3, b4, b5, b6⟩ := hm67
        refine J_aload_0 C dX5_cross_70 ?_
        refine G5_getr C (n := 20) 5 dX5_cross_71 fX5_cross_37 iX5_cross_5 rfl (hS _ (by decide)) rfl rfl ?_
        refine J_iload_2 C dX5_cross_74 ?_
        refine G0_puti C (n := 2000) 0 dX5_cross_75 fX5_cross_98 iX5_cross_0 rfl (hS _ (by decide)) rfl (tyX0_ok 0 (by decide)) rfl rfl ?_
        refine J_aload_0 C dX5_cross_78 ?_
        refine G5_getr C (n := 20) 5 dX5_cross_79 fX5_cross_37 iX5_cross_5 rfl (hS _ (by decide)) rfl rfl ?_
        refine J_dup C dX5_cross_82 ?_
        refine G0_geti C (n := 2001) 1 dX5_cross_83 fX5_cross_107 iX5_cross_0 rfl (hS _ (by decide)) rfl rfl ?_
        refine J_iconst C (1) dX5_cross_86 ic_1 ?_
        refine J_isub C dX5_cross_87 ?_
        refine J_top (y := nI (μ.2.1 - 1)) (by rw [show upd g67 2000 (oI (some t)) 2001 = nI μ.2.1 from (by simp [upd]; exact b2), nI_pred1 (by omega)]) ?_
        refine G0_puti C (n := 2001) 1 dX5_cross_88 fX5_cross_107 iX5_cross_0 rfl (hS _ (by decide)) rfl (tyX0_ok 1 (by decide)) rfl rfl ?_
        refine J_aload_0 C dX5_cross_91 ?_
        refine G5_getr C (n := 20) 5 dX5_cross_92 fX5_cross_37 iX5_cross_5 rfl (hS _ (by decide)) rfl rfl ?_
        refine G0_geti C (n := 2001) 1 dX5_cross_95 fX5_cross_107 iX5_cross_0 rfl (hS _ (by decide)) rfl rfl ?_
        refine hQ _ _ _ _ dX5_cross_98 ⟨_, _, _, _, rfl, ?_⟩
        have hz : crossB (crN m (ρ 2) (ρ 3) ld (2 ^ m - 1)) μ b = (nI (μ.2.1 - 1), moveS μ t (μ.2.1 - 1)) := by
          unfold crossB
          rw [← ho]
          show (if μ.2.1 = 0 then _ else _) = _
          rw [if_neg hd]
        rw [hz]
        refine ⟨⟨by simp [upd], ⟨?_, ?_, ?_, ?_, ?_, b6⟩, fun k hk => ?_, hT67⟩, rfl, rfl⟩
        · simp [upd, moveS, oI]
        · simp [upd, moveS]
        · simp [upd]; exact b3
        · simp [upd]; exact b4
        · simp [upd]; exact b5
        · simp only [upd]
          rw [if_neg (by omega), if_neg (by omega)]
          exact hg67 k (by omega)
      · skip
        refine J_bipush C (-2) dX5_cross_60 bc_m2 ?_
        refine hQ _ _ _ _ dX5_cross_62 ⟨_, _, _, _, rfl, ?_⟩
        have hz : crossB (crN m (ρ 2) (ρ 3) ld (2 ^ m - 1)) μ b = (-2, μ) := by
          unfold crossB
          rw [← ho]
          first
          | (have hd : μ.2.1 = 0 := by
               have h2 := hc57
               rw [show g 2001 = nI μ.2.1 from a2] at h2
               exact Decidable.byContradiction fun z => h2 ((nI_ltI (a := 0) (b := μ.2.1) (by decide) (by omega)).mpr (by omega))
             show (if μ.2.1 = 0 then _ else _) = _
             rw [if_pos hd])
          | (have h2 := hc47
             cases o with
             | none => rfl
             | some t => exact absurd h2 (nI_pos (by have := (crN_lt hm o1 ho.symm).1; omega)))
        rw [hz]
        exact ⟨⟨rfl, hmu0, fun _ _ => rfl, fun _ _ _ => rfl⟩, rfl, rfl⟩
  · skip
    refine J_iconst C (-1) dX5_cross_14 ic_m1 ?_
    refine hQ _ _ _ _ dX5_cross_15 ⟨_, _, _, _, rfl, ?_⟩
    unfold crossS
    rw [if_neg (fun z => hc11 (by rw [hall]; exact (allbits hm).mpr z))]
    exact ⟨⟨rfl, hmu0, fun _ _ => rfl, fun _ _ _ => rfl⟩, rfl, rfl⟩
abbrev rmX6_cross : Room := { frames := 4, cells := 0, slots := 0, locals := 90 }
theorem fX6_cross_180 : Cond.fieldLink RX6 180 RX6 (TX6 11).2.1 (TX6 11).2.2.1 ∈ wsX6_cross := by decide +kernel
theorem fX6_cross_25 : Cond.fieldLink RX6 25 RX6 (TX6 8).2.1 (TX6 8).2.2.1 ∈ wsX6_cross := by decide +kernel
theorem fX6_cross_32 : Cond.fieldLink RX6 32 RX6 (TX6 12).2.1 (TX6 12).2.2.1 ∈ wsX6_cross := by decide +kernel
theorem fX6_cross_82 : Cond.fieldLink RX6 82 RX6 (TX6 2).2.1 (TX6 2).2.2.1 ∈ wsX6_cross := by decide +kernel
theorem iX6_cross_6 : ∀ x ∈ wsX60, x ∈ wsX6_cross := by decide +kernel
set_option maxRecDepth 100000 in
set_option maxHeartbeats 4000000 in
theorem c_X6_cross (E : EN) (hM : EM E) (g : Nat → Int32) (h : Nat → Int64) (T : Nat → Nat → Int32) (L : Nat → Nat → Int64) (m : Nat) (ρ : Nat → Nat → Nat) (hR : RvM g T m ρ) (μ : MO) (hmu : MoM g T μ) (hok : MoOK μ) (ld : Nat) (hld : ld < 1000) (hgl : g 4808 = nI ld) (v : Int32) : GtI E yX6_cross wsX6_cross rmX6_cross [.ref (eA E 48), .int v] g h T L (fun r g2 h2 T2 L2 => (r = (crossS m (crN m (ρ 2) (ρ 3) ld (2 ^ m - 1)) v μ).1 ∧ MoM g2 T2 (crossS m (crN m (ρ 2) (ρ 3) ld (2 ^ m - 1)) v μ).2 ∧ FrMm g g2 T T2) ∧ h2 = h ∧ L2 = L) := by
  refine CtI_of (cc := cX6_cross) (nL := 3) RX6 [some (.ref (eA E 48)), some (.int v), none] ⟨rfl, rfl⟩ (by decide) rfl rfl (Nat.le_of_ble_eq_true rfl) ⟨1, rfl⟩ hM.2 (fun Y C hQ => ?_)
  have hM0 := hM
  obtain ⟨hS, hNN⟩ := hM
  have hmu0 := hmu
  obtain ⟨a1, a2, a3, a4, a5, a6⟩ := hmu
  obtain ⟨o1, o2, o3, o4, o5⟩ := hok
  have hm := hR.1
  have h48 : g 4802 = nI m := hR.2.1
  refine J_iload_1 C dX6_cross_0 ?_
  refine J_i2l C dX6_cross_1 ?_
  refine J_lconst C (0) dX6_cross_2 lc_0 ?_
  refine J_iconst C (1) dX6_cross_3 ic_1 ?_
  refine J_aload_0 C dX6_cross_4 ?_
  refine G6_geti C (n := 4802) 2 dX6_cross_5 fX6_cross_82 iX6_cross_6 rfl (hS _ (by decide)) rfl rfl ?_
  refine J_top (y := nI m) h48 ?_
  refine J_ishl C dX6_cross_8 ?_
  refine J_iconst C (1) dX6_cross_9 ic_1 ?_
  refine J_isub C dX6_cross_10 ?_
  refine J_top (y := nI (2 ^ m - 1)) (sh1_i hm) ?_
  refine J_i2l C dX6_cross_11 ?_
  refine G_spi C dX6_cross_12 (c_X6_in E hM0 _ _ _ g h T L) gX6_cross_X6_in rfl dm_X6_in rfl rfl (Nat.le_of_ble_eq_true rfl) (rmOK_b rfl) (fun r12 hr12 => ?_)
  subst hr12
  refine J_if_ne C 20 dX6_cross_15 (by decide) (fun hc15 => ?_) (fun hc15 => ?_)
  · skip
    have hin : 0 ≤ v ∧ v ≤ nI (2 ^ m - 1) := in_i.mp (Decidable.byContradiction fun z => by rw [if_neg z] at hc15; exact hc15 rfl)
    obtain ⟨b, rfl, hb⟩ := all_in hm hin
    have hb7 := p7 hm
    have hbi : i2n (nI b) = b := i2n_nI (by omega)
    have hS1 : crossS m (crN m (ρ 2) (ρ 3) ld (2 ^ m - 1)) (nI b) μ = crossB (crN m (ρ 2) (ρ 3) ld (2 ^ m - 1)) μ b := by unfold crossS; rw [if_pos hin, hbi]
    rw [hS1] at hQ
    refine J_aload_0 C dX6_cross_20 ?_
    refine J_aload_0 C dX6_cross_21 ?_
    refine G6_geti C (n := 4811) 11 dX6_cross_22 fX6_cross_180 iX6_cross_6 rfl (hS _ (by decide)) rfl rfl ?_
    refine J_top (y := nI μ.1) a1 ?_
    refine J_iload_1 C dX6_cross_25 ?_
    refine J_aload_0 C dX6_cross_26 ?_
    refine G6_geti C (n := 4808) 8 dX6_cross_27 fX6_cross_25 iX6_cross_6 rfl (hS _ (by decide)) rfl rfl ?_
    refine J_top (y := nI ld) hgl ?_
    refine G_vpi C dX6_cross_30 (c_X6_crosses E hM0 m ρ g h T L hR μ.1 b ld o1 (by omega) hld) gX6_cross_X6_crosses rfl dm_X6_crosses rfl rfl (hS _ (by decide)) rfl rfl (Nat.le_of_ble_eq_true rfl) (rmOK_b rfl) (fun r30 hr30 => ?_)
    obtain ⟨o, ho⟩ : ∃ o, o = (crN m (ρ 2) (ρ 3) ld (2 ^ m - 1)) μ.1 b := ⟨_, rfl⟩
    rw [← ho] at hr30
    have hro : r30 = oI o := by rw [hr30]; cases o <;> rfl
    clear hr30
    subst hro
    refine J_istore_2 C dX6_cross_33 (by decide) trivial ?_
    refine J_iload_2 C dX6_cross_34 ?_
    refine J_if_lt C 45 dX6_cross_35 (by decide) (fun hc35 => ?_) (fun hc35 => ?_)
    · skip
      refine J_bipush C (-2) dX6_cross_45 bc_m2 ?_
      refine hQ _ _ _ _ dX6_cross_47 ⟨_, _, _, _, rfl, ?_⟩
      have hz : crossB (crN m (ρ 2) (ρ 3) ld (2 ^ m - 1)) μ b = (-2, μ) := by
        unfold crossB
        rw [← ho]
        first
        | (have hd : μ.2.1 = 0 := by
             have h2 := hc42
             rw [show g 4812 = nI μ.2.1 from a2] at h2
             exact nI_inj (by omega) (by decide) h2
           show (if μ.2.1 = 0 then _ else _) = _
           rw [if_pos hd])
        | (have h2 := hc35
           cases o with
           | none => rfl
           | some t => exact absurd h2 (nI_pos (by have := (crN_lt hm o1 ho.symm).1; omega)))
      rw [hz]
      exact ⟨⟨rfl, hmu0, fun _ _ => rfl, fun _ _ => rfl⟩, rfl, rfl⟩
    · skip
      obtain ⟨t, rfl⟩ : ∃ t, o = some t := by
        cases o with
        | none => exact absurd (show oI none < 0 by decide) hc35
        | some t => exact ⟨t, rfl⟩
      have ht := (crN_lt hm o1 ho.symm).1
      refine J_aload_0 C dX6_cross_38 ?_
      refine G6_geti C (n := 4812) 12 dX6_cross_39 fX6_cross_32 iX6_cross_6 rfl (hS _ (by decide)) rfl rfl ?_
      refine J_if_ne C 48 dX6_cross_42 (by decide) (fun hc42 => ?_) (fun hc42 => ?_)
      · skip
        have hd : μ.2.1 ≠ 0 := fun z => by
          rw [show g 4812 = nI μ.2.1 from a2, z] at hc42
          exact hc42 rfl
        refine J_aload_0 C dX6_cross_48 ?_
        refine G_vtv C dX6_cross_49 (c_X6_remember E hM0 g h T L μ hmu0 ⟨o1, o2, o3, o4, o5⟩) gX6_cross_X6_remember rfl dm_X6_remember rfl rfl (hS _ (by decide)) rfl rfl (Nat.le_of_ble_eq_true rfl) (rmOK_b rfl) (fun g49 h49 T49 L49 hp49 => ?_)
        obtain ⟨rfl, rfl, hg49, hT49, hm49⟩ := hp49
        obtain ⟨b1, b2, b3, b4, b5, b6⟩ := hm49
        refine J_aload_0 C dX6_cross_52 ?_
        refine J_iload_2 C dX6_cross_53 ?_
        refine G6_puti C (n := 4811) 11 dX6_cross_54 fX6_cross_180 iX6_cross_6 rfl (hS _ (by decide)) rfl (tyX6_ok 11 (by decide)) rfl rfl ?_
        refine J_aload_0 C dX6_cross_57 ?_
        refine J_dup C dX6_cross_58 ?_
        refine G6_geti C (n := 4812) 12 dX6_cross_59 fX6_cross_32 iX6_cross_6 rfl (hS _ (by decide)) rfl rfl ?_
        refine J_iconst C (1) dX6_cross_62 ic_1 ?_
        refine J_isub C dX6_cross_63 ?_
        refine J_top (y := nI (μ.2.1 - 1)) (by rw [show upd g49 4811 (oI (some t)) 4812 = nI μ.2.1 from (by simp [upd]; exact b2), nI_pred1 (by omega)]) ?_
        refine G6_puti C (n := 4812) 12 dX6_cross_64 fX6_cross_32 iX6_cross_6 rfl (hS _ (by decide)) rfl (tyX6_ok 12 (by decide)) rfl rfl ?_
        refine J_aload_0 C dX6_cross_67 ?_
        refine G6_geti C (n := 4812) 12 dX6_cross_68 fX6_cross_32 iX6_cross_6 rfl (hS _ (by decide)) rfl rfl ?_
        refine hQ _ _ _ _ dX6_cross_71 ⟨_, _, _, _, rfl, ?_⟩
        have hz : crossB (crN m (ρ 2) (ρ 3) ld (2 ^ m - 1)) μ b = (nI (μ.2.1 - 1), moveS μ t (μ.2.1 - 1)) := by
          unfold crossB
          rw [← ho]
          show (if μ.2.1 = 0 then _ else _) = _
          rw [if_neg hd]
        rw [hz]
        refine ⟨⟨by simp [upd], ⟨?_, ?_, ?_, ?_, ?_, b6⟩, fun k hk => ?_, hT49⟩, rfl, rfl⟩
        · simp [upd, moveS, oI]
        · simp [upd, moveS]
        · simp [upd]; exact b3
        · simp [upd]; exact b4
        · simp [upd]; exact b5
        · simp only [upd]
          rw [if_neg (by omega), if_neg (by omega)]
          exact hg49 k (by omega)
      · skip
        refine J_bipush C (-2) dX6_cross_45 bc_m2 ?_
        refine hQ _ _ _ _ dX6_cross_47 ⟨_, _, _, _, rfl, ?_⟩
        have hz : crossB (crN m (ρ 2) (ρ 3) ld (2 ^ m - 1)) μ b = (-2, μ) := by
          unfold crossB
          rw [← ho]
          first
          | (have hd : μ.2.1 = 0 := by
               have h2 := hc42
               rw [show g 4812 = nI μ.2.1 from a2] at h2
               exact nI_inj (by omega) (by decide) h2
             show (if μ.2.1 = 0 then _ else _) = _
             rw [if_pos hd])
          | (have h2 := hc35
             cases o with
             | none => rfl
             | some t => exact absurd h2 (nI_pos (by have := (crN_lt hm o1 ho.symm).1; omega)))
        rw [hz]
        exact ⟨⟨rfl, hmu0, fun _ _ => rfl, fun _ _ => rfl⟩, rfl, rfl⟩
  · skip
    refine J_iconst C (-1) dX6_cross_18 ic_m1 ?_
    refine hQ _ _ _ _ dX6_cross_19 ⟨_, _, _, _, rfl, ?_⟩
    unfold crossS
    rw [if_neg (fun z => by have h2 := hc15; rw [if_pos (in_i.mpr z)] at h2; exact absurd h2 (by decide))]
    exact ⟨⟨rfl, hmu0, fun _ _ => rfl, fun _ _ => rfl⟩, rfl, rfl⟩
