abbrev rmX5_slide : Room := { frames := 3, cells := 0, slots := 0, locals := 62 }
theorem fX5_slide_110 : Cond.fieldLink RX5 110 RX0 (TX0 2).2.1 (TX0 2).2.2.1 ∈ wsX5_slide := by decide +kernel
theorem fX5_slide_27 : Cond.fieldLink RX5 27 RX5 (TX5 3).2.1 (TX5 3).2.2.1 ∈ wsX5_slide := by decide +kernel
theorem fX5_slide_37 : Cond.fieldLink RX5 37 RX5 (TX5 5).2.1 (TX5 5).2.2.1 ∈ wsX5_slide := by decide +kernel
theorem fX5_slide_92 : Cond.fieldLink RX5 92 RX3 (TX3 9).2.1 (TX3 9).2.2.1 ∈ wsX5_slide := by decide +kernel
theorem fX5_slide_98 : Cond.fieldLink RX5 98 RX0 (TX0 0).2.1 (TX0 0).2.2.1 ∈ wsX5_slide := by decide +kernel
theorem iX5_slide_0 : ∀ x ∈ wsX00, x ∈ wsX5_slide := by decide +kernel
theorem iX5_slide_3 : ∀ x ∈ wsX30, x ∈ wsX5_slide := by decide +kernel
theorem iX5_slide_5 : ∀ x ∈ wsX50, x ∈ wsX5_slide := by decide +kernel
set_option maxRecDepth 100000 in
set_option maxHeartbeats 4000000 in
theorem c_X5_slide (E : EN) (hM : EM E) (g : Nat → Int32) (h : Nat → Int64) (T : Nat → Nat → Int32) (L : Nat → Nat → Int64) (m : Nat) (ρ : Nat → Nat → Nat) (hR : RvX g T m ρ) (μ : MO) (hmu : MomX g T 20 μ) (hok : MoOK μ) (t : Int32) : GtI E yX5_slide wsX5_slide rmX5_slide [.ref (eA E 0), .int t] g h T L (fun r g2 h2 T2 L2 => (r = (slideS m ρ t μ).1 ∧ MomX g2 T2 20 (slideS m ρ t μ).2 ∧ FrMo g g2 T T2) ∧ h2 = h ∧ L2 = L) := by
  refine CtI_of (cc := cX5_slide) (nL := 3) RX5 [some (.ref (eA E 0)), some (.int t), none] ⟨rfl, rfl⟩ (by decide) rfl rfl (Nat.le_of_ble_eq_true rfl) ⟨1, rfl⟩ hM.2 (fun Y C hQ => ?_)
  have hM0 := hM
  obtain ⟨hS, hNN⟩ := hM
  have hmu0 := hmu
  obtain ⟨a1, a2, a3, a4, a5, a6⟩ := hmu
  obtain ⟨o1, o2, o3, o4, o5⟩ := hok
  have hm := hR.1
  have h6 : g (100 * 6 + 0) = nI m := hR.2.1
  have hrow := hR.2.2.2.2.2.1
  have hrng : ∀ t, t < m → ρ 2 t ≤ 9 := fun t ht => (hR.2.2.2.2.2.2.2.2 t ht).2.2.1
  refine J_aload_0 C dX5_slide_0 ?_
  refine G5_getr C (n := 6) 3 dX5_slide_1 fX5_slide_27 iX5_slide_5 rfl (hS _ (by decide)) rfl rfl ?_
  refine J_iload_1 C dX5_slide_4 ?_
  refine G_vpi C dX5_slide_5 (c_X3_has E hNN 6 rfl (hS _ (by decide)) t g h T L) gX5_slide_X3_has rfl dm_X3_has rfl rfl (hS _ (by decide)) rfl rfl (Nat.le_of_ble_eq_true rfl) (rmOK_b rfl) (fun r5 hr5 => ?_)
  subst hr5
  refine J_if_ne C 13 dX5_slide_8 (by decide) (fun hc8 => ?_) (fun hc8 => ?_)
  · skip
    have htm : 0 ≤ t ∧ t < nI m := Decidable.byContradiction fun z => by rw [h6, if_neg z] at hc8; exact hc8 rfl
    obtain ⟨j, rfl, hj⟩ := t_in hm htm
    have hbi : i2n (nI j) = j := i2n_nI (by omega)
    have hx := xor2_lt (s := μ.1) (j := j) o1 (by omega)
    have hS1 : slideS m ρ (nI j) μ = slideB m ρ μ j := by unfold slideS; rw [if_pos htm, hbi]
    rw [hS1] at hQ
    have hw9 := (hrng j hj)
    refine J_aload_0 C dX5_slide_13 ?_
    refine G5_getr C (n := 20) 5 dX5_slide_14 fX5_slide_37 iX5_slide_5 rfl (hS _ (by decide)) rfl rfl ?_
    refine G0_geti C (n := 2000) 0 dX5_slide_17 fX5_slide_98 iX5_slide_0 rfl (hS _ (by decide)) rfl rfl ?_
    refine J_top (y := nI μ.1) a1 ?_
    refine J_iconst C (1) dX5_slide_20 ic_1 ?_
    refine J_iload_1 C dX5_slide_21 ?_
    refine J_ishl C dX5_slide_22 ?_
    refine J_top (y := nI (2 ^ j)) (nI_sh1 j (by omega)) ?_
    refine J_ixor C dX5_slide_23 ?_
    refine J_top (y := nI (μ.1 ^^^ 2 ^ j)) (nI_xor _ _) ?_
    refine J_istore_2 C dX5_slide_24 (by decide) trivial ?_
    refine J_aload_0 C dX5_slide_25 ?_
    refine G5_getr C (n := 6) 3 dX5_slide_26 fX5_slide_27 iX5_slide_5 rfl (hS _ (by decide)) rfl rfl ?_
    refine G3_getr C (n := 9) 9 dX5_slide_29 fX5_slide_92 iX5_slide_3 rfl (hS _ (by decide)) rfl rfl ?_
    refine J_iload_1 C dX5_slide_32 ?_
    refine G_iald C j dX5_slide_33 rfl (hS _ (by decide)) rfl (by omega) ?_
    refine J_aload_0 C dX5_slide_34 ?_
    refine G5_getr C (n := 20) 5 dX5_slide_35 fX5_slide_37 iX5_slide_5 rfl (hS _ (by decide)) rfl rfl ?_
    refine G0_geti C (n := 2002) 2 dX5_slide_38 fX5_slide_110 iX5_slide_0 rfl (hS _ (by decide)) rfl rfl ?_
    refine J_icmp_gt C 55 dX5_slide_41 (by decide) (fun hc41 => ?_) (fun hc41 => ?_)
    · skip
      refine J_bipush C (-2) dX5_slide_55 bc_m2 ?_
      refine hQ _ _ _ _ dX5_slide_57 ⟨_, _, _, _, rfl, ?_⟩
      have hz : slideB m ρ μ j = (-2, μ) := by
        unfold slideB
        refine if_neg (fun ⟨z1, z2⟩ => ?_)
        first
        | (have h2 := hc52
           rw [if_pos z2] at h2
           exact absurd h2 (by decide))
        | (have h2 := hc41
           rw [show T 9 j = nI (ρ 2 j) from (hrow j hj).2.2.1, show g 2002 = nI μ.2.2.1 from a3] at h2
           exact nI_nlt z1 (by omega) h2)
      rw [hz]
      exact ⟨⟨rfl, hmu0, fun _ _ => rfl, fun _ _ _ => rfl⟩, rfl, rfl⟩
    · skip
      refine J_aload_0 C dX5_slide_44 ?_
      refine G5_getr C (n := 6) 3 dX5_slide_45 fX5_slide_27 iX5_slide_5 rfl (hS _ (by decide)) rfl rfl ?_
      refine J_iload_2 C dX5_slide_48 ?_
      refine G_vpi C dX5_slide_49 (c_X3_isSafe E hM0 m ρ g h T L hR (μ.1 ^^^ 2 ^ j) hx) gX5_slide_X3_isSafe rfl dm_X3_isSafe rfl rfl (hS _ (by decide)) rfl rfl (Nat.le_of_ble_eq_true rfl) (rmOK_b rfl) (fun r49 hr49 => ?_)
      subst hr49
      refine J_if_ne C 58 dX5_slide_52 (by decide) (fun hc52 => ?_) (fun hc52 => ?_)
      · skip
        refine J_aload_0 C dX5_slide_58 ?_
        refine G5_getr C (n := 20) 5 dX5_slide_59 fX5_slide_37 iX5_slide_5 rfl (hS _ (by decide)) rfl rfl ?_
        refine G_vtv C dX5_slide_62 (c_X0_remember E hM0 g h T L μ hmu0 ⟨o1, o2, o3, o4, o5⟩) gX5_slide_X0_remember rfl dm_X0_remember rfl rfl (hS _ (by decide)) rfl rfl (Nat.le_of_ble_eq_true rfl) (rmOK_b rfl) (fun g62 h62 T62 L62 hp62 => ?_)
        obtain ⟨rfl, rfl, hg62, hT62, hm62⟩ := hp62
        obtain ⟨b1, b2, b3, b4, b5, b6⟩ := hm62
        refine J_aload_0 C dX5_slide_65 ?_
        refine G5_getr C (n := 20) 5 dX5_slide_66 fX5_slide_37 iX5_slide_5 rfl (hS _ (by decide)) rfl rfl ?_
        refine J_iload_2 C dX5_slide_69 ?_
        refine G0_puti C (n := 2000) 0 dX5_slide_70 fX5_slide_98 iX5_slide_0 rfl (hS _ (by decide)) rfl (tyX0_ok 0 (by decide)) rfl rfl ?_
        refine J_aload_0 C dX5_slide_73 ?_
        refine G5_getr C (n := 20) 5 dX5_slide_74 fX5_slide_37 iX5_slide_5 rfl (hS _ (by decide)) rfl rfl ?_
        refine J_iload_1 C dX5_slide_77 ?_
        refine G_vpi C dX5_slide_78 (c_X0_bankOf E hM0 j (μ.1 ^^^ 2 ^ j) (by omega) hx _ _ _ _ (by simp [upd])) gX5_slide_X0_bankOf rfl dm_X0_bankOf rfl rfl (hS _ (by decide)) rfl rfl (Nat.le_of_ble_eq_true rfl) (rmOK_b rfl) (fun r78 hr78 => ?_)
        subst hr78
        refine hQ _ _ _ _ dX5_slide_81 ⟨_, _, _, _, rfl, ?_⟩
        have hz : slideB m ρ μ j = ((if (μ.1 ^^^ 2 ^ j).testBit j = true then 1 else 0), moveS μ (μ.1 ^^^ 2 ^ j) μ.2.1) := by
          unfold slideB
          refine if_pos ⟨?_, ?_⟩
          · have h2 := hc41
            rw [show T 9 j = nI (ρ 2 j) from (hrow j hj).2.2.1, show g 2002 = nI μ.2.2.1 from a3] at h2
            exact Nat.le_of_not_lt fun q => h2 (nI_lt q (by omega))
          · exact Decidable.byContradiction fun z => by
              have h2 := hc52
              rw [if_neg z] at h2
              exact h2 rfl
        rw [hz]
        refine ⟨⟨rfl, ⟨?_, ?_, ?_, ?_, ?_, b6⟩, fun k hk => ?_, hT62⟩, rfl, rfl⟩
        · simp [upd, moveS]
        · simp [upd, moveS]; exact b2
        · simp [upd]; exact b3
        · simp [upd]; exact b4
        · simp [upd]; exact b5
        · simp only [upd]
          rw [if_neg (by omega)]
          exact hg62 k (by omega)
      · skip
        refine J_bipush C (-2) dX5_slide_55 bc_m2 ?_
        refine hQ _ _ _ _ dX5_slide_57 ⟨_, _, _, _, rfl, ?_⟩
        have hz : slideB m ρ μ j = (-2, μ) := by
          unfold slideB
          refine if_neg (fun ⟨z1, z2⟩ => ?_)
          first
          | (have h2 := hc52
             rw [if_pos z2] at h2
             exact absurd h2 (by decide))
          | (have h2 := hc41
             rw [show T 9 j = nI (ρ 2 j) from (hrow j hj).2.2.1, show g 2002 = nI μ.2.2.1 from a3] at h2
             exact nI_nlt z1 (by omega) h2)
        rw [hz]
        exact ⟨⟨rfl, hmu0, fun _ _ => rfl, fun _ _ _ => rfl⟩, rfl, rfl⟩
  · skip
    refine J_iconst C (-1) dX5_slide_11 ic_m1 ?_
    refine hQ _ _ _ _ dX5_slide_12 ⟨_, _, _, _, rfl, ?_⟩
    unfold slideS
    rw [if_neg (fun z => by have h2 := hc8; rw [h6, if_pos z] at h2; exact absurd h2 (by decide))]
    exact ⟨⟨rfl, hmu0, fun _ _ => rfl, fun _ _ _ => rfl⟩, rfl, rfl⟩
abbrev rmX6_slide : Room := { frames := 3, cells := 0, slots := 0, locals := 66 }
theorem fX6_slide_180 : Cond.fieldLink RX6 180 RX6 (TX6 11).2.1 (TX6 11).2.2.1 ∈ wsX6_slide := by decide +kernel
theorem fX6_slide_183 : Cond.fieldLink RX6 183 RX6 (TX6 13).2.1 (TX6 13).2.2.1 ∈ wsX6_slide := by decide +kernel
theorem fX6_slide_19 : Cond.fieldLink RX6 19 RX6 (TX6 6).2.1 (TX6 6).2.2.1 ∈ wsX6_slide := by decide +kernel
theorem iX6_slide_6 : ∀ x ∈ wsX60, x ∈ wsX6_slide := by decide +kernel
set_option maxRecDepth 100000 in
set_option maxHeartbeats 4000000 in
theorem c_X6_slide (E : EN) (hM : EM E) (g : Nat → Int32) (h : Nat → Int64) (T : Nat → Nat → Int32) (L : Nat → Nat → Int64) (m : Nat) (ρ : Nat → Nat → Nat) (hR : RvM g T m ρ) (μ : MO) (hmu : MoM g T μ) (hok : MoOK μ) (t : Int32) : GtI E yX6_slide wsX6_slide rmX6_slide [.ref (eA E 48), .int t] g h T L (fun r g2 h2 T2 L2 => (r = (slideS m ρ t μ).1 ∧ MoM g2 T2 (slideS m ρ t μ).2 ∧ FrMm g g2 T T2) ∧ h2 = h ∧ L2 = L) := by
  refine CtI_of (cc := cX6_slide) (nL := 2) RX6 [some (.ref (eA E 48)), some (.int t)] ⟨rfl, rfl⟩ (by decide) rfl rfl (Nat.le_of_ble_eq_true rfl) ⟨0, rfl⟩ hM.2 (fun Y C hQ => ?_)
  have hM0 := hM
  obtain ⟨hS, hNN⟩ := hM
  have hmu0 := hmu
  obtain ⟨a1, a2, a3, a4, a5, a6⟩ := hmu
  obtain ⟨o1, o2, o3, o4, o5⟩ := hok
  have hm := hR.1
  have hrow := hR.2.2.1
  have hrng : ∀ t, t < m → ρ 2 t ≤ 100 := fun t ht => (hR.2.2.2 t ht).2.1
  refine J_aload_0 C dX6_slide_0 ?_
  refine J_iload_1 C dX6_slide_1 ?_
  refine G_vpi C dX6_slide_2 (c_X6_isThing E hM0 m ρ g h T L hR t) gX6_slide_X6_isThing rfl dm_X6_isThing rfl rfl (hS _ (by decide)) rfl rfl (Nat.le_of_ble_eq_true rfl) (rmOK_b rfl) (fun r2 hr2 => ?_)
  subst hr2
  refine J_if_ne C 10 dX6_slide_5 (by decide) (fun hc5 => ?_) (fun hc5 => ?_)
  · skip
    have htm : 0 ≤ t ∧ t < nI m := Decidable.byContradiction fun z => by rw [if_neg z] at hc5; exact hc5 rfl
    obtain ⟨j, rfl, hj⟩ := t_in hm htm
    have hbi : i2n (nI j) = j := i2n_nI (by omega)
    have hx := xor2_lt (s := μ.1) (j := j) o1 (by omega)
    have hS1 : slideS m ρ (nI j) μ = slideB m ρ μ j := by unfold slideS; rw [if_pos htm, hbi]
    rw [hS1] at hQ
    have hw9 := (hrng j hj)
    refine J_aload_0 C dX6_slide_10 ?_
    refine G6_getr C (n := 52) 6 dX6_slide_11 fX6_slide_19 iX6_slide_6 rfl (hS _ (by decide)) rfl rfl ?_
    refine J_iload_1 C dX6_slide_14 ?_
    refine G_iald C j dX6_slide_15 rfl (hS _ (by decide)) rfl (by omega) ?_
    refine J_aload_0 C dX6_slide_16 ?_
    refine G6_geti C (n := 4813) 13 dX6_slide_17 fX6_slide_183 iX6_slide_6 rfl (hS _ (by decide)) rfl rfl ?_
    refine J_icmp_gt C 38 dX6_slide_20 (by decide) (fun hc20 => ?_) (fun hc20 => ?_)
    · skip
      refine J_bipush C (-2) dX6_slide_38 bc_m2 ?_
      refine hQ _ _ _ _ dX6_slide_40 ⟨_, _, _, _, rfl, ?_⟩
      have hz : slideB m ρ μ j = (-2, μ) := by
        unfold slideB
        refine if_neg (fun ⟨z1, z2⟩ => ?_)
        first
        | (have h2 := hc35
           rw [if_pos z2] at h2
           exact absurd h2 (by decide))
        | (have h2 := hc20
           rw [show T 52 j = nI (ρ 2 j) from (hrow j hj).2.2.1, show g 4813 = nI μ.2.2.1 from a3] at h2
           exact nI_nlt z1 (by omega) h2)
      rw [hz]
      exact ⟨⟨rfl, hmu0, fun _ _ => rfl, fun _ _ => rfl⟩, rfl, rfl⟩
    · skip
      refine J_aload_0 C dX6_slide_23 ?_
      refine J_aload_0 C dX6_slide_24 ?_
      refine G6_geti C (n := 4811) 11 dX6_slide_25 fX6_slide_180 iX6_slide_6 rfl (hS _ (by decide)) rfl rfl ?_
      refine J_top (y := nI μ.1) a1 ?_
      refine J_iconst C (1) dX6_slide_28 ic_1 ?_
      refine J_iload_1 C dX6_slide_29 ?_
      refine J_ishl C dX6_slide_30 ?_
      refine J_top (y := nI (2 ^ j)) (nI_sh1 j (by omega)) ?_
      refine J_ixor C dX6_slide_31 ?_
      refine J_top (y := nI (μ.1 ^^^ 2 ^ j)) (nI_xor _ _) ?_
      refine G_vpi C dX6_slide_32 (c_X6_isSafe E hM0 m ρ g h T L hR (μ.1 ^^^ 2 ^ j) hx) gX6_slide_X6_isSafe rfl dm_X6_isSafe rfl rfl (hS _ (by decide)) rfl rfl (Nat.le_of_ble_eq_true rfl) (rmOK_b rfl) (fun r32 hr32 => ?_)
      subst hr32
      refine J_if_ne C 41 dX6_slide_35 (by decide) (fun hc35 => ?_) (fun hc35 => ?_)
      · skip
        refine J_aload_0 C dX6_slide_41 ?_
        refine G_vtv C dX6_slide_42 (c_X6_remember E hM0 g h T L μ hmu0 ⟨o1, o2, o3, o4, o5⟩) gX6_slide_X6_remember rfl dm_X6_remember rfl rfl (hS _ (by decide)) rfl rfl (Nat.le_of_ble_eq_true rfl) (rmOK_b rfl) (fun g42 h42 T42 L42 hp42 => ?_)
        obtain ⟨rfl, rfl, hg42, hT42, hm42⟩ := hp42
        obtain ⟨b1, b2, b3, b4, b5, b6⟩ := hm42
        refine J_aload_0 C dX6_slide_45 ?_
        refine J_dup C dX6_slide_46 ?_
        refine G6_geti C (n := 4811) 11 dX6_slide_47 fX6_slide_180 iX6_slide_6 rfl (hS _ (by decide)) rfl rfl ?_
        refine J_top (y := nI μ.1) b1 ?_
        refine J_iconst C (1) dX6_slide_50 ic_1 ?_
        refine J_iload_1 C dX6_slide_51 ?_
        refine J_ishl C dX6_slide_52 ?_
        refine J_top (y := nI (2 ^ j)) (nI_sh1 j (by omega)) ?_
        refine J_ixor C dX6_slide_53 ?_
        refine J_top (y := nI (μ.1 ^^^ 2 ^ j)) (nI_xor _ _) ?_
        refine G6_puti C (n := 4811) 11 dX6_slide_54 fX6_slide_180 iX6_slide_6 rfl (hS _ (by decide)) rfl (tyX6_ok 11 (by decide)) rfl rfl ?_
        refine J_aload_0 C dX6_slide_57 ?_
        refine G6_geti C (n := 4811) 11 dX6_slide_58 fX6_slide_180 iX6_slide_6 rfl (hS _ (by decide)) rfl rfl ?_
        refine J_top (y := nI (μ.1 ^^^ 2 ^ j)) (by simp [upd]) ?_
        refine J_iload_1 C dX6_slide_61 ?_
        refine J_ishr C dX6_slide_62 ?_
        refine J_iconst C (1) dX6_slide_63 ic_1 ?_
        refine J_iand C dX6_slide_64 ?_
        refine J_top (y := if (μ.1 ^^^ 2 ^ j).testBit j = true then 1 else 0) (bit_i (by omega) (by omega)) ?_
        refine hQ _ _ _ _ dX6_slide_65 ⟨_, _, _, _, rfl, ?_⟩
        have hz : slideB m ρ μ j = ((if (μ.1 ^^^ 2 ^ j).testBit j = true then 1 else 0), moveS μ (μ.1 ^^^ 2 ^ j) μ.2.1) := by
          unfold slideB
          refine if_pos ⟨?_, ?_⟩
          · have h2 := hc20
            rw [show T 52 j = nI (ρ 2 j) from (hrow j hj).2.2.1, show g 4813 = nI μ.2.2.1 from a3] at h2
            exact Nat.le_of_not_lt fun q => h2 (nI_lt q (by omega))
          · exact Decidable.byContradiction fun z => by
              have h2 := hc35
              rw [if_neg z] at h2
              exact h2 rfl
        rw [hz]
        refine ⟨⟨rfl, ⟨?_, ?_, ?_, ?_, ?_, b6⟩, fun k hk => ?_, hT42⟩, rfl, rfl⟩
        · simp [upd, moveS]
        · simp [upd, moveS]; exact b2
        · simp [upd]; exact b3
        · simp [upd]; exact b4
        · simp [upd]; exact b5
        · simp only [upd]
          rw [if_neg (by omega)]
          exact hg42 k (by omega)
      · skip
        refine J_bipush C (-2) dX6_slide_38 bc_m2 ?_
        refine hQ _ _ _ _ dX6_slide_40 ⟨_, _, _, _, rfl, ?_⟩
        have hz : slideB m ρ μ j = (-2, μ) := by
          unfold slideB
          refine if_neg (fun ⟨z1, z2⟩ => ?_)
          first
          | (have h2 := hc35
             rw [if_pos z2] at h2
             exact absurd h2 (by decide))
          | (have h2 := hc20
             rw [show T 52 j = nI (ρ 2 j) from (hrow j hj).2.2.1, show g 4813 = nI μ.2.2.1 from a3] at h2
             exact nI_nlt z1 (by omega) h2)
        rw [hz]
        exact ⟨⟨rfl, hmu0, fun _ _ => rfl, fun _ _ => rfl⟩, rfl, rfl⟩
  · skip
    refine J_iconst C (-1) dX6_slide_8 ic_m1 ?_
    refine hQ _ _ _ _ dX6_slide_9 ⟨_, _, _, _, rfl, ?_⟩
    unfold slideS
    rw [if_neg (fun z => by have h2 := hc5; rw [if_pos z] at h2; exact absurd h2 (by decide))]
    exact ⟨⟨rfl, hmu0, fun _ _ => rfl, fun _ _ => rfl⟩, rfl, rfl⟩
