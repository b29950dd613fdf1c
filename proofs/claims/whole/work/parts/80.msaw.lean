theorem in05 {x : Int32} : ((0 : Int64) ≤ x.toInt64 ∧ x.toInt64 ≤ 5) ↔ (0 ≤ x ∧ x ≤ 5) := by
  rw [Int64.le_iff_toInt_le, Int64.le_iff_toInt_le, Int32.toInt_toInt64, Int32.le_iff_toInt_le, Int32.le_iff_toInt_le]
  exact Iff.rfl
theorem in01 {x : Int32} : ((0 : Int64) ≤ x.toInt64 ∧ x.toInt64 ≤ 1) ↔ (0 ≤ x ∧ x ≤ 1) := by
  rw [Int64.le_iff_toInt_le, Int64.le_iff_toInt_le, Int32.toInt_toInt64, Int32.le_iff_toInt_le, Int32.le_iff_toInt_le]
  exact Iff.rfl
abbrev rmX6_saw : Room := { frames := 2, cells := 0, slots := 0, locals := 46 }
theorem kcX6_saw_244 : Cond.constantLong RX6 244 (5) ∈ wsX6_saw := by decide +kernel
theorem fX6_saw_189 : Cond.fieldLink RX6 189 RX6 (TX6 17).2.1 (TX6 17).2.2.1 ∈ wsX6_saw := by decide +kernel
theorem fX6_saw_41 : Cond.fieldLink RX6 41 RX6 (TX6 18).2.1 (TX6 18).2.2.1 ∈ wsX6_saw := by decide +kernel
theorem fX6_saw_44 : Cond.fieldLink RX6 44 RX6 (TX6 19).2.1 (TX6 19).2.2.1 ∈ wsX6_saw := by decide +kernel
theorem fX6_saw_47 : Cond.fieldLink RX6 47 RX6 (TX6 20).2.1 (TX6 20).2.2.1 ∈ wsX6_saw := by decide +kernel
theorem iX6_saw_6 : ∀ x ∈ wsX60, x ∈ wsX6_saw := by decide +kernel
set_option maxRecDepth 100000 in
set_option maxHeartbeats 4000000 in
theorem c_X6_saw (E : EN) (hM : EM E) (g : Nat → Int32) (h : Nat → Int64) (T : Nat → Nat → Int32) (L : Nat → Nat → Int64) (m : Nat) (ρ : Nat → Nat → Nat) (hR : RvM g T m ρ) (k : Nat) (hk : k ≤ 8) (hg : g 4817 = nI k) (c t b : Int32) : GtI E yX6_saw wsX6_saw rmX6_saw [.ref (eA E 48), .int c, .int t, .int b] g h T L (fun r g2 h2 T2 L2 => SwR m k c t b r g g2 T T2 4817 55 56 57 ∧ h2 = h ∧ L2 = L) := by
  refine CtI_of (cc := cX6_saw) (nL := 4) RX6 [some (.ref (eA E 48)), some (.int c), some (.int t), some (.int b)] ⟨rfl, rfl⟩ (by decide) rfl rfl (Nat.le_of_ble_eq_true rfl) ⟨0, rfl⟩ hM.2 (fun Y C hQ => ?_)
  have hM0 := hM
  obtain ⟨hS, hNN⟩ := hM
  have hm := hR.1
  refine J_iload_1 C dX6_saw_0 ?_
  refine J_i2l C dX6_saw_1 ?_
  refine J_lconst C (0) dX6_saw_2 lc_0 ?_
  refine J_ldc2 C kcX6_saw_244 dX6_saw_3 ?_
  refine G_spi C dX6_saw_6 (c_X6_in E hM0 _ _ _ g h T L) gX6_saw_X6_in rfl dm_X6_in rfl rfl (Nat.le_of_ble_eq_true rfl) (rmOK_b rfl) (fun r6 hr6 => ?_)
  subst hr6
  refine J_if_eq C 30 dX6_saw_9 (by decide) (fun hc9 => ?_) (fun hc9 => ?_)
  · skip
    refine J_iconst C (-1) dX6_saw_30 ic_m1 ?_
    refine hQ _ _ _ _ dX6_saw_31 ⟨_, _, _, _, rfl, ?_⟩
    refine ⟨Or.inl ⟨fun ⟨z1, z3, z4⟩ => ?_, rfl, rfl, rfl⟩, rfl, rfl⟩
    first
    | (have hz := hc27
       rw [if_pos (in01.mpr z4)] at hz
       exact absurd hz (by decide))
    | (have hz := hc17
       rw [if_pos z3] at hz
       exact absurd hz (by decide))
    | (have hz := hc9
       rw [if_pos (in05.mpr z1)] at hz
       exact absurd hz (by decide))
  · skip
    refine J_aload_0 C dX6_saw_12 ?_
    refine J_iload_2 C dX6_saw_13 ?_
    refine G_vpi C dX6_saw_14 (c_X6_isThing E hM0 m ρ g h T L hR t) gX6_saw_X6_isThing rfl dm_X6_isThing rfl rfl (hS _ (by decide)) rfl rfl (Nat.le_of_ble_eq_true rfl) (rmOK_b rfl) (fun r14 hr14 => ?_)
    subst hr14
    refine J_if_eq C 30 dX6_saw_17 (by decide) (fun hc17 => ?_) (fun hc17 => ?_)
    · skip
      refine J_iconst C (-1) dX6_saw_30 ic_m1 ?_
      refine hQ _ _ _ _ dX6_saw_31 ⟨_, _, _, _, rfl, ?_⟩
      refine ⟨Or.inl ⟨fun ⟨z1, z3, z4⟩ => ?_, rfl, rfl, rfl⟩, rfl, rfl⟩
      first
      | (have hz := hc27
         rw [if_pos (in01.mpr z4)] at hz
         exact absurd hz (by decide))
      | (have hz := hc17
         rw [if_pos z3] at hz
         exact absurd hz (by decide))
      | (have hz := hc9
         rw [if_pos (in05.mpr z1)] at hz
         exact absurd hz (by decide))
    · skip
      refine J_iload_3 C dX6_saw_20 ?_
      refine J_i2l C dX6_saw_21 ?_
      refine J_lconst C (0) dX6_saw_22 lc_0 ?_
      refine J_lconst C (1) dX6_saw_23 lc_1 ?_
      refine G_spi C dX6_saw_24 (c_X6_in E hM0 _ _ _ g h T L) gX6_saw_X6_in rfl dm_X6_in rfl rfl (Nat.le_of_ble_eq_true rfl) (rmOK_b rfl) (fun r24 hr24 => ?_)
      subst hr24
      refine J_if_ne C 32 dX6_saw_27 (by decide) (fun hc27 => ?_) (fun hc27 => ?_)
      · skip
        have hc0 := in05.mp (Decidable.byContradiction fun z => by rw [if_neg z] at hc9; exact hc9 rfl)
        have hb0 := in01.mp (Decidable.byContradiction fun z => by rw [if_neg z] at hc27; exact hc27 rfl)
        have ht : 0 ≤ t ∧ t < nI m := Decidable.byContradiction fun z => by rw [if_neg z] at hc17; exact hc17 rfl
        obtain ⟨j, rfl, hj⟩ := t_in (t := t) (m := m) hm ht
        obtain ⟨i, hi, rfl⟩ := nI_of2 (x := c) (M := 5) (n := 5) (by decide) (Int32.not_lt.mpr hc0.1) hc0.2
        obtain ⟨w, hw, rfl⟩ := nI_of2 (x := b) (M := 1) (n := 1) (by decide) (Int32.not_lt.mpr hb0.1) hb0.2
        refine J_aload_0 C dX6_saw_32 ?_
        refine G6_geti C (n := 4817) 17 dX6_saw_33 fX6_saw_189 iX6_saw_6 rfl (hS _ (by decide)) rfl rfl ?_
        refine J_bipush C (8) dX6_saw_36 bc_8 ?_
        refine J_icmp_ne C 44 dX6_saw_38 (by decide) (fun hc38 => ?_) (fun hc38 => ?_)
        · skip
          have hk8 : k < 8 := by
            rcases Nat.lt_or_ge k 8 with q | q
            · exact q
            · exact absurd (show g 4817 = 8 by rw [hg, show k = 8 by omega]; rfl) hc38
          refine J_aload_0 C dX6_saw_44 ?_
          refine G6_getr C (n := 55) 18 dX6_saw_45 fX6_saw_41 iX6_saw_6 rfl (hS _ (by decide)) rfl rfl ?_
          refine J_aload_0 C dX6_saw_48 ?_
          refine G6_geti C (n := 4817) 17 dX6_saw_49 fX6_saw_189 iX6_saw_6 rfl (hS _ (by decide)) rfl rfl ?_
          refine J_iload_1 C dX6_saw_52 ?_
          refine G_iast C k dX6_saw_53 rfl (hS _ (by decide)) hg hk8 ?_
          refine J_aload_0 C dX6_saw_54 ?_
          refine G6_getr C (n := 56) 19 dX6_saw_55 fX6_saw_44 iX6_saw_6 rfl (hS _ (by decide)) rfl rfl ?_
          refine J_aload_0 C dX6_saw_58 ?_
          refine G6_geti C (n := 4817) 17 dX6_saw_59 fX6_saw_189 iX6_saw_6 rfl (hS _ (by decide)) rfl rfl ?_
          refine J_iload_2 C dX6_saw_62 ?_
          refine G_iast C k dX6_saw_63 rfl (hS _ (by decide)) hg hk8 ?_
          refine J_aload_0 C dX6_saw_64 ?_
          refine G6_getr C (n := 57) 20 dX6_saw_65 fX6_saw_47 iX6_saw_6 rfl (hS _ (by decide)) rfl rfl ?_
          refine J_aload_0 C dX6_saw_68 ?_
          refine G6_geti C (n := 4817) 17 dX6_saw_69 fX6_saw_189 iX6_saw_6 rfl (hS _ (by decide)) rfl rfl ?_
          refine J_iload_3 C dX6_saw_72 ?_
          refine G_iast C k dX6_saw_73 rfl (hS _ (by decide)) hg hk8 ?_
          refine J_aload_0 C dX6_saw_74 ?_
          refine J_dup C dX6_saw_75 ?_
          refine G6_geti C (n := 4817) 17 dX6_saw_76 fX6_saw_189 iX6_saw_6 rfl (hS _ (by decide)) rfl rfl ?_
          refine J_iconst C (1) dX6_saw_79 ic_1 ?_
          refine J_iadd C dX6_saw_80 ?_
          refine G6_puti C (n := 4817) 17 dX6_saw_81 fX6_saw_189 iX6_saw_6 rfl (hS _ (by decide)) rfl (tyX6_ok 17 (by decide)) rfl rfl ?_
          refine J_aload_0 C dX6_saw_84 ?_
          refine G6_geti C (n := 4817) 17 dX6_saw_85 fX6_saw_189 iX6_saw_6 rfl (hS _ (by decide)) rfl rfl ?_
          refine hQ _ _ _ _ dX6_saw_88 ⟨_, _, _, _, rfl, ?_⟩
          refine ⟨Or.inr ⟨i, j, w, rfl, hi, rfl, hj, rfl, hw, Or.inr ⟨hk8, ?_, ?_, rfl⟩⟩, rfl, rfl⟩
          · simp [upd]
            rw [hg, nI_1]
          · rw [hg, nI_1]
        · skip
          refine J_bipush C (-3) dX6_saw_41 bc_m3 ?_
          refine hQ _ _ _ _ dX6_saw_43 ⟨_, _, _, _, rfl, ?_⟩
          have hk8 : 8 ≤ k := by
            rw [hg] at hc38
            have := nI_inj (a := k) (b := 8) (by omega) (by decide) hc38
            omega
          exact ⟨Or.inr ⟨i, j, w, rfl, hi, rfl, hj, rfl, hw, Or.inl ⟨hk8, rfl, rfl, rfl⟩⟩, rfl, rfl⟩
      · skip
        refine J_iconst C (-1) dX6_saw_30 ic_m1 ?_
        refine hQ _ _ _ _ dX6_saw_31 ⟨_, _, _, _, rfl, ?_⟩
        refine ⟨Or.inl ⟨fun ⟨z1, z3, z4⟩ => ?_, rfl, rfl, rfl⟩, rfl, rfl⟩
        first
        | (have hz := hc27
           rw [if_pos (in01.mpr z4)] at hz
           exact absurd hz (by decide))
        | (have hz := hc17
           rw [if_pos z3] at hz
           exact absurd hz (by decide))
        | (have hz := hc9
           rw [if_pos (in05.mpr z1)] at hz
           exact absurd hz (by decide))
