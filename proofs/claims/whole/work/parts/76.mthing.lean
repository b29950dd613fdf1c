theorem in04 {x : Int32} : ((0 : Int64) ≤ x.toInt64 ∧ x.toInt64 ≤ 4) ↔ ¬ (x.toInt < 0 ∨ 4 < x.toInt) := by
  rw [Int64.le_iff_toInt_le, Int64.le_iff_toInt_le, Int32.toInt_toInt64, show (0 : Int64).toInt = 0 by decide, show (4 : Int64).toInt = 4 by decide]
  omega
abbrev rmX6_thing : Room := { frames := 2, cells := 0, slots := 0, locals := 46 }
theorem kcX6_thing_214 : Cond.constantLong RX6 214 (4) ∈ wsX6_thing := by decide +kernel
theorem fX6_thing_13 : Cond.fieldLink RX6 13 RX6 (TX6 4).2.1 (TX6 4).2.2.1 ∈ wsX6_thing := by decide +kernel
theorem fX6_thing_16 : Cond.fieldLink RX6 16 RX6 (TX6 5).2.1 (TX6 5).2.2.1 ∈ wsX6_thing := by decide +kernel
theorem fX6_thing_180 : Cond.fieldLink RX6 180 RX6 (TX6 11).2.1 (TX6 11).2.2.1 ∈ wsX6_thing := by decide +kernel
theorem fX6_thing_19 : Cond.fieldLink RX6 19 RX6 (TX6 6).2.1 (TX6 6).2.2.1 ∈ wsX6_thing := by decide +kernel
theorem fX6_thing_22 : Cond.fieldLink RX6 22 RX6 (TX6 7).2.1 (TX6 7).2.2.1 ∈ wsX6_thing := by decide +kernel
theorem iX6_thing_6 : ∀ x ∈ wsX60, x ∈ wsX6_thing := by decide +kernel
theorem dm_X6_isThing : yX6_isThing.cls = RX6 ∧ yX6_isThing.cls ≠ "java/lang/invoke/MethodHandle" ∧ yX6_isThing.cls ≠ "java/lang/invoke/VarHandle" ∧ (parseMethodDescriptor yX6_isThing.desc).map (fun d => d.parameters.length) = some 1 := by decide +kernel
set_option maxRecDepth 100000 in
set_option maxHeartbeats 4000000 in
theorem c_X6_thing (E : EN) (hM : EM E) (g : Nat → Int32) (h : Nat → Int64) (T : Nat → Nat → Int32) (L : Nat → Nat → Int64) (m : Nat) (ρ : Nat → Nat → Nat) (hR : RvM g T m ρ) (s : Nat) (hs : s < 256) (hg : g 4811 = nI s) (t x : Int32) : GpI E yX6_thing wsX6_thing rmX6_thing [.ref (eA E 48), .int t, .int x] g h T L (fun r => ThR m ρ s t x r) := by
  refine CtI_of (cc := cX6_thing) (nL := 3) RX6 [some (.ref (eA E 48)), some (.int t), some (.int x)] ⟨rfl, rfl⟩ (by decide) rfl rfl (Nat.le_of_ble_eq_true rfl) ⟨0, rfl⟩ hM.2 (fun Y C hQ => ?_)
  have hM0 := hM
  obtain ⟨hS, hNN⟩ := hM
  have hm := hR.1
  have hrow := hR.2.2.1
  refine J_aload_0 C dX6_thing_0 ?_
  refine J_iload_1 C dX6_thing_1 ?_
  refine G_vpi C dX6_thing_2 (c_X6_isThing E hM0 m ρ g h T L hR t) gX6_thing_X6_isThing rfl dm_X6_isThing rfl rfl (hS _ (by decide)) rfl rfl (Nat.le_of_ble_eq_true rfl) (rmOK_b rfl) (fun r2 hr2 => ?_)
  subst hr2
  refine J_if_eq C 20 dX6_thing_5 (by decide) (fun hc5 => ?_) (fun hc5 => ?_)
  · skip
    refine J_iconst C (-1) dX6_thing_20 ic_m1 ?_
    refine hQ _ _ _ _ dX6_thing_21 ⟨rfl, ?_⟩
    first
    | (have hz : ¬ (0 ≤ t ∧ t < nI m) := fun z => by rw [if_pos z] at hc5; exact absurd hc5 (by decide)
       exact Or.inl ⟨hz, rfl⟩)
    | (have hz : ¬ ((0 : Int64) ≤ x.toInt64 ∧ x.toInt64 ≤ 4) := fun z => by rw [if_pos z] at hc17; exact absurd hc17 (by decide)
       have hb : x.toInt < 0 ∨ 4 < x.toInt := Decidable.byContradiction fun z => hz (in04.mpr z)
       refine Or.inr ⟨j, rfl, hj, ?_⟩
       unfold thV
       rw [if_neg (fun q => by rw [q] at hb; revert hb; decide), if_neg (fun q => by rw [q] at hb; revert hb; decide), if_neg (fun q => by rw [q] at hb; revert hb; decide), if_neg (fun q => by rw [q] at hb; revert hb; decide), if_neg (fun q => by rw [q] at hb; revert hb; decide)])
  · skip
    obtain ⟨j, rfl, hj⟩ := t_in (t := t) (m := m) hm (Decidable.byContradiction fun z => by rw [if_neg z] at hc5; exact hc5 rfl)
    refine J_iload_2 C dX6_thing_8 ?_
    refine J_i2l C dX6_thing_9 ?_
    refine J_lconst C (0) dX6_thing_10 lc_0 ?_
    refine J_ldc2 C kcX6_thing_214 dX6_thing_11 ?_
    refine G_spi C dX6_thing_14 (c_X6_in E hM0 _ _ _ g h T L) gX6_thing_X6_in rfl dm_X6_in rfl rfl (Nat.le_of_ble_eq_true rfl) (rmOK_b rfl) (fun r14 hr14 => ?_)
    subst hr14
    refine J_if_ne C 22 dX6_thing_17 (by decide) (fun hc17 => ?_) (fun hc17 => ?_)
    · skip
      refine J_iload_2 C dX6_thing_22 ?_
      refine J_if_ne C 37 dX6_thing_23 (by decide) (fun hc23 => ?_) (fun hc23 => ?_)
      · skip
        refine J_iload_2 C dX6_thing_37 ?_
        refine J_iconst C (1) dX6_thing_38 ic_1 ?_
        refine J_icmp_ne C 51 dX6_thing_39 (by decide) (fun hc39 => ?_) (fun hc39 => ?_)
        · skip
          refine J_iload_2 C dX6_thing_51 ?_
          refine J_iconst C (2) dX6_thing_52 ic_2 ?_
          refine J_icmp_ne C 65 dX6_thing_53 (by decide) (fun hc53 => ?_) (fun hc53 => ?_)
          · skip
            refine J_iload_2 C dX6_thing_65 ?_
            refine J_iconst C (3) dX6_thing_66 ic_3 ?_
            refine J_icmp_ne C 79 dX6_thing_67 (by decide) (fun hc67 => ?_) (fun hc67 => ?_)
            · skip
              refine J_aload_0 C dX6_thing_79 ?_
              refine G6_getr C (n := 53) 7 dX6_thing_80 fX6_thing_22 iX6_thing_6 rfl (hS _ (by decide)) rfl rfl ?_
              refine J_iload_1 C dX6_thing_83 ?_
              refine G_iald C j dX6_thing_84 rfl (hS _ (by decide)) rfl (by omega) ?_
              refine hQ _ _ _ _ dX6_thing_85 ⟨rfl, ?_⟩
              have hin : ¬ (x.toInt < 0 ∨ 4 < x.toInt) := in04.mp (Decidable.byContradiction fun z => by rw [if_neg z] at hc17; exact hc17 rfl)
              refine Or.inr ⟨j, rfl, hj, ?_⟩
              unfold thV
              rcases sw04 x with e | e | e | e | e | e
              · subst e
                first
                | rfl
                | exact absurd rfl hc23
              · subst e
                first
                | exact (hrow j hj).1
                | exact absurd rfl hc39
                | exact absurd hc23 (by decide)
              · subst e
                first
                | exact (hrow j hj).2.1
                | exact absurd rfl hc53
                | exact absurd hc39 (by decide)
                | exact absurd hc23 (by decide)
              · subst e
                first
                | exact (hrow j hj).2.2.1
                | exact absurd rfl hc67
                | exact absurd hc53 (by decide)
                | exact absurd hc39 (by decide)
                | exact absurd hc23 (by decide)
              · subst e
                first
                | exact (hrow j hj).2.2.2
                | exact absurd hc67 (by decide)
                | exact absurd hc53 (by decide)
                | exact absurd hc39 (by decide)
                | exact absurd hc23 (by decide)
              · exact absurd e hin
            · skip
              refine J_aload_0 C dX6_thing_70 ?_
              refine G6_getr C (n := 52) 6 dX6_thing_71 fX6_thing_19 iX6_thing_6 rfl (hS _ (by decide)) rfl rfl ?_
              refine J_iload_1 C dX6_thing_74 ?_
              refine G_iald C j dX6_thing_75 rfl (hS _ (by decide)) rfl (by omega) ?_
              refine J_goto C 85 dX6_thing_76 (by decide) ?_
              refine hQ _ _ _ _ dX6_thing_85 ⟨rfl, ?_⟩
              have hin : ¬ (x.toInt < 0 ∨ 4 < x.toInt) := in04.mp (Decidable.byContradiction fun z => by rw [if_neg z] at hc17; exact hc17 rfl)
              refine Or.inr ⟨j, rfl, hj, ?_⟩
              unfold thV
              rcases sw04 x with e | e | e | e | e | e
              · subst e
                first
                | rfl
                | exact absurd rfl hc23
              · subst e
                first
                | exact (hrow j hj).1
                | exact absurd rfl hc39
                | exact absurd hc23 (by decide)
              · subst e
                first
                | exact (hrow j hj).2.1
                | exact absurd rfl hc53
                | exact absurd hc39 (by decide)
                | exact absurd hc23 (by decide)
              · subst e
                first
                | exact (hrow j hj).2.2.1
                | exact absurd rfl hc67
                | exact absurd hc53 (by decide)
                | exact absurd hc39 (by decide)
                | exact absurd hc23 (by decide)
              · subst e
                first
                | exact (hrow j hj).2.2.2
                | exact absurd hc67 (by decide)
                | exact absurd hc53 (by decide)
                | exact absurd hc39 (by decide)
                | exact absurd hc23 (by decide)
              · exact absurd e hin
          · skip
            refine J_aload_0 C dX6_thing_56 ?_
            refine G6_getr C (n := 51) 5 dX6_thing_57 fX6_thing_16 iX6_thing_6 rfl (hS _ (by decide)) rfl rfl ?_
            refine J_iload_1 C dX6_thing_60 ?_
            refine G_iald C j dX6_thing_61 rfl (hS _ (by decide)) rfl (by omega) ?_
            refine J_goto C 85 dX6_thing_62 (by decide) ?_
            refine hQ _ _ _ _ dX6_thing_85 ⟨rfl, ?_⟩
            have hin : ¬ (x.toInt < 0 ∨ 4 < x.toInt) := in04.mp (Decidable.byContradiction fun z => by rw [if_neg z] at hc17; exact hc17 rfl)
            refine Or.inr ⟨j, rfl, hj, ?_⟩
            unfold thV
            rcases sw04 x with e | e | e | e | e | e
            · subst e
              first
              | rfl
              | exact absurd rfl hc23
            · subst e
              first
              | exact (hrow j hj).1
              | exact absurd rfl hc39
              | exact absurd hc23 (by decide)
            · subst e
              first
              | exact (hrow j hj).2.1
              | exact absurd rfl hc53
              | exact absurd hc39 (by decide)
              | exact absurd hc23 (by decide)
            · subst e
              first
              | exact (hrow j hj).2.2.1
              | exact absurd rfl hc67
              | exact absurd hc53 (by decide)
              | exact absurd hc39 (by decide)
              | exact absurd hc23 (by decide)
            · subst e
              first
              | exact (hrow j hj).2.2.2
              | exact absurd hc67 (by decide)
              | exact absurd hc53 (by decide)
              | exact absurd hc39 (by decide)
              | exact absurd hc23 (by decide)
            · exact absurd e hin
        · skip
          refine J_aload_0 C dX6_thing_42 ?_
          refine G6_getr C (n := 50) 4 dX6_thing_43 fX6_thing_13 iX6_thing_6 rfl (hS _ (by decide)) rfl rfl ?_
          refine J_iload_1 C dX6_thing_46 ?_
          refine G_iald C j dX6_thing_47 rfl (hS _ (by decide)) rfl (by omega) ?_
          refine J_goto C 85 dX6_thing_48 (by decide) ?_
          refine hQ _ _ _ _ dX6_thing_85 ⟨rfl, ?_⟩
          have hin : ¬ (x.toInt < 0 ∨ 4 < x.toInt) := in04.mp (Decidable.byContradiction fun z => by rw [if_neg z] at hc17; exact hc17 rfl)
          refine Or.inr ⟨j, rfl, hj, ?_⟩
          unfold thV
          rcases sw04 x with e | e | e | e | e | e
          · subst e
            first
            | rfl
            | exact absurd rfl hc23
          · subst e
            first
            | exact (hrow j hj).1
            | exact absurd rfl hc39
            | exact absurd hc23 (by decide)
          · subst e
            first
            | exact (hrow j hj).2.1
            | exact absurd rfl hc53
            | exact absurd hc39 (by decide)
            | exact absurd hc23 (by decide)
          · subst e
            first
            | exact (hrow j hj).2.2.1
            | exact absurd rfl hc67
            | exact absurd hc53 (by decide)
            | exact absurd hc39 (by decide)
            | exact absurd hc23 (by decide)
          · subst e
            first
            | exact (hrow j hj).2.2.2
            | exact absurd hc67 (by decide)
            | exact absurd hc53 (by decide)
            | exact absurd hc39 (by decide)
            | exact absurd hc23 (by decide)
          · exact absurd e hin
      · skip
        refine J_aload_0 C dX6_thing_26 ?_
        refine G6_geti C (n := 4811) 11 dX6_thing_27 fX6_thing_180 iX6_thing_6 rfl (hS _ (by decide)) rfl rfl ?_
        refine J_iload_1 C dX6_thing_30 ?_
        refine J_ishr C dX6_thing_31 ?_
        refine J_iconst C (1) dX6_thing_32 ic_1 ?_
        refine J_iand C dX6_thing_33 ?_
        refine J_top (y := if s.testBit j then 1 else 0) (by rw [hg]; exact bit_i (by omega) (by omega)) ?_
        refine J_goto C 85 dX6_thing_34 (by decide) ?_
        refine hQ _ _ _ _ dX6_thing_85 ⟨rfl, ?_⟩
        have hin : ¬ (x.toInt < 0 ∨ 4 < x.toInt) := in04.mp (Decidable.byContradiction fun z => by rw [if_neg z] at hc17; exact hc17 rfl)
        refine Or.inr ⟨j, rfl, hj, ?_⟩
        unfold thV
        rcases sw04 x with e | e | e | e | e | e
        · subst e
          first
          | rfl
          | exact absurd rfl hc23
        · subst e
          first
          | exact (hrow j hj).1
          | exact absurd rfl hc39
          | exact absurd hc23 (by decide)
        · subst e
          first
          | exact (hrow j hj).2.1
          | exact absurd rfl hc53
          | exact absurd hc39 (by decide)
          | exact absurd hc23 (by decide)
        · subst e
          first
          | exact (hrow j hj).2.2.1
          | exact absurd rfl hc67
          | exact absurd hc53 (by decide)
          | exact absurd hc39 (by decide)
          | exact absurd hc23 (by decide)
        · subst e
          first
          | exact (hrow j hj).2.2.2
          | exact absurd hc67 (by decide)
          | exact absurd hc53 (by decide)
          | exact absurd hc39 (by decide)
          | exact absurd hc23 (by decide)
        · exact absurd e hin
    · skip
      refine J_iconst C (-1) dX6_thing_20 ic_m1 ?_
      refine hQ _ _ _ _ dX6_thing_21 ⟨rfl, ?_⟩
      first
      | (have hz : ¬ (0 ≤ t ∧ t < nI m) := fun z => by rw [if_pos z] at hc5; exact absurd hc5 (by decide)
         exact Or.inl ⟨hz, rfl⟩)
      | (have hz : ¬ ((0 : Int64) ≤ x.toInt64 ∧ x.toInt64 ≤ 4) := fun z => by rw [if_pos z] at hc17; exact absurd hc17 (by decide)
         have hb : x.toInt < 0 ∨ 4 < x.toInt := Decidable.byContradiction fun z => hz (in04.mpr z)
         refine Or.inr ⟨j, rfl, hj, ?_⟩
         unfold thV
         rw [if_neg (fun q => by rw [q] at hb; revert hb; decide), if_neg (fun q => by rw [q] at hb; revert hb; decide), if_neg (fun q => by rw [q] at hb; revert hb; decide), if_neg (fun q => by rw [q] at hb; revert hb; decide), if_neg (fun q => by rw [q] at hb; revert hb; decide)])
