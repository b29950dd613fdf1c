def owN (r : Int64) : Nat → Int64
  | 0 => 0
  | k + 1 => owN r k + (owN r k / 10 + r)
def owedS (m : Nat) (ρ : Nat → Nat → Nat) (s : Nat) (t y : Int32) : Int64 := if (0 ≤ t ∧ t < nI m) ∧ 0 ≤ y ∧ y ≤ 50 then (if (wrN (ρ 0) s m).testBit (i2n t) = true then owN (nI (ρ 1 (i2n t))).toInt64 (i2n y) else 0) else -1
theorem wbit : ∀ j, j < 7 → ∀ w, w < 128 → (nI w &&& nI (2 ^ j) = 0 ↔ w.testBit j = false) := by decide +kernel
theorem y50 {y : Int32} (h : 0 ≤ y ∧ y ≤ 50) : ∃ n, y = nI n ∧ n ≤ 50 := by
  obtain ⟨i, h1, h2⟩ := nI_of2 (x := y) (M := 50) (n := 50) (by decide) (Int32.not_lt.mpr h.1) h.2
  exact ⟨i, h2, h1⟩
abbrev rmX5_owed : Room := { frames := 1, cells := 0, slots := 0, locals := 21 }
theorem kcX5_owed_189 : Cond.constantLong RX5 189 (-1) ∈ wsX5_owed := by decide +kernel
theorem kcX5_owed_203 : Cond.constantLong RX5 203 (10) ∈ wsX5_owed := by decide +kernel
theorem fX5_owed_27 : Cond.fieldLink RX5 27 RX5 (TX5 3).2.1 (TX5 3).2.2.1 ∈ wsX5_owed := by decide +kernel
theorem fX5_owed_37 : Cond.fieldLink RX5 37 RX5 (TX5 5).2.1 (TX5 5).2.2.1 ∈ wsX5_owed := by decide +kernel
theorem fX5_owed_89 : Cond.fieldLink RX5 89 RX3 (TX3 8).2.1 (TX3 8).2.2.1 ∈ wsX5_owed := by decide +kernel
theorem fX5_owed_98 : Cond.fieldLink RX5 98 RX0 (TX0 0).2.1 (TX0 0).2.2.1 ∈ wsX5_owed := by decide +kernel
theorem iX5_owed_0 : ∀ x ∈ wsX00, x ∈ wsX5_owed := by decide +kernel
theorem iX5_owed_3 : ∀ x ∈ wsX30, x ∈ wsX5_owed := by decide +kernel
theorem iX5_owed_5 : ∀ x ∈ wsX50, x ∈ wsX5_owed := by decide +kernel
theorem bc_50 : (Int8.ofInt (50)).toInt32 = (50) := by decide
set_option maxRecDepth 100000 in
set_option maxHeartbeats 4000000 in
theorem c_X5_owed (E : EN) (hM : EM E) (g : Nat → Int32) (h : Nat → Int64) (T : Nat → Nat → Int32) (L : Nat → Nat → Int64) (m : Nat) (ρ : Nat → Nat → Nat) (hR : RvX g T m ρ) (s : Nat) (hs : s < 256) (hg : g 2000 = nI s) (t y : Int32) : GpL E yX5_owed wsX5_owed rmX5_owed [.ref (eA E 0), .int t, .int y] g h T L (fun r => r = owedS m ρ s t y) := by
  refine CtL_of (cc := cX5_owed) (nL := 6) RX5 [some (.ref (eA E 0)), some (.int t), some (.int y), none, none, none] ⟨rfl, rfl⟩ (by decide) rfl rfl (Nat.le_of_ble_eq_true rfl) ⟨3, rfl⟩ hM.2 (fun Y C hQ => ?_)
  have hM0 := hM
  obtain ⟨hS, hNN⟩ := hM
  have hm := hR.1
  have h6 : g (100 * 6 + 0) = nI m := hR.2.1
  have hrow := hR.2.2.2.2.2.1
  refine J_aload_0 C dX5_owed_0 ?_
  refine G5_getr C (n := 6) 3 dX5_owed_1 fX5_owed_27 iX5_owed_5 rfl (hS _ (by decide)) rfl rfl ?_
  refine J_iload_1 C dX5_owed_4 ?_
  refine G_vpi C dX5_owed_5 (c_X3_has E hNN 6 rfl (hS _ (by decide)) t g h T L) gX5_owed_X3_has rfl dm_X3_has rfl rfl (hS _ (by decide)) rfl rfl (Nat.le_of_ble_eq_true rfl) (rmOK_b rfl) (fun r5 hr5 => ?_)
  subst hr5
  refine J_if_eq C 21 dX5_owed_8 (by decide) (fun hc8 => ?_) (fun hc8 => ?_)
  · skip
    refine J_ldc2 C kcX5_owed_189 dX5_owed_21 ?_
    refine hQ _ _ _ _ dX5_owed_24 ⟨rfl, ?_⟩
    unfold owedS
    rw [if_neg (fun ⟨z, z2, z3⟩ => by
      first
      | (have h2 := hc8
         rw [h6, if_pos z] at h2
         exact absurd h2 (by decide))
      | exact absurd hc12 (Int32.not_lt.mpr z2)
      | exact absurd z3 hc18)]
  · skip
    refine J_iload_2 C dX5_owed_11 ?_
    refine J_if_lt C 21 dX5_owed_12 (by decide) (fun hc12 => ?_) (fun hc12 => ?_)
    · skip
      refine J_ldc2 C kcX5_owed_189 dX5_owed_21 ?_
      refine hQ _ _ _ _ dX5_owed_24 ⟨rfl, ?_⟩
      unfold owedS
      rw [if_neg (fun ⟨z, z2, z3⟩ => by
        first
        | (have h2 := hc8
           rw [h6, if_pos z] at h2
           exact absurd h2 (by decide))
        | exact absurd hc12 (Int32.not_lt.mpr z2)
        | exact absurd z3 hc18)]
    · skip
      refine J_iload_2 C dX5_owed_15 ?_
      refine J_bipush C (50) dX5_owed_16 bc_50 ?_
      refine J_icmp_le C 25 dX5_owed_18 (by decide) (fun hc18 => ?_) (fun hc18 => ?_)
      · skip
        have htm : 0 ≤ t ∧ t < nI m := Decidable.byContradiction fun z => by rw [h6, if_neg z] at hc8; exact hc8 rfl
        obtain ⟨j, rfl, hj⟩ := t_in hm htm
        have hy : 0 ≤ y ∧ y ≤ 50 := ⟨Int32.not_lt.mp hc12, hc18⟩
        obtain ⟨n, rfl, hn⟩ := y50 hy
        have hji : i2n (nI j) = j := i2n_nI (by omega)
        have hni : i2n (nI n) = n := i2n_nI (by omega)
        have hwl := wrN_lt (wa := ρ 0) (a := s) (m := m)
        have h128 := p7 hm
        have hS1 : owedS m ρ s (nI j) (nI n) = if (wrN (ρ 0) s m).testBit j = true then owN (nI (ρ 1 j)).toInt64 n else 0 := by unfold owedS; rw [if_pos ⟨htm, hy⟩, hji, hni]
        rw [hS1] at hQ
        refine J_aload_0 C dX5_owed_25 ?_
        refine G5_getr C (n := 6) 3 dX5_owed_26 fX5_owed_27 iX5_owed_5 rfl (hS _ (by decide)) rfl rfl ?_
        refine J_aload_0 C dX5_owed_29 ?_
        refine G5_getr C (n := 20) 5 dX5_owed_30 fX5_owed_37 iX5_owed_5 rfl (hS _ (by decide)) rfl rfl ?_
        refine G0_geti C (n := 2000) 0 dX5_owed_33 fX5_owed_98 iX5_owed_0 rfl (hS _ (by decide)) rfl rfl ?_
        refine J_top (y := nI s) hg ?_
        refine G_vpi C dX5_owed_36 (c_X3_wrongOf E hM0 m ρ g h T L hR s hs) gX5_owed_X3_wrongOf rfl dm_X3_wrongOf rfl rfl (hS _ (by decide)) rfl rfl (Nat.le_of_ble_eq_true rfl) (rmOK_b rfl) (fun r36 hr36 => ?_)
        subst hr36
        refine J_iconst C (1) dX5_owed_39 ic_1 ?_
        refine J_iload_1 C dX5_owed_40 ?_
        refine J_ishl C dX5_owed_41 ?_
        refine J_top (y := nI (2 ^ j)) (nI_sh1 j (by omega)) ?_
        refine J_iand C dX5_owed_42 ?_
        refine J_if_ne C 48 dX5_owed_43 (by decide) (fun hc43 => ?_) (fun hc43 => ?_)
        · skip
          have hb : (wrN (ρ 0) s m).testBit j = true := by
            have h2 := fun q => hc43 ((wbit j (by omega) _ (by omega)).mpr q)
            simpa using h2
          rw [if_pos hb] at hQ
          refine J_lconst C (0) dX5_owed_48 lc_0 ?_
          refine J_lstore_3 C dX5_owed_49 (by decide) trivial ?_
          refine J_iconst C (0) dX5_owed_50 ic_0 ?_
          refine J_istore_5 C dX5_owed_51 (by decide) trivial ?_
          have loop : ∀ (n2 : Nat) (k : Nat), k ≤ n → n < n2 + k → J E Y (eN E) 0 0 (wS E g h T L) 53 [some (.ref (eA E 0)), some (.int (nI j)), some (.int (nI n)), some (.long (owN (nI (ρ 1 j)).toInt64 k)), none, some (.int (nI k))] [] := by
            intro n2
            induction n2 with
            | zero =>
              intro k hk hfu
              omega
            | succ n2 ih =>
              intro k hk hfu
              refine J_iload_5 C dX5_owed_53 ?_
              refine J_iload_2 C dX5_owed_55 ?_
              refine J_icmp_ge C 84 dX5_owed_56 (by decide) (fun hc56 => ?_) (fun hc56 => ?_)
              · skip
                refine J_lload_3 C dX5_owed_84 ?_
                refine hQ _ _ _ _ dX5_owed_85 ⟨rfl, ?_⟩
                have hkn : k = n := by
                  have h8 := ge_nI (m := n) (by omega) hc56
                  omega
                subst hkn
                rfl
              · skip
                have hkn : k < n := lt_nI (m := n) (by omega) hc56
                refine J_lload_3 C dX5_owed_59 ?_
                refine J_lload_3 C dX5_owed_60 ?_
                refine J_ldc2 C kcX5_owed_203 dX5_owed_61 ?_
                refine J_ldiv C dX5_owed_64 (by decide) ?_
                refine J_aload_0 C dX5_owed_65 ?_
                refine G5_getr C (n := 6) 3 dX5_owed_66 fX5_owed_27 iX5_owed_5 rfl (hS _ (by decide)) rfl rfl ?_
                refine G3_getr C (n := 8) 8 dX5_owed_69 fX5_owed_89 iX5_owed_3 rfl (hS _ (by decide)) rfl rfl ?_
                refine J_iload_1 C dX5_owed_72 ?_
                refine G_iald C j dX5_owed_73 rfl (hS _ (by decide)) rfl (by omega) ?_
                refine J_top (y := nI (ρ 1 j)) (hrow j hj).2.1 ?_
                refine J_i2l C dX5_owed_74 ?_
                refine J_ladd C dX5_owed_75 ?_
                refine J_ladd C dX5_owed_76 ?_
                refine J_lstore_3 C dX5_owed_77 (by decide) trivial ?_
                refine J_iinc_5 C (1) dX5_owed_78 (by decide) trivial ic_1 ?_
                refine J_goto C 53 dX5_owed_81 (by decide) ?_
                rw [nI_1]
                exact ih (k + 1) (by omega) (by omega)
          exact loop (n + 1) 0 (by omega) (by omega)
        · skip
          refine J_lconst C (0) dX5_owed_46 lc_0 ?_
          refine hQ _ _ _ _ dX5_owed_47 ⟨rfl, ?_⟩
          rw [if_neg (fun q => by have h2 := (wbit j (by omega) _ (by omega)).mp hc43; rw [q] at h2; cases h2)]
      · skip
        refine J_ldc2 C kcX5_owed_189 dX5_owed_21 ?_
        refine hQ _ _ _ _ dX5_owed_24 ⟨rfl, ?_⟩
        unfold owedS
        rw [if_neg (fun ⟨z, z2, z3⟩ => by
          first
          | (have h2 := hc8
             rw [h6, if_pos z] at h2
             exact absurd h2 (by decide))
          | exact absurd hc12 (Int32.not_lt.mpr z2)
          | exact absurd z3 hc18)]
abbrev rmX6_owed : Room := { frames := 2, cells := 0, slots := 0, locals := 46 }
theorem kcX6_owed_120 : Cond.constantLong RX6 120 (-1) ∈ wsX6_owed := by decide +kernel
theorem kcX6_owed_122 : Cond.constantLong RX6 122 (10) ∈ wsX6_owed := by decide +kernel
theorem kcX6_owed_253 : Cond.constantLong RX6 253 (50) ∈ wsX6_owed := by decide +kernel
theorem fX6_owed_16 : Cond.fieldLink RX6 16 RX6 (TX6 5).2.1 (TX6 5).2.2.1 ∈ wsX6_owed := by decide +kernel
theorem fX6_owed_180 : Cond.fieldLink RX6 180 RX6 (TX6 11).2.1 (TX6 11).2.2.1 ∈ wsX6_owed := by decide +kernel
theorem iX6_owed_6 : ∀ x ∈ wsX60, x ∈ wsX6_owed := by decide +kernel
set_option maxRecDepth 100000 in
set_option maxHeartbeats 4000000 in
theorem c_X6_owed (E : EN) (hM : EM E) (g : Nat → Int32) (h : Nat → Int64) (T : Nat → Nat → Int32) (L : Nat → Nat → Int64) (m : Nat) (ρ : Nat → Nat → Nat) (hR : RvM g T m ρ) (s : Nat) (hs : s < 256) (hg : g 4811 = nI s) (t y : Int32) : GpL E yX6_owed wsX6_owed rmX6_owed [.ref (eA E 48), .int t, .int y] g h T L (fun r => r = owedS m ρ s t y) := by
  refine CtL_of (cc := cX6_owed) (nL := 6) RX6 [some (.ref (eA E 48)), some (.int t), some (.int y), none, none, none] ⟨rfl, rfl⟩ (by decide) rfl rfl (Nat.le_of_ble_eq_true rfl) ⟨3, rfl⟩ hM.2 (fun Y C hQ => ?_)
  have hM0 := hM
  obtain ⟨hS, hNN⟩ := hM
  have hm := hR.1
  have hrow := hR.2.2.1
  refine J_aload_0 C dX6_owed_0 ?_
  refine J_iload_1 C dX6_owed_1 ?_
  refine G_vpi C dX6_owed_2 (c_X6_isThing E hM0 m ρ g h T L hR t) gX6_owed_X6_isThing rfl dm_X6_isThing rfl rfl (hS _ (by decide)) rfl rfl (Nat.le_of_ble_eq_true rfl) (rmOK_b rfl) (fun r2 hr2 => ?_)
  subst hr2
  refine J_if_eq C 20 dX6_owed_5 (by decide) (fun hc5 => ?_) (fun hc5 => ?_)
  · skip
    refine J_ldc2 C kcX6_owed_120 dX6_owed_20 ?_
    refine hQ _ _ _ _ dX6_owed_23 ⟨rfl, ?_⟩
    unfold owedS
    rw [if_neg (fun ⟨z, z2⟩ => by
      first
      | (have h2 := hc5
         rw [if_pos z] at h2
         exact absurd h2 (by decide))
      | exact absurd (hc17.symm.trans (if_pos ((in_i (k := 50)).mpr z2))) (by decide))]
  · skip
    refine J_iload_2 C dX6_owed_8 ?_
    refine J_i2l C dX6_owed_9 ?_
    refine J_lconst C (0) dX6_owed_10 lc_0 ?_
    refine J_ldc2 C kcX6_owed_253 dX6_owed_11 ?_
    refine G_spi C dX6_owed_14 (c_X6_in E hM0 _ _ _ g h T L) gX6_owed_X6_in rfl dm_X6_in rfl rfl (Nat.le_of_ble_eq_true rfl) (rmOK_b rfl) (fun r14 hr14 => ?_)
    subst hr14
    refine J_if_ne C 24 dX6_owed_17 (by decide) (fun hc17 => ?_) (fun hc17 => ?_)
    · skip
      have htm : 0 ≤ t ∧ t < nI m := Decidable.byContradiction fun z => by rw [if_neg z] at hc5; exact hc5 rfl
      obtain ⟨j, rfl, hj⟩ := t_in hm htm
      have hy : 0 ≤ y ∧ y ≤ 50 := (in_i (k := 50)).mp (Decidable.byContradiction fun z => by
        apply hc17
        exact if_neg z)
      obtain ⟨n, rfl, hn⟩ := y50 hy
      have hji : i2n (nI j) = j := i2n_nI (by omega)
      have hni : i2n (nI n) = n := i2n_nI (by omega)
      have hwl := wrN_lt (wa := ρ 0) (a := s) (m := m)
      have h128 := p7 hm
      have hS1 : owedS m ρ s (nI j) (nI n) = if (wrN (ρ 0) s m).testBit j = true then owN (nI (ρ 1 j)).toInt64 n else 0 := by unfold owedS; rw [if_pos ⟨htm, hy⟩, hji, hni]
      rw [hS1] at hQ
      refine J_lconst C (0) dX6_owed_24 lc_0 ?_
      refine J_lstore_3 C dX6_owed_25 (by decide) trivial ?_
      refine J_iconst C (0) dX6_owed_26 ic_0 ?_
      refine J_istore_5 C dX6_owed_27 (by decide) trivial ?_
      have loop : ∀ (n2 : Nat) (k : Nat), k ≤ n → n < n2 + k → (k = 0 ∨ (wrN (ρ 0) s m).testBit j = true) → J E Y (eN E) 0 0 (wS E g h T L) 29 [some (.ref (eA E 48)), some (.int (nI j)), some (.int (nI n)), some (.long (owN (nI (ρ 1 j)).toInt64 k)), none, some (.int (nI k))] [] := by
        intro n2
        induction n2 with
        | zero =>
          intro k hk hfu hkb
          omega
        | succ n2 ih =>
          intro k hk hfu hkb
          refine J_iload_5 C dX6_owed_29 ?_
          refine J_iload_2 C dX6_owed_31 ?_
          refine J_icmp_ge C 72 dX6_owed_32 (by decide) (fun hc32 => ?_) (fun hc32 => ?_)
          · skip
            refine J_lload_3 C dX6_owed_72 ?_
            refine hQ _ _ _ _ dX6_owed_73 ⟨rfl, ?_⟩
            first
            | (have hkn : k = n := by
                 have h8 := ge_nI (m := n) (by omega) hc32
                 omega
               subst hkn
               rcases hkb with e | e
               · subst e
                 show (0 : Int64) = _
                 split <;> rfl
               · rw [if_pos e])
            | (have hb : ¬ (wrN (ρ 0) s m).testBit j = true := fun z => by
                 have h2 := hc47
                 rw [if_pos z] at h2
                 exact absurd h2 (by decide)
               have hk0 : k = 0 := hkb.resolve_right hb
               subst hk0
               rw [if_neg hb]
               rfl)
          · skip
            refine J_aload_0 C dX6_owed_35 ?_
            refine J_aload_0 C dX6_owed_36 ?_
            refine G6_geti C (n := 4811) 11 dX6_owed_37 fX6_owed_180 iX6_owed_6 rfl (hS _ (by decide)) rfl rfl ?_
            refine J_top (y := nI s) hg ?_
            refine G_vpi C dX6_owed_40 (c_X6_wrongOf E hM0 m ρ g h T L hR s hs) gX6_owed_X6_wrongOf rfl dm_X6_wrongOf rfl rfl (hS _ (by decide)) rfl rfl (Nat.le_of_ble_eq_true rfl) (rmOK_b rfl) (fun r40 hr40 => ?_)
            subst hr40
            refine J_iload_1 C dX6_owed_43 ?_
            refine G_spi C dX6_owed_44 (c_X6_has E hM0 (wrN (ρ 0) s m) j (by omega) (by omega) g h T L) gX6_owed_X6_has rfl dm_X6_has rfl rfl (Nat.le_of_ble_eq_true rfl) (rmOK_b rfl) (fun r44 hr44 => ?_)
            subst hr44
            refine J_if_eq C 72 dX6_owed_47 (by decide) (fun hc47 => ?_) (fun hc47 => ?_)
            · skip
              refine J_lload_3 C dX6_owed_72 ?_
              refine hQ _ _ _ _ dX6_owed_73 ⟨rfl, ?_⟩
              first
              | (have hkn : k = n := by
                   have h8 := ge_nI (m := n) (by omega) hc32
                   omega
                 subst hkn
                 rcases hkb with e | e
                 · subst e
                   show (0 : Int64) = _
                   split <;> rfl
                 · rw [if_pos e])
              | (have hb : ¬ (wrN (ρ 0) s m).testBit j = true := fun z => by
                   have h2 := hc47
                   rw [if_pos z] at h2
                   exact absurd h2 (by decide)
                 have hk0 : k = 0 := hkb.resolve_right hb
                 subst hk0
                 rw [if_neg hb]
                 rfl)
            · skip
              have hkn : k < n := lt_nI (m := n) (by omega) hc32
              have hb : (wrN (ρ 0) s m).testBit j = true := Decidable.byContradiction fun z => hc47 (if_neg z)
              refine J_lload_3 C dX6_owed_50 ?_
              refine J_lload_3 C dX6_owed_51 ?_
              refine J_ldc2 C kcX6_owed_122 dX6_owed_52 ?_
              refine J_ldiv C dX6_owed_55 (by decide) ?_
              refine J_aload_0 C dX6_owed_56 ?_
              refine G6_getr C (n := 51) 5 dX6_owed_57 fX6_owed_16 iX6_owed_6 rfl (hS _ (by decide)) rfl rfl ?_
              refine J_iload_1 C dX6_owed_60 ?_
              refine G_iald C j dX6_owed_61 rfl (hS _ (by decide)) rfl (by omega) ?_
              refine J_top (y := nI (ρ 1 j)) (hrow j hj).2.1 ?_
              refine J_i2l C dX6_owed_62 ?_
              refine J_ladd C dX6_owed_63 ?_
              refine J_ladd C dX6_owed_64 ?_
              refine J_lstore_3 C dX6_owed_65 (by decide) trivial ?_
              refine J_iinc_5 C (1) dX6_owed_66 (by decide) trivial ic_1 ?_
              refine J_goto C 29 dX6_owed_69 (by decide) ?_
              rw [nI_1]
              exact ih (k + 1) (by omega) (by omega) (Or.inr hb)
      exact loop (n + 1) 0 (by omega) (by omega) (Or.inl rfl)
    · skip
      refine J_ldc2 C kcX6_owed_120 dX6_owed_20 ?_
      refine hQ _ _ _ _ dX6_owed_23 ⟨rfl, ?_⟩
      unfold owedS
      rw [if_neg (fun ⟨z, z2⟩ => by
        first
        | (have h2 := hc5
           rw [if_pos z] at h2
           exact absurd h2 (by decide))
        | exact absurd (hc17.symm.trans (if_pos ((in_i (k := 50)).mpr z2))) (by decide))]
