def SwR (m k : Nat) (c t b : Int32) (r : Int32) (g g2 : Nat → Int32) (T T2 : Nat → Nat → Int32) (cg c1 c2 c3 : Nat) : Prop := (¬ ((0 ≤ c ∧ c ≤ 5) ∧ (0 ≤ t ∧ t < nI m) ∧ 0 ≤ b ∧ b ≤ 1) ∧ r = -1 ∧ g2 = g ∧ T2 = T) ∨ ∃ i j w, c = nI i ∧ i ≤ 5 ∧ t = nI j ∧ j < m ∧ b = nI w ∧ w ≤ 1 ∧ ((8 ≤ k ∧ r = -3 ∧ g2 = g ∧ T2 = T) ∨ (k < 8 ∧ r = nI (k + 1) ∧ g2 = upd g cg (nI (k + 1)) ∧ T2 = va_up (va_up (va_up T c1 (upd (T c1) k c)) c2 (upd (T c2) k t)) c3 (upd (T c3) k b)))
abbrev rmX5_saw : Room := { frames := 1, cells := 0, slots := 0, locals := 23 }
theorem fX5_saw_182 : Cond.fieldLink RX5 182 RX4 (TX4 0).2.1 (TX4 0).2.2.1 ∈ wsX5_saw := by decide +kernel
theorem fX5_saw_27 : Cond.fieldLink RX5 27 RX5 (TX5 3).2.1 (TX5 3).2.2.1 ∈ wsX5_saw := by decide +kernel
theorem fX5_saw_59 : Cond.fieldLink RX5 59 RX5 (TX5 9).2.1 (TX5 9).2.2.1 ∈ wsX5_saw := by decide +kernel
theorem iX5_saw_4 : ∀ x ∈ wsX40, x ∈ wsX5_saw := by decide +kernel
theorem iX5_saw_5 : ∀ x ∈ wsX50, x ∈ wsX5_saw := by decide +kernel
theorem dm_X4_add : yX4_add.cls = RX4 ∧ yX4_add.cls ≠ "java/lang/invoke/MethodHandle" ∧ yX4_add.cls ≠ "java/lang/invoke/VarHandle" ∧ (parseMethodDescriptor yX4_add.desc).map (fun d => d.parameters.length) = some 3 := by decide +kernel
set_option maxRecDepth 100000 in
set_option maxHeartbeats 4000000 in
theorem c_X5_saw (E : EN) (hM : EM E) (g : Nat → Int32) (h : Nat → Int64) (T : Nat → Nat → Int32) (L : Nat → Nat → Int64) (m : Nat) (ρ : Nat → Nat → Nat) (hR : RvX g T m ρ) (k : Nat) (hk : k ≤ 8) (hg : g 3100 = nI k) (c t b : Int32) : GtI E yX5_saw wsX5_saw rmX5_saw [.ref (eA E 0), .int c, .int t, .int b] g h T L (fun r g2 h2 T2 L2 => SwR m k c t b r g g2 T T2 3100 32 33 34 ∧ h2 = h ∧ L2 = L) := by
  refine CtI_of (cc := cX5_saw) (nL := 4) RX5 [some (.ref (eA E 0)), some (.int c), some (.int t), some (.int b)] ⟨rfl, rfl⟩ (by decide) rfl rfl (Nat.le_of_ble_eq_true rfl) ⟨0, rfl⟩ hM.2 (fun Y C hQ => ?_)
  have hM0 := hM
  obtain ⟨hS, hNN⟩ := hM
  have hm := hR.1
  have h6 : g (100 * 6 + 0) = nI m := hR.2.1
  refine J_iload_1 C dX5_saw_0 ?_
  refine J_if_lt C 29 dX5_saw_1 (by decide) (fun hc1 => ?_) (fun hc1 => ?_)
  · skip
    refine J_iconst C (-1) dX5_saw_29 ic_m1 ?_
    refine hQ _ _ _ _ dX5_saw_30 ⟨_, _, _, _, rfl, ?_⟩
    refine ⟨Or.inl ⟨fun ⟨⟨z1, z2⟩, z3, z4, z5⟩ => ?_, rfl, rfl, rfl⟩, rfl, rfl⟩
    first
    | exact absurd hc1 (Int32.not_lt.mpr z1)
    | exact absurd hc6 (Int32.not_lt.mpr z2)
    | (rw [h6, if_pos z3] at hc17; exact absurd hc17 (by decide))
    | exact absurd hc21 (Int32.not_lt.mpr z4)
    | exact absurd z5 hc26
  · skip
    refine J_iload_1 C dX5_saw_4 ?_
    refine J_iconst C (5) dX5_saw_5 ic_5 ?_
    refine J_icmp_gt C 29 dX5_saw_6 (by decide) (fun hc6 => ?_) (fun hc6 => ?_)
    · skip
      refine J_iconst C (-1) dX5_saw_29 ic_m1 ?_
      refine hQ _ _ _ _ dX5_saw_30 ⟨_, _, _, _, rfl, ?_⟩
      refine ⟨Or.inl ⟨fun ⟨⟨z1, z2⟩, z3, z4, z5⟩ => ?_, rfl, rfl, rfl⟩, rfl, rfl⟩
      first
      | exact absurd hc1 (Int32.not_lt.mpr z1)
      | exact absurd hc6 (Int32.not_lt.mpr z2)
      | (rw [h6, if_pos z3] at hc17; exact absurd hc17 (by decide))
      | exact absurd hc21 (Int32.not_lt.mpr z4)
      | exact absurd z5 hc26
    · skip
      refine J_aload_0 C dX5_saw_9 ?_
      refine G5_getr C (n := 6) 3 dX5_saw_10 fX5_saw_27 iX5_saw_5 rfl (hS _ (by decide)) rfl rfl ?_
      refine J_iload_2 C dX5_saw_13 ?_
      refine G_vpi C dX5_saw_14 (c_X3_has E hNN 6 rfl (hS _ (by decide)) t g h T L) gX5_saw_X3_has rfl dm_X3_has rfl rfl (hS _ (by decide)) rfl rfl (Nat.le_of_ble_eq_true rfl) (rmOK_b rfl) (fun r14 hr14 => ?_)
      subst hr14
      refine J_if_eq C 29 dX5_saw_17 (by decide) (fun hc17 => ?_) (fun hc17 => ?_)
      · skip
        refine J_iconst C (-1) dX5_saw_29 ic_m1 ?_
        refine hQ _ _ _ _ dX5_saw_30 ⟨_, _, _, _, rfl, ?_⟩
        refine ⟨Or.inl ⟨fun ⟨⟨z1, z2⟩, z3, z4, z5⟩ => ?_, rfl, rfl, rfl⟩, rfl, rfl⟩
        first
        | exact absurd hc1 (Int32.not_lt.mpr z1)
        | exact absurd hc6 (Int32.not_lt.mpr z2)
        | (rw [h6, if_pos z3] at hc17; exact absurd hc17 (by decide))
        | exact absurd hc21 (Int32.not_lt.mpr z4)
        | exact absurd z5 hc26
      · skip
        refine J_iload_3 C dX5_saw_20 ?_
        refine J_if_lt C 29 dX5_saw_21 (by decide) (fun hc21 => ?_) (fun hc21 => ?_)
        · skip
          refine J_iconst C (-1) dX5_saw_29 ic_m1 ?_
          refine hQ _ _ _ _ dX5_saw_30 ⟨_, _, _, _, rfl, ?_⟩
          refine ⟨Or.inl ⟨fun ⟨⟨z1, z2⟩, z3, z4, z5⟩ => ?_, rfl, rfl, rfl⟩, rfl, rfl⟩
          first
          | exact absurd hc1 (Int32.not_lt.mpr z1)
          | exact absurd hc6 (Int32.not_lt.mpr z2)
          | (rw [h6, if_pos z3] at hc17; exact absurd hc17 (by decide))
          | exact absurd hc21 (Int32.not_lt.mpr z4)
          | exact absurd z5 hc26
        · skip
          refine J_iload_3 C dX5_saw_24 ?_
          refine J_iconst C (1) dX5_saw_25 ic_1 ?_
          refine J_icmp_le C 31 dX5_saw_26 (by decide) (fun hc26 => ?_) (fun hc26 => ?_)
          · skip
            have ht : 0 ≤ t ∧ t < nI m := Decidable.byContradiction fun z => by rw [h6, if_neg z] at hc17; exact hc17 rfl
            obtain ⟨j, rfl, hj⟩ := t_in (t := t) (m := m) hm ht
            obtain ⟨i, hi, rfl⟩ := nI_of2 (x := c) (M := 5) (n := 5) (by decide) (Int32.not_lt.mpr (Int32.not_lt.mp hc1)) (Int32.not_lt.mp hc6)
            obtain ⟨w, hw, rfl⟩ := nI_of2 (x := b) (M := 1) (n := 1) (by decide) hc21 hc26
            refine J_aload_0 C dX5_saw_31 ?_
            refine G5_getr C (n := 31) 9 dX5_saw_32 fX5_saw_59 iX5_saw_5 rfl (hS _ (by decide)) rfl rfl ?_
            refine G4_geti C (n := 3100) 0 dX5_saw_35 fX5_saw_182 iX5_saw_4 rfl (hS _ (by decide)) rfl rfl ?_
            refine J_bipush C (8) dX5_saw_38 bc_8 ?_
            refine J_icmp_lt C 46 dX5_saw_40 (by decide) (fun hc40 => ?_) (fun hc40 => ?_)
            · skip
              have hk8 : k < 8 := by
                rw [hg] at hc40
                exact (nI_ltI (b := 8) (by omega) (by decide)).mp hc40
              refine J_aload_0 C dX5_saw_46 ?_
              refine G5_getr C (n := 31) 9 dX5_saw_47 fX5_saw_59 iX5_saw_5 rfl (hS _ (by decide)) rfl rfl ?_
              refine J_iload_1 C dX5_saw_50 ?_
              refine J_iload_2 C dX5_saw_51 ?_
              refine J_iload_3 C dX5_saw_52 ?_
              refine G_vtv C dX5_saw_53 (c_X4_add E hM0 g h T L k hk8 hg i j w) gX5_saw_X4_add rfl dm_X4_add rfl rfl (hS _ (by decide)) rfl rfl (Nat.le_of_ble_eq_true rfl) (rmOK_b rfl) (fun g53 h53 T53 L53 hp53 => ?_)
              refine J_aload_0 C dX5_saw_56 ?_
              refine G5_getr C (n := 31) 9 dX5_saw_57 fX5_saw_59 iX5_saw_5 rfl (hS _ (by decide)) rfl rfl ?_
              refine G4_geti C (n := 3100) 0 dX5_saw_60 fX5_saw_182 iX5_saw_4 rfl (hS _ (by decide)) rfl rfl ?_
              refine hQ _ _ _ _ dX5_saw_63 ⟨_, _, _, _, rfl, ?_⟩
              obtain ⟨rfl, rfl, rfl, rfl⟩ := hp53
              exact ⟨Or.inr ⟨i, j, w, rfl, hi, rfl, hj, rfl, hw, Or.inr ⟨hk8, by simp [upd], rfl, rfl⟩⟩, rfl, rfl⟩
            · skip
              refine J_bipush C (-3) dX5_saw_43 bc_m3 ?_
              refine hQ _ _ _ _ dX5_saw_45 ⟨_, _, _, _, rfl, ?_⟩
              have hk8 : 8 ≤ k := by
                rw [hg] at hc40
                exact Nat.le_of_not_lt fun q => hc40 ((nI_ltI (b := 8) (by omega) (by decide)).mpr q)
              exact ⟨Or.inr ⟨i, j, w, rfl, hi, rfl, hj, rfl, hw, Or.inl ⟨hk8, rfl, rfl, rfl⟩⟩, rfl, rfl⟩
          · skip
            refine J_iconst C (-1) dX5_saw_29 ic_m1 ?_
            refine hQ _ _ _ _ dX5_saw_30 ⟨_, _, _, _, rfl, ?_⟩
            refine ⟨Or.inl ⟨fun ⟨⟨z1, z2⟩, z3, z4, z5⟩ => ?_, rfl, rfl, rfl⟩, rfl, rfl⟩
            first
            | exact absurd hc1 (Int32.not_lt.mpr z1)
            | exact absurd hc6 (Int32.not_lt.mpr z2)
            | (rw [h6, if_pos z3] at hc17; exact absurd hc17 (by decide))
            | exact absurd hc21 (Int32.not_lt.mpr z4)
            | exact absurd z5 hc26
