def ctV (a b c d e x : Int32) : Int32 := if x = 0 then a else if x = 1 then b else if x = 2 then c else if x = 3 then d else if x = 4 then e else -1
abbrev rmX5_forget : Room := { frames := 1, cells := 0, slots := 0, locals := 20 }
theorem fX5_forget_182 : Cond.fieldLink RX5 182 RX4 (TX4 0).2.1 (TX4 0).2.2.1 ∈ wsX5_forget := by decide +kernel
theorem fX5_forget_59 : Cond.fieldLink RX5 59 RX5 (TX5 9).2.1 (TX5 9).2.2.1 ∈ wsX5_forget := by decide +kernel
theorem iX5_forget_4 : ∀ x ∈ wsX40, x ∈ wsX5_forget := by decide +kernel
theorem iX5_forget_5 : ∀ x ∈ wsX50, x ∈ wsX5_forget := by decide +kernel
theorem dm_X4_dropAll : yX4_dropAll.cls = RX4 ∧ yX4_dropAll.cls ≠ "java/lang/invoke/MethodHandle" ∧ yX4_dropAll.cls ≠ "java/lang/invoke/VarHandle" ∧ (parseMethodDescriptor yX4_dropAll.desc).map (fun d => d.parameters.length) = some 0 := by decide +kernel
set_option maxRecDepth 100000 in
set_option maxHeartbeats 4000000 in
theorem c_X5_forget (E : EN) (hM : EM E) (g : Nat → Int32) (h : Nat → Int64) (T : Nat → Nat → Int32) (L : Nat → Nat → Int64) : GtI E yX5_forget wsX5_forget rmX5_forget [.ref (eA E 0)] g h T L (fun r g2 h2 T2 L2 => r = g 3100 ∧ g2 = upd g 3100 0 ∧ h2 = h ∧ T2 = T ∧ L2 = L) := by
  refine CtI_of (cc := cX5_forget) (nL := 2) RX5 [some (.ref (eA E 0)), none] ⟨rfl, rfl⟩ (by decide) rfl rfl (Nat.le_of_ble_eq_true rfl) ⟨1, rfl⟩ hM.2 (fun Y C hQ => ?_)
  have hM0 := hM
  obtain ⟨hS, hNN⟩ := hM
  refine J_aload_0 C dX5_forget_0 ?_
  refine G5_getr C (n := 31) 9 dX5_forget_1 fX5_forget_59 iX5_forget_5 rfl (hS _ (by decide)) rfl rfl ?_
  refine G4_geti C (n := 3100) 0 dX5_forget_4 fX5_forget_182 iX5_forget_4 rfl (hS _ (by decide)) rfl rfl ?_
  refine J_istore_1 C dX5_forget_7 (by decide) trivial ?_
  refine J_aload_0 C dX5_forget_8 ?_
  refine G5_getr C (n := 31) 9 dX5_forget_9 fX5_forget_59 iX5_forget_5 rfl (hS _ (by decide)) rfl rfl ?_
  refine G_vtv C dX5_forget_12 (c_X4_dropAll E hM0 g h T L) gX5_forget_X4_dropAll rfl dm_X4_dropAll rfl rfl (hS _ (by decide)) rfl rfl (Nat.le_of_ble_eq_true rfl) (rmOK_b rfl) (fun g12 h12 T12 L12 hp12 => ?_)
  refine J_iload_1 C dX5_forget_15 ?_
  refine hQ _ _ _ _ dX5_forget_16 ⟨_, _, _, _, rfl, ?_⟩
  exact ⟨rfl, hp12.1, hp12.2.1, hp12.2.2.1, hp12.2.2.2⟩
abbrev rmX6_forget : Room := { frames := 0, cells := 0, slots := 0, locals := 0 }
theorem fX6_forget_189 : Cond.fieldLink RX6 189 RX6 (TX6 17).2.1 (TX6 17).2.2.1 ∈ wsX6_forget := by decide +kernel
theorem iX6_forget_6 : ∀ x ∈ wsX60, x ∈ wsX6_forget := by decide +kernel
set_option maxRecDepth 100000 in
set_option maxHeartbeats 4000000 in
theorem c_X6_forget (E : EN) (hM : EM E) (g : Nat → Int32) (h : Nat → Int64) (T : Nat → Nat → Int32) (L : Nat → Nat → Int64) : GtI E yX6_forget wsX6_forget rmX6_forget [.ref (eA E 48)] g h T L (fun r g2 h2 T2 L2 => r = g 4817 ∧ g2 = upd g 4817 0 ∧ h2 = h ∧ T2 = T ∧ L2 = L) := by
  refine CtI_of (cc := cX6_forget) (nL := 2) RX6 [some (.ref (eA E 48)), none] ⟨rfl, rfl⟩ (by decide) rfl rfl (Nat.le_of_ble_eq_true rfl) ⟨1, rfl⟩ hM.2 (fun Y C hQ => ?_)
  have hM0 := hM
  obtain ⟨hS, hNN⟩ := hM
  refine J_aload_0 C dX6_forget_0 ?_
  refine G6_geti C (n := 4817) 17 dX6_forget_1 fX6_forget_189 iX6_forget_6 rfl (hS _ (by decide)) rfl rfl ?_
  refine J_istore_1 C dX6_forget_4 (by decide) trivial ?_
  refine J_aload_0 C dX6_forget_5 ?_
  refine J_iconst C (0) dX6_forget_6 ic_0 ?_
  refine G6_puti C (n := 4817) 17 dX6_forget_7 fX6_forget_189 iX6_forget_6 rfl (hS _ (by decide)) rfl (tyX6_ok 17 (by decide)) rfl rfl ?_
  refine J_iload_1 C dX6_forget_10 ?_
  refine hQ _ _ _ _ dX6_forget_11 ⟨_, _, _, _, rfl, ?_⟩
  exact ⟨rfl, rfl, rfl, rfl, rfl⟩
abbrev rmX5_count : Room := { frames := 0, cells := 0, slots := 0, locals := 0 }
theorem fX5_count_13 : Cond.fieldLink RX5 13 RX5 (TX5 1).2.1 (TX5 1).2.2.1 ∈ wsX5_count := by decide +kernel
theorem fX5_count_145 : Cond.fieldLink RX5 145 RX0 (TX0 4).2.1 (TX0 4).2.2.1 ∈ wsX5_count := by decide +kernel
theorem fX5_count_182 : Cond.fieldLink RX5 182 RX4 (TX4 0).2.1 (TX4 0).2.2.1 ∈ wsX5_count := by decide +kernel
theorem fX5_count_240 : Cond.fieldLink RX5 240 RX3 (TX3 0).2.1 (TX3 0).2.2.1 ∈ wsX5_count := by decide +kernel
theorem fX5_count_243 : Cond.fieldLink RX5 243 RX3 (TX3 2).2.1 (TX3 2).2.2.1 ∈ wsX5_count := by decide +kernel
theorem fX5_count_27 : Cond.fieldLink RX5 27 RX5 (TX5 3).2.1 (TX5 3).2.2.1 ∈ wsX5_count := by decide +kernel
theorem fX5_count_37 : Cond.fieldLink RX5 37 RX5 (TX5 5).2.1 (TX5 5).2.2.1 ∈ wsX5_count := by decide +kernel
theorem fX5_count_59 : Cond.fieldLink RX5 59 RX5 (TX5 9).2.1 (TX5 9).2.2.1 ∈ wsX5_count := by decide +kernel
theorem iX5_count_0 : ∀ x ∈ wsX00, x ∈ wsX5_count := by decide +kernel
theorem iX5_count_3 : ∀ x ∈ wsX30, x ∈ wsX5_count := by decide +kernel
theorem iX5_count_4 : ∀ x ∈ wsX40, x ∈ wsX5_count := by decide +kernel
theorem iX5_count_5 : ∀ x ∈ wsX50, x ∈ wsX5_count := by decide +kernel
set_option maxRecDepth 100000 in
set_option maxHeartbeats 4000000 in
theorem c_X5_count (E : EN) (hM : EM E) (g : Nat → Int32) (h : Nat → Int64) (T : Nat → Nat → Int32) (L : Nat → Nat → Int64) (x : Int32) : GpI E yX5_count wsX5_count rmX5_count [.ref (eA E 0), .int x] g h T L (fun r => r = ctV (g 600) (g 602) (g 3100) (g 2004) (g 1) x) := by
  refine CtI_of (cc := cX5_count) (nL := 2) RX5 [some (.ref (eA E 0)), some (.int x)] ⟨rfl, rfl⟩ (by decide) rfl rfl (Nat.le_of_ble_eq_true rfl) ⟨0, rfl⟩ hM.2 (fun Y C hQ => ?_)
  have hM0 := hM
  obtain ⟨hS, hNN⟩ := hM
  refine J_iload_1 C dX5_count_0 ?_
  rcases (sw04 x) with hsw1 | hsw1 | hsw1 | hsw1 | hsw1 | hsw1
  · skip
    subst hsw1
    refine J_tin C 36 dX5_count_1 (by decide) (by decide) rfl (by decide) ?_
    refine J_aload_0 C dX5_count_36 ?_
    refine G5_getr C (n := 6) 3 dX5_count_37 fX5_count_27 iX5_count_5 rfl (hS _ (by decide)) rfl rfl ?_
    refine G3_geti C (n := 600) 0 dX5_count_40 fX5_count_240 iX5_count_3 rfl (hS _ (by decide)) rfl rfl ?_
    refine hQ _ _ _ _ dX5_count_43 ⟨rfl, ?_⟩
    rfl
  · skip
    subst hsw1
    refine J_tin C 44 dX5_count_1 (by decide) (by decide) rfl (by decide) ?_
    refine J_aload_0 C dX5_count_44 ?_
    refine G5_getr C (n := 6) 3 dX5_count_45 fX5_count_27 iX5_count_5 rfl (hS _ (by decide)) rfl rfl ?_
    refine G3_geti C (n := 602) 2 dX5_count_48 fX5_count_243 iX5_count_3 rfl (hS _ (by decide)) rfl rfl ?_
    refine hQ _ _ _ _ dX5_count_51 ⟨rfl, ?_⟩
    rfl
  · skip
    subst hsw1
    refine J_tin C 52 dX5_count_1 (by decide) (by decide) rfl (by decide) ?_
    refine J_aload_0 C dX5_count_52 ?_
    refine G5_getr C (n := 31) 9 dX5_count_53 fX5_count_59 iX5_count_5 rfl (hS _ (by decide)) rfl rfl ?_
    refine G4_geti C (n := 3100) 0 dX5_count_56 fX5_count_182 iX5_count_4 rfl (hS _ (by decide)) rfl rfl ?_
    refine hQ _ _ _ _ dX5_count_59 ⟨rfl, ?_⟩
    rfl
  · skip
    subst hsw1
    refine J_tin C 60 dX5_count_1 (by decide) (by decide) rfl (by decide) ?_
    refine J_aload_0 C dX5_count_60 ?_
    refine G5_getr C (n := 20) 5 dX5_count_61 fX5_count_37 iX5_count_5 rfl (hS _ (by decide)) rfl rfl ?_
    refine G0_geti C (n := 2004) 4 dX5_count_64 fX5_count_145 iX5_count_0 rfl (hS _ (by decide)) rfl rfl ?_
    refine hQ _ _ _ _ dX5_count_67 ⟨rfl, ?_⟩
    rfl
  · skip
    subst hsw1
    refine J_tin C 68 dX5_count_1 (by decide) (by decide) rfl (by decide) ?_
    refine J_aload_0 C dX5_count_68 ?_
    refine G5_geti C (n := 1) 1 dX5_count_69 fX5_count_13 iX5_count_5 rfl (hS _ (by decide)) rfl rfl ?_
    refine hQ _ _ _ _ dX5_count_72 ⟨rfl, ?_⟩
    rfl
  · skip
    refine J_tout C 73 dX5_count_1 hsw1 (by decide) ?_
    refine J_iconst C (-1) dX5_count_73 ic_m1 ?_
    refine hQ _ _ _ _ dX5_count_74 ⟨rfl, ?_⟩
    unfold ctV
    rw [if_neg (fun q => by rw [q] at hsw1; revert hsw1; decide), if_neg (fun q => by rw [q] at hsw1; revert hsw1; decide), if_neg (fun q => by rw [q] at hsw1; revert hsw1; decide), if_neg (fun q => by rw [q] at hsw1; revert hsw1; decide), if_neg (fun q => by rw [q] at hsw1; revert hsw1; decide)]
abbrev rmX6_count : Room := { frames := 0, cells := 0, slots := 0, locals := 0 }
theorem fX6_count_170 : Cond.fieldLink RX6 170 RX6 (TX6 3).2.1 (TX6 3).2.2.1 ∈ wsX6_count := by decide +kernel
theorem fX6_count_186 : Cond.fieldLink RX6 186 RX6 (TX6 15).2.1 (TX6 15).2.2.1 ∈ wsX6_count := by decide +kernel
theorem fX6_count_189 : Cond.fieldLink RX6 189 RX6 (TX6 17).2.1 (TX6 17).2.2.1 ∈ wsX6_count := by decide +kernel
theorem fX6_count_82 : Cond.fieldLink RX6 82 RX6 (TX6 2).2.1 (TX6 2).2.2.1 ∈ wsX6_count := by decide +kernel
theorem fX6_count_91 : Cond.fieldLink RX6 91 RX6 (TX6 1).2.1 (TX6 1).2.2.1 ∈ wsX6_count := by decide +kernel
theorem iX6_count_6 : ∀ x ∈ wsX60, x ∈ wsX6_count := by decide +kernel
set_option maxRecDepth 100000 in
set_option maxHeartbeats 4000000 in
theorem c_X6_count (E : EN) (hM : EM E) (g : Nat → Int32) (h : Nat → Int64) (T : Nat → Nat → Int32) (L : Nat → Nat → Int64) (x : Int32) : GpI E yX6_count wsX6_count rmX6_count [.ref (eA E 48), .int x] g h T L (fun r => r = ctV (g 4802) (g 4803) (g 4817) (g 4815) (g 4801) x) := by
  refine CtI_of (cc := cX6_count) (nL := 2) RX6 [some (.ref (eA E 48)), some (.int x)] ⟨rfl, rfl⟩ (by decide) rfl rfl (Nat.le_of_ble_eq_true rfl) ⟨0, rfl⟩ hM.2 (fun Y C hQ => ?_)
  have hM0 := hM
  obtain ⟨hS, hNN⟩ := hM
  refine J_iload_1 C dX6_count_0 ?_
  refine J_if_ne C 11 dX6_count_1 (by decide) (fun hc1 => ?_) (fun hc1 => ?_)
  · skip
    refine J_iload_1 C dX6_count_11 ?_
    refine J_iconst C (1) dX6_count_12 ic_1 ?_
    refine J_icmp_ne C 23 dX6_count_13 (by decide) (fun hc13 => ?_) (fun hc13 => ?_)
    · skip
      refine J_iload_1 C dX6_count_23 ?_
      refine J_iconst C (2) dX6_count_24 ic_2 ?_
      refine J_icmp_ne C 35 dX6_count_25 (by decide) (fun hc25 => ?_) (fun hc25 => ?_)
      · skip
        refine J_iload_1 C dX6_count_35 ?_
        refine J_iconst C (3) dX6_count_36 ic_3 ?_
        refine J_icmp_ne C 47 dX6_count_37 (by decide) (fun hc37 => ?_) (fun hc37 => ?_)
        · skip
          refine J_iload_1 C dX6_count_47 ?_
          refine J_iconst C (4) dX6_count_48 ic_4 ?_
          refine J_icmp_ne C 59 dX6_count_49 (by decide) (fun hc49 => ?_) (fun hc49 => ?_)
          · skip
            refine J_iconst C (-1) dX6_count_59 ic_m1 ?_
            refine hQ _ _ _ _ dX6_count_60 ⟨rfl, ?_⟩
            unfold ctV
            first
            | rw [if_pos hc1]
            | rw [if_neg hc1, if_pos hc13]
            | rw [if_neg hc1, if_neg hc13, if_pos hc25]
            | rw [if_neg hc1, if_neg hc13, if_neg hc25, if_pos hc37]
            | rw [if_neg hc1, if_neg hc13, if_neg hc25, if_neg hc37, if_pos hc49]
            | rw [if_neg hc1, if_neg hc13, if_neg hc25, if_neg hc37, if_neg hc49]
          · skip
            refine J_aload_0 C dX6_count_52 ?_
            refine G6_geti C (n := 4801) 1 dX6_count_53 fX6_count_91 iX6_count_6 rfl (hS _ (by decide)) rfl rfl ?_
            refine J_goto C 60 dX6_count_56 (by decide) ?_
            refine hQ _ _ _ _ dX6_count_60 ⟨rfl, ?_⟩
            unfold ctV
            first
            | rw [if_pos hc1]
            | rw [if_neg hc1, if_pos hc13]
            | rw [if_neg hc1, if_neg hc13, if_pos hc25]
            | rw [if_neg hc1, if_neg hc13, if_neg hc25, if_pos hc37]
            | rw [if_neg hc1, if_neg hc13, if_neg hc25, if_neg hc37, if_pos hc49]
            | rw [if_neg hc1, if_neg hc13, if_neg hc25, if_neg hc37, if_neg hc49]
        · skip
          refine J_aload_0 C dX6_count_40 ?_
          refine G6_geti C (n := 4815) 15 dX6_count_41 fX6_count_186 iX6_count_6 rfl (hS _ (by decide)) rfl rfl ?_
          refine J_goto C 60 dX6_count_44 (by decide) ?_
          refine hQ _ _ _ _ dX6_count_60 ⟨rfl, ?_⟩
          unfold ctV
          first
          | rw [if_pos hc1]
          | rw [if_neg hc1, if_pos hc13]
          | rw [if_neg hc1, if_neg hc13, if_pos hc25]
          | rw [if_neg hc1, if_neg hc13, if_neg hc25, if_pos hc37]
          | rw [if_neg hc1, if_neg hc13, if_neg hc25, if_neg hc37, if_pos hc49]
          | rw [if_neg hc1, if_neg hc13, if_neg hc25, if_neg hc37, if_neg hc49]
      · skip
        refine J_aload_0 C dX6_count_28 ?_
        refine G6_geti C (n := 4817) 17 dX6_count_29 fX6_count_189 iX6_count_6 rfl (hS _ (by decide)) rfl rfl ?_
        refine J_goto C 60 dX6_count_32 (by decide) ?_
        refine hQ _ _ _ _ dX6_count_60 ⟨rfl, ?_⟩
        unfold ctV
        first
        | rw [if_pos hc1]
        | rw [if_neg hc1, if_pos hc13]
        | rw [if_neg hc1, if_neg hc13, if_pos hc25]
        | rw [if_neg hc1, if_neg hc13, if_neg hc25, if_pos hc37]
        | rw [if_neg hc1, if_neg hc13, if_neg hc25, if_neg hc37, if_pos hc49]
        | rw [if_neg hc1, if_neg hc13, if_neg hc25, if_neg hc37, if_neg hc49]
    · skip
      refine J_aload_0 C dX6_count_16 ?_
      refine G6_geti C (n := 4803) 3 dX6_count_17 fX6_count_170 iX6_count_6 rfl (hS _ (by decide)) rfl rfl ?_
      refine J_goto C 60 dX6_count_20 (by decide) ?_
      refine hQ _ _ _ _ dX6_count_60 ⟨rfl, ?_⟩
      unfold ctV
      first
      | rw [if_pos hc1]
      | rw [if_neg hc1, if_pos hc13]
      | rw [if_neg hc1, if_neg hc13, if_pos hc25]
      | rw [if_neg hc1, if_neg hc13, if_neg hc25, if_pos hc37]
      | rw [if_neg hc1, if_neg hc13, if_neg hc25, if_neg hc37, if_pos hc49]
      | rw [if_neg hc1, if_neg hc13, if_neg hc25, if_neg hc37, if_neg hc49]
  · skip
    refine J_aload_0 C dX6_count_4 ?_
    refine G6_geti C (n := 4802) 2 dX6_count_5 fX6_count_82 iX6_count_6 rfl (hS _ (by decide)) rfl rfl ?_
    refine J_goto C 60 dX6_count_8 (by decide) ?_
    refine hQ _ _ _ _ dX6_count_60 ⟨rfl, ?_⟩
    unfold ctV
    first
    | rw [if_pos hc1]
    | rw [if_neg hc1, if_pos hc13]
    | rw [if_neg hc1, if_neg hc13, if_pos hc25]
    | rw [if_neg hc1, if_neg hc13, if_neg hc25, if_pos hc37]
    | rw [if_neg hc1, if_neg hc13, if_neg hc25, if_neg hc37, if_pos hc49]
    | rw [if_neg hc1, if_neg hc13, if_neg hc25, if_neg hc37, if_neg hc49]
abbrev rmX5_trace : Room := { frames := 0, cells := 0, slots := 0, locals := 0 }
theorem fX5_trace_63 : Cond.fieldLink RX5 63 RX5 (TX5 10).2.1 (TX5 10).2.2.1 ∈ wsX5_trace := by decide +kernel
theorem iX5_trace_5 : ∀ x ∈ wsX50, x ∈ wsX5_trace := by decide +kernel
set_option maxRecDepth 100000 in
set_option maxHeartbeats 4000000 in
theorem c_X5_trace (E : EN) (hM : EM E) (g : Nat → Int32) (h : Nat → Int64) (T : Nat → Nat → Int32) (L : Nat → Nat → Int64) : GpL E yX5_trace wsX5_trace rmX5_trace [.ref (eA E 0)] g h T L (fun r => r = h 10) := by
  refine CtL_of (cc := cX5_trace) (nL := 1) RX5 [some (.ref (eA E 0))] ⟨rfl, rfl⟩ (by decide) rfl rfl (Nat.le_of_ble_eq_true rfl) ⟨0, rfl⟩ hM.2 (fun Y C hQ => ?_)
  have hM0 := hM
  obtain ⟨hS, hNN⟩ := hM
  refine J_aload_0 C dX5_trace_0 ?_
  refine G5_getl C (n := 10) 10 dX5_trace_1 fX5_trace_63 iX5_trace_5 rfl (hS _ (by decide)) rfl rfl ?_
  refine hQ _ _ _ _ dX5_trace_4 ⟨rfl, ?_⟩
  rfl
abbrev rmX6_trace : Room := { frames := 0, cells := 0, slots := 0, locals := 0 }
theorem fX6_trace_255 : Cond.fieldLink RX6 255 RX6 (TX6 22).2.1 (TX6 22).2.2.1 ∈ wsX6_trace := by decide +kernel
theorem iX6_trace_6 : ∀ x ∈ wsX60, x ∈ wsX6_trace := by decide +kernel
set_option maxRecDepth 100000 in
set_option maxHeartbeats 4000000 in
theorem c_X6_trace (E : EN) (hM : EM E) (g : Nat → Int32) (h : Nat → Int64) (T : Nat → Nat → Int32) (L : Nat → Nat → Int64) : GpL E yX6_trace wsX6_trace rmX6_trace [.ref (eA E 48)] g h T L (fun r => r = h 4822) := by
  refine CtL_of (cc := cX6_trace) (nL := 1) RX6 [some (.ref (eA E 48))] ⟨rfl, rfl⟩ (by decide) rfl rfl (Nat.le_of_ble_eq_true rfl) ⟨0, rfl⟩ hM.2 (fun Y C hQ => ?_)
  have hM0 := hM
  obtain ⟨hS, hNN⟩ := hM
  refine J_aload_0 C dX6_trace_0 ?_
  refine G6_getl C (n := 4822) 22 dX6_trace_1 fX6_trace_255 iX6_trace_6 rfl (hS _ (by decide)) rfl rfl ?_
  refine hQ _ _ _ _ dX6_trace_4 ⟨rfl, ?_⟩
  rfl
