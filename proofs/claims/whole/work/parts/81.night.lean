def nightI (b : Bool) (i : Nat) : Nat := if b = true then fzN i else i - 1
def nightS (b : Bool) (c : Int32) (μ : MO) : Int32 × MO := (nI (nightI b μ.2.2.1), (μ.1, μ.2.1, nightI b μ.2.2.1, c, μ.2.2.2.2))
theorem nightI_le {b : Bool} {i : Nat} (h : i ≤ 9) : nightI b i ≤ 9 := by
  unfold nightI
  split
  · unfold fzN; split <;> omega
  · omega
theorem nightS_ok {μ : MO} {b : Bool} {c : Int32} (h : MoOK μ) : MoOK (nightS b c μ).2 := by
  obtain ⟨h1, h2, h3, h4, h5⟩ := h
  exact ⟨h1, h2, nightI_le (b := b) (i := μ.2.2.1) h3, h4, h5⟩
theorem nightI_t {i : Nat} : nightI true i = fzN i := rfl
theorem nightI_f {i : Nat} : nightI false i = i - 1 := rfl
theorem frz : ∀ i, i < 10 → (if (9 : Int32) ≤ nI i then nI i + 0 else nI i + 1) = nI (nightI true i) := by decide +kernel
theorem thw : ∀ i, i < 10 → (if nI i ≤ (0 : Int32) then nI i - 0 else nI i - 1) = nI (nightI false i) := by decide +kernel
abbrev rmX5_night : Room := { frames := 2, cells := 0, slots := 0, locals := 50 }
theorem fX5_night_110 : Cond.fieldLink RX5 110 RX0 (TX0 2).2.1 (TX0 2).2.2.1 ∈ wsX5_night := by decide +kernel
theorem fX5_night_136 : Cond.fieldLink RX5 136 RX3 (TX3 6).2.1 (TX3 6).2.2.1 ∈ wsX5_night := by decide +kernel
theorem fX5_night_27 : Cond.fieldLink RX5 27 RX5 (TX5 3).2.1 (TX5 3).2.2.1 ∈ wsX5_night := by decide +kernel
theorem fX5_night_37 : Cond.fieldLink RX5 37 RX5 (TX5 5).2.1 (TX5 5).2.2.1 ∈ wsX5_night := by decide +kernel
theorem iX5_night_0 : ∀ x ∈ wsX00, x ∈ wsX5_night := by decide +kernel
theorem iX5_night_3 : ∀ x ∈ wsX30, x ∈ wsX5_night := by decide +kernel
theorem iX5_night_5 : ∀ x ∈ wsX50, x ∈ wsX5_night := by decide +kernel
theorem dm_X0_draw : yX0_draw.cls = RX0 ∧ yX0_draw.cls ≠ "java/lang/invoke/MethodHandle" ∧ yX0_draw.cls ≠ "java/lang/invoke/VarHandle" ∧ (parseMethodDescriptor yX0_draw.desc).map (fun d => d.parameters.length) = some 0 := by decide +kernel
theorem dm_X0_freeze : yX0_freeze.cls = RX0 ∧ yX0_freeze.cls ≠ "java/lang/invoke/MethodHandle" ∧ yX0_freeze.cls ≠ "java/lang/invoke/VarHandle" ∧ (parseMethodDescriptor yX0_freeze.desc).map (fun d => d.parameters.length) = some 0 := by decide +kernel
theorem dm_X0_thaw : yX0_thaw.cls = RX0 ∧ yX0_thaw.cls ≠ "java/lang/invoke/MethodHandle" ∧ yX0_thaw.cls ≠ "java/lang/invoke/VarHandle" ∧ (parseMethodDescriptor yX0_thaw.desc).map (fun d => d.parameters.length) = some 0 := by decide +kernel
set_option maxRecDepth 100000 in
set_option maxHeartbeats 4000000 in
theorem c_X5_night (E : EN) (hM : EM E) (g : Nat → Int32) (h : Nat → Int64) (T : Nat → Nat → Int32) (L : Nat → Nat → Int64) (μ : MO) (hmu : MomX g T 20 μ) (hok : MoOK μ) (f : Nat) (c2 : Int32) (hc2 : c2 = lcg μ.2.2.2.1) (b : Bool) (hb : drw c2 < nI f ↔ b = true) (hf : g 606 = nI f) : GtI E yX5_night wsX5_night rmX5_night [.ref (eA E 0)] g h T L (fun r g2 h2 T2 L2 => (r = (nightS b c2 μ).1 ∧ MomX g2 T2 20 (nightS b c2 μ).2 ∧ FrMo g g2 T T2) ∧ h2 = h ∧ L2 = L) := by
  refine CtI_of (cc := cX5_night) (nL := 1) RX5 [some (.ref (eA E 0))] ⟨rfl, rfl⟩ (by decide) rfl rfl (Nat.le_of_ble_eq_true rfl) ⟨0, rfl⟩ hM.2 (fun Y C hQ => ?_)
  have hM0 := hM
  obtain ⟨hS, hNN⟩ := hM
  have hmu0 := hmu
  obtain ⟨a1, a2, a3, a4, a5, a6⟩ := hmu
  obtain ⟨o1, o2, o3, o4, o5⟩ := hok
  have hl : lcg (g 2003) = c2 := by
    rw [show g 2003 = μ.2.2.2.1 from a4]
    exact hc2.symm
  clear hc2
  obtain ⟨d, hd⟩ : ∃ d, d = drw c2 := ⟨_, rfl⟩
  rw [← hd] at hb
  refine J_aload_0 C dX5_night_0 ?_
  refine G5_getr C (n := 20) 5 dX5_night_1 fX5_night_37 iX5_night_5 rfl (hS _ (by decide)) rfl rfl ?_
  refine G_vti C dX5_night_4 (c_X0_draw E hM0 g h T L) gX5_night_X0_draw rfl dm_X0_draw rfl rfl (hS _ (by decide)) rfl rfl (Nat.le_of_ble_eq_true rfl) (rmOK_b rfl) (fun r4 g4 h4 T4 L4 hp4 => ?_)
  obtain ⟨hr4, hg4, rfl, rfl, rfl⟩ := hp4
  rw [hl] at hr4 hg4
  rw [← hd] at hr4
  subst hr4
  subst hg4
  have hf2 : upd g 2003 c2 606 = nI f := by simp [upd]; exact hf
  have hi2 : upd g 2003 c2 2002 = nI μ.2.2.1 := by simp [upd]; exact a3
  clear hl
  refine J_aload_0 C dX5_night_7 ?_
  refine G5_getr C (n := 6) 3 dX5_night_8 fX5_night_27 iX5_night_5 rfl (hS _ (by decide)) rfl rfl ?_
  refine G3_geti C (n := 606) 6 dX5_night_11 fX5_night_136 iX5_night_3 rfl (hS _ (by decide)) rfl rfl ?_
  refine J_icmp_ge C 27 dX5_night_14 (by decide) (fun hc14 => ?_) (fun hc14 => ?_)
  · skip
    rw [hf2] at hc14
    have hct : b = false := Bool.eq_false_iff.mpr fun q => absurd (hb.mpr q) (Int32.not_lt.mpr hc14)
    have hni : μ.2.2.1 - 1 = nightI b μ.2.2.1 := by rw [hct]; rfl
    refine J_aload_0 C dX5_night_27 ?_
    refine G5_getr C (n := 20) 5 dX5_night_28 fX5_night_37 iX5_night_5 rfl (hS _ (by decide)) rfl rfl ?_
    refine G_vtv C dX5_night_31 (c_X0_thaw E hM0 μ.2.2.1 o3 _ _ _ _ hi2) gX5_night_X0_thaw rfl dm_X0_thaw rfl rfl (hS _ (by decide)) rfl rfl (Nat.le_of_ble_eq_true rfl) (rmOK_b rfl) (fun g31 h31 T31 L31 hp31 => ?_)
    rw [hni] at hp31
    obtain ⟨rfl, rfl, rfl, rfl⟩ := hp31
    refine J_aload_0 C dX5_night_34 ?_
    refine G5_getr C (n := 20) 5 dX5_night_35 fX5_night_37 iX5_night_5 rfl (hS _ (by decide)) rfl rfl ?_
    refine G0_geti C (n := 2002) 2 dX5_night_38 fX5_night_110 iX5_night_0 rfl (hS _ (by decide)) rfl rfl ?_
    refine hQ _ _ _ _ dX5_night_41 ⟨_, _, _, _, rfl, ?_⟩
    refine ⟨⟨by simp [upd, nightS], ?_, fun k hk => ?_, fun _ _ _ => rfl⟩, rfl, rfl⟩
    · show MomX _ _ 20 (μ.1, μ.2.1, nightI b μ.2.2.1, c2, μ.2.2.2.2)
      refine ⟨?_, ?_, by simp [upd], by simp [upd], ?_, a6⟩
      · simp [upd]; exact a1
      · simp [upd]; exact a2
      · simp [upd]; exact a5
    · simp only [upd]
      rw [if_neg (by omega), if_neg (by omega)]
  · skip
    rw [hf2] at hc14
    have hct : b = true := hb.mp (Int32.not_le.mp hc14)
    have hni : fzN μ.2.2.1 = nightI b μ.2.2.1 := by rw [hct]; rfl
    refine J_aload_0 C dX5_night_17 ?_
    refine G5_getr C (n := 20) 5 dX5_night_18 fX5_night_37 iX5_night_5 rfl (hS _ (by decide)) rfl rfl ?_
    refine G_vtv C dX5_night_21 (c_X0_freeze E hM0 μ.2.2.1 o3 _ _ _ _ hi2) gX5_night_X0_freeze rfl dm_X0_freeze rfl rfl (hS _ (by decide)) rfl rfl (Nat.le_of_ble_eq_true rfl) (rmOK_b rfl) (fun g21 h21 T21 L21 hp21 => ?_)
    rw [hni] at hp21
    obtain ⟨rfl, rfl, rfl, rfl⟩ := hp21
    refine J_goto C 34 dX5_night_24 (by decide) ?_
    refine J_aload_0 C dX5_night_34 ?_
    refine G5_getr C (n := 20) 5 dX5_night_35 fX5_night_37 iX5_night_5 rfl (hS _ (by decide)) rfl rfl ?_
    refine G0_geti C (n := 2002) 2 dX5_night_38 fX5_night_110 iX5_night_0 rfl (hS _ (by decide)) rfl rfl ?_
    refine hQ _ _ _ _ dX5_night_41 ⟨_, _, _, _, rfl, ?_⟩
    refine ⟨⟨by simp [upd, nightS], ?_, fun k hk => ?_, fun _ _ _ => rfl⟩, rfl, rfl⟩
    · show MomX _ _ 20 (μ.1, μ.2.1, nightI b μ.2.2.1, c2, μ.2.2.2.2)
      refine ⟨?_, ?_, by simp [upd], by simp [upd], ?_, a6⟩
      · simp [upd]; exact a1
      · simp [upd]; exact a2
      · simp [upd]; exact a5
    · simp only [upd]
      rw [if_neg (by omega), if_neg (by omega)]
abbrev rmX6_night : Room := { frames := 0, cells := 0, slots := 0, locals := 0 }
theorem kcX6_night_226 : Cond.constant RX6 226 (1103515245) ∈ wsX6_night := by decide +kernel
theorem fX6_night_183 : Cond.fieldLink RX6 183 RX6 (TX6 13).2.1 (TX6 13).2.2.1 ∈ wsX6_night := by decide +kernel
theorem fX6_night_29 : Cond.fieldLink RX6 29 RX6 (TX6 9).2.1 (TX6 9).2.2.1 ∈ wsX6_night := by decide +kernel
theorem fX6_night_35 : Cond.fieldLink RX6 35 RX6 (TX6 14).2.1 (TX6 14).2.2.1 ∈ wsX6_night := by decide +kernel
theorem iX6_night_6 : ∀ x ∈ wsX60, x ∈ wsX6_night := by decide +kernel
set_option maxRecDepth 100000 in
set_option maxHeartbeats 4000000 in
theorem c_X6_night (E : EN) (hM : EM E) (g : Nat → Int32) (h : Nat → Int64) (T : Nat → Nat → Int32) (L : Nat → Nat → Int64) (μ : MO) (hmu : MoM g T μ) (hok : MoOK μ) (f : Nat) (c2 : Int32) (hc2 : c2 = lcg μ.2.2.2.1) (b : Bool) (hb : drw c2 < nI f ↔ b = true) (hf : g 4809 = nI f) : GtI E yX6_night wsX6_night rmX6_night [.ref (eA E 48)] g h T L (fun r g2 h2 T2 L2 => (r = (nightS b c2 μ).1 ∧ MoM g2 T2 (nightS b c2 μ).2 ∧ FrMm g g2 T T2) ∧ h2 = h ∧ L2 = L) := by
  refine CtI_of (cc := cX6_night) (nL := 1) RX6 [some (.ref (eA E 48))] ⟨rfl, rfl⟩ (by decide) rfl rfl (Nat.le_of_ble_eq_true rfl) ⟨0, rfl⟩ hM.2 (fun Y C hQ => ?_)
  have hM0 := hM
  obtain ⟨hS, hNN⟩ := hM
  have hmu0 := hmu
  obtain ⟨a1, a2, a3, a4, a5, a6⟩ := hmu
  obtain ⟨o1, o2, o3, o4, o5⟩ := hok
  have hl : lcg (g 4814) = c2 := by
    rw [show g 4814 = μ.2.2.2.1 from a4]
    exact hc2.symm
  clear hc2
  obtain ⟨d, hd⟩ : ∃ d, d = drw c2 := ⟨_, rfl⟩
  rw [← hd] at hb
  have hf2 : upd g 4814 c2 4809 = nI f := by simp [upd]; exact hf
  have hi2 : upd g 4814 c2 4813 = nI μ.2.2.1 := by simp [upd]; exact a3
  have hz1 := frz μ.2.2.1 (by omega)
  have hz2 := thw μ.2.2.1 (by omega)
  refine J_aload_0 C dX6_night_0 ?_
  refine J_aload_0 C dX6_night_1 ?_
  refine G6_geti C (n := 4814) 14 dX6_night_2 fX6_night_35 iX6_night_6 rfl (hS _ (by decide)) rfl rfl ?_
  refine J_ldc C kcX6_night_226 dX6_night_5 ?_
  refine J_imul C dX6_night_7 ?_
  refine J_sipush C (12345) dX6_night_8 sc_12345 ?_
  refine J_iadd C dX6_night_11 ?_
  refine J_top (y := c2) hl ?_
  clear hl
  refine G6_puti C (n := 4814) 14 dX6_night_12 fX6_night_35 iX6_night_6 rfl (hS _ (by decide)) rfl (tyX6_ok 14 (by decide)) rfl rfl ?_
  refine J_aload_0 C dX6_night_15 ?_
  refine G6_geti C (n := 4814) 14 dX6_night_16 fX6_night_35 iX6_night_6 rfl (hS _ (by decide)) rfl rfl ?_
  refine J_top (y := c2) (by simp [upd]) ?_
  refine J_bipush C (16) dX6_night_19 bc_16 ?_
  refine J_iushr C dX6_night_21 ?_
  refine J_top (y := usI c2 16) rfl ?_
  refine J_bipush C (10) dX6_night_22 bc_10 ?_
  refine J_irem C dX6_night_24 (by decide) ?_
  refine J_top (y := d) hd.symm ?_
  refine J_aload_0 C dX6_night_25 ?_
  refine G6_geti C (n := 4809) 9 dX6_night_26 fX6_night_29 iX6_night_6 rfl (hS _ (by decide)) rfl rfl ?_
  refine J_icmp_ge C 58 dX6_night_29 (by decide) (fun hc29 => ?_) (fun hc29 => ?_)
  · skip
    rw [hf2] at hc29
    have hct : b = false := Bool.eq_false_iff.mpr fun q => absurd (hb.mpr q) (Int32.not_lt.mpr hc29)
    refine J_aload_0 C dX6_night_58 ?_
    refine J_dup C dX6_night_59 ?_
    refine G6_geti C (n := 4813) 13 dX6_night_60 fX6_night_183 iX6_night_6 rfl (hS _ (by decide)) rfl rfl ?_
    refine J_aload_0 C dX6_night_63 ?_
    refine G6_geti C (n := 4813) 13 dX6_night_64 fX6_night_183 iX6_night_6 rfl (hS _ (by decide)) rfl rfl ?_
    refine J_if_le C 74 dX6_night_67 (by decide) (fun hc67 => ?_) (fun hc67 => ?_)
    · skip
      refine J_iconst C (0) dX6_night_74 ic_0 ?_
      refine J_isub C dX6_night_75 ?_
      rw [hi2] at hc67
      refine J_top (y := nI (nightI b μ.2.2.1)) (by
        rw [hi2, hct]
        first
        | (have z := hz2; rw [if_pos hc67] at z; exact z)
        | (have z := hz2; rw [if_neg hc67] at z; exact z)) ?_
      refine G6_puti C (n := 4813) 13 dX6_night_76 fX6_night_183 iX6_night_6 rfl (hS _ (by decide)) rfl (tyX6_ok 13 (by decide)) rfl rfl ?_
      refine J_aload_0 C dX6_night_79 ?_
      refine G6_geti C (n := 4813) 13 dX6_night_80 fX6_night_183 iX6_night_6 rfl (hS _ (by decide)) rfl rfl ?_
      refine hQ _ _ _ _ dX6_night_83 ⟨_, _, _, _, rfl, ?_⟩
      refine ⟨⟨by simp [upd, nightS], ?_, fun k hk => ?_, fun _ _ => rfl⟩, rfl, rfl⟩
      · show MoM _ _ (μ.1, μ.2.1, nightI b μ.2.2.1, c2, μ.2.2.2.2)
        refine ⟨?_, ?_, by simp [upd], by simp [upd], ?_, a6⟩
        · simp [upd]; exact a1
        · simp [upd]; exact a2
        · simp [upd]; exact a5
      · simp only [upd]
        rw [if_neg (by omega), if_neg (by omega)]
    · skip
      refine J_iconst C (1) dX6_night_70 ic_1 ?_
      refine J_goto C 75 dX6_night_71 (by decide) ?_
      refine J_isub C dX6_night_75 ?_
      rw [hi2] at hc67
      refine J_top (y := nI (nightI b μ.2.2.1)) (by
        rw [hi2, hct]
        first
        | (have z := hz2; rw [if_pos hc67] at z; exact z)
        | (have z := hz2; rw [if_neg hc67] at z; exact z)) ?_
      refine G6_puti C (n := 4813) 13 dX6_night_76 fX6_night_183 iX6_night_6 rfl (hS _ (by decide)) rfl (tyX6_ok 13 (by decide)) rfl rfl ?_
      refine J_aload_0 C dX6_night_79 ?_
      refine G6_geti C (n := 4813) 13 dX6_night_80 fX6_night_183 iX6_night_6 rfl (hS _ (by decide)) rfl rfl ?_
      refine hQ _ _ _ _ dX6_night_83 ⟨_, _, _, _, rfl, ?_⟩
      refine ⟨⟨by simp [upd, nightS], ?_, fun k hk => ?_, fun _ _ => rfl⟩, rfl, rfl⟩
      · show MoM _ _ (μ.1, μ.2.1, nightI b μ.2.2.1, c2, μ.2.2.2.2)
        refine ⟨?_, ?_, by simp [upd], by simp [upd], ?_, a6⟩
        · simp [upd]; exact a1
        · simp [upd]; exact a2
        · simp [upd]; exact a5
      · simp only [upd]
        rw [if_neg (by omega), if_neg (by omega)]
  · skip
    rw [hf2] at hc29
    have hct : b = true := hb.mp (Int32.not_le.mp hc29)
    refine J_aload_0 C dX6_night_32 ?_
    refine J_dup C dX6_night_33 ?_
    refine G6_geti C (n := 4813) 13 dX6_night_34 fX6_night_183 iX6_night_6 rfl (hS _ (by decide)) rfl rfl ?_
    refine J_aload_0 C dX6_night_37 ?_
    refine G6_geti C (n := 4813) 13 dX6_night_38 fX6_night_183 iX6_night_6 rfl (hS _ (by decide)) rfl rfl ?_
    refine J_bipush C (9) dX6_night_41 bc_9 ?_
    refine J_icmp_ge C 50 dX6_night_43 (by decide) (fun hc43 => ?_) (fun hc43 => ?_)
    · skip
      refine J_iconst C (0) dX6_night_50 ic_0 ?_
      refine J_iadd C dX6_night_51 ?_
      rw [hi2] at hc43
      refine J_top (y := nI (nightI b μ.2.2.1)) (by
        rw [hi2, hct]
        first
        | (have z := hz1; rw [if_pos hc43] at z; exact z)
        | (have z := hz1; rw [if_neg hc43] at z; exact z)) ?_
      refine G6_puti C (n := 4813) 13 dX6_night_52 fX6_night_183 iX6_night_6 rfl (hS _ (by decide)) rfl (tyX6_ok 13 (by decide)) rfl rfl ?_
      refine J_goto C 79 dX6_night_55 (by decide) ?_
      refine J_aload_0 C dX6_night_79 ?_
      refine G6_geti C (n := 4813) 13 dX6_night_80 fX6_night_183 iX6_night_6 rfl (hS _ (by decide)) rfl rfl ?_
      refine hQ _ _ _ _ dX6_night_83 ⟨_, _, _, _, rfl, ?_⟩
      refine ⟨⟨by simp [upd, nightS], ?_, fun k hk => ?_, fun _ _ => rfl⟩, rfl, rfl⟩
      · show MoM _ _ (μ.1, μ.2.1, nightI b μ.2.2.1, c2, μ.2.2.2.2)
        refine ⟨?_, ?_, by simp [upd], by simp [upd], ?_, a6⟩
        · simp [upd]; exact a1
        · simp [upd]; exact a2
        · simp [upd]; exact a5
      · simp only [upd]
        rw [if_neg (by omega), if_neg (by omega)]
    · skip
      refine J_iconst C (1) dX6_night_46 ic_1 ?_
      refine J_goto C 51 dX6_night_47 (by decide) ?_
      refine J_iadd C dX6_night_51 ?_
      rw [hi2] at hc43
      refine J_top (y := nI (nightI b μ.2.2.1)) (by
        rw [hi2, hct]
        first
        | (have z := hz1; rw [if_pos hc43] at z; exact z)
        | (have z := hz1; rw [if_neg hc43] at z; exact z)) ?_
      refine G6_puti C (n := 4813) 13 dX6_night_52 fX6_night_183 iX6_night_6 rfl (hS _ (by decide)) rfl (tyX6_ok 13 (by decide)) rfl rfl ?_
      refine J_goto C 79 dX6_night_55 (by decide) ?_
      refine J_aload_0 C dX6_night_79 ?_
      refine G6_geti C (n := 4813) 13 dX6_night_80 fX6_night_183 iX6_night_6 rfl (hS _ (by decide)) rfl rfl ?_
      refine hQ _ _ _ _ dX6_night_83 ⟨_, _, _, _, rfl, ?_⟩
      refine ⟨⟨by simp [upd, nightS], ?_, fun k hk => ?_, fun _ _ => rfl⟩, rfl, rfl⟩
      · show MoM _ _ (μ.1, μ.2.1, nightI b μ.2.2.1, c2, μ.2.2.2.2)
        refine ⟨?_, ?_, by simp [upd], by simp [upd], ?_, a6⟩
        · simp [upd]; exact a1
        · simp [upd]; exact a2
        · simp [upd]; exact a5
      · simp only [upd]
        rw [if_neg (by omega), if_neg (by omega)]
