theorem sw06 (x : Int32) : x = 0 ∨ x = 1 ∨ x = 2 ∨ x = 3 ∨ x = 4 ∨ x = 5 ∨ x = 6 ∨ (x.toInt < 0 ∨ 6 < x.toInt) := by
  by_cases h : x.toInt < 0 ∨ 6 < x.toInt
  · exact Or.inr (Or.inr (Or.inr (Or.inr (Or.inr (Or.inr (Or.inr h))))))
  · have h2 : x.toInt = 0 ∨ x.toInt = 1 ∨ x.toInt = 2 ∨ x.toInt = 3 ∨ x.toInt = 4 ∨ x.toInt = 5 ∨ x.toInt = 6 := by omega
    rcases h2 with e | e | e | e | e | e | e
    · exact Or.inl (Int32.toInt_inj.mp e)
    · exact Or.inr (Or.inl (Int32.toInt_inj.mp e))
    · exact Or.inr (Or.inr (Or.inl (Int32.toInt_inj.mp e)))
    · exact Or.inr (Or.inr (Or.inr (Or.inl (Int32.toInt_inj.mp e))))
    · exact Or.inr (Or.inr (Or.inr (Or.inr (Or.inl (Int32.toInt_inj.mp e)))))
    · exact Or.inr (Or.inr (Or.inr (Or.inr (Or.inr (Or.inl (Int32.toInt_inj.mp e))))))
    · exact Or.inr (Or.inr (Or.inr (Or.inr (Or.inr (Or.inr (Or.inl (Int32.toInt_inj.mp e)))))))
def nwV (m : Nat) (ρ : Nat → Nat → Nat) (s : Nat) (ld da ic x : Int32) : Int32 := if x = 0 then nI (s / 128) else if x = 1 then ld else if x = 2 then da else if x = 3 then ic else if x = 4 then nI (wrN (ρ 0) s m) else if x = 5 then nI (wN (ρ 1) (wrN (ρ 0) s m) m) else if x = 6 then (if sfN (ρ 3) ((2 ^ m - 1) ^^^ hN m s) m = true then 1 else 0) else -1
abbrev rmX5_now : Room := { frames := 3, cells := 0, slots := 0, locals := 62 }
theorem fX5_now_104 : Cond.fieldLink RX5 104 RX3 (TX3 4).2.1 (TX3 4).2.2.1 ∈ wsX5_now := by decide +kernel
theorem fX5_now_107 : Cond.fieldLink RX5 107 RX0 (TX0 1).2.1 (TX0 1).2.2.1 ∈ wsX5_now := by decide +kernel
theorem fX5_now_110 : Cond.fieldLink RX5 110 RX0 (TX0 2).2.1 (TX0 2).2.2.1 ∈ wsX5_now := by decide +kernel
theorem fX5_now_27 : Cond.fieldLink RX5 27 RX5 (TX5 3).2.1 (TX5 3).2.2.1 ∈ wsX5_now := by decide +kernel
theorem fX5_now_37 : Cond.fieldLink RX5 37 RX5 (TX5 5).2.1 (TX5 5).2.2.1 ∈ wsX5_now := by decide +kernel
theorem fX5_now_98 : Cond.fieldLink RX5 98 RX0 (TX0 0).2.1 (TX0 0).2.2.1 ∈ wsX5_now := by decide +kernel
theorem iX5_now_0 : ∀ x ∈ wsX00, x ∈ wsX5_now := by decide +kernel
theorem iX5_now_3 : ∀ x ∈ wsX30, x ∈ wsX5_now := by decide +kernel
theorem iX5_now_5 : ∀ x ∈ wsX50, x ∈ wsX5_now := by decide +kernel
theorem dm_X3_isSafe : yX3_isSafe.cls = RX3 ∧ yX3_isSafe.cls ≠ "java/lang/invoke/MethodHandle" ∧ yX3_isSafe.cls ≠ "java/lang/invoke/VarHandle" ∧ (parseMethodDescriptor yX3_isSafe.desc).map (fun d => d.parameters.length) = some 1 := by decide +kernel
set_option maxRecDepth 100000 in
set_option maxHeartbeats 4000000 in
theorem c_X5_now (E : EN) (hM : EM E) (g : Nat → Int32) (h : Nat → Int64) (T : Nat → Nat → Int32) (L : Nat → Nat → Int64) (m : Nat) (ρ : Nat → Nat → Nat) (hR : RvX g T m ρ) (s : Nat) (hs : s < 256) (hg : g 2000 = nI s) (ld da ic : Int32) (hl : g 604 = ld) (hd : g 2001 = da) (hi : g 2002 = ic) (x : Int32) : GpI E yX5_now wsX5_now rmX5_now [.ref (eA E 0), .int x] g h T L (fun r => r = nwV m ρ s ld da ic x) := by
  refine CtI_of (cc := cX5_now) (nL := 2) RX5 [some (.ref (eA E 0)), some (.int x)] ⟨rfl, rfl⟩ (by decide) rfl rfl (Nat.le_of_ble_eq_true rfl) ⟨0, rfl⟩ hM.2 (fun Y C hQ => ?_)
  have hM0 := hM
  obtain ⟨hS, hNN⟩ := hM
  refine J_iload_1 C dX5_now_0 ?_
  rcases (sw06 x) with hsw1 | hsw1 | hsw1 | hsw1 | hsw1 | hsw1 | hsw1 | hsw1
  · skip
    subst hsw1
    refine J_tin C 44 dX5_now_1 (by decide) (by decide) rfl (by decide) ?_
    refine J_aload_0 C dX5_now_44 ?_
    refine G5_getr C (n := 20) 5 dX5_now_45 fX5_now_37 iX5_now_5 rfl (hS _ (by decide)) rfl rfl ?_
    refine G0_geti C (n := 2000) 0 dX5_now_48 fX5_now_98 iX5_now_0 rfl (hS _ (by decide)) rfl rfl ?_
    rw [hg]
    refine G_spi C dX5_now_51 (c_X3_ferryOf E hM0 s hs g h T L) gX5_now_X3_ferryOf rfl dm_X3_ferryOf rfl rfl (Nat.le_of_ble_eq_true rfl) (rmOK_b rfl) (fun r51 hr51 => ?_)
    subst hr51
    refine hQ _ _ _ _ dX5_now_54 ⟨rfl, ?_⟩
    rfl
  · skip
    subst hsw1
    refine J_tin C 55 dX5_now_1 (by decide) (by decide) rfl (by decide) ?_
    refine J_aload_0 C dX5_now_55 ?_
    refine G5_getr C (n := 6) 3 dX5_now_56 fX5_now_27 iX5_now_5 rfl (hS _ (by decide)) rfl rfl ?_
    refine G3_geti C (n := 604) 4 dX5_now_59 fX5_now_104 iX5_now_3 rfl (hS _ (by decide)) rfl rfl ?_
    refine hQ _ _ _ _ dX5_now_62 ⟨rfl, ?_⟩
    exact hl
  · skip
    subst hsw1
    refine J_tin C 63 dX5_now_1 (by decide) (by decide) rfl (by decide) ?_
    refine J_aload_0 C dX5_now_63 ?_
    refine G5_getr C (n := 20) 5 dX5_now_64 fX5_now_37 iX5_now_5 rfl (hS _ (by decide)) rfl rfl ?_
    refine G0_geti C (n := 2001) 1 dX5_now_67 fX5_now_107 iX5_now_0 rfl (hS _ (by decide)) rfl rfl ?_
    refine hQ _ _ _ _ dX5_now_70 ⟨rfl, ?_⟩
    exact hd
  · skip
    subst hsw1
    refine J_tin C 71 dX5_now_1 (by decide) (by decide) rfl (by decide) ?_
    refine J_aload_0 C dX5_now_71 ?_
    refine G5_getr C (n := 20) 5 dX5_now_72 fX5_now_37 iX5_now_5 rfl (hS _ (by decide)) rfl rfl ?_
    refine G0_geti C (n := 2002) 2 dX5_now_75 fX5_now_110 iX5_now_0 rfl (hS _ (by decide)) rfl rfl ?_
    refine hQ _ _ _ _ dX5_now_78 ⟨rfl, ?_⟩
    exact hi
  · skip
    subst hsw1
    refine J_tin C 79 dX5_now_1 (by decide) (by decide) rfl (by decide) ?_
    refine J_aload_0 C dX5_now_79 ?_
    refine G5_getr C (n := 6) 3 dX5_now_80 fX5_now_27 iX5_now_5 rfl (hS _ (by decide)) rfl rfl ?_
    refine J_aload_0 C dX5_now_83 ?_
    refine G5_getr C (n := 20) 5 dX5_now_84 fX5_now_37 iX5_now_5 rfl (hS _ (by decide)) rfl rfl ?_
    refine G0_geti C (n := 2000) 0 dX5_now_87 fX5_now_98 iX5_now_0 rfl (hS _ (by decide)) rfl rfl ?_
    rw [hg]
    refine G_vpi C dX5_now_90 (c_X3_wrongOf E hM0 m ρ g h T L hR s hs) gX5_now_X3_wrongOf rfl dm_X3_wrongOf rfl rfl (hS _ (by decide)) rfl rfl (Nat.le_of_ble_eq_true rfl) (rmOK_b rfl) (fun r90 hr90 => ?_)
    subst hr90
    refine hQ _ _ _ _ dX5_now_93 ⟨rfl, ?_⟩
    rfl
  · skip
    subst hsw1
    refine J_tin C 94 dX5_now_1 (by decide) (by decide) rfl (by decide) ?_
    refine J_aload_0 C dX5_now_94 ?_
    refine G5_getr C (n := 6) 3 dX5_now_95 fX5_now_27 iX5_now_5 rfl (hS _ (by decide)) rfl rfl ?_
    refine J_aload_0 C dX5_now_98 ?_
    refine G5_getr C (n := 20) 5 dX5_now_99 fX5_now_37 iX5_now_5 rfl (hS _ (by decide)) rfl rfl ?_
    refine G0_geti C (n := 2000) 0 dX5_now_102 fX5_now_98 iX5_now_0 rfl (hS _ (by decide)) rfl rfl ?_
    rw [hg]
    refine G_vpi C dX5_now_105 (c_X3_rentOf E hM0 m ρ g h T L hR s hs) gX5_now_X3_rentOf rfl dm_X3_rentOf rfl rfl (hS _ (by decide)) rfl rfl (Nat.le_of_ble_eq_true rfl) (rmOK_b rfl) (fun r105 hr105 => ?_)
    subst hr105
    refine hQ _ _ _ _ dX5_now_108 ⟨rfl, ?_⟩
    rfl
  · skip
    subst hsw1
    refine J_tin C 109 dX5_now_1 (by decide) (by decide) rfl (by decide) ?_
    refine J_aload_0 C dX5_now_109 ?_
    refine G5_getr C (n := 6) 3 dX5_now_110 fX5_now_27 iX5_now_5 rfl (hS _ (by decide)) rfl rfl ?_
    refine J_aload_0 C dX5_now_113 ?_
    refine G5_getr C (n := 20) 5 dX5_now_114 fX5_now_37 iX5_now_5 rfl (hS _ (by decide)) rfl rfl ?_
    refine G0_geti C (n := 2000) 0 dX5_now_117 fX5_now_98 iX5_now_0 rfl (hS _ (by decide)) rfl rfl ?_
    rw [hg]
    refine G_vpi C dX5_now_120 (c_X3_isSafe E hM0 m ρ g h T L hR s hs) gX5_now_X3_isSafe rfl dm_X3_isSafe rfl rfl (hS _ (by decide)) rfl rfl (Nat.le_of_ble_eq_true rfl) (rmOK_b rfl) (fun r120 hr120 => ?_)
    subst hr120
    refine J_if_eq C 130 dX5_now_123 (by decide) (fun hc123 => ?_) (fun hc123 => ?_)
    · skip
      refine J_iconst C (0) dX5_now_130 ic_0 ?_
      refine hQ _ _ _ _ dX5_now_131 ⟨rfl, ?_⟩
      show _ = (if sfN (ρ 3) ((2 ^ m - 1) ^^^ hN m s) m = true then 1 else 0)
      by_cases q : sfN (ρ 3) ((2 ^ m - 1) ^^^ hN m s) m = true
      · have hz := hc123
        rw [if_pos q] at hz
        first
        | exact absurd hz (by decide)
        | rw [if_pos q]
      · have hz := hc123
        rw [if_neg q] at hz
        first
        | exact absurd rfl hz
        | rw [if_neg q]
    · skip
      refine J_iconst C (1) dX5_now_126 ic_1 ?_
      refine J_goto C 131 dX5_now_127 (by decide) ?_
      refine hQ _ _ _ _ dX5_now_131 ⟨rfl, ?_⟩
      show _ = (if sfN (ρ 3) ((2 ^ m - 1) ^^^ hN m s) m = true then 1 else 0)
      by_cases q : sfN (ρ 3) ((2 ^ m - 1) ^^^ hN m s) m = true
      · have hz := hc123
        rw [if_pos q] at hz
        first
        | exact absurd hz (by decide)
        | rw [if_pos q]
      · have hz := hc123
        rw [if_neg q] at hz
        first
        | exact absurd rfl hz
        | rw [if_neg q]
  · skip
    refine J_tout C 132 dX5_now_1 hsw1 (by decide) ?_
    refine J_iconst C (-1) dX5_now_132 ic_m1 ?_
    refine hQ _ _ _ _ dX5_now_133 ⟨rfl, ?_⟩
    unfold nwV
    rw [if_neg (fun q => by rw [q] at hsw1; revert hsw1; decide), if_neg (fun q => by rw [q] at hsw1; revert hsw1; decide), if_neg (fun q => by rw [q] at hsw1; revert hsw1; decide), if_neg (fun q => by rw [q] at hsw1; revert hsw1; decide), if_neg (fun q => by rw [q] at hsw1; revert hsw1; decide), if_neg (fun q => by rw [q] at hsw1; revert hsw1; decide), if_neg (fun q => by rw [q] at hsw1; revert hsw1; decide)]
abbrev rmX6_now : Room := { frames := 3, cells := 0, slots := 0, locals := 66 }
theorem fX6_now_180 : Cond.fieldLink RX6 180 RX6 (TX6 11).2.1 (TX6 11).2.2.1 ∈ wsX6_now := by decide +kernel
theorem fX6_now_183 : Cond.fieldLink RX6 183 RX6 (TX6 13).2.1 (TX6 13).2.2.1 ∈ wsX6_now := by decide +kernel
theorem fX6_now_25 : Cond.fieldLink RX6 25 RX6 (TX6 8).2.1 (TX6 8).2.2.1 ∈ wsX6_now := by decide +kernel
theorem fX6_now_32 : Cond.fieldLink RX6 32 RX6 (TX6 12).2.1 (TX6 12).2.2.1 ∈ wsX6_now := by decide +kernel
theorem iX6_now_6 : ∀ x ∈ wsX60, x ∈ wsX6_now := by decide +kernel
set_option maxRecDepth 100000 in
set_option maxHeartbeats 4000000 in
theorem c_X6_now (E : EN) (hM : EM E) (g : Nat → Int32) (h : Nat → Int64) (T : Nat → Nat → Int32) (L : Nat → Nat → Int64) (m : Nat) (ρ : Nat → Nat → Nat) (hR : RvM g T m ρ) (s : Nat) (hs : s < 256) (hg : g 4811 = nI s) (ld da ic : Int32) (hl : g 4808 = ld) (hd : g 4812 = da) (hi : g 4813 = ic) (x : Int32) : GpI E yX6_now wsX6_now rmX6_now [.ref (eA E 48), .int x] g h T L (fun r => r = nwV m ρ s ld da ic x) := by
  refine CtI_of (cc := cX6_now) (nL := 2) RX6 [some (.ref (eA E 48)), some (.int x)] ⟨rfl, rfl⟩ (by decide) rfl rfl (Nat.le_of_ble_eq_true rfl) ⟨0, rfl⟩ hM.2 (fun Y C hQ => ?_)
  have hM0 := hM
  obtain ⟨hS, hNN⟩ := hM
  refine J_iload_1 C dX6_now_0 ?_
  rcases (sw06 x) with hsw1 | hsw1 | hsw1 | hsw1 | hsw1 | hsw1 | hsw1 | hsw1
  · skip
    subst hsw1
    refine J_tin C 44 dX6_now_1 (by decide) (by decide) rfl (by decide) ?_
    refine J_aload_0 C dX6_now_44 ?_
    refine G6_geti C (n := 4811) 11 dX6_now_45 fX6_now_180 iX6_now_6 rfl (hS _ (by decide)) rfl rfl ?_
    rw [hg]
    refine G_spi C dX6_now_48 (c_X6_ferryOf E hM0 s hs g h T L) gX6_now_X6_ferryOf rfl dm_X6_ferryOf rfl rfl (Nat.le_of_ble_eq_true rfl) (rmOK_b rfl) (fun r48 hr48 => ?_)
    subst hr48
    refine hQ _ _ _ _ dX6_now_51 ⟨rfl, ?_⟩
    rfl
  · skip
    subst hsw1
    refine J_tin C 52 dX6_now_1 (by decide) (by decide) rfl (by decide) ?_
    refine J_aload_0 C dX6_now_52 ?_
    refine G6_geti C (n := 4808) 8 dX6_now_53 fX6_now_25 iX6_now_6 rfl (hS _ (by decide)) rfl rfl ?_
    refine hQ _ _ _ _ dX6_now_56 ⟨rfl, ?_⟩
    exact hl
  · skip
    subst hsw1
    refine J_tin C 57 dX6_now_1 (by decide) (by decide) rfl (by decide) ?_
    refine J_aload_0 C dX6_now_57 ?_
    refine G6_geti C (n := 4812) 12 dX6_now_58 fX6_now_32 iX6_now_6 rfl (hS _ (by decide)) rfl rfl ?_
    refine hQ _ _ _ _ dX6_now_61 ⟨rfl, ?_⟩
    exact hd
  · skip
    subst hsw1
    refine J_tin C 62 dX6_now_1 (by decide) (by decide) rfl (by decide) ?_
    refine J_aload_0 C dX6_now_62 ?_
    refine G6_geti C (n := 4813) 13 dX6_now_63 fX6_now_183 iX6_now_6 rfl (hS _ (by decide)) rfl rfl ?_
    refine hQ _ _ _ _ dX6_now_66 ⟨rfl, ?_⟩
    exact hi
  · skip
    subst hsw1
    refine J_tin C 67 dX6_now_1 (by decide) (by decide) rfl (by decide) ?_
    refine J_aload_0 C dX6_now_67 ?_
    refine J_aload_0 C dX6_now_68 ?_
    refine G6_geti C (n := 4811) 11 dX6_now_69 fX6_now_180 iX6_now_6 rfl (hS _ (by decide)) rfl rfl ?_
    rw [hg]
    refine G_vpi C dX6_now_72 (c_X6_wrongOf E hM0 m ρ g h T L hR s hs) gX6_now_X6_wrongOf rfl dm_X6_wrongOf rfl rfl (hS _ (by decide)) rfl rfl (Nat.le_of_ble_eq_true rfl) (rmOK_b rfl) (fun r72 hr72 => ?_)
    subst hr72
    refine hQ _ _ _ _ dX6_now_75 ⟨rfl, ?_⟩
    rfl
  · skip
    subst hsw1
    refine J_tin C 76 dX6_now_1 (by decide) (by decide) rfl (by decide) ?_
    refine J_aload_0 C dX6_now_76 ?_
    refine J_aload_0 C dX6_now_77 ?_
    refine G6_geti C (n := 4811) 11 dX6_now_78 fX6_now_180 iX6_now_6 rfl (hS _ (by decide)) rfl rfl ?_
    rw [hg]
    refine G_vpi C dX6_now_81 (c_X6_rentOf E hM0 m ρ g h T L hR s hs) gX6_now_X6_rentOf rfl dm_X6_rentOf rfl rfl (hS _ (by decide)) rfl rfl (Nat.le_of_ble_eq_true rfl) (rmOK_b rfl) (fun r81 hr81 => ?_)
    subst hr81
    refine hQ _ _ _ _ dX6_now_84 ⟨rfl, ?_⟩
    rfl
  · skip
    subst hsw1
    refine J_tin C 85 dX6_now_1 (by decide) (by decide) rfl (by decide) ?_
    refine J_aload_0 C dX6_now_85 ?_
    refine J_aload_0 C dX6_now_86 ?_
    refine G6_geti C (n := 4811) 11 dX6_now_87 fX6_now_180 iX6_now_6 rfl (hS _ (by decide)) rfl rfl ?_
    rw [hg]
    refine G_vpi C dX6_now_90 (c_X6_isSafe E hM0 m ρ g h T L hR s hs) gX6_now_X6_isSafe rfl dm_X6_isSafe rfl rfl (hS _ (by decide)) rfl rfl (Nat.le_of_ble_eq_true rfl) (rmOK_b rfl) (fun r90 hr90 => ?_)
    subst hr90
    refine J_if_eq C 100 dX6_now_93 (by decide) (fun hc93 => ?_) (fun hc93 => ?_)
    · skip
      refine J_iconst C (0) dX6_now_100 ic_0 ?_
      refine hQ _ _ _ _ dX6_now_101 ⟨rfl, ?_⟩
      show _ = (if sfN (ρ 3) ((2 ^ m - 1) ^^^ hN m s) m = true then 1 else 0)
      by_cases q : sfN (ρ 3) ((2 ^ m - 1) ^^^ hN m s) m = true
      · have hz := hc93
        rw [if_pos q] at hz
        first
        | exact absurd hz (by decide)
        | rw [if_pos q]
      · have hz := hc93
        rw [if_neg q] at hz
        first
        | exact absurd rfl hz
        | rw [if_neg q]
    · skip
      refine J_iconst C (1) dX6_now_96 ic_1 ?_
      refine J_goto C 101 dX6_now_97 (by decide) ?_
      refine hQ _ _ _ _ dX6_now_101 ⟨rfl, ?_⟩
      show _ = (if sfN (ρ 3) ((2 ^ m - 1) ^^^ hN m s) m = true then 1 else 0)
      by_cases q : sfN (ρ 3) ((2 ^ m - 1) ^^^ hN m s) m = true
      · have hz := hc93
        rw [if_pos q] at hz
        first
        | exact absurd hz (by decide)
        | rw [if_pos q]
      · have hz := hc93
        rw [if_neg q] at hz
        first
        | exact absurd rfl hz
        | rw [if_neg q]
  · skip
    refine J_tout C 102 dX6_now_1 hsw1 (by decide) ?_
    refine J_iconst C (-1) dX6_now_102 ic_m1 ?_
    refine hQ _ _ _ _ dX6_now_103 ⟨rfl, ?_⟩
    unfold nwV
    rw [if_neg (fun q => by rw [q] at hsw1; revert hsw1; decide), if_neg (fun q => by rw [q] at hsw1; revert hsw1; decide), if_neg (fun q => by rw [q] at hsw1; revert hsw1; decide), if_neg (fun q => by rw [q] at hsw1; revert hsw1; decide), if_neg (fun q => by rw [q] at hsw1; revert hsw1; decide), if_neg (fun q => by rw [q] at hsw1; revert hsw1; decide), if_neg (fun q => by rw [q] at hsw1; revert hsw1; decide)]
