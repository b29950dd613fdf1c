theorem sw04 (x : Int32) : x = 0 ∨ x = 1 ∨ x = 2 ∨ x = 3 ∨ x = 4 ∨ (x.toInt < 0 ∨ 4 < x.toInt) := by
  by_cases h : x.toInt < 0 ∨ 4 < x.toInt
  · exact Or.inr (Or.inr (Or.inr (Or.inr (Or.inr h))))
  · have h2 : x.toInt = 0 ∨ x.toInt = 1 ∨ x.toInt = 2 ∨ x.toInt = 3 ∨ x.toInt = 4 := by omega
    rcases h2 with e | e | e | e | e
    · exact Or.inl (Int32.toInt_inj.mp e)
    · exact Or.inr (Or.inl (Int32.toInt_inj.mp e))
    · exact Or.inr (Or.inr (Or.inl (Int32.toInt_inj.mp e)))
    · exact Or.inr (Or.inr (Or.inr (Or.inl (Int32.toInt_inj.mp e))))
    · exact Or.inr (Or.inr (Or.inr (Or.inr (Or.inl (Int32.toInt_inj.mp e)))))
def thV (ρ : Nat → Nat → Nat) (s j : Nat) (x : Int32) : Int32 := if x = 0 then (if s.testBit j = true then 1 else 0) else if x = 1 then nI (ρ 0 j) else if x = 2 then nI (ρ 1 j) else if x = 3 then nI (ρ 2 j) else if x = 4 then nI (ρ 3 j) else -1
def ThR (m : Nat) (ρ : Nat → Nat → Nat) (s : Nat) (t x r : Int32) : Prop := (¬ (0 ≤ t ∧ t < nI m) ∧ r = -1) ∨ ∃ j, t = nI j ∧ j < m ∧ r = thV ρ s j x
theorem t_in {t : Int32} {m : Nat} (hm : m ≤ 7) (h : 0 ≤ t ∧ t < nI m) : ∃ j, t = nI j ∧ j < m := by
  obtain ⟨j, h1, h2, _⟩ := pk_mu (x := t) (L := m) (Int32.not_lt.mpr h.1) (fun q => absurd (Int32.lt_of_lt_of_le h.2 q) (Int32.lt_irrefl)) (by omega)
  exact ⟨j, h2, h1⟩
abbrev rmX5_thing : Room := { frames := 1, cells := 0, slots := 0, locals := 21 }
theorem fX5_thing_27 : Cond.fieldLink RX5 27 RX5 (TX5 3).2.1 (TX5 3).2.2.1 ∈ wsX5_thing := by decide +kernel
theorem fX5_thing_37 : Cond.fieldLink RX5 37 RX5 (TX5 5).2.1 (TX5 5).2.2.1 ∈ wsX5_thing := by decide +kernel
theorem fX5_thing_86 : Cond.fieldLink RX5 86 RX3 (TX3 7).2.1 (TX3 7).2.2.1 ∈ wsX5_thing := by decide +kernel
theorem fX5_thing_89 : Cond.fieldLink RX5 89 RX3 (TX3 8).2.1 (TX3 8).2.2.1 ∈ wsX5_thing := by decide +kernel
theorem fX5_thing_92 : Cond.fieldLink RX5 92 RX3 (TX3 9).2.1 (TX3 9).2.2.1 ∈ wsX5_thing := by decide +kernel
theorem fX5_thing_95 : Cond.fieldLink RX5 95 RX3 (TX3 10).2.1 (TX3 10).2.2.1 ∈ wsX5_thing := by decide +kernel
theorem iX5_thing_3 : ∀ x ∈ wsX30, x ∈ wsX5_thing := by decide +kernel
theorem iX5_thing_5 : ∀ x ∈ wsX50, x ∈ wsX5_thing := by decide +kernel
theorem dm_X0_bankOf : yX0_bankOf.cls = RX0 ∧ yX0_bankOf.cls ≠ "java/lang/invoke/MethodHandle" ∧ yX0_bankOf.cls ≠ "java/lang/invoke/VarHandle" ∧ (parseMethodDescriptor yX0_bankOf.desc).map (fun d => d.parameters.length) = some 1 := by decide +kernel
set_option maxRecDepth 100000 in
set_option maxHeartbeats 4000000 in
theorem c_X5_thing (E : EN) (hM : EM E) (g : Nat → Int32) (h : Nat → Int64) (T : Nat → Nat → Int32) (L : Nat → Nat → Int64) (m : Nat) (ρ : Nat → Nat → Nat) (hR : RvX g T m ρ) (s : Nat) (hs : s < 256) (hg : g 2000 = nI s) (t x : Int32) : GpI E yX5_thing wsX5_thing rmX5_thing [.ref (eA E 0), .int t, .int x] g h T L (fun r => ThR m ρ s t x r) := by
  refine CtI_of (cc := cX5_thing) (nL := 3) RX5 [some (.ref (eA E 0)), some (.int t), some (.int x)] ⟨rfl, rfl⟩ (by decide) rfl rfl (Nat.le_of_ble_eq_true rfl) ⟨0, rfl⟩ hM.2 (fun Y C hQ => ?_)
  have hM0 := hM
  obtain ⟨hS, hNN⟩ := hM
  have hm := hR.1
  have hrow := hR.2.2.2.2.2.1
  have h6 : g (100 * 6 + 0) = nI m := hR.2.1
  refine J_aload_0 C dX5_thing_0 ?_
  refine G5_getr C (n := 6) 3 dX5_thing_1 fX5_thing_27 iX5_thing_5 rfl (hS _ (by decide)) rfl rfl ?_
  refine J_iload_1 C dX5_thing_4 ?_
  refine G_vpi C dX5_thing_5 (c_X3_has E hNN 6 rfl (hS _ (by decide)) t g h T L) gX5_thing_X3_has rfl dm_X3_has rfl rfl (hS _ (by decide)) rfl rfl (Nat.le_of_ble_eq_true rfl) (rmOK_b rfl) (fun r5 hr5 => ?_)
  subst hr5
  refine J_if_ne C 13 dX5_thing_8 (by decide) (fun hc8 => ?_) (fun hc8 => ?_)
  · skip
    obtain ⟨j, rfl, hj⟩ := t_in (t := t) (m := m) hm (Decidable.byContradiction fun z => by rw [h6] at hc8; rw [if_neg z] at hc8; exact hc8 rfl)
    refine J_iload_2 C dX5_thing_13 ?_
    rcases (sw04 x) with hsw14 | hsw14 | hsw14 | hsw14 | hsw14 | hsw14
    · skip
      subst hsw14
      refine J_tin C 48 dX5_thing_14 (by decide) (by decide) rfl (by decide) ?_
      refine J_aload_0 C dX5_thing_48 ?_
      refine G5_getr C (n := 20) 5 dX5_thing_49 fX5_thing_37 iX5_thing_5 rfl (hS _ (by decide)) rfl rfl ?_
      refine J_iload_1 C dX5_thing_52 ?_
      refine G_vpi C dX5_thing_53 (c_X0_bankOf E hM0 j s (by omega) hs g h T L hg) gX5_thing_X0_bankOf rfl dm_X0_bankOf rfl rfl (hS _ (by decide)) rfl rfl (Nat.le_of_ble_eq_true rfl) (rmOK_b rfl) (fun r53 hr53 => ?_)
      subst hr53
      refine hQ _ _ _ _ dX5_thing_56 ⟨rfl, ?_⟩
      exact Or.inr ⟨j, rfl, hj, rfl⟩
    · skip
      subst hsw14
      refine J_tin C 57 dX5_thing_14 (by decide) (by decide) rfl (by decide) ?_
      refine J_aload_0 C dX5_thing_57 ?_
      refine G5_getr C (n := 6) 3 dX5_thing_58 fX5_thing_27 iX5_thing_5 rfl (hS _ (by decide)) rfl rfl ?_
      refine G3_getr C (n := 7) 7 dX5_thing_61 fX5_thing_86 iX5_thing_3 rfl (hS _ (by decide)) rfl rfl ?_
      refine J_iload_1 C dX5_thing_64 ?_
      refine G_iald C j dX5_thing_65 rfl (hS _ (by decide)) rfl (by omega) ?_
      refine hQ _ _ _ _ dX5_thing_66 ⟨rfl, ?_⟩
      exact Or.inr ⟨j, rfl, hj, (hrow j hj).1⟩
    · skip
      subst hsw14
      refine J_tin C 67 dX5_thing_14 (by decide) (by decide) rfl (by decide) ?_
      refine J_aload_0 C dX5_thing_67 ?_
      refine G5_getr C (n := 6) 3 dX5_thing_68 fX5_thing_27 iX5_thing_5 rfl (hS _ (by decide)) rfl rfl ?_
      refine G3_getr C (n := 8) 8 dX5_thing_71 fX5_thing_89 iX5_thing_3 rfl (hS _ (by decide)) rfl rfl ?_
      refine J_iload_1 C dX5_thing_74 ?_
      refine G_iald C j dX5_thing_75 rfl (hS _ (by decide)) rfl (by omega) ?_
      refine hQ _ _ _ _ dX5_thing_76 ⟨rfl, ?_⟩
      exact Or.inr ⟨j, rfl, hj, (hrow j hj).2.1⟩
    · skip
      subst hsw14
      refine J_tin C 77 dX5_thing_14 (by decide) (by decide) rfl (by decide) ?_
      refine J_aload_0 C dX5_thing_77 ?_
      refine G5_getr C (n := 6) 3 dX5_thing_78 fX5_thing_27 iX5_thing_5 rfl (hS _ (by decide)) rfl rfl ?_
      refine G3_getr C (n := 9) 9 dX5_thing_81 fX5_thing_92 iX5_thing_3 rfl (hS _ (by decide)) rfl rfl ?_
      refine J_iload_1 C dX5_thing_84 ?_
      refine G_iald C j dX5_thing_85 rfl (hS _ (by decide)) rfl (by omega) ?_
      refine hQ _ _ _ _ dX5_thing_86 ⟨rfl, ?_⟩
      exact Or.inr ⟨j, rfl, hj, (hrow j hj).2.2.1⟩
    · skip
      subst hsw14
      refine J_tin C 87 dX5_thing_14 (by decide) (by decide) rfl (by decide) ?_
      refine J_aload_0 C dX5_thing_87 ?_
      refine G5_getr C (n := 6) 3 dX5_thing_88 fX5_thing_27 iX5_thing_5 rfl (hS _ (by decide)) rfl rfl ?_
      refine G3_getr C (n := 10) 10 dX5_thing_91 fX5_thing_95 iX5_thing_3 rfl (hS _ (by decide)) rfl rfl ?_
      refine J_iload_1 C dX5_thing_94 ?_
      refine G_iald C j dX5_thing_95 rfl (hS _ (by decide)) rfl (by omega) ?_
      refine hQ _ _ _ _ dX5_thing_96 ⟨rfl, ?_⟩
      exact Or.inr ⟨j, rfl, hj, (hrow j hj).2.2.2⟩
    · skip
      refine J_tout C 97 dX5_thing_14 hsw14 (by decide) ?_
      refine J_iconst C (-1) dX5_thing_97 ic_m1 ?_
      refine hQ _ _ _ _ dX5_thing_98 ⟨rfl, ?_⟩
      refine Or.inr ⟨j, rfl, hj, ?_⟩
      unfold thV
      rw [if_neg (fun q => by rw [q] at hsw14; revert hsw14; decide), if_neg (fun q => by rw [q] at hsw14; revert hsw14; decide), if_neg (fun q => by rw [q] at hsw14; revert hsw14; decide), if_neg (fun q => by rw [q] at hsw14; revert hsw14; decide), if_neg (fun q => by rw [q] at hsw14; revert hsw14; decide)]
  · skip
    refine J_iconst C (-1) dX5_thing_11 ic_m1 ?_
    refine hQ _ _ _ _ dX5_thing_12 ⟨rfl, ?_⟩
    refine Or.inl ⟨fun z => ?_, rfl⟩
    rw [h6, if_pos z] at hc8
    exact absurd hc8 (by decide)
