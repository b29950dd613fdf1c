theorem halves {lo hi : Nat} (h : lo < hi) (h2 : hi ≤ 20) : (nI lo + nI hi) / 2 = nI ((lo + hi) / 2) := by
  rw [nI_add, show (2 : Int32) = nI 2 by decide, pk_div (by omega) (by decide) (by decide)]
theorem th_i {m j : Nat} (hm : m ≤ 7) : nI (2 ^ m - 1) &&& (nI (2 ^ j) ^^^ (-1)) = nI (thJ m j) := by
  have := p7 hm
  rw [nI_andn (n := 7) (by omega) (by omega)]
  rfl
abbrev rmX5_crossingsTill : Room := { frames := 5, cells := 0, slots := 0, locals := 119 }
theorem fX5_crossingsTill_27 : Cond.fieldLink RX5 27 RX5 (TX5 3).2.1 (TX5 3).2.2.1 ∈ wsX5_crossingsTill := by decide +kernel
theorem fX5_crossingsTill_37 : Cond.fieldLink RX5 37 RX5 (TX5 5).2.1 (TX5 5).2.2.1 ∈ wsX5_crossingsTill := by decide +kernel
theorem fX5_crossingsTill_52 : Cond.fieldLink RX5 52 RX5 (TX5 8).2.1 (TX5 8).2.2.1 ∈ wsX5_crossingsTill := by decide +kernel
theorem fX5_crossingsTill_98 : Cond.fieldLink RX5 98 RX0 (TX0 0).2.1 (TX0 0).2.2.1 ∈ wsX5_crossingsTill := by decide +kernel
theorem iX5_crossingsTill_0 : ∀ x ∈ wsX00, x ∈ wsX5_crossingsTill := by decide +kernel
theorem iX5_crossingsTill_5 : ∀ x ∈ wsX50, x ∈ wsX5_crossingsTill := by decide +kernel
theorem dm_X1_explore : yX1_explore.cls = RX1 ∧ yX1_explore.cls ≠ "java/lang/invoke/MethodHandle" ∧ yX1_explore.cls ≠ "java/lang/invoke/VarHandle" ∧ (parseMethodDescriptor yX1_explore.desc).map (fun d => d.parameters.length) = some 4 := by decide +kernel
theorem dm_X1_firstDone : yX1_firstDone.cls = RX1 ∧ yX1_firstDone.cls ≠ "java/lang/invoke/MethodHandle" ∧ yX1_firstDone.cls ≠ "java/lang/invoke/VarHandle" ∧ (parseMethodDescriptor yX1_firstDone.desc).map (fun d => d.parameters.length) = some 2 := by decide +kernel
set_option maxRecDepth 100000 in
set_option maxHeartbeats 4000000 in
theorem c_X5_crossingsTill (E : EN) (hM : EM E) (g : Nat → Int32) (h : Nat → Int64) (T : Nat → Nat → Int32) (L : Nat → Nat → Int64) (m : Nat) (ρ : Nat → Nat → Nat) (hR : RvX g T m ρ) (s ld th : Nat) (hs : s < 256) (hld : ld < 1000) (hg : g 2000 = nI s) : GtI E yX5_crossingsTill wsX5_crossingsTill rmX5_crossingsTill [.ref (eA E 0), .int (nI ld), .int (nI th)] g h T L (fun r g2 h2 T2 L2 => ((∃ o, isFirst (Pd m ρ th) (bl m ρ ld th s) o ∧ r = stO (bl m ρ ld th s) o) ∧ FrX g g2 T T2) ∧ h2 = h ∧ L2 = L) := by
  refine CtI_of (cc := cX5_crossingsTill) (nL := 4) RX5 [some (.ref (eA E 0)), some (.int (nI ld)), some (.int (nI th)), none] ⟨rfl, rfl⟩ (by decide) rfl rfl (Nat.le_of_ble_eq_true rfl) ⟨1, rfl⟩ hM.2 (fun Y C hQ => ?_)
  have hM0 := hM
  obtain ⟨hS, hNN⟩ := hM
  have hm := hR.1
  have hall : g 601 = nI (2 ^ m - 1) := hR.2.2.1
  refine J_aload_0 C dX5_crossingsTill_0 ?_
  refine G5_getr C (n := 25) 8 dX5_crossingsTill_1 fX5_crossingsTill_52 iX5_crossingsTill_5 rfl (hS _ (by decide)) rfl rfl ?_
  refine J_aload_0 C dX5_crossingsTill_4 ?_
  refine G5_getr C (n := 6) 3 dX5_crossingsTill_5 fX5_crossingsTill_27 iX5_crossingsTill_5 rfl (hS _ (by decide)) rfl rfl ?_
  refine J_aload_0 C dX5_crossingsTill_8 ?_
  refine G5_getr C (n := 20) 5 dX5_crossingsTill_9 fX5_crossingsTill_37 iX5_crossingsTill_5 rfl (hS _ (by decide)) rfl rfl ?_
  refine G0_geti C (n := 2000) 0 dX5_crossingsTill_12 fX5_crossingsTill_98 iX5_crossingsTill_0 rfl (hS _ (by decide)) rfl rfl ?_
  refine J_top (y := nI s) hg ?_
  refine J_iload_1 C dX5_crossingsTill_15 ?_
  refine J_iload_2 C dX5_crossingsTill_16 ?_
  refine G_vtv C dX5_crossingsTill_17 (c_X1_explore E hM0 m ρ g h T L hR s ld th hs hld) gX5_crossingsTill_X1_explore rfl dm_X1_explore rfl rfl (hS _ (by decide)) rfl rfl (Nat.le_of_ble_eq_true rfl) (rmOK_b rfl) (fun g17 h17 T17 L17 hp17 => ?_)
  obtain ⟨rfl, rfl, hF, hX⟩ := hp17
  have hR2 := hR.fr hF
  have hB := bfs_BI (wt := ρ 2) (fr := ρ 3) (ld := ld) (th := th) hm hs
  refine J_aload_0 C dX5_crossingsTill_20 ?_
  refine G5_getr C (n := 25) 8 dX5_crossingsTill_21 fX5_crossingsTill_52 iX5_crossingsTill_5 rfl (hS _ (by decide)) rfl rfl ?_
  refine J_aload_0 C dX5_crossingsTill_24 ?_
  refine G5_getr C (n := 6) 3 dX5_crossingsTill_25 fX5_crossingsTill_27 iX5_crossingsTill_5 rfl (hS _ (by decide)) rfl rfl ?_
  refine J_iload_2 C dX5_crossingsTill_28 ?_
  refine G_vpi C dX5_crossingsTill_29 (c_X1_firstDone E hM0 m ρ _ _ _ _ hR2 _ hX hB.len (fun i e he => hB.2.2.1 i e he) th) gX5_crossingsTill_X1_firstDone rfl dm_X1_firstDone rfl rfl (hS _ (by decide)) rfl rfl (Nat.le_of_ble_eq_true rfl) (rmOK_b rfl) (fun r29 hr29 => ?_)
  obtain ⟨o, rfl, ho⟩ := hr29
  refine J_istore_3 C dX5_crossingsTill_32 (by decide) trivial ?_
  refine J_iload_3 C dX5_crossingsTill_33 ?_
  refine J_if_ge C 41 dX5_crossingsTill_34 (by decide) (fun hc34 => ?_) (fun hc34 => ?_)
  · skip
    obtain ⟨p, rfl⟩ : ∃ p, o = some p := by
      cases o with
      | none => exact absurd hc34 (by show ¬ (0 : Int32) ≤ -1; decide)
      | some p => exact ⟨p, rfl⟩
    obtain ⟨e, he, hst, he9⟩ := stO_some (m := m) (ρ := ρ) hm hs ho
    refine J_aload_0 C dX5_crossingsTill_41 ?_
    refine G5_getr C (n := 25) 8 dX5_crossingsTill_42 fX5_crossingsTill_52 iX5_crossingsTill_5 rfl (hS _ (by decide)) rfl rfl ?_
    refine J_iload_3 C dX5_crossingsTill_45 ?_
    refine G_vpi C dX5_crossingsTill_46 (c_X1_stepsTo E hM0 _ _ _ _ _ hX hB.len p e he) gX5_crossingsTill_X1_stepsTo rfl dm_X1_stepsTo rfl rfl (hS _ (by decide)) rfl rfl (Nat.le_of_ble_eq_true rfl) (rmOK_b rfl) (fun r46 hr46 => ?_)
    subst hr46
    refine hQ _ _ _ _ dX5_crossingsTill_49 ⟨_, _, _, _, rfl, ?_⟩
    first
    | exact ⟨⟨⟨_, ho, hst.symm⟩, hF⟩, rfl, rfl⟩
    | (have hn : o = none := by
         have h2 := hc34
         cases o with
         | none => rfl
         | some p =>
           obtain ⟨e, he, hst, he9⟩ := stO_some (m := m) (ρ := ρ) hm hs ho
           have hp : p < 256 := Nat.lt_of_lt_of_le (get_lt he) hB.len
           exact absurd (nI_pos' (by omega)) h2
       subst hn
       exact ⟨⟨⟨none, ho, rfl⟩, hF⟩, rfl, rfl⟩)
  · skip
    refine J_iconst C (-1) dX5_crossingsTill_37 ic_m1 ?_
    refine J_goto C 49 dX5_crossingsTill_38 (by decide) ?_
    refine hQ _ _ _ _ dX5_crossingsTill_49 ⟨_, _, _, _, rfl, ?_⟩
    first
    | exact ⟨⟨⟨_, ho, hst.symm⟩, hF⟩, rfl, rfl⟩
    | (have hn : o = none := by
         have h2 := hc34
         cases o with
         | none => rfl
         | some p =>
           obtain ⟨e, he, hst, he9⟩ := stO_some (m := m) (ρ := ρ) hm hs ho
           have hp : p < 256 := Nat.lt_of_lt_of_le (get_lt he) hB.len
           exact absurd (nI_pos' (by omega)) h2
       subst hn
       exact ⟨⟨⟨none, ho, rfl⟩, hF⟩, rfl, rfl⟩)
abbrev rmX5_standings : Room := { frames := 5, cells := 0, slots := 0, locals := 119 }
theorem fX5_standings_104 : Cond.fieldLink RX5 104 RX3 (TX3 4).2.1 (TX3 4).2.2.1 ∈ wsX5_standings := by decide +kernel
theorem fX5_standings_122 : Cond.fieldLink RX5 122 RX3 (TX3 1).2.1 (TX3 1).2.2.1 ∈ wsX5_standings := by decide +kernel
theorem fX5_standings_179 : Cond.fieldLink RX5 179 RX1 (TX1 0).2.1 (TX1 0).2.2.1 ∈ wsX5_standings := by decide +kernel
theorem fX5_standings_27 : Cond.fieldLink RX5 27 RX5 (TX5 3).2.1 (TX5 3).2.2.1 ∈ wsX5_standings := by decide +kernel
theorem fX5_standings_37 : Cond.fieldLink RX5 37 RX5 (TX5 5).2.1 (TX5 5).2.2.1 ∈ wsX5_standings := by decide +kernel
theorem fX5_standings_52 : Cond.fieldLink RX5 52 RX5 (TX5 8).2.1 (TX5 8).2.2.1 ∈ wsX5_standings := by decide +kernel
theorem fX5_standings_98 : Cond.fieldLink RX5 98 RX0 (TX0 0).2.1 (TX0 0).2.2.1 ∈ wsX5_standings := by decide +kernel
theorem iX5_standings_0 : ∀ x ∈ wsX00, x ∈ wsX5_standings := by decide +kernel
theorem iX5_standings_1 : ∀ x ∈ wsX10, x ∈ wsX5_standings := by decide +kernel
theorem iX5_standings_3 : ∀ x ∈ wsX30, x ∈ wsX5_standings := by decide +kernel
theorem iX5_standings_5 : ∀ x ∈ wsX50, x ∈ wsX5_standings := by decide +kernel
set_option maxRecDepth 100000 in
set_option maxHeartbeats 4000000 in
theorem c_X5_standings (E : EN) (hM : EM E) (g : Nat → Int32) (h : Nat → Int64) (T : Nat → Nat → Int32) (L : Nat → Nat → Int64) (m : Nat) (ρ : Nat → Nat → Nat) (hR : RvX g T m ρ) (s ld : Nat) (hs : s < 256) (hld : ld < 1000) (hg : g 2000 = nI s) (hgl : g 604 = nI ld) : GtI E yX5_standings wsX5_standings rmX5_standings [.ref (eA E 0)] g h T L (fun r g2 h2 T2 L2 => (r = nI (bl m ρ ld (2 ^ m - 1) s).length ∧ FrX g g2 T T2) ∧ h2 = h ∧ L2 = L) := by
  refine CtI_of (cc := cX5_standings) (nL := 1) RX5 [some (.ref (eA E 0))] ⟨rfl, rfl⟩ (by decide) rfl rfl (Nat.le_of_ble_eq_true rfl) ⟨0, rfl⟩ hM.2 (fun Y C hQ => ?_)
  have hM0 := hM
  obtain ⟨hS, hNN⟩ := hM
  have hm := hR.1
  have hall : g 601 = nI (2 ^ m - 1) := hR.2.2.1
  refine J_aload_0 C dX5_standings_0 ?_
  refine G5_getr C (n := 25) 8 dX5_standings_1 fX5_standings_52 iX5_standings_5 rfl (hS _ (by decide)) rfl rfl ?_
  refine J_aload_0 C dX5_standings_4 ?_
  refine G5_getr C (n := 6) 3 dX5_standings_5 fX5_standings_27 iX5_standings_5 rfl (hS _ (by decide)) rfl rfl ?_
  refine J_aload_0 C dX5_standings_8 ?_
  refine G5_getr C (n := 20) 5 dX5_standings_9 fX5_standings_37 iX5_standings_5 rfl (hS _ (by decide)) rfl rfl ?_
  refine G0_geti C (n := 2000) 0 dX5_standings_12 fX5_standings_98 iX5_standings_0 rfl (hS _ (by decide)) rfl rfl ?_
  refine J_top (y := nI s) hg ?_
  refine J_aload_0 C dX5_standings_15 ?_
  refine G5_getr C (n := 6) 3 dX5_standings_16 fX5_standings_27 iX5_standings_5 rfl (hS _ (by decide)) rfl rfl ?_
  refine G3_geti C (n := 604) 4 dX5_standings_19 fX5_standings_104 iX5_standings_3 rfl (hS _ (by decide)) rfl rfl ?_
  refine J_top (y := nI ld) hgl ?_
  refine J_aload_0 C dX5_standings_22 ?_
  refine G5_getr C (n := 6) 3 dX5_standings_23 fX5_standings_27 iX5_standings_5 rfl (hS _ (by decide)) rfl rfl ?_
  refine G3_geti C (n := 601) 1 dX5_standings_26 fX5_standings_122 iX5_standings_3 rfl (hS _ (by decide)) rfl rfl ?_
  refine J_top (y := nI (2 ^ m - 1)) hall ?_
  refine G_vtv C dX5_standings_29 (c_X1_explore E hM0 m ρ g h T L hR s ld (2 ^ m - 1) hs hld) gX5_standings_X1_explore rfl dm_X1_explore rfl rfl (hS _ (by decide)) rfl rfl (Nat.le_of_ble_eq_true rfl) (rmOK_b rfl) (fun g29 h29 T29 L29 hp29 => ?_)
  obtain ⟨rfl, rfl, hF, hX⟩ := hp29
  have hR2 := hR.fr hF
  have hB := bfs_BI (wt := ρ 2) (fr := ρ 3) (ld := ld) (th := (2 ^ m - 1)) hm hs
  refine J_aload_0 C dX5_standings_32 ?_
  refine G5_getr C (n := 25) 8 dX5_standings_33 fX5_standings_52 iX5_standings_5 rfl (hS _ (by decide)) rfl rfl ?_
  refine G1_geti C (n := 2500) 0 dX5_standings_36 fX5_standings_179 iX5_standings_1 rfl (hS _ (by decide)) rfl rfl ?_
  refine hQ _ _ _ _ dX5_standings_39 ⟨_, _, _, _, rfl, ?_⟩
  exact ⟨⟨hX.1, hF⟩, rfl, rfl⟩
abbrev rmX5_done : Room := { frames := 5, cells := 0, slots := 0, locals := 119 }
theorem fX5_done_104 : Cond.fieldLink RX5 104 RX3 (TX3 4).2.1 (TX3 4).2.2.1 ∈ wsX5_done := by decide +kernel
theorem fX5_done_122 : Cond.fieldLink RX5 122 RX3 (TX3 1).2.1 (TX3 1).2.2.1 ∈ wsX5_done := by decide +kernel
theorem fX5_done_27 : Cond.fieldLink RX5 27 RX5 (TX5 3).2.1 (TX5 3).2.2.1 ∈ wsX5_done := by decide +kernel
theorem fX5_done_37 : Cond.fieldLink RX5 37 RX5 (TX5 5).2.1 (TX5 5).2.2.1 ∈ wsX5_done := by decide +kernel
theorem fX5_done_52 : Cond.fieldLink RX5 52 RX5 (TX5 8).2.1 (TX5 8).2.2.1 ∈ wsX5_done := by decide +kernel
theorem fX5_done_98 : Cond.fieldLink RX5 98 RX0 (TX0 0).2.1 (TX0 0).2.2.1 ∈ wsX5_done := by decide +kernel
theorem iX5_done_0 : ∀ x ∈ wsX00, x ∈ wsX5_done := by decide +kernel
theorem iX5_done_3 : ∀ x ∈ wsX30, x ∈ wsX5_done := by decide +kernel
theorem iX5_done_5 : ∀ x ∈ wsX50, x ∈ wsX5_done := by decide +kernel
theorem dm_X1_setOf : yX1_setOf.cls = RX1 ∧ yX1_setOf.cls ≠ "java/lang/invoke/MethodHandle" ∧ yX1_setOf.cls ≠ "java/lang/invoke/VarHandle" ∧ (parseMethodDescriptor yX1_setOf.desc).map (fun d => d.parameters.length) = some 2 := by decide +kernel
theorem bc_m9 : (Int8.ofInt (-9)).toInt32 = (-9) := by decide
set_option maxRecDepth 100000 in
set_option maxHeartbeats 4000000 in
theorem c_X5_done (E : EN) (hM : EM E) (g : Nat → Int32) (h : Nat → Int64) (T : Nat → Nat → Int32) (L : Nat → Nat → Int64) (m : Nat) (ρ : Nat → Nat → Nat) (hR : RvX g T m ρ) (s ld : Nat) (hs : s < 256) (hld : ld < 1000) (hg : g 2000 = nI s) (hgl : g 604 = nI ld) (v : Int32) : GtI E yX5_done wsX5_done rmX5_done [.ref (eA E 0), .int v] g h T L (fun r g2 h2 T2 L2 => (DnR (bl m ρ ld (2 ^ m - 1) s) (Pd m ρ (2 ^ m - 1)) v r ∧ FrX g g2 T T2) ∧ h2 = h ∧ L2 = L) := by
  refine CtI_of (cc := cX5_done) (nL := 3) RX5 [some (.ref (eA E 0)), some (.int v), none] ⟨rfl, rfl⟩ (by decide) rfl rfl (Nat.le_of_ble_eq_true rfl) ⟨1, rfl⟩ hM.2 (fun Y C hQ => ?_)
  have hM0 := hM
  obtain ⟨hS, hNN⟩ := hM
  have hm := hR.1
  have hall : g 601 = nI (2 ^ m - 1) := hR.2.2.1
  refine J_iload_1 C dX5_done_0 ?_
  refine J_iconst C (-1) dX5_done_1 ic_m1 ?_
  refine J_icmp_ge C 7 dX5_done_2 (by decide) (fun hc2 => ?_) (fun hc2 => ?_)
  · skip
    refine J_aload_0 C dX5_done_7 ?_
    refine G5_getr C (n := 25) 8 dX5_done_8 fX5_done_52 iX5_done_5 rfl (hS _ (by decide)) rfl rfl ?_
    refine J_aload_0 C dX5_done_11 ?_
    refine G5_getr C (n := 6) 3 dX5_done_12 fX5_done_27 iX5_done_5 rfl (hS _ (by decide)) rfl rfl ?_
    refine J_aload_0 C dX5_done_15 ?_
    refine G5_getr C (n := 20) 5 dX5_done_16 fX5_done_37 iX5_done_5 rfl (hS _ (by decide)) rfl rfl ?_
    refine G0_geti C (n := 2000) 0 dX5_done_19 fX5_done_98 iX5_done_0 rfl (hS _ (by decide)) rfl rfl ?_
    refine J_top (y := nI s) hg ?_
    refine J_aload_0 C dX5_done_22 ?_
    refine G5_getr C (n := 6) 3 dX5_done_23 fX5_done_27 iX5_done_5 rfl (hS _ (by decide)) rfl rfl ?_
    refine G3_geti C (n := 604) 4 dX5_done_26 fX5_done_104 iX5_done_3 rfl (hS _ (by decide)) rfl rfl ?_
    refine J_top (y := nI ld) hgl ?_
    refine J_aload_0 C dX5_done_29 ?_
    refine G5_getr C (n := 6) 3 dX5_done_30 fX5_done_27 iX5_done_5 rfl (hS _ (by decide)) rfl rfl ?_
    refine G3_geti C (n := 601) 1 dX5_done_33 fX5_done_122 iX5_done_3 rfl (hS _ (by decide)) rfl rfl ?_
    refine J_top (y := nI (2 ^ m - 1)) hall ?_
    refine G_vtv C dX5_done_36 (c_X1_explore E hM0 m ρ g h T L hR s ld (2 ^ m - 1) hs hld) gX5_done_X1_explore rfl dm_X1_explore rfl rfl (hS _ (by decide)) rfl rfl (Nat.le_of_ble_eq_true rfl) (rmOK_b rfl) (fun g36 h36 T36 L36 hp36 => ?_)
    obtain ⟨rfl, rfl, hF, hX⟩ := hp36
    have hR2 := hR.fr hF
    have hB := bfs_BI (wt := ρ 2) (fr := ρ 3) (ld := ld) (th := (2 ^ m - 1)) hm hs
    refine J_aload_0 C dX5_done_39 ?_
    refine G5_getr C (n := 25) 8 dX5_done_40 fX5_done_52 iX5_done_5 rfl (hS _ (by decide)) rfl rfl ?_
    refine J_aload_0 C dX5_done_43 ?_
    refine G5_getr C (n := 6) 3 dX5_done_44 fX5_done_27 iX5_done_5 rfl (hS _ (by decide)) rfl rfl ?_
    refine J_aload_0 C dX5_done_47 ?_
    refine G5_getr C (n := 6) 3 dX5_done_48 fX5_done_27 iX5_done_5 rfl (hS _ (by decide)) rfl rfl ?_
    refine G3_geti C (n := 601) 1 dX5_done_51 fX5_done_122 iX5_done_3 rfl (hS _ (by decide)) rfl rfl ?_
    refine J_top (y := nI (2 ^ m - 1)) hR2.2.2.1 ?_
    refine G_vpi C dX5_done_54 (c_X1_firstDone E hM0 m ρ _ _ _ _ hR2 _ hX hB.len (fun i e he => hB.2.2.1 i e he) (2 ^ m - 1)) gX5_done_X1_firstDone rfl dm_X1_firstDone rfl rfl (hS _ (by decide)) rfl rfl (Nat.le_of_ble_eq_true rfl) (rmOK_b rfl) (fun r54 hr54 => ?_)
    obtain ⟨o, rfl, ho⟩ := hr54
    refine J_istore_2 C dX5_done_57 (by decide) trivial ?_
    refine J_iload_2 C dX5_done_58 ?_
    refine J_if_ge C 65 dX5_done_59 (by decide) (fun hc59 => ?_) (fun hc59 => ?_)
    · skip
      obtain ⟨p, rfl⟩ : ∃ p, o = some p := by
        cases o with
        | none => exact absurd hc59 (by show ¬ (0 : Int32) ≤ -1; decide)
        | some p => exact ⟨p, rfl⟩
      obtain ⟨e, he, hst, he9⟩ := stO_some (m := m) (ρ := ρ) hm hs ho
      refine J_iload_1 C dX5_done_65 ?_
      refine J_if_ge C 80 dX5_done_66 (by decide) (fun hc66 => ?_) (fun hc66 => ?_)
      · skip
        refine J_aload_0 C dX5_done_80 ?_
        refine G5_getr C (n := 25) 8 dX5_done_81 fX5_done_52 iX5_done_5 rfl (hS _ (by decide)) rfl rfl ?_
        refine J_iload_2 C dX5_done_84 ?_
        refine J_iload_1 C dX5_done_85 ?_
        refine G_vpi C dX5_done_86 (c_X1_setOf E hM0 _ _ _ _ _ hX hB.len hB p e he v) gX5_done_X1_setOf rfl dm_X1_setOf rfl rfl (hS _ (by decide)) rfl rfl (Nat.le_of_ble_eq_true rfl) (rmOK_b rfl) (fun r86 hr86 => ?_)
        skip
        refine hQ _ _ _ _ dX5_done_89 ⟨_, _, _, _, rfl, ?_⟩
        refine ⟨⟨Or.inr ⟨Int32.not_lt.mpr hc2, Or.inr ⟨p, e, ho, he, ?_⟩⟩, hF⟩, rfl, rfl⟩
        first
        | exact plF_of (by omega) hc66 hr86
        | exact (if_pos (Int32.not_le.mp hc66)).symm
      · skip
        refine J_aload_0 C dX5_done_69 ?_
        refine G5_getr C (n := 25) 8 dX5_done_70 fX5_done_52 iX5_done_5 rfl (hS _ (by decide)) rfl rfl ?_
        refine J_iload_2 C dX5_done_73 ?_
        refine G_vpi C dX5_done_74 (c_X1_stepsTo E hM0 _ _ _ _ _ hX hB.len p e he) gX5_done_X1_stepsTo rfl dm_X1_stepsTo rfl rfl (hS _ (by decide)) rfl rfl (Nat.le_of_ble_eq_true rfl) (rmOK_b rfl) (fun r74 hr74 => ?_)
        subst hr74
        refine J_goto C 89 dX5_done_77 (by decide) ?_
        refine hQ _ _ _ _ dX5_done_89 ⟨_, _, _, _, rfl, ?_⟩
        refine ⟨⟨Or.inr ⟨Int32.not_lt.mpr hc2, Or.inr ⟨p, e, ho, he, ?_⟩⟩, hF⟩, rfl, rfl⟩
        first
        | exact plF_of (by omega) hc66 hr86
        | exact (if_pos (Int32.not_le.mp hc66)).symm
    · skip
      refine J_bipush C (-9) dX5_done_62 bc_m9 ?_
      refine hQ _ _ _ _ dX5_done_64 ⟨_, _, _, _, rfl, ?_⟩
      have hn : o = none := by
        cases o with
        | none => rfl
        | some p =>
          obtain ⟨e, he, hst, he9⟩ := stO_some (m := m) (ρ := ρ) hm hs ho
          have hp : p < 256 := Nat.lt_of_lt_of_le (get_lt he) hB.len
          exact absurd (nI_pos' (by omega)) hc59
      subst hn
      exact ⟨⟨Or.inr ⟨Int32.not_lt.mpr hc2, Or.inl ⟨ho, rfl⟩⟩, hF⟩, rfl, rfl⟩
  · skip
    refine J_iconst C (-1) dX5_done_5 ic_m1 ?_
    refine hQ _ _ _ _ dX5_done_6 ⟨_, _, _, _, rfl, ?_⟩
    exact ⟨⟨Or.inl ⟨Int32.not_le.mp hc2, rfl⟩, FrX.rf⟩, rfl, rfl⟩
abbrev rmX5_rent : Room := { frames := 5, cells := 0, slots := 0, locals := 119 }
theorem fX5_rent_104 : Cond.fieldLink RX5 104 RX3 (TX3 4).2.1 (TX3 4).2.2.1 ∈ wsX5_rent := by decide +kernel
theorem fX5_rent_122 : Cond.fieldLink RX5 122 RX3 (TX3 1).2.1 (TX3 1).2.2.1 ∈ wsX5_rent := by decide +kernel
theorem fX5_rent_27 : Cond.fieldLink RX5 27 RX5 (TX5 3).2.1 (TX5 3).2.2.1 ∈ wsX5_rent := by decide +kernel
theorem fX5_rent_37 : Cond.fieldLink RX5 37 RX5 (TX5 5).2.1 (TX5 5).2.2.1 ∈ wsX5_rent := by decide +kernel
theorem fX5_rent_52 : Cond.fieldLink RX5 52 RX5 (TX5 8).2.1 (TX5 8).2.2.1 ∈ wsX5_rent := by decide +kernel
theorem fX5_rent_98 : Cond.fieldLink RX5 98 RX0 (TX0 0).2.1 (TX0 0).2.2.1 ∈ wsX5_rent := by decide +kernel
theorem iX5_rent_0 : ∀ x ∈ wsX00, x ∈ wsX5_rent := by decide +kernel
theorem iX5_rent_3 : ∀ x ∈ wsX30, x ∈ wsX5_rent := by decide +kernel
theorem iX5_rent_5 : ∀ x ∈ wsX50, x ∈ wsX5_rent := by decide +kernel
theorem dm_X1_leastRent : yX1_leastRent.cls = RX1 ∧ yX1_leastRent.cls ≠ "java/lang/invoke/MethodHandle" ∧ yX1_leastRent.cls ≠ "java/lang/invoke/VarHandle" ∧ (parseMethodDescriptor yX1_leastRent.desc).map (fun d => d.parameters.length) = some 2 := by decide +kernel
theorem dm_X1_standingAt : yX1_standingAt.cls = RX1 ∧ yX1_standingAt.cls ≠ "java/lang/invoke/MethodHandle" ∧ yX1_standingAt.cls ≠ "java/lang/invoke/VarHandle" ∧ (parseMethodDescriptor yX1_standingAt.desc).map (fun d => d.parameters.length) = some 1 := by decide +kernel
set_option maxRecDepth 100000 in
set_option maxHeartbeats 4000000 in
theorem c_X5_rent (E : EN) (hM : EM E) (g : Nat → Int32) (h : Nat → Int64) (T : Nat → Nat → Int32) (L : Nat → Nat → Int64) (m : Nat) (ρ : Nat → Nat → Nat) (hR : RvX g T m ρ) (s ld : Nat) (hs : s < 256) (hld : ld < 1000) (hg : g 2000 = nI s) (hgl : g 604 = nI ld) (d v : Int32) : GtI E yX5_rent wsX5_rent rmX5_rent [.ref (eA E 0), .int d, .int v] g h T L (fun r g2 h2 T2 L2 => (RnR (bl m ρ ld (2 ^ m - 1) s) (rtE ρ m) d v r ∧ FrX g g2 T T2) ∧ h2 = h ∧ L2 = L) := by
  refine CtI_of (cc := cX5_rent) (nL := 4) RX5 [some (.ref (eA E 0)), some (.int d), some (.int v), none] ⟨rfl, rfl⟩ (by decide) rfl rfl (Nat.le_of_ble_eq_true rfl) ⟨1, rfl⟩ hM.2 (fun Y C hQ => ?_)
  have hM0 := hM
  obtain ⟨hS, hNN⟩ := hM
  have hm := hR.1
  have hall : g 601 = nI (2 ^ m - 1) := hR.2.2.1
  refine J_iload_1 C dX5_rent_0 ?_
  refine J_if_lt C 15 dX5_rent_1 (by decide) (fun hc1 => ?_) (fun hc1 => ?_)
  · skip
    refine J_iconst C (-1) dX5_rent_15 ic_m1 ?_
    refine hQ _ _ _ _ dX5_rent_16 ⟨_, _, _, _, rfl, ?_⟩
    refine ⟨⟨Or.inl ⟨?_, rfl⟩, FrX.rf⟩, rfl, rfl⟩
    first
    | exact Or.inr (Int32.not_le.mp hc12)
    | exact Or.inl (fun z => absurd z.2 (Int32.not_le.mpr hc7))
    | exact Or.inl (fun z => absurd z.1 (Int32.not_le.mpr hc1))
  · skip
    refine J_iload_1 C dX5_rent_4 ?_
    refine J_bipush C (20) dX5_rent_5 bc_20 ?_
    refine J_icmp_gt C 15 dX5_rent_7 (by decide) (fun hc7 => ?_) (fun hc7 => ?_)
    · skip
      refine J_iconst C (-1) dX5_rent_15 ic_m1 ?_
      refine hQ _ _ _ _ dX5_rent_16 ⟨_, _, _, _, rfl, ?_⟩
      refine ⟨⟨Or.inl ⟨?_, rfl⟩, FrX.rf⟩, rfl, rfl⟩
      first
      | exact Or.inr (Int32.not_le.mp hc12)
      | exact Or.inl (fun z => absurd z.2 (Int32.not_le.mpr hc7))
      | exact Or.inl (fun z => absurd z.1 (Int32.not_le.mpr hc1))
    · skip
      refine J_iload_2 C dX5_rent_10 ?_
      refine J_iconst C (-1) dX5_rent_11 ic_m1 ?_
      refine J_icmp_ge C 17 dX5_rent_12 (by decide) (fun hc12 => ?_) (fun hc12 => ?_)
      · skip
        have hd : 0 ≤ d ∧ d ≤ 20 := ⟨Int32.not_lt.mp hc1, Int32.not_lt.mp hc7⟩
        obtain ⟨dn, hdn, rfl⟩ := nI_of2 (x := d) (M := 20) (n := 20) (by decide) (Int32.not_lt.mpr hd.1) hd.2
        refine J_aload_0 C dX5_rent_17 ?_
        refine G5_getr C (n := 25) 8 dX5_rent_18 fX5_rent_52 iX5_rent_5 rfl (hS _ (by decide)) rfl rfl ?_
        refine J_aload_0 C dX5_rent_21 ?_
        refine G5_getr C (n := 6) 3 dX5_rent_22 fX5_rent_27 iX5_rent_5 rfl (hS _ (by decide)) rfl rfl ?_
        refine J_aload_0 C dX5_rent_25 ?_
        refine G5_getr C (n := 20) 5 dX5_rent_26 fX5_rent_37 iX5_rent_5 rfl (hS _ (by decide)) rfl rfl ?_
        refine G0_geti C (n := 2000) 0 dX5_rent_29 fX5_rent_98 iX5_rent_0 rfl (hS _ (by decide)) rfl rfl ?_
        refine J_top (y := nI s) hg ?_
        refine J_aload_0 C dX5_rent_32 ?_
        refine G5_getr C (n := 6) 3 dX5_rent_33 fX5_rent_27 iX5_rent_5 rfl (hS _ (by decide)) rfl rfl ?_
        refine G3_geti C (n := 604) 4 dX5_rent_36 fX5_rent_104 iX5_rent_3 rfl (hS _ (by decide)) rfl rfl ?_
        refine J_top (y := nI ld) hgl ?_
        refine J_aload_0 C dX5_rent_39 ?_
        refine G5_getr C (n := 6) 3 dX5_rent_40 fX5_rent_27 iX5_rent_5 rfl (hS _ (by decide)) rfl rfl ?_
        refine G3_geti C (n := 601) 1 dX5_rent_43 fX5_rent_122 iX5_rent_3 rfl (hS _ (by decide)) rfl rfl ?_
        refine J_top (y := nI (2 ^ m - 1)) hall ?_
        refine G_vtv C dX5_rent_46 (c_X1_explore E hM0 m ρ g h T L hR s ld (2 ^ m - 1) hs hld) gX5_rent_X1_explore rfl dm_X1_explore rfl rfl (hS _ (by decide)) rfl rfl (Nat.le_of_ble_eq_true rfl) (rmOK_b rfl) (fun g46 h46 T46 L46 hp46 => ?_)
        obtain ⟨rfl, rfl, hF, hX⟩ := hp46
        have hR2 := hR.fr hF
        have hB := bfs_BI (wt := ρ 2) (fr := ρ 3) (ld := ld) (th := (2 ^ m - 1)) hm hs
        refine J_aload_0 C dX5_rent_49 ?_
        refine G5_getr C (n := 25) 8 dX5_rent_50 fX5_rent_52 iX5_rent_5 rfl (hS _ (by decide)) rfl rfl ?_
        refine J_aload_0 C dX5_rent_53 ?_
        refine G5_getr C (n := 6) 3 dX5_rent_54 fX5_rent_27 iX5_rent_5 rfl (hS _ (by decide)) rfl rfl ?_
        refine J_iload_1 C dX5_rent_57 ?_
        refine G_vpi C dX5_rent_58 (c_X1_leastRent E hM0 m ρ _ _ _ _ hR2 _ hX hB.len hB dn (by omega)) gX5_rent_X1_leastRent rfl dm_X1_leastRent rfl rfl (hS _ (by decide)) rfl rfl (Nat.le_of_ble_eq_true rfl) (rmOK_b rfl) (fun r58 hr58 => ?_)
        obtain ⟨p, e, rfl, hle⟩ := hr58
        have he := hle.1
        have he1 : e.1 < 256 := hB.2.2.1 p e he
        have he9 : e.2.1 < 256 := by
          have h1 := steps_le hB p e he
          have h2 := get_lt he
          have h3 := hB.len
          omega
        refine J_istore_3 C dX5_rent_61 (by decide) trivial ?_
        refine J_iload_2 C dX5_rent_62 ?_
        refine J_if_ge C 84 dX5_rent_63 (by decide) (fun hc63 => ?_) (fun hc63 => ?_)
        · skip
          refine J_aload_0 C dX5_rent_84 ?_
          refine G5_getr C (n := 25) 8 dX5_rent_85 fX5_rent_52 iX5_rent_5 rfl (hS _ (by decide)) rfl rfl ?_
          refine J_iload_3 C dX5_rent_88 ?_
          refine J_iload_2 C dX5_rent_89 ?_
          refine G_vpi C dX5_rent_90 (c_X1_setOf E hM0 _ _ _ _ _ hX hB.len hB p e he v) gX5_rent_X1_setOf rfl dm_X1_setOf rfl rfl (hS _ (by decide)) rfl rfl (Nat.le_of_ble_eq_true rfl) (rmOK_b rfl) (fun r90 hr90 => ?_)
          skip
          refine hQ _ _ _ _ dX5_rent_93 ⟨_, _, _, _, rfl, ?_⟩
          refine ⟨⟨Or.inr ⟨dn, rfl, hdn, Int32.not_lt.mpr hc12, p, e, hle, ?_⟩, hF⟩, rfl, rfl⟩
          first
          | exact plF_of (by omega) hc63 hr90
          | exact (if_pos (Int32.not_le.mp hc63)).symm
        · skip
          refine J_aload_0 C dX5_rent_66 ?_
          refine G5_getr C (n := 6) 3 dX5_rent_67 fX5_rent_27 iX5_rent_5 rfl (hS _ (by decide)) rfl rfl ?_
          refine J_aload_0 C dX5_rent_70 ?_
          refine G5_getr C (n := 25) 8 dX5_rent_71 fX5_rent_52 iX5_rent_5 rfl (hS _ (by decide)) rfl rfl ?_
          refine J_iload_3 C dX5_rent_74 ?_
          refine G_vpi C dX5_rent_75 (c_X1_standingAt E hM0 _ _ _ _ _ hX hB.len p e he) gX5_rent_X1_standingAt rfl dm_X1_standingAt rfl rfl (hS _ (by decide)) rfl rfl (Nat.le_of_ble_eq_true rfl) (rmOK_b rfl) (fun r75 hr75 => ?_)
          subst hr75
          refine G_vpi C dX5_rent_78 (c_X3_rentOf E hM0 m ρ _ _ _ _ hR2 e.1 he1) gX5_rent_X3_rentOf rfl dm_X3_rentOf rfl rfl (hS _ (by decide)) rfl rfl (Nat.le_of_ble_eq_true rfl) (rmOK_b rfl) (fun r78 hr78 => ?_)
          subst hr78
          refine J_goto C 93 dX5_rent_81 (by decide) ?_
          refine hQ _ _ _ _ dX5_rent_93 ⟨_, _, _, _, rfl, ?_⟩
          refine ⟨⟨Or.inr ⟨dn, rfl, hdn, Int32.not_lt.mpr hc12, p, e, hle, ?_⟩, hF⟩, rfl, rfl⟩
          first
          | exact plF_of (by omega) hc63 hr90
          | exact (if_pos (Int32.not_le.mp hc63)).symm
      · skip
        refine J_iconst C (-1) dX5_rent_15 ic_m1 ?_
        refine hQ _ _ _ _ dX5_rent_16 ⟨_, _, _, _, rfl, ?_⟩
        refine ⟨⟨Or.inl ⟨?_, rfl⟩, FrX.rf⟩, rfl, rfl⟩
        first
        | exact Or.inr (Int32.not_le.mp hc12)
        | exact Or.inl (fun z => absurd z.2 (Int32.not_le.mpr hc7))
        | exact Or.inl (fun z => absurd z.1 (Int32.not_le.mpr hc1))
abbrev rmX5_least : Room := { frames := 6, cells := 0, slots := 0, locals := 142 }
theorem fX5_least_122 : Cond.fieldLink RX5 122 RX3 (TX3 1).2.1 (TX3 1).2.2.1 ∈ wsX5_least := by decide +kernel
theorem fX5_least_27 : Cond.fieldLink RX5 27 RX5 (TX5 3).2.1 (TX5 3).2.2.1 ∈ wsX5_least := by decide +kernel
theorem iX5_least_3 : ∀ x ∈ wsX30, x ∈ wsX5_least := by decide +kernel
theorem iX5_least_5 : ∀ x ∈ wsX50, x ∈ wsX5_least := by decide +kernel
theorem dm_X5_crossingsTill : yX5_crossingsTill.cls = RX5 ∧ yX5_crossingsTill.cls ≠ "java/lang/invoke/MethodHandle" ∧ yX5_crossingsTill.cls ≠ "java/lang/invoke/VarHandle" ∧ (parseMethodDescriptor yX5_crossingsTill.desc).map (fun d => d.parameters.length) = some 2 := by decide +kernel
set_option maxRecDepth 100000 in
set_option maxHeartbeats 4000000 in
theorem c_X5_least (E : EN) (hM : EM E) (g : Nat → Int32) (h : Nat → Int64) (T : Nat → Nat → Int32) (L : Nat → Nat → Int64) (m : Nat) (ρ : Nat → Nat → Nat) (hR : RvX g T m ρ) (s : Nat) (hs : s < 256) (hg : g 2000 = nI s) : GtI E yX5_least wsX5_least rmX5_least [.ref (eA E 0)] g h T L (fun r g2 h2 T2 L2 => (LsR (Dn m ρ s) r ∧ FrX g g2 T T2) ∧ h2 = h ∧ L2 = L) := by
  refine CtI_of (cc := cX5_least) (nL := 5) RX5 [some (.ref (eA E 0)), none, none, none, none] ⟨rfl, rfl⟩ (by decide) rfl rfl (Nat.le_of_ble_eq_true rfl) ⟨4, rfl⟩ hM.2 (fun Y C hQ => ?_)
  have hM0 := hM
  obtain ⟨hS, hNN⟩ := hM
  have hm := hR.1
  have hall : g 601 = nI (2 ^ m - 1) := hR.2.2.1
  refine J_aload_0 C dX5_least_0 ?_
  refine J_bipush C (20) dX5_least_1 bc_20 ?_
  refine J_aload_0 C dX5_least_3 ?_
  refine G5_getr C (n := 6) 3 dX5_least_4 fX5_least_27 iX5_least_5 rfl (hS _ (by decide)) rfl rfl ?_
  refine G3_geti C (n := 601) 1 dX5_least_7 fX5_least_122 iX5_least_3 rfl (hS _ (by decide)) rfl rfl ?_
  refine J_top (y := nI (2 ^ m - 1)) hall ?_
  refine G_vti C dX5_least_10 (c_X5_crossingsTill E hM0 g h T L m ρ hR s 20 (2 ^ m - 1) hs (by decide) hg) gX5_least_X5_crossingsTill rfl dm_X5_crossingsTill rfl rfl (hS _ (by decide)) rfl rfl (Nat.le_of_ble_eq_true rfl) (rmOK_b rfl) (fun r10 g10 h10 T10 L10 hp10 => ?_)
  obtain ⟨⟨⟨o, ho, rfl⟩, hF⟩, rfl, rfl⟩ := hp10
  have hD := stO_neg hm hs ho
  refine J_if_ge C 19 dX5_least_13 (by decide) (fun hc13 => ?_) (fun hc13 => ?_)
  · skip
    refine J_iconst C (1) dX5_least_19 ic_1 ?_
    refine J_istore_1 C dX5_least_20 (by decide) trivial ?_
    refine J_bipush C (20) dX5_least_21 bc_20 ?_
    refine J_istore_2 C dX5_least_23 (by decide) trivial ?_
    refine J_iconst C (0) dX5_least_24 ic_0 ?_
    refine J_istore_3 C dX5_least_25 (by decide) trivial ?_
    have loop : ∀ (n2 : Nat) (k lo hi : Nat) (x4 : Option Value) (g3 : Nat → Int32) (T3 : Nat → Nat → Int32), 20 < n2 + k → k ≤ 20 → 1 ≤ lo → lo ≤ hi → hi ≤ 20 → hi + k ≤ 19 + lo → Dn m ρ s hi → (∀ k, 1 ≤ k → k < lo → ¬ Dn m ρ s k) → FrX g g3 T T3 → J E Y (eN E) 0 0 (wS E g3 h10 T3 L10) 26 [some (.ref (eA E 0)), some (.int (nI lo)), some (.int (nI hi)), some (.int (nI k)), x4] [] := by
      intro n2
      induction n2 with
      | zero =>
        intro k lo hi x4 g3 T3 hfu hk h1 hlo hh hp hDh hDl hF3
        omega
      | succ n2 ih =>
        intro k lo hi x4 g3 T3 hfu hk h1 hlo hh hp hDh hDl hF3
        refine J_iload_3 C dX5_least_26 ?_
        refine J_bipush C (20) dX5_least_27 bc_20 ?_
        refine J_icmp_ge C 77 dX5_least_29 (by decide) (fun hc29 => ?_) (fun hc29 => ?_)
        · skip
          refine J_iload_1 C dX5_least_77 ?_
          refine hQ _ _ _ _ dX5_least_78 ⟨_, _, _, _, rfl, ?_⟩
          have hlh : lo = hi := by
            first
            | (have h8 := ge_nI (m := hi) (by omega) hc34
               omega)
            | (have h8 := ge_nI (m := 20) (by decide) hc29
               omega)
          subst hlh
          exact ⟨⟨Or.inr ⟨lo, h1, hh, hDh, hDl, rfl⟩, hF3⟩, rfl, rfl⟩
        · skip
          refine J_iload_1 C dX5_least_32 ?_
          refine J_iload_2 C dX5_least_33 ?_
          refine J_icmp_ge C 77 dX5_least_34 (by decide) (fun hc34 => ?_) (fun hc34 => ?_)
          · skip
            refine J_iload_1 C dX5_least_77 ?_
            refine hQ _ _ _ _ dX5_least_78 ⟨_, _, _, _, rfl, ?_⟩
            have hlh : lo = hi := by
              first
              | (have h8 := ge_nI (m := hi) (by omega) hc34
                 omega)
              | (have h8 := ge_nI (m := 20) (by decide) hc29
                 omega)
            subst hlh
            exact ⟨⟨Or.inr ⟨lo, h1, hh, hDh, hDl, rfl⟩, hF3⟩, rfl, rfl⟩
          · skip
            refine J_iload_1 C dX5_least_37 ?_
            refine J_iload_2 C dX5_least_38 ?_
            refine J_iadd C dX5_least_39 ?_
            refine J_iconst C (2) dX5_least_40 ic_2 ?_
            refine J_idiv C dX5_least_41 (by decide) ?_
            have hlh : lo < hi := lt_nI (m := hi) (by omega) hc34
            have hk20 : k < 20 := lt_nI (m := 20) (by omega) hc29
            have hR3 := hR.fr hF3
            have hg3 : g3 2000 = nI s := by rw [hF3.1 2000 (by decide)]; exact hg
            refine J_top (y := nI ((lo + hi) / 2)) (halves hlh hh) ?_
            refine J_istore_4 C dX5_least_42 (by decide) trivial ?_
            skip
            refine J_aload_0 C dX5_least_44 ?_
            refine J_iload_4 C dX5_least_45 ?_
            refine J_aload_0 C dX5_least_47 ?_
            refine G5_getr C (n := 6) 3 dX5_least_48 fX5_least_27 iX5_least_5 rfl (hS _ (by decide)) rfl rfl ?_
            refine G3_geti C (n := 601) 1 dX5_least_51 fX5_least_122 iX5_least_3 rfl (hS _ (by decide)) rfl rfl ?_
            refine J_top (y := nI (2 ^ m - 1)) hR3.2.2.1 ?_
            refine G_vti C dX5_least_54 (c_X5_crossingsTill E hM0 _ _ _ _ m ρ hR3 s ((lo + hi) / 2) (2 ^ m - 1) hs (by omega) hg3) gX5_least_X5_crossingsTill rfl dm_X5_crossingsTill rfl rfl (hS _ (by decide)) rfl rfl (Nat.le_of_ble_eq_true rfl) (rmOK_b rfl) (fun r54 g54 h54 T54 L54 hp54 => ?_)
            obtain ⟨⟨⟨o2, ho2, rfl⟩, hF2⟩, rfl, rfl⟩ := hp54
            have hD2 := stO_neg hm hs ho2
            refine J_if_ge C 68 dX5_least_57 (by decide) (fun hc57 => ?_) (fun hc57 => ?_)
            · skip
              refine J_iload_4 C dX5_least_68 ?_
              refine J_istore_2 C dX5_least_70 (by decide) trivial ?_
              refine J_iinc_3 C (1) dX5_least_71 (by decide) trivial ic_1 ?_
              refine J_goto C 26 dX5_least_74 (by decide) ?_
              rw [nI_1]
              first
              | exact ih (k + 1) lo ((lo + hi) / 2) _ _ _ (by omega) (by omega) h1 (by omega) (by omega) (by omega) (hD2.mp hc57) hDl (hF3.tr hF2)
              | (have hnD : ¬ Dn m ρ s ((lo + hi) / 2) := fun q => hc57 (hD2.mpr q)
                 rw [nI_1]
                 exact ih (k + 1) ((lo + hi) / 2 + 1) hi _ _ _ (by omega) (by omega) (by omega) (by omega) hh (by omega) hDh (fun k a b q => hnD (Dn_mono hm hs (by omega) q)) (hF3.tr hF2))
            · skip
              refine J_iload_4 C dX5_least_60 ?_
              refine J_iconst C (1) dX5_least_62 ic_1 ?_
              refine J_iadd C dX5_least_63 ?_
              refine J_istore_1 C dX5_least_64 (by decide) trivial ?_
              refine J_goto C 71 dX5_least_65 (by decide) ?_
              refine J_iinc_3 C (1) dX5_least_71 (by decide) trivial ic_1 ?_
              refine J_goto C 26 dX5_least_74 (by decide) ?_
              rw [nI_1]
              first
              | exact ih (k + 1) lo ((lo + hi) / 2) _ _ _ (by omega) (by omega) h1 (by omega) (by omega) (by omega) (hD2.mp hc57) hDl (hF3.tr hF2)
              | (have hnD : ¬ Dn m ρ s ((lo + hi) / 2) := fun q => hc57 (hD2.mpr q)
                 rw [nI_1]
                 exact ih (k + 1) ((lo + hi) / 2 + 1) hi _ _ _ (by omega) (by omega) (by omega) (by omega) hh (by omega) hDh (fun k a b q => hnD (Dn_mono hm hs (by omega) q)) (hF3.tr hF2))
    exact loop 21 0 1 20 _ _ _ (by omega) (by omega) (by omega) (by omega) (by omega) (by omega) (hD.mp hc13) (fun k a b => by omega) hF
  · skip
    refine J_bipush C (-9) dX5_least_16 bc_m9 ?_
    refine hQ _ _ _ _ dX5_least_18 ⟨_, _, _, _, rfl, ?_⟩
    exact ⟨⟨Or.inl ⟨fun k _ h20 q => hc13 (hD.mpr (Dn_mono hm hs h20 q)), rfl⟩, hF⟩, rfl, rfl⟩
abbrev rmX5_sooner : Room := { frames := 6, cells := 0, slots := 0, locals := 142 }
theorem kcX5_sooner_178 : Cond.constant RX5 178 (-1000000) ∈ wsX5_sooner := by decide +kernel
theorem fX5_sooner_104 : Cond.fieldLink RX5 104 RX3 (TX3 4).2.1 (TX3 4).2.2.1 ∈ wsX5_sooner := by decide +kernel
theorem fX5_sooner_122 : Cond.fieldLink RX5 122 RX3 (TX3 1).2.1 (TX3 1).2.2.1 ∈ wsX5_sooner := by decide +kernel
theorem fX5_sooner_27 : Cond.fieldLink RX5 27 RX5 (TX5 3).2.1 (TX5 3).2.2.1 ∈ wsX5_sooner := by decide +kernel
theorem iX5_sooner_3 : ∀ x ∈ wsX30, x ∈ wsX5_sooner := by decide +kernel
theorem iX5_sooner_5 : ∀ x ∈ wsX50, x ∈ wsX5_sooner := by decide +kernel
set_option maxRecDepth 100000 in
set_option maxHeartbeats 4000000 in
theorem c_X5_sooner (E : EN) (hM : EM E) (g : Nat → Int32) (h : Nat → Int64) (T : Nat → Nat → Int32) (L : Nat → Nat → Int64) (m : Nat) (ρ : Nat → Nat → Nat) (hR : RvX g T m ρ) (s ld : Nat) (hs : s < 256) (hld : ld < 1000) (hg : g 2000 = nI s) (hgl : g 604 = nI ld) (t : Int32) : GtI E yX5_sooner wsX5_sooner rmX5_sooner [.ref (eA E 0), .int t] g h T L (fun r g2 h2 T2 L2 => (SoR m ρ ld s t r ∧ FrX g g2 T T2) ∧ h2 = h ∧ L2 = L) := by
  refine CtI_of (cc := cX5_sooner) (nL := 4) RX5 [some (.ref (eA E 0)), some (.int t), none, none] ⟨rfl, rfl⟩ (by decide) rfl rfl (Nat.le_of_ble_eq_true rfl) ⟨2, rfl⟩ hM.2 (fun Y C hQ => ?_)
  have hM0 := hM
  obtain ⟨hS, hNN⟩ := hM
  have hm := hR.1
  have hall : g 601 = nI (2 ^ m - 1) := hR.2.2.1
  have h6 : g (100 * 6 + 0) = nI m := hR.2.1
  refine J_aload_0 C dX5_sooner_0 ?_
  refine G5_getr C (n := 6) 3 dX5_sooner_1 fX5_sooner_27 iX5_sooner_5 rfl (hS _ (by decide)) rfl rfl ?_
  refine J_iload_1 C dX5_sooner_4 ?_
  refine G_vpi C dX5_sooner_5 (c_X3_has E hNN 6 rfl (hS _ (by decide)) t g h T L) gX5_sooner_X3_has rfl dm_X3_has rfl rfl (hS _ (by decide)) rfl rfl (Nat.le_of_ble_eq_true rfl) (rmOK_b rfl) (fun r5 hr5 => ?_)
  subst hr5
  refine J_if_ne C 14 dX5_sooner_8 (by decide) (fun hc8 => ?_) (fun hc8 => ?_)
  · skip
    obtain ⟨j, rfl, hj⟩ := t_in (t := t) (m := m) hm (Decidable.byContradiction fun z => by rw [h6] at hc8; rw [if_neg z] at hc8; exact hc8 rfl)
    refine J_aload_0 C dX5_sooner_14 ?_
    refine J_aload_0 C dX5_sooner_15 ?_
    refine G5_getr C (n := 6) 3 dX5_sooner_16 fX5_sooner_27 iX5_sooner_5 rfl (hS _ (by decide)) rfl rfl ?_
    refine G3_geti C (n := 604) 4 dX5_sooner_19 fX5_sooner_104 iX5_sooner_3 rfl (hS _ (by decide)) rfl rfl ?_
    refine J_top (y := nI ld) hgl ?_
    refine J_aload_0 C dX5_sooner_22 ?_
    refine G5_getr C (n := 6) 3 dX5_sooner_23 fX5_sooner_27 iX5_sooner_5 rfl (hS _ (by decide)) rfl rfl ?_
    refine G3_geti C (n := 601) 1 dX5_sooner_26 fX5_sooner_122 iX5_sooner_3 rfl (hS _ (by decide)) rfl rfl ?_
    refine J_top (y := nI (2 ^ m - 1)) hall ?_
    refine G_vti C dX5_sooner_29 (c_X5_crossingsTill E hM0 g h T L m ρ hR s ld (2 ^ m - 1) hs hld hg) gX5_sooner_X5_crossingsTill rfl dm_X5_crossingsTill rfl rfl (hS _ (by decide)) rfl rfl (Nat.le_of_ble_eq_true rfl) (rmOK_b rfl) (fun r29 g29 h29 T29 L29 hp29 => ?_)
    obtain ⟨⟨⟨o, ho, hro⟩, hF⟩, rfl, rfl⟩ := hp29
    have hR2 := hR.fr hF
    have hg2 : g29 2000 = nI s := by rw [hF.1 2000 (by decide)]; exact hg
    have hgl2 : g29 604 = nI ld := by rw [hF.1 604 (by decide)]; exact hgl
    refine J_istore_2 C dX5_sooner_32 (by decide) trivial ?_
    refine J_iload_2 C dX5_sooner_33 ?_
    refine J_if_ge C 40 dX5_sooner_34 (by decide) (fun hc34 => ?_) (fun hc34 => ?_)
    · skip
      refine J_aload_0 C dX5_sooner_40 ?_
      refine J_aload_0 C dX5_sooner_41 ?_
      refine G5_getr C (n := 6) 3 dX5_sooner_42 fX5_sooner_27 iX5_sooner_5 rfl (hS _ (by decide)) rfl rfl ?_
      refine G3_geti C (n := 604) 4 dX5_sooner_45 fX5_sooner_104 iX5_sooner_3 rfl (hS _ (by decide)) rfl rfl ?_
      refine J_top (y := nI ld) hgl2 ?_
      refine J_aload_0 C dX5_sooner_48 ?_
      refine G5_getr C (n := 6) 3 dX5_sooner_49 fX5_sooner_27 iX5_sooner_5 rfl (hS _ (by decide)) rfl rfl ?_
      refine G3_geti C (n := 601) 1 dX5_sooner_52 fX5_sooner_122 iX5_sooner_3 rfl (hS _ (by decide)) rfl rfl ?_
      refine J_top (y := nI (2 ^ m - 1)) hR2.2.2.1 ?_
      refine J_iconst C (1) dX5_sooner_55 ic_1 ?_
      refine J_iload_1 C dX5_sooner_56 ?_
      refine J_ishl C dX5_sooner_57 ?_
      refine J_top (y := nI (2 ^ j)) (nI_sh1 j (by omega)) ?_
      refine J_iconst C (-1) dX5_sooner_58 ic_m1 ?_
      refine J_ixor C dX5_sooner_59 ?_
      refine J_iand C dX5_sooner_60 ?_
      refine J_top (y := nI (thJ m j)) (th_i hm) ?_
      refine G_vti C dX5_sooner_61 (c_X5_crossingsTill E hM0 _ _ _ _ m ρ hR2 s ld (thJ m j) hs hld hg2) gX5_sooner_X5_crossingsTill rfl dm_X5_crossingsTill rfl rfl (hS _ (by decide)) rfl rfl (Nat.le_of_ble_eq_true rfl) (rmOK_b rfl) (fun r61 g61 h61 T61 L61 hp61 => ?_)
      obtain ⟨⟨⟨o2, ho2, hro2⟩, hF2⟩, rfl, rfl⟩ := hp61
      refine J_istore_3 C dX5_sooner_64 (by decide) trivial ?_
      refine J_iload_3 C dX5_sooner_65 ?_
      refine J_if_ge C 74 dX5_sooner_66 (by decide) (fun hc66 => ?_) (fun hc66 => ?_)
      · skip
        refine J_iload_2 C dX5_sooner_74 ?_
        refine J_iload_3 C dX5_sooner_75 ?_
        refine J_isub C dX5_sooner_76 ?_
        refine hQ _ _ _ _ dX5_sooner_77 ⟨_, _, _, _, rfl, ?_⟩
        refine ⟨⟨Or.inr ⟨j, rfl, hj, o, o2, ho, ho2, ?_⟩, hF.tr hF2⟩, rfl, rfl⟩
        rw [← hro, ← hro2]
        unfold soV
        rw [if_neg (Int32.not_lt.mpr hc34)]
        first
        | rw [if_neg (Int32.not_lt.mpr hc66)]
        | rw [if_pos (Int32.not_le.mp hc66)]
      · skip
        refine J_ldc C kcX5_sooner_178 dX5_sooner_69 ?_
        refine J_goto C 77 dX5_sooner_71 (by decide) ?_
        refine hQ _ _ _ _ dX5_sooner_77 ⟨_, _, _, _, rfl, ?_⟩
        refine ⟨⟨Or.inr ⟨j, rfl, hj, o, o2, ho, ho2, ?_⟩, hF.tr hF2⟩, rfl, rfl⟩
        rw [← hro, ← hro2]
        unfold soV
        rw [if_neg (Int32.not_lt.mpr hc34)]
        first
        | rw [if_neg (Int32.not_lt.mpr hc66)]
        | rw [if_pos (Int32.not_le.mp hc66)]
    · skip
      refine J_ldc C kcX5_sooner_178 dX5_sooner_37 ?_
      refine hQ _ _ _ _ dX5_sooner_39 ⟨_, _, _, _, rfl, ?_⟩
      have hex : ∃ o', isFirst (Pd m ρ (thJ m j)) (bl m ρ ld (thJ m j) s) o' := isFirst_ex
      obtain ⟨o2, ho2⟩ := hex
      refine ⟨⟨Or.inr ⟨j, rfl, hj, o, o2, ho, ho2, ?_⟩, hF⟩, rfl, rfl⟩
      rw [← hro]
      unfold soV
      rw [if_pos (Int32.not_le.mp hc34)]
  · skip
    refine J_ldc C kcX5_sooner_178 dX5_sooner_11 ?_
    refine hQ _ _ _ _ dX5_sooner_13 ⟨_, _, _, _, rfl, ?_⟩
    refine ⟨⟨Or.inl ⟨fun z => ?_, rfl⟩, FrX.rf⟩, rfl, rfl⟩
    rw [h6, if_pos z] at hc8
    exact absurd hc8 (by decide)
