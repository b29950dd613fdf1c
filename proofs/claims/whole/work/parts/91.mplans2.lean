abbrev rmX6_standings : Room := { frames := 5, cells := 0, slots := 0, locals := 115 }
theorem fX6_standings_180 : Cond.fieldLink RX6 180 RX6 (TX6 11).2.1 (TX6 11).2.2.1 ∈ wsX6_standings := by decide +kernel
theorem fX6_standings_227 : Cond.fieldLink RX6 227 RX6 (TX6 34).2.1 (TX6 34).2.2.1 ∈ wsX6_standings := by decide +kernel
theorem fX6_standings_25 : Cond.fieldLink RX6 25 RX6 (TX6 8).2.1 (TX6 8).2.2.1 ∈ wsX6_standings := by decide +kernel
theorem iX6_standings_6 : ∀ x ∈ wsX60, x ∈ wsX6_standings := by decide +kernel
set_option maxRecDepth 100000 in
set_option maxHeartbeats 4000000 in
theorem c_X6_standings (E : EN) (hM : EM E) (g : Nat → Int32) (h : Nat → Int64) (T : Nat → Nat → Int32) (L : Nat → Nat → Int64) (m : Nat) (ρ : Nat → Nat → Nat) (hR : RvM g T m ρ) (s ld : Nat) (hs : s < 256) (hld : ld < 1000) (hg : g 4811 = nI s) (hgl : g 4808 = nI ld) : GtI E yX6_standings wsX6_standings rmX6_standings [.ref (eA E 48)] g h T L (fun r g2 h2 T2 L2 => (r = nI (bl m ρ ld (2 ^ m - 1) s).length ∧ FrP g g2 T T2) ∧ h2 = h ∧ L2 = L) := by
  refine CtI_of (cc := cX6_standings) (nL := 1) RX6 [some (.ref (eA E 48))] ⟨rfl, rfl⟩ (by decide) rfl rfl (Nat.le_of_ble_eq_true rfl) ⟨0, rfl⟩ hM.2 (fun Y C hQ => ?_)
  have hM0 := hM
  obtain ⟨hS, hNN⟩ := hM
  have hm := hR.1
  have hrr : ∀ t, t < m → ρ 1 t ≤ 9 := fun t ht => (hR.2.2.2 t ht).1
  refine J_aload_0 C dX6_standings_0 ?_
  refine J_aload_0 C dX6_standings_1 ?_
  refine G6_geti C (n := 4811) 11 dX6_standings_2 fX6_standings_180 iX6_standings_6 rfl (hS _ (by decide)) rfl rfl ?_
  refine J_top (y := nI s) hg ?_
  refine J_aload_0 C dX6_standings_5 ?_
  refine G6_geti C (n := 4808) 8 dX6_standings_6 fX6_standings_25 iX6_standings_6 rfl (hS _ (by decide)) rfl rfl ?_
  refine J_top (y := nI ld) hgl ?_
  refine G_vtv C dX6_standings_9 (c_X6_goes E hM0 m ρ g h T L hR s ld hs hld) gX6_standings_X6_goes rfl dm_X6_goes rfl rfl (hS _ (by decide)) rfl rfl (Nat.le_of_ble_eq_true rfl) (rmOK_b rfl) (fun g9 h9 T9 L9 hp9 => ?_)
  obtain ⟨rfl, rfl, hF, hX⟩ := hp9
  refine J_aload_0 C dX6_standings_12 ?_
  refine G6_geti C (n := 4834) 34 dX6_standings_13 fX6_standings_227 iX6_standings_6 rfl (hS _ (by decide)) rfl rfl ?_
  refine hQ _ _ _ _ dX6_standings_16 ⟨_, _, _, _, rfl, ?_⟩
  exact ⟨⟨hX.1, FrP.of hF⟩, rfl, rfl⟩
abbrev rmX6_least : Room := { frames := 6, cells := 0, slots := 0, locals := 139 }
theorem fX6_least_180 : Cond.fieldLink RX6 180 RX6 (TX6 11).2.1 (TX6 11).2.2.1 ∈ wsX6_least := by decide +kernel
theorem iX6_least_6 : ∀ x ∈ wsX60, x ∈ wsX6_least := by decide +kernel
theorem dm_X6_doneFrom : yX6_doneFrom.cls = RX6 ∧ yX6_doneFrom.cls ≠ "java/lang/invoke/MethodHandle" ∧ yX6_doneFrom.cls ≠ "java/lang/invoke/VarHandle" ∧ (parseMethodDescriptor yX6_doneFrom.desc).map (fun d => d.parameters.length) = some 2 := by decide +kernel
set_option maxRecDepth 100000 in
set_option maxHeartbeats 4000000 in
theorem c_X6_least (E : EN) (hM : EM E) (g : Nat → Int32) (h : Nat → Int64) (T : Nat → Nat → Int32) (L : Nat → Nat → Int64) (m : Nat) (ρ : Nat → Nat → Nat) (hR : RvM g T m ρ) (s : Nat) (hs : s < 256) (hg : g 4811 = nI s) : GtI E yX6_least wsX6_least rmX6_least [.ref (eA E 48)] g h T L (fun r g2 h2 T2 L2 => (LsR (Dn m ρ s) r ∧ FrP g g2 T T2) ∧ h2 = h ∧ L2 = L) := by
  refine CtI_of (cc := cX6_least) (nL := 2) RX6 [some (.ref (eA E 48)), none] ⟨rfl, rfl⟩ (by decide) rfl rfl (Nat.le_of_ble_eq_true rfl) ⟨1, rfl⟩ hM.2 (fun Y C hQ => ?_)
  have hM0 := hM
  obtain ⟨hS, hNN⟩ := hM
  have hm := hR.1
  have hrr : ∀ t, t < m → ρ 1 t ≤ 9 := fun t ht => (hR.2.2.2 t ht).1
  refine J_iconst C (1) dX6_least_0 ic_1 ?_
  refine J_istore_1 C dX6_least_1 (by decide) trivial ?_
  have loop : ∀ (n2 : Nat) (k : Nat) (g3 : Nat → Int32) (T3 : Nat → Nat → Int32), 21 < n2 + k → k ≤ 21 → 1 ≤ k → (∀ j, 1 ≤ j → j < k → ¬ Dn m ρ s j) → FrM g g3 T T3 → J E Y (eN E) 0 0 (wS E g3 h T3 L) 2 [some (.ref (eA E 48)), some (.int (nI k))] [] := by
    intro n2
    induction n2 with
    | zero =>
      intro k g3 T3 hfu hk h1 hDl hF3
      omega
    | succ n2 ih =>
      intro k g3 T3 hfu hk h1 hDl hF3
      refine J_iload_1 C dX6_least_2 ?_
      refine J_bipush C (20) dX6_least_3 bc_20 ?_
      refine J_icmp_gt C 28 dX6_least_5 (by decide) (fun hc5 => ?_) (fun hc5 => ?_)
      · skip
        refine J_bipush C (-9) dX6_least_28 bc_m9 ?_
        refine hQ _ _ _ _ dX6_least_30 ⟨_, _, _, _, rfl, ?_⟩
        have hk21 : 20 < k := (nI_ltI (by decide) (by omega)).mp hc5
        exact ⟨⟨Or.inl ⟨fun j a b => hDl j a (by omega), rfl⟩, FrP.of hF3⟩, rfl, rfl⟩
      · skip
        have hk20 : k ≤ 20 := by
          have := Int32.not_lt.mp hc5
          exact (nI_leI (by omega) (by decide)).mp this
        have hR3 := hR.fr hF3
        have hg3 : g3 4811 = nI s := by rw [hF3.1 4811 (by decide)]; exact hg
        refine J_aload_0 C dX6_least_8 ?_
        refine J_aload_0 C dX6_least_9 ?_
        refine G6_geti C (n := 4811) 11 dX6_least_10 fX6_least_180 iX6_least_6 rfl (hS _ (by decide)) rfl rfl ?_
        refine J_top (y := nI s) hg3 ?_
        refine J_iload_1 C dX6_least_13 ?_
        refine G_vti C dX6_least_14 (c_X6_doneFrom E hM0 m ρ _ _ _ _ hR3 s k hs (by omega)) gX6_least_X6_doneFrom rfl dm_X6_doneFrom rfl rfl (hS _ (by decide)) rfl rfl (Nat.le_of_ble_eq_true rfl) (rmOK_b rfl) (fun r14 g14 h14 T14 L14 hp14 => ?_)
        obtain ⟨rfl, rfl, hF2, -, o2, ho2, hro2⟩ := hp14
        subst hro2
        have hD2 := stO_neg (m := m) (ρ := ρ) hm hs (ho2.congr (fun e => (Pd_all e).symm))
        refine J_if_lt C 22 dX6_least_17 (by decide) (fun hc17 => ?_) (fun hc17 => ?_)
        · skip
          refine J_iinc_1 C (1) dX6_least_22 (by decide) trivial ic_1 ?_
          refine J_goto C 2 dX6_least_25 (by decide) ?_
          rw [nI_1]
          refine ih (k + 1) _ _ (by omega) (by omega) (by omega) (fun j a b q => ?_) (hF3.tr hF2)
          by_cases e : j = k
          · subst e
            exact absurd (hD2.mpr q) (Int32.not_le.mpr hc17)
          · exact hDl j a (by omega) q
        · skip
          refine J_iload_1 C dX6_least_20 ?_
          refine hQ _ _ _ _ dX6_least_21 ⟨_, _, _, _, rfl, ?_⟩
          exact ⟨⟨Or.inr ⟨k, h1, hk20, hD2.mp (Int32.not_lt.mp hc17), hDl, rfl⟩, FrP.of (hF3.tr hF2)⟩, rfl, rfl⟩
  exact loop 21 1 g T (by omega) (by omega) (by omega) (fun k a b => by omega) FrM.rf
abbrev rmX6_done : Room := { frames := 6, cells := 0, slots := 0, locals := 139 }
theorem fX6_done_180 : Cond.fieldLink RX6 180 RX6 (TX6 11).2.1 (TX6 11).2.2.1 ∈ wsX6_done := by decide +kernel
theorem fX6_done_25 : Cond.fieldLink RX6 25 RX6 (TX6 8).2.1 (TX6 8).2.2.1 ∈ wsX6_done := by decide +kernel
theorem fX6_done_72 : Cond.fieldLink RX6 72 RX6 (TX6 36).2.1 (TX6 36).2.2.1 ∈ wsX6_done := by decide +kernel
theorem iX6_done_6 : ∀ x ∈ wsX60, x ∈ wsX6_done := by decide +kernel
theorem dm_X6_plans : yX6_plans.cls = RX6 ∧ yX6_plans.cls ≠ "java/lang/invoke/MethodHandle" ∧ yX6_plans.cls ≠ "java/lang/invoke/VarHandle" ∧ (parseMethodDescriptor yX6_plans.desc).map (fun d => d.parameters.length) = some 3 := by decide +kernel
theorem sc_1000 : (Int16.ofInt (1000)).toInt32 = (1000) := by decide
set_option maxRecDepth 100000 in
set_option maxHeartbeats 4000000 in
theorem c_X6_done (E : EN) (hM : EM E) (g : Nat → Int32) (h : Nat → Int64) (T : Nat → Nat → Int32) (L : Nat → Nat → Int64) (m : Nat) (ρ : Nat → Nat → Nat) (hR : RvM g T m ρ) (s ld : Nat) (hs : s < 256) (hld : ld < 1000) (hg : g 4811 = nI s) (hgl : g 4808 = nI ld) (v : Int32) : GtI E yX6_done wsX6_done rmX6_done [.ref (eA E 48), .int v] g h T L (fun r g2 h2 T2 L2 => (DnR (bl m ρ ld (2 ^ m - 1) s) (Pd m ρ (2 ^ m - 1)) v r ∧ FrP g g2 T T2) ∧ h2 = h ∧ L2 = L) := by
  refine CtI_of (cc := cX6_done) (nL := 3) RX6 [some (.ref (eA E 48)), some (.int v), none] ⟨rfl, rfl⟩ (by decide) rfl rfl (Nat.le_of_ble_eq_true rfl) ⟨1, rfl⟩ hM.2 (fun Y C hQ => ?_)
  have hM0 := hM
  obtain ⟨hS, hNN⟩ := hM
  have hm := hR.1
  have hrr : ∀ t, t < m → ρ 1 t ≤ 9 := fun t ht => (hR.2.2.2 t ht).1
  refine J_iload_1 C dX6_done_0 ?_
  refine J_iconst C (-1) dX6_done_1 ic_m1 ?_
  refine J_icmp_ge C 7 dX6_done_2 (by decide) (fun hc2 => ?_) (fun hc2 => ?_)
  · skip
    refine J_aload_0 C dX6_done_7 ?_
    refine J_aload_0 C dX6_done_8 ?_
    refine G6_geti C (n := 4811) 11 dX6_done_9 fX6_done_180 iX6_done_6 rfl (hS _ (by decide)) rfl rfl ?_
    refine J_top (y := nI s) hg ?_
    refine J_aload_0 C dX6_done_12 ?_
    refine G6_geti C (n := 4808) 8 dX6_done_13 fX6_done_25 iX6_done_6 rfl (hS _ (by decide)) rfl rfl ?_
    refine J_top (y := nI ld) hgl ?_
    refine G_vti C dX6_done_16 (c_X6_doneFrom E hM0 m ρ g h T L hR s ld hs hld) gX6_done_X6_doneFrom rfl dm_X6_doneFrom rfl rfl (hS _ (by decide)) rfl rfl (Nat.le_of_ble_eq_true rfl) (rmOK_b rfl) (fun r16 g16 h16 T16 L16 hp16 => ?_)
    obtain ⟨rfl, rfl, hF, hX, o, ho, hro⟩ := hp16
    have hR2 := hR.fr hF
    have hB := bfs_BI (wt := ρ 2) (fr := ρ 3) (ld := ld) (th := 2 ^ m - 1) hm hs
    have hg2 : g16 4811 = nI s := by rw [hF.1 4811 (by decide)]; exact hg
    have hgl2 : g16 4808 = nI ld := by rw [hF.1 4808 (by decide)]; exact hgl
    subst hro
    refine J_istore_2 C dX6_done_19 (by decide) trivial ?_
    refine J_iload_2 C dX6_done_20 ?_
    refine J_if_ge C 27 dX6_done_21 (by decide) (fun hc21 => ?_) (fun hc21 => ?_)
    · skip
      obtain ⟨p, rfl⟩ : ∃ p, o = some p := by
        cases o with
        | none => exact absurd hc21 (by show ¬ (0 : Int32) ≤ -1; decide)
        | some p => exact ⟨p, rfl⟩
      obtain ⟨e, he, hst, he9⟩ := stO_some (m := m) (ρ := ρ) hm hs ho
      rw [hst]
      have hoP := ho.congr (fun e => (Pd_all (m := m) (ρ := ρ) e).symm)
      obtain ⟨⟨e2, he2, hpe⟩, hmin⟩ := ho
      have hee : e = e2 := by rw [he] at he2; cases he2; rfl
      subst hee
      refine J_aload_0 C dX6_done_27 ?_
      refine J_iload_2 C dX6_done_28 ?_
      refine J_sipush C (1000) dX6_done_29 sc_1000 ?_
      refine J_top (y := nI 1000) rfl ?_
      refine J_iconst C (1) dX6_done_32 ic_1 ?_
      refine J_top (y := if true = true then 1 else 0) rfl ?_
      refine G_vtv C dX6_done_33 (c_X6_plans E hM0 m ρ _ _ _ _ hR2 s ld hs hld hgl2 hg2 hX e.2.1 1000 (by omega) true p e he ⟨rfl, Nat.le_trans (rtE_le hm hrr e) (by decide), fun _ => hpe⟩ (fun j f hj hf ⟨_, _, z⟩ => hmin j f hj hf (z rfl))) gX6_done_X6_plans rfl dm_X6_plans rfl rfl (hS _ (by decide)) rfl rfl (Nat.le_of_ble_eq_true rfl) (rmOK_b rfl) (fun g33 h33 T33 L33 hp33 => ?_)
      obtain ⟨rfl, rfl, rfl, hFT, hT33⟩ := hp33
      refine J_iload_1 C dX6_done_36 ?_
      refine J_if_ge C 44 dX6_done_37 (by decide) (fun hc37 => ?_) (fun hc37 => ?_)
      · skip
        have hv0 : 0 ≤ v := hc37
        refine J_iload_1 C dX6_done_44 ?_
        refine J_iload_2 C dX6_done_45 ?_
        refine J_icmp_ge C 58 dX6_done_46 (by decide) (fun hc46 => ?_) (fun hc46 => ?_)
        · skip
          refine J_bipush C (-5) dX6_done_58 bc_m5 ?_
          refine hQ _ _ _ _ dX6_done_60 ⟨_, _, _, _, rfl, ?_⟩
          refine ⟨⟨Or.inr ⟨Int32.not_lt.mpr hc2, Or.inr ⟨p, e, hoP, he, ?_⟩⟩, hF.1, fun k hk => by rw [hFT k (by omega) (by omega), hF.2 k (by omega) (by omega)]⟩, rfl, rfl⟩
          first
          | exact (if_pos (Int32.not_le.mp hc37)).symm
          | (unfold plF
             rw [if_neg (Int32.not_lt.mpr hv0), if_pos (nI_lt hk (by omega)), i2n_nI (by omega)]
             exact hT33 k hk)
          | (unfold plF
             rw [if_neg (Int32.not_lt.mpr hv0), if_neg (Int32.not_lt.mpr hc46)])
        · skip
          obtain ⟨k, rfl, hk, -⟩ : ∃ k, v = nI k ∧ k < e.2.1 ∧ True := by
            obtain ⟨j, hj1, hj2, _⟩ := pk_mu (x := v) (L := e.2.1) (Int32.not_lt.mpr hv0) hc46 (by omega)
            exact ⟨j, hj2, hj1, trivial⟩
          refine J_aload_0 C dX6_done_49 ?_
          refine G6_getr C (n := 65) 36 dX6_done_50 fX6_done_72 iX6_done_6 rfl (hS _ (by decide)) rfl rfl ?_
          refine J_iload_1 C dX6_done_53 ?_
          refine G_iald C k dX6_done_54 rfl (hS _ (by decide)) rfl (by omega) ?_
          refine J_goto C 60 dX6_done_55 (by decide) ?_
          refine hQ _ _ _ _ dX6_done_60 ⟨_, _, _, _, rfl, ?_⟩
          refine ⟨⟨Or.inr ⟨Int32.not_lt.mpr hc2, Or.inr ⟨p, e, hoP, he, ?_⟩⟩, hF.1, fun k hk => by rw [hFT k (by omega) (by omega), hF.2 k (by omega) (by omega)]⟩, rfl, rfl⟩
          first
          | exact (if_pos (Int32.not_le.mp hc37)).symm
          | (unfold plF
             rw [if_neg (Int32.not_lt.mpr hv0), if_pos (nI_lt hk (by omega)), i2n_nI (by omega)]
             exact hT33 k hk)
          | (unfold plF
             rw [if_neg (Int32.not_lt.mpr hv0), if_neg (Int32.not_lt.mpr hc46)])
      · skip
        refine J_iload_2 C dX6_done_40 ?_
        refine J_goto C 60 dX6_done_41 (by decide) ?_
        refine hQ _ _ _ _ dX6_done_60 ⟨_, _, _, _, rfl, ?_⟩
        refine ⟨⟨Or.inr ⟨Int32.not_lt.mpr hc2, Or.inr ⟨p, e, hoP, he, ?_⟩⟩, hF.1, fun k hk => by rw [hFT k (by omega) (by omega), hF.2 k (by omega) (by omega)]⟩, rfl, rfl⟩
        first
        | exact (if_pos (Int32.not_le.mp hc37)).symm
        | (unfold plF
           rw [if_neg (Int32.not_lt.mpr hv0), if_pos (nI_lt hk (by omega)), i2n_nI (by omega)]
           exact hT33 k hk)
        | (unfold plF
           rw [if_neg (Int32.not_lt.mpr hv0), if_neg (Int32.not_lt.mpr hc46)])
    · skip
      refine J_bipush C (-9) dX6_done_24 bc_m9 ?_
      refine hQ _ _ _ _ dX6_done_26 ⟨_, _, _, _, rfl, ?_⟩
      have hn : o = none := by
        cases o with
        | none => rfl
        | some p =>
          obtain ⟨e, he, hst, he9⟩ := stO_some (m := m) (ρ := ρ) hm hs ho
          rw [hst] at hc21
          exact absurd (nI_pos' (by omega)) hc21
      subst hn
      exact ⟨⟨Or.inr ⟨Int32.not_lt.mpr hc2, Or.inl ⟨ho.congr (fun e => (Pd_all e).symm), rfl⟩⟩, FrP.of hF⟩, rfl, rfl⟩
  · skip
    refine J_iconst C (-1) dX6_done_5 ic_m1 ?_
    refine hQ _ _ _ _ dX6_done_6 ⟨_, _, _, _, rfl, ?_⟩
    exact ⟨⟨Or.inl ⟨Int32.not_le.mp hc2, rfl⟩, FrP.rf⟩, rfl, rfl⟩
abbrev rmX6_rent : Room := { frames := 5, cells := 0, slots := 0, locals := 117 }
theorem kcX6_rent_241 : Cond.constantLong RX6 241 (20) ∈ wsX6_rent := by decide +kernel
theorem fX6_rent_180 : Cond.fieldLink RX6 180 RX6 (TX6 11).2.1 (TX6 11).2.2.1 ∈ wsX6_rent := by decide +kernel
theorem fX6_rent_227 : Cond.fieldLink RX6 227 RX6 (TX6 34).2.1 (TX6 34).2.2.1 ∈ wsX6_rent := by decide +kernel
theorem fX6_rent_25 : Cond.fieldLink RX6 25 RX6 (TX6 8).2.1 (TX6 8).2.2.1 ∈ wsX6_rent := by decide +kernel
theorem fX6_rent_62 : Cond.fieldLink RX6 62 RX6 (TX6 32).2.1 (TX6 32).2.2.1 ∈ wsX6_rent := by decide +kernel
theorem fX6_rent_65 : Cond.fieldLink RX6 65 RX6 (TX6 33).2.1 (TX6 33).2.2.1 ∈ wsX6_rent := by decide +kernel
theorem fX6_rent_72 : Cond.fieldLink RX6 72 RX6 (TX6 36).2.1 (TX6 36).2.2.1 ∈ wsX6_rent := by decide +kernel
theorem iX6_rent_6 : ∀ x ∈ wsX60, x ∈ wsX6_rent := by decide +kernel
set_option maxRecDepth 100000 in
set_option maxHeartbeats 4000000 in
theorem c_X6_rent (E : EN) (hM : EM E) (g : Nat → Int32) (h : Nat → Int64) (T : Nat → Nat → Int32) (L : Nat → Nat → Int64) (m : Nat) (ρ : Nat → Nat → Nat) (hR : RvM g T m ρ) (s ld : Nat) (hs : s < 256) (hld : ld < 1000) (hg : g 4811 = nI s) (hgl : g 4808 = nI ld) (d v : Int32) : GtI E yX6_rent wsX6_rent rmX6_rent [.ref (eA E 48), .int d, .int v] g h T L (fun r g2 h2 T2 L2 => (RnR (bl m ρ ld (2 ^ m - 1) s) (rtE ρ m) d v r ∧ FrP g g2 T T2) ∧ h2 = h ∧ L2 = L) := by
  refine CtI_of (cc := cX6_rent) (nL := 7) RX6 [some (.ref (eA E 48)), some (.int d), some (.int v), none, none, none, none] ⟨rfl, rfl⟩ (by decide) rfl rfl (Nat.le_of_ble_eq_true rfl) ⟨4, rfl⟩ hM.2 (fun Y C hQ => ?_)
  have hM0 := hM
  obtain ⟨hS, hNN⟩ := hM
  have hm := hR.1
  have hrr : ∀ t, t < m → ρ 1 t ≤ 9 := fun t ht => (hR.2.2.2 t ht).1
  refine J_iload_1 C dX6_rent_0 ?_
  refine J_i2l C dX6_rent_1 ?_
  refine J_lconst C (0) dX6_rent_2 lc_0 ?_
  refine J_ldc2 C kcX6_rent_241 dX6_rent_3 ?_
  refine G_spi C dX6_rent_6 (c_X6_in E hM0 _ _ _ g h T L) gX6_rent_X6_in rfl dm_X6_in rfl rfl (Nat.le_of_ble_eq_true rfl) (rmOK_b rfl) (fun r6 hr6 => ?_)
  subst hr6
  refine J_if_eq C 17 dX6_rent_9 (by decide) (fun hc9 => ?_) (fun hc9 => ?_)
  · skip
    refine J_iconst C (-1) dX6_rent_17 ic_m1 ?_
    refine hQ _ _ _ _ dX6_rent_18 ⟨_, _, _, _, rfl, ?_⟩
    refine ⟨⟨Or.inl ⟨?_, rfl⟩, FrP.rf⟩, rfl, rfl⟩
    first
    | exact Or.inr (Int32.not_le.mp hc14)
    | exact Or.inl (fun z => absurd (hc9.symm.trans (if_pos ((in_i (k := 20)).mpr z))) (by decide))
  · skip
    refine J_iload_2 C dX6_rent_12 ?_
    refine J_iconst C (-1) dX6_rent_13 ic_m1 ?_
    refine J_icmp_ge C 19 dX6_rent_14 (by decide) (fun hc14 => ?_) (fun hc14 => ?_)
    · skip
      have hd : 0 ≤ d ∧ d ≤ 20 := (in_i (k := 20)).mp (Decidable.byContradiction fun z => by
        apply hc9
        exact if_neg z)
      obtain ⟨dn, hdn, rfl⟩ := nI_of2 (x := d) (M := 20) (n := 20) (by decide) (Int32.not_lt.mpr hd.1) hd.2
      refine J_aload_0 C dX6_rent_19 ?_
      refine J_aload_0 C dX6_rent_20 ?_
      refine G6_geti C (n := 4811) 11 dX6_rent_21 fX6_rent_180 iX6_rent_6 rfl (hS _ (by decide)) rfl rfl ?_
      refine J_top (y := nI s) hg ?_
      refine J_aload_0 C dX6_rent_24 ?_
      refine G6_geti C (n := 4808) 8 dX6_rent_25 fX6_rent_25 iX6_rent_6 rfl (hS _ (by decide)) rfl rfl ?_
      refine J_top (y := nI ld) hgl ?_
      refine G_vtv C dX6_rent_28 (c_X6_goes E hM0 m ρ g h T L hR s ld hs hld) gX6_rent_X6_goes rfl dm_X6_goes rfl rfl (hS _ (by decide)) rfl rfl (Nat.le_of_ble_eq_true rfl) (rmOK_b rfl) (fun g28 h28 T28 L28 hp28 => ?_)
      obtain ⟨rfl, rfl, hF, hX⟩ := hp28
      have hR2 := hR.fr hF
      have hB := bfs_BI (wt := ρ 2) (fr := ρ 3) (ld := ld) (th := 2 ^ m - 1) hm hs
      have hlen := hB.len
      have hg2 : g28 4811 = nI s := by rw [hF.1 4811 (by decide)]; exact hg
      have hgl2 : g28 4808 = nI ld := by rw [hF.1 4808 (by decide)]; exact hgl
      obtain ⟨l, hl⟩ : ∃ l, l = bfs (crN m (ρ 2) (ρ 3) ld (2 ^ m - 1)) (2 ^ m) s := ⟨_, rfl⟩
      rw [← hl] at hX hB hlen
      have h00 : ∀ e, l[0]? = some e → e.2.1 = 0 := fun e he => by rw [hB.1] at he; cases he; rfl
      have hRR := rtE_le (ρ := ρ) hm hrr
      refine J_sipush C (1000) dX6_rent_31 sc_1000 ?_
      refine J_top (y := nI 1000) rfl ?_
      refine J_istore_3 C dX6_rent_34 (by decide) trivial ?_
      refine J_iconst C (0) dX6_rent_35 ic_0 ?_
      refine J_istore_4 C dX6_rent_36 (by decide) trivial ?_
      refine J_iconst C (0) dX6_rent_38 ic_0 ?_
      refine J_istore_5 C dX6_rent_39 (by decide) trivial ?_
      have loop : ∀ (n2 : Nat) (k ls nn : Nat) (x6 : Option Value), k ≤ l.length → l.length < n2 + k → ls ≤ 1000 → RI l (rtE ρ m) dn k ls nn → J E Y (eN E) 0 0 (wS E g28 h28 T28 L28) 41 [some (.ref (eA E 48)), some (.int (nI dn)), some (.int v), some (.int (nI ls)), some (.int (nI nn)), some (.int (nI k)), x6] [] := by
        intro n2
        induction n2 with
        | zero =>
          intro k ls nn x6 hk hfu hls hI
          omega
        | succ n2 ih =>
          intro k ls nn x6 hk hfu hls hI
          refine J_iload_5 C dX6_rent_41 ?_
          refine J_aload_0 C dX6_rent_43 ?_
          refine G6_geti C (n := 4834) 34 dX6_rent_44 fX6_rent_227 iX6_rent_6 rfl (hS _ (by decide)) rfl rfl ?_
          refine J_top (y := nI l.length) hX.1 ?_
          refine J_icmp_ge C 102 dX6_rent_47 (by decide) (fun hc47 => ?_) (fun hc47 => ?_)
          · skip
            have hkl : k = l.length := by
              have := ge_nI (m := l.length) (by omega) hc47
              omega
            subst hkl
            obtain ⟨p, e, hle, rfl, rfl⟩ := hI.fin (by have := get_lt hB.1; omega)
            have he9 : e.2.1 < 256 := by
              have h1 := steps_le hB p e hle.1
              have h2 := get_lt hle.1
              omega
            refine J_aload_0 C dX6_rent_102 ?_
            refine J_iload_4 C dX6_rent_103 ?_
            refine J_iload_3 C dX6_rent_105 ?_
            refine J_iconst C (0) dX6_rent_106 ic_0 ?_
            refine J_top (y := if false = true then 1 else 0) rfl ?_
            have hle2 : isLeast (rtE ρ m) (bl m ρ ld (2 ^ m - 1) s) dn p e := by
              show isLeast (rtE ρ m) (bfs (crN m (ρ 2) (ρ 3) ld (2 ^ m - 1)) (2 ^ m) s) dn p e
              rw [← hl]
              exact hle
            refine G_vtv C dX6_rent_107 (c_X6_plans E hM0 m ρ _ _ _ _ hR2 s ld hs hld hgl2 hg2 (hl ▸ hX) e.2.1 (rtE ρ m e) (by have := hRR e; omega) false p e (hl ▸ hle.1) ⟨rfl, Nat.le_refl _, fun z => by cases z⟩ (fun j f hj hf ⟨z1, z2, _⟩ => by
        rw [← hl] at hf
        have := (hle.2.2 j f hf (by rw [z1]; exact hle.2.1)).2 hj
        omega)) gX6_rent_X6_plans rfl dm_X6_plans rfl rfl (hS _ (by decide)) rfl rfl (Nat.le_of_ble_eq_true rfl) (rmOK_b rfl) (fun g107 h107 T107 L107 hp107 => ?_)
            obtain ⟨rfl, rfl, rfl, hFT, hT107⟩ := hp107
            rw [← hl] at hT107
            refine J_iload_2 C dX6_rent_110 ?_
            refine J_if_ge C 118 dX6_rent_111 (by decide) (fun hc111 => ?_) (fun hc111 => ?_)
            · skip
              have hv0 : 0 ≤ v := hc111
              refine J_iload_2 C dX6_rent_118 ?_
              refine J_iload_4 C dX6_rent_119 ?_
              refine J_icmp_ge C 133 dX6_rent_121 (by decide) (fun hc121 => ?_) (fun hc121 => ?_)
              · skip
                refine J_bipush C (-5) dX6_rent_133 bc_m5 ?_
                refine hQ _ _ _ _ dX6_rent_135 ⟨_, _, _, _, rfl, ?_⟩
                refine ⟨⟨Or.inr ⟨dn, rfl, hdn, Int32.not_lt.mpr hc14, p, e, hle2, ?_⟩, hF.1, fun k hk => by rw [hFT k (by omega) (by omega), hF.2 k (by omega) (by omega)]⟩, rfl, rfl⟩
                show _ = plF _ (bfs (crN m (ρ 2) (ρ 3) ld (2 ^ m - 1)) (2 ^ m) s) _ _ _
                rw [← hl]
                first
                | exact (if_pos (Int32.not_le.mp hc111)).symm
                | (unfold plF
                   rw [if_neg (Int32.not_lt.mpr hv0), if_pos (nI_lt hk (by omega)), i2n_nI (by omega)]
                   exact hT107 k hk)
                | (unfold plF
                   rw [if_neg (Int32.not_lt.mpr hv0), if_neg (Int32.not_lt.mpr hc121)])
              · skip
                obtain ⟨k, rfl, hk, -⟩ : ∃ k, v = nI k ∧ k < e.2.1 ∧ True := by
                  obtain ⟨j, hj1, hj2, _⟩ := pk_mu (x := v) (L := e.2.1) (Int32.not_lt.mpr hv0) hc121 (by omega)
                  exact ⟨j, hj2, hj1, trivial⟩
                refine J_aload_0 C dX6_rent_124 ?_
                refine G6_getr C (n := 65) 36 dX6_rent_125 fX6_rent_72 iX6_rent_6 rfl (hS _ (by decide)) rfl rfl ?_
                refine J_iload_2 C dX6_rent_128 ?_
                refine G_iald C k dX6_rent_129 rfl (hS _ (by decide)) rfl (by omega) ?_
                refine J_goto C 135 dX6_rent_130 (by decide) ?_
                refine hQ _ _ _ _ dX6_rent_135 ⟨_, _, _, _, rfl, ?_⟩
                refine ⟨⟨Or.inr ⟨dn, rfl, hdn, Int32.not_lt.mpr hc14, p, e, hle2, ?_⟩, hF.1, fun k hk => by rw [hFT k (by omega) (by omega), hF.2 k (by omega) (by omega)]⟩, rfl, rfl⟩
                show _ = plF _ (bfs (crN m (ρ 2) (ρ 3) ld (2 ^ m - 1)) (2 ^ m) s) _ _ _
                rw [← hl]
                first
                | exact (if_pos (Int32.not_le.mp hc111)).symm
                | (unfold plF
                   rw [if_neg (Int32.not_lt.mpr hv0), if_pos (nI_lt hk (by omega)), i2n_nI (by omega)]
                   exact hT107 k hk)
                | (unfold plF
                   rw [if_neg (Int32.not_lt.mpr hv0), if_neg (Int32.not_lt.mpr hc121)])
            · skip
              refine J_iload_3 C dX6_rent_114 ?_
              refine J_goto C 135 dX6_rent_115 (by decide) ?_
              refine hQ _ _ _ _ dX6_rent_135 ⟨_, _, _, _, rfl, ?_⟩
              refine ⟨⟨Or.inr ⟨dn, rfl, hdn, Int32.not_lt.mpr hc14, p, e, hle2, ?_⟩, hF.1, fun k hk => by rw [hFT k (by omega) (by omega), hF.2 k (by omega) (by omega)]⟩, rfl, rfl⟩
              show _ = plF _ (bfs (crN m (ρ 2) (ρ 3) ld (2 ^ m - 1)) (2 ^ m) s) _ _ _
              rw [← hl]
              first
              | exact (if_pos (Int32.not_le.mp hc111)).symm
              | (unfold plF
                 rw [if_neg (Int32.not_lt.mpr hv0), if_pos (nI_lt hk (by omega)), i2n_nI (by omega)]
                 exact hT107 k hk)
              | (unfold plF
                 rw [if_neg (Int32.not_lt.mpr hv0), if_neg (Int32.not_lt.mpr hc121)])
          · skip
            have hkl : k < l.length := lt_nI (m := l.length) (by omega) hc47
            obtain ⟨e1, hk1⟩ : ∃ e1, l[k]? = some e1 := ⟨_, List.getElem?_eq_getElem hkl⟩
            have he1 : e1.1 < 256 := hB.2.2.1 k e1 hk1
            obtain ⟨x1, x2⟩ := hX.2.1 k e1 hk1
            have he19 : e1.2.1 < 256 := by
              have h1 := steps_le hB k e1 hk1
              omega
            have hR1 := hRR e1
            refine J_aload_0 C dX6_rent_50 ?_
            refine G6_getr C (n := 63) 33 dX6_rent_51 fX6_rent_65 iX6_rent_6 rfl (hS _ (by decide)) rfl rfl ?_
            refine J_iload_5 C dX6_rent_54 ?_
            refine G_iald C k dX6_rent_56 rfl (hS _ (by decide)) rfl (by omega) ?_
            refine J_top (y := nI e1.1) x1 ?_
            refine J_istore_6 C dX6_rent_57 (by decide) trivial ?_
            refine J_aload_0 C dX6_rent_59 ?_
            refine G6_getr C (n := 62) 32 dX6_rent_60 fX6_rent_62 iX6_rent_6 rfl (hS _ (by decide)) rfl rfl ?_
            refine J_iload_6 C dX6_rent_63 ?_
            refine G_iald C e1.1 dX6_rent_65 rfl (hS _ (by decide)) rfl he1 ?_
            refine J_top (y := nI e1.2.1) x2 ?_
            refine J_iload_1 C dX6_rent_66 ?_
            refine J_icmp_gt C 96 dX6_rent_67 (by decide) (fun hc67 => ?_) (fun hc67 => ?_)
            · skip
              refine J_iinc_5 C (1) dX6_rent_96 (by decide) trivial ic_1 ?_
              refine J_goto C 41 dX6_rent_99 (by decide) ?_
              rw [nI_1]
              first
              | exact ih (k + 1) (rtE ρ m e1) e1.2.1 _ (by omega) (by omega) (by omega) (hI.take hRR hk1 ((nI_leI (by omega) (by omega)).mp (Int32.not_lt.mp hc67)) ((nI_ltI (b := ls) (by omega) (by omega)).mp (Int32.not_le.mp hc77)))
              | exact ih (k + 1) ls nn _ (by omega) (by omega) hls (hI.skip h00 hRR hk1 (fun _ => ((nI_leI (a := ls) (by omega) (by omega)).mp hc77)))
              | exact ih (k + 1) ls nn _ (by omega) (by omega) hls (hI.skip h00 hRR hk1 (fun z => absurd z (Nat.not_le.mpr ((nI_ltI (by omega) (by omega)).mp hc67))))
            · skip
              refine J_aload_0 C dX6_rent_70 ?_
              refine J_iload_6 C dX6_rent_71 ?_
              refine G_vpi C dX6_rent_73 (c_X6_rentOf E hM0 m ρ _ _ _ _ hR2 e1.1 he1) gX6_rent_X6_rentOf rfl dm_X6_rentOf rfl rfl (hS _ (by decide)) rfl rfl (Nat.le_of_ble_eq_true rfl) (rmOK_b rfl) (fun r73 hr73 => ?_)
              subst hr73
              refine J_iload_3 C dX6_rent_76 ?_
              refine J_icmp_ge C 96 dX6_rent_77 (by decide) (fun hc77 => ?_) (fun hc77 => ?_)
              · skip
                refine J_iinc_5 C (1) dX6_rent_96 (by decide) trivial ic_1 ?_
                refine J_goto C 41 dX6_rent_99 (by decide) ?_
                rw [nI_1]
                first
                | exact ih (k + 1) (rtE ρ m e1) e1.2.1 _ (by omega) (by omega) (by omega) (hI.take hRR hk1 ((nI_leI (by omega) (by omega)).mp (Int32.not_lt.mp hc67)) ((nI_ltI (b := ls) (by omega) (by omega)).mp (Int32.not_le.mp hc77)))
                | exact ih (k + 1) ls nn _ (by omega) (by omega) hls (hI.skip h00 hRR hk1 (fun _ => ((nI_leI (a := ls) (by omega) (by omega)).mp hc77)))
                | exact ih (k + 1) ls nn _ (by omega) (by omega) hls (hI.skip h00 hRR hk1 (fun z => absurd z (Nat.not_le.mpr ((nI_ltI (by omega) (by omega)).mp hc67))))
              · skip
                refine J_aload_0 C dX6_rent_80 ?_
                refine J_iload_6 C dX6_rent_81 ?_
                refine G_vpi C dX6_rent_83 (c_X6_rentOf E hM0 m ρ _ _ _ _ hR2 e1.1 he1) gX6_rent_X6_rentOf rfl dm_X6_rentOf rfl rfl (hS _ (by decide)) rfl rfl (Nat.le_of_ble_eq_true rfl) (rmOK_b rfl) (fun r83 hr83 => ?_)
                subst hr83
                refine J_istore_3 C dX6_rent_86 (by decide) trivial ?_
                refine J_aload_0 C dX6_rent_87 ?_
                refine G6_getr C (n := 62) 32 dX6_rent_88 fX6_rent_62 iX6_rent_6 rfl (hS _ (by decide)) rfl rfl ?_
                refine J_iload_6 C dX6_rent_91 ?_
                refine G_iald C e1.1 dX6_rent_93 rfl (hS _ (by decide)) rfl he1 ?_
                refine J_top (y := nI e1.2.1) x2 ?_
                refine J_istore_4 C dX6_rent_94 (by decide) trivial ?_
                refine J_iinc_5 C (1) dX6_rent_96 (by decide) trivial ic_1 ?_
                refine J_goto C 41 dX6_rent_99 (by decide) ?_
                rw [nI_1]
                first
                | exact ih (k + 1) (rtE ρ m e1) e1.2.1 _ (by omega) (by omega) (by omega) (hI.take hRR hk1 ((nI_leI (by omega) (by omega)).mp (Int32.not_lt.mp hc67)) ((nI_ltI (b := ls) (by omega) (by omega)).mp (Int32.not_le.mp hc77)))
                | exact ih (k + 1) ls nn _ (by omega) (by omega) hls (hI.skip h00 hRR hk1 (fun _ => ((nI_leI (a := ls) (by omega) (by omega)).mp hc77)))
                | exact ih (k + 1) ls nn _ (by omega) (by omega) hls (hI.skip h00 hRR hk1 (fun z => absurd z (Nat.not_le.mpr ((nI_ltI (by omega) (by omega)).mp hc67))))
      exact loop (l.length + 1) 0 1000 0 _ (by omega) (by omega) (by omega) (Or.inl ⟨rfl, rfl, rfl⟩)
    · skip
      refine J_iconst C (-1) dX6_rent_17 ic_m1 ?_
      refine hQ _ _ _ _ dX6_rent_18 ⟨_, _, _, _, rfl, ?_⟩
      refine ⟨⟨Or.inl ⟨?_, rfl⟩, FrP.rf⟩, rfl, rfl⟩
      first
      | exact Or.inr (Int32.not_le.mp hc14)
      | exact Or.inl (fun z => absurd (hc9.symm.trans (if_pos ((in_i (k := 20)).mpr z))) (by decide))
