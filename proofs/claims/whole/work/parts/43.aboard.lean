/-! Sightings: who can have been aboard -/
abbrev rmX4_keepThoseThatGoOn : Room := { frames := 4, cells := 0, slots := 0, locals := 95 }
theorem fX4_keepThoseThatGoOn_29 : Cond.fieldLink RX4 29 RX4 (TX4 4).2.1 (TX4 4).2.2.1 ∈ wsX4_keepThoseThatGoOn := by decide +kernel
theorem iX4_keepThoseThatGoOn_4 : ∀ x ∈ wsX40, x ∈ wsX4_keepThoseThatGoOn := by decide +kernel
theorem dm_X4_crossedFrom : yX4_crossedFrom.cls = RX4 ∧ yX4_crossedFrom.cls ≠ "java/lang/invoke/MethodHandle" ∧ yX4_crossedFrom.cls ≠ "java/lang/invoke/VarHandle" ∧ (parseMethodDescriptor yX4_crossedFrom.desc).map (fun d => d.parameters.length) = some 3 := by decide +kernel
set_option maxRecDepth 100000 in
set_option maxHeartbeats 4000000 in
theorem c_X4_keepThoseThatGoOn (E : EN) (hM : EM E) (m : Nat) (ρ : Nat → Nat → Nat) (g : Nat → Int32) (h : Nat → Int64) (T : Nat → Nat → Int32) (L : Nat → Nat → Int64) (hR : RvX g T m ρ) (ld : Nat) (hld : ld < 1000) (hgl : g 604 = nI ld) (kk : Nat) (V W : Nat → Nat) (hkk : kk < 5) (hV : ∀ s, s < 256 → L (36 + kk) s = lN (V s) ∧ V s < 2 ^ 63) (hW : ∀ t, t < 256 → L (36 + (kk + 1)) t = lN (W t) ∧ W t < 2 ^ 63) : GtI E yX4_keepThoseThatGoOn wsX4_keepThoseThatGoOn rmX4_keepThoseThatGoOn [.ref (eA E 31), .ref (eA E 6), .int (nI (kk + 1))] g h T L (fun r g2 h2 T2 L2 => g2 = g ∧ h2 = h ∧ T2 = T ∧ (∀ k, k ≠ 36 + kk → L2 k = L k) ∧ (∀ s, s < 256 → ∃ v, L2 (36 + kk) s = lN v ∧ v < 2 ^ 63 ∧ (v ≠ 0 ↔ V s ≠ 0 ∧ ∃ b t, b < 2 ^ m ∧ (crN m (ρ 2) (ρ 3) ld (2 ^ m - 1)) s b = some t ∧ W t ≠ 0)) ∧ ∃ U, r = nI U ∧ U < 128 ∧ ∀ i, U.testBit i = true ↔ ∃ s b t, s < 256 ∧ b < 2 ^ m ∧ V s ≠ 0 ∧ (crN m (ρ 2) (ρ 3) ld (2 ^ m - 1)) s b = some t ∧ W t ≠ 0 ∧ b.testBit i = true) := by
  refine CtI_of (cc := cX4_keepThoseThatGoOn) (nL := 6) RX4 [some (.ref (eA E 31)), some (.ref (eA E 6)), some (.int (nI (kk + 1))), none, none, none] ⟨rfl, rfl⟩ (by decide) rfl rfl (Nat.le_of_ble_eq_true rfl) ⟨3, rfl⟩ hM.2 (fun Y C hQ => ?_)
  have hM0 := hM
  obtain ⟨hS, hNN⟩ := hM
  have hm := hR.1
  have h7 := p7 hm
  refine J_iconst C (0) dX4_keepThoseThatGoOn_0 ic_0 ?_
  refine J_istore_3 C dX4_keepThoseThatGoOn_1 (by decide) trivial ?_
  refine J_iconst C (0) dX4_keepThoseThatGoOn_2 ic_0 ?_
  refine J_istore_4 C dX4_keepThoseThatGoOn_3 (by decide) trivial ?_
  have loop : ∀ (n : Nat) (s : Nat) (L2 : Nat → Nat → Int64) (U : Nat) (x5 : Option Value), s ≤ 256 → 256 < n + s → (∀ k, k ≠ 36 + kk → L2 k = L k) → (∀ s', s ≤ s' → s' < 256 → L2 (36 + kk) s' = L (36 + kk) s') → (∀ s', s' < s → ∃ v, L2 (36 + kk) s' = lN v ∧ v < 2 ^ 63 ∧ (v ≠ 0 ↔ V s' ≠ 0 ∧ ∃ b t, b < 2 ^ m ∧ (crN m (ρ 2) (ρ 3) ld (2 ^ m - 1)) s' b = some t ∧ W t ≠ 0)) → U < 128 → (∀ i, U.testBit i = true ↔ ∃ s' b t, s' < s ∧ b < 2 ^ m ∧ V s' ≠ 0 ∧ (crN m (ρ 2) (ρ 3) ld (2 ^ m - 1)) s' b = some t ∧ W t ≠ 0 ∧ b.testBit i = true) → J E Y (eN E) 0 0 (wS E g h T L2) 5 [some (.ref (eA E 31)), some (.ref (eA E 6)), some (.int (nI (kk + 1))), some (.int (nI U)), some (.int (nI s)), x5] [] := by
    intro n
    induction n with
    | zero =>
      intro s L2 U x5 hs1 hs2 hL2 hup hdn hU hUi
      omega
    | succ n ih =>
      intro s L2 U x5 hs1 hs2 hL2 hup hdn hU hUi
      refine J_iload_4 C dX4_keepThoseThatGoOn_5 ?_
      refine J_sipush C (256) dX4_keepThoseThatGoOn_7 sc_256 ?_
      refine J_icmp_ge C 70 dX4_keepThoseThatGoOn_10 (by decide) (fun hc10 => ?_) (fun hc10 => ?_)
      · skip
        refine J_iload_3 C dX4_keepThoseThatGoOn_70 ?_
        refine hQ _ _ _ _ dX4_keepThoseThatGoOn_71 ⟨_, _, _, _, rfl, ?_⟩
        have hs : s = 256 := by
          have := ge_nI (m := 256) (by omega) hc10
          omega
        subst hs
        exact ⟨rfl, rfl, rfl, hL2, hdn, U, rfl, hU, hUi⟩
      · skip
        have hs : s < 256 := lt_nI (m := 256) (by omega) hc10
        have hW2 : ∀ t, t < 256 → L2 (36 + (kk + 1)) t = lN (W t) ∧ W t < 2 ^ 63 := fun t ht => by rw [hL2 _ (by omega)]; exact hW t ht
        refine J_aload_0 C dX4_keepThoseThatGoOn_13 ?_
        refine G4_getr C (n := 35) 4 dX4_keepThoseThatGoOn_14 fX4_keepThoseThatGoOn_29 iX4_keepThoseThatGoOn_4 rfl (hS _ (by decide)) rfl rfl ?_
        refine J_iload_2 C dX4_keepThoseThatGoOn_17 ?_
        refine J_iconst C (1) dX4_keepThoseThatGoOn_18 ic_1 ?_
        refine J_isub C dX4_keepThoseThatGoOn_19 ?_
        refine G_gald C (m := 36 + kk) kk dX4_keepThoseThatGoOn_20 rfl (hS _ (by decide)) (nI_pred kk) (by omega) rfl ?_
        refine J_iload_4 C dX4_keepThoseThatGoOn_21 ?_
        refine G_lald C s dX4_keepThoseThatGoOn_23 (kd36 kk (by omega)) (hS _ (by omega)) rfl hs ?_
        rw [hup s (Nat.le_refl _) hs, (hV s hs).1]
        refine J_lconst C (0) dX4_keepThoseThatGoOn_24 lc_0 ?_
        refine J_lcmp C dX4_keepThoseThatGoOn_25 ?_
        refine J_if_eq C 64 dX4_keepThoseThatGoOn_26 (by decide) (fun hc26 => ?_) (fun hc26 => ?_)
        · skip
          refine J_iinc_4 C (1) dX4_keepThoseThatGoOn_64 (by decide) trivial ic_1 ?_
          refine J_goto C 5 dX4_keepThoseThatGoOn_67 (by decide) ?_
          rw [nI_1]
          have hold : ∀ i (q : ∃ s' b t, s' < s + 1 ∧ b < 2 ^ m ∧ V s' ≠ 0 ∧ (crN m (ρ 2) (ρ 3) ld (2 ^ m - 1)) s' b = some t ∧ W t ≠ 0 ∧ b.testBit i = true), U.testBit i = true ∨ ∃ b t, b < 2 ^ m ∧ V s ≠ 0 ∧ (crN m (ρ 2) (ρ 3) ld (2 ^ m - 1)) s b = some t ∧ W t ≠ 0 ∧ b.testBit i = true := by
            rintro i ⟨s', b, t, a1, a2, a3, a4, a5, a6⟩
            by_cases q : s' = s
            · subst q
              exact Or.inr ⟨b, t, a2, a3, a4, a5, a6⟩
            · exact Or.inl ((hUi i).mpr ⟨s', b, t, by omega, a2, a3, a4, a5, a6⟩)
          have hnew : ∀ i, U.testBit i = true → ∃ s' b t, s' < s + 1 ∧ b < 2 ^ m ∧ V s' ≠ 0 ∧ (crN m (ρ 2) (ρ 3) ld (2 ^ m - 1)) s' b = some t ∧ W t ≠ 0 ∧ b.testBit i = true := fun i q => by
            obtain ⟨s', b, t, a1, a2⟩ := (hUi i).mp q
            exact ⟨s', b, t, by omega, a2⟩
          first
          | (rw [cmp_z, lN_z (hV s hs).2] at hc26
             refine ih (s + 1) L2 U _ (by omega) (by omega) hL2 (fun s' h1 h2 => hup s' (by omega) h2) (fun s' h1 => ?_) hU (fun i => ⟨hnew i, fun q => ?_⟩)
             · by_cases q : s' = s
               · subst q
                 exact ⟨V s', (hup s' (Nat.le_refl _) hs).trans (hV s' hs).1, (hV s' hs).2, ⟨fun z => absurd hc26 z, fun z => absurd hc26 z.1⟩⟩
               · exact hdn s' (by omega)
             · rcases hold i q with z | ⟨b, t, a1, a2, -⟩
               · exact z
               · exact absurd hc26 a2)
          | (have hVs : V s ≠ 0 := fun q => hc26 (by rw [cmp_z, lN_z (hV s hs).2]; exact q)
             rcases hr34 with ⟨-, hno⟩ | ⟨U2, e1, e2, -⟩
             · refine ih (s + 1) _ U _ (by omega) (by omega) (fun k hk => by simp [va_up, hk]; exact hL2 k hk) (fun s' h1 h2 => ?_) (fun s' h1 => ?_) hU (fun i => ⟨hnew i, fun q => ?_⟩)
               · simp only [va_up, if_true, vp_updL]
                 rw [if_neg (by omega)]
                 exact hup s' (by omega) h2
               · simp only [va_up, if_true, vp_updL]
                 by_cases q : s' = s
                 · subst q
                   rw [if_pos rfl]
                   refine ⟨0, rfl, by omega, fun z => absurd rfl z, ?_⟩
                   rintro ⟨-, b, t, a1, a2, a3⟩
                   exact absurd ⟨t, a2, a3⟩ (hno b a1)
                 · rw [if_neg q]
                   exact hdn s' (by omega)
               · rcases hold i q with z | ⟨b, t, a1, a2, a3, a4, a5⟩
                 · exact z
                 · exact absurd ⟨t, a3, a4⟩ (hno b a1)
             · rw [e1] at hc41
               exact absurd (nI_pos' (by omega)) hc41)
          | (have hVs : V s ≠ 0 := fun q => hc26 (by rw [cmp_z, lN_z (hV s hs).2]; exact q)
             rcases hr34 with ⟨e1, -⟩ | ⟨U2, e1, e2, ⟨b0, e3, t0, e4, e5⟩, e6⟩
             · rw [e1] at hc41
               exact absurd hc41 (by decide)
             · rw [e1, nI_or]
               refine ih (s + 1) L2 (U ||| U2) _ (by omega) (by omega) hL2 (fun s' h1 h2 => hup s' (by omega) h2) (fun s' h1 => ?_) (Nat.or_lt_two_pow (n := 7) hU e2) (fun i => ?_)
               · by_cases q : s' = s
                 · subst q
                   exact ⟨V s', (hup s' (Nat.le_refl _) hs).trans (hV s' hs).1, (hV s' hs).2, ⟨fun z => ⟨z, b0, t0, e3, e4, e5⟩, fun z => z.1⟩⟩
                 · exact hdn s' (by omega)
               · rw [Nat.testBit_or, Bool.or_eq_true]
                 constructor
                 · rintro (z | z)
                   · exact hnew i z
                   · obtain ⟨b, a1, ⟨t, a2, a3⟩, a4⟩ := (e6 i).mp z
                     exact ⟨s, b, t, by omega, a1, hVs, a2, a3, a4⟩
                 · intro q
                   rcases hold i q with z | ⟨b, t, a1, a2, a3, a4, a5⟩
                   · exact Or.inl z
                   · exact Or.inr ((e6 i).mpr ⟨b, a1, ⟨t, a3, a4⟩, a5⟩))
        · skip
          refine J_aload_0 C dX4_keepThoseThatGoOn_29 ?_
          refine J_aload_1 C dX4_keepThoseThatGoOn_30 ?_
          refine J_iload_4 C dX4_keepThoseThatGoOn_31 ?_
          refine J_iload_2 C dX4_keepThoseThatGoOn_33 ?_
          refine G_vpi C dX4_keepThoseThatGoOn_34 (c_X4_crossedFrom E hM0 m ρ g h T L2 hR ld hld hgl s (kk + 1) W hs (by omega) hW2) gX4_keepThoseThatGoOn_X4_crossedFrom rfl dm_X4_crossedFrom rfl rfl (hS _ (by decide)) rfl rfl (Nat.le_of_ble_eq_true rfl) (rmOK_b rfl) (fun r34 hr34 => ?_)
          skip
          refine J_istore_5 C dX4_keepThoseThatGoOn_37 (by decide) trivial ?_
          refine J_iload_5 C dX4_keepThoseThatGoOn_39 ?_
          refine J_if_ge C 59 dX4_keepThoseThatGoOn_41 (by decide) (fun hc41 => ?_) (fun hc41 => ?_)
          · skip
            refine J_iload_3 C dX4_keepThoseThatGoOn_59 ?_
            refine J_iload_5 C dX4_keepThoseThatGoOn_60 ?_
            refine J_ior C dX4_keepThoseThatGoOn_62 ?_
            
            refine J_istore_3 C dX4_keepThoseThatGoOn_63 (by decide) trivial ?_
            refine J_iinc_4 C (1) dX4_keepThoseThatGoOn_64 (by decide) trivial ic_1 ?_
            refine J_goto C 5 dX4_keepThoseThatGoOn_67 (by decide) ?_
            rw [nI_1]
            have hold : ∀ i (q : ∃ s' b t, s' < s + 1 ∧ b < 2 ^ m ∧ V s' ≠ 0 ∧ (crN m (ρ 2) (ρ 3) ld (2 ^ m - 1)) s' b = some t ∧ W t ≠ 0 ∧ b.testBit i = true), U.testBit i = true ∨ ∃ b t, b < 2 ^ m ∧ V s ≠ 0 ∧ (crN m (ρ 2) (ρ 3) ld (2 ^ m - 1)) s b = some t ∧ W t ≠ 0 ∧ b.testBit i = true := by
              rintro i ⟨s', b, t, a1, a2, a3, a4, a5, a6⟩
              by_cases q : s' = s
              · subst q
                exact Or.inr ⟨b, t, a2, a3, a4, a5, a6⟩
              · exact Or.inl ((hUi i).mpr ⟨s', b, t, by omega, a2, a3, a4, a5, a6⟩)
            have hnew : ∀ i, U.testBit i = true → ∃ s' b t, s' < s + 1 ∧ b < 2 ^ m ∧ V s' ≠ 0 ∧ (crN m (ρ 2) (ρ 3) ld (2 ^ m - 1)) s' b = some t ∧ W t ≠ 0 ∧ b.testBit i = true := fun i q => by
              obtain ⟨s', b, t, a1, a2⟩ := (hUi i).mp q
              exact ⟨s', b, t, by omega, a2⟩
            first
            | (rw [cmp_z, lN_z (hV s hs).2] at hc26
               refine ih (s + 1) L2 U _ (by omega) (by omega) hL2 (fun s' h1 h2 => hup s' (by omega) h2) (fun s' h1 => ?_) hU (fun i => ⟨hnew i, fun q => ?_⟩)
               · by_cases q : s' = s
                 · subst q
                   exact ⟨V s', (hup s' (Nat.le_refl _) hs).trans (hV s' hs).1, (hV s' hs).2, ⟨fun z => absurd hc26 z, fun z => absurd hc26 z.1⟩⟩
                 · exact hdn s' (by omega)
               · rcases hold i q with z | ⟨b, t, a1, a2, -⟩
                 · exact z
                 · exact absurd hc26 a2)
            | (have hVs : V s ≠ 0 := fun q => hc26 (by rw [cmp_z, lN_z (hV s hs).2]; exact q)
               rcases hr34 with ⟨-, hno⟩ | ⟨U2, e1, e2, -⟩
               · refine ih (s + 1) _ U _ (by omega) (by omega) (fun k hk => by simp [va_up, hk]; exact hL2 k hk) (fun s' h1 h2 => ?_) (fun s' h1 => ?_) hU (fun i => ⟨hnew i, fun q => ?_⟩)
                 · simp only [va_up, if_true, vp_updL]
                   rw [if_neg (by omega)]
                   exact hup s' (by omega) h2
                 · simp only [va_up, if_true, vp_updL]
                   by_cases q : s' = s
                   · subst q
                     rw [if_pos rfl]
                     refine ⟨0, rfl, by omega, fun z => absurd rfl z, ?_⟩
                     rintro ⟨-, b, t, a1, a2, a3⟩
                     exact absurd ⟨t, a2, a3⟩ (hno b a1)
                   · rw [if_neg q]
                     exact hdn s' (by omega)
                 · rcases hold i q with z | ⟨b, t, a1, a2, a3, a4, a5⟩
                   · exact z
                   · exact absurd ⟨t, a3, a4⟩ (hno b a1)
               · rw [e1] at hc41
                 exact absurd (nI_pos' (by omega)) hc41)
            | (have hVs : V s ≠ 0 := fun q => hc26 (by rw [cmp_z, lN_z (hV s hs).2]; exact q)
               rcases hr34 with ⟨e1, -⟩ | ⟨U2, e1, e2, ⟨b0, e3, t0, e4, e5⟩, e6⟩
               · rw [e1] at hc41
                 exact absurd hc41 (by decide)
               · rw [e1, nI_or]
                 refine ih (s + 1) L2 (U ||| U2) _ (by omega) (by omega) hL2 (fun s' h1 h2 => hup s' (by omega) h2) (fun s' h1 => ?_) (Nat.or_lt_two_pow (n := 7) hU e2) (fun i => ?_)
                 · by_cases q : s' = s
                   · subst q
                     exact ⟨V s', (hup s' (Nat.le_refl _) hs).trans (hV s' hs).1, (hV s' hs).2, ⟨fun z => ⟨z, b0, t0, e3, e4, e5⟩, fun z => z.1⟩⟩
                   · exact hdn s' (by omega)
                 · rw [Nat.testBit_or, Bool.or_eq_true]
                   constructor
                   · rintro (z | z)
                     · exact hnew i z
                     · obtain ⟨b, a1, ⟨t, a2, a3⟩, a4⟩ := (e6 i).mp z
                       exact ⟨s, b, t, by omega, a1, hVs, a2, a3, a4⟩
                   · intro q
                     rcases hold i q with z | ⟨b, t, a1, a2, a3, a4, a5⟩
                     · exact Or.inl z
                     · exact Or.inr ((e6 i).mpr ⟨b, a1, ⟨t, a3, a4⟩, a5⟩))
          · skip
            refine J_aload_0 C dX4_keepThoseThatGoOn_44 ?_
            refine G4_getr C (n := 35) 4 dX4_keepThoseThatGoOn_45 fX4_keepThoseThatGoOn_29 iX4_keepThoseThatGoOn_4 rfl (hS _ (by decide)) rfl rfl ?_
            refine J_iload_2 C dX4_keepThoseThatGoOn_48 ?_
            refine J_iconst C (1) dX4_keepThoseThatGoOn_49 ic_1 ?_
            refine J_isub C dX4_keepThoseThatGoOn_50 ?_
            refine G_gald C (m := 36 + kk) kk dX4_keepThoseThatGoOn_51 rfl (hS _ (by decide)) (nI_pred kk) (by omega) rfl ?_
            refine J_iload_4 C dX4_keepThoseThatGoOn_52 ?_
            refine J_lconst C (0) dX4_keepThoseThatGoOn_54 lc_0 ?_
            refine G_last C s dX4_keepThoseThatGoOn_55 (kd36 kk (by omega)) (hS _ (by omega)) rfl hs ?_
            refine J_goto C 64 dX4_keepThoseThatGoOn_56 (by decide) ?_
            refine J_iinc_4 C (1) dX4_keepThoseThatGoOn_64 (by decide) trivial ic_1 ?_
            refine J_goto C 5 dX4_keepThoseThatGoOn_67 (by decide) ?_
            rw [nI_1]
            have hold : ∀ i (q : ∃ s' b t, s' < s + 1 ∧ b < 2 ^ m ∧ V s' ≠ 0 ∧ (crN m (ρ 2) (ρ 3) ld (2 ^ m - 1)) s' b = some t ∧ W t ≠ 0 ∧ b.testBit i = true), U.testBit i = true ∨ ∃ b t, b < 2 ^ m ∧ V s ≠ 0 ∧ (crN m (ρ 2) (ρ 3) ld (2 ^ m - 1)) s b = some t ∧ W t ≠ 0 ∧ b.testBit i = true := by
              rintro i ⟨s', b, t, a1, a2, a3, a4, a5, a6⟩
              by_cases q : s' = s
              · subst q
                exact Or.inr ⟨b, t, a2, a3, a4, a5, a6⟩
              · exact Or.inl ((hUi i).mpr ⟨s', b, t, by omega, a2, a3, a4, a5, a6⟩)
            have hnew : ∀ i, U.testBit i = true → ∃ s' b t, s' < s + 1 ∧ b < 2 ^ m ∧ V s' ≠ 0 ∧ (crN m (ρ 2) (ρ 3) ld (2 ^ m - 1)) s' b = some t ∧ W t ≠ 0 ∧ b.testBit i = true := fun i q => by
              obtain ⟨s', b, t, a1, a2⟩ := (hUi i).mp q
              exact ⟨s', b, t, by omega, a2⟩
            first
            | (rw [cmp_z, lN_z (hV s hs).2] at hc26
               refine ih (s + 1) L2 U _ (by omega) (by omega) hL2 (fun s' h1 h2 => hup s' (by omega) h2) (fun s' h1 => ?_) hU (fun i => ⟨hnew i, fun q => ?_⟩)
               · by_cases q : s' = s
                 · subst q
                   exact ⟨V s', (hup s' (Nat.le_refl _) hs).trans (hV s' hs).1, (hV s' hs).2, ⟨fun z => absurd hc26 z, fun z => absurd hc26 z.1⟩⟩
                 · exact hdn s' (by omega)
               · rcases hold i q with z | ⟨b, t, a1, a2, -⟩
                 · exact z
                 · exact absurd hc26 a2)
            | (have hVs : V s ≠ 0 := fun q => hc26 (by rw [cmp_z, lN_z (hV s hs).2]; exact q)
               rcases hr34 with ⟨-, hno⟩ | ⟨U2, e1, e2, -⟩
               · refine ih (s + 1) _ U _ (by omega) (by omega) (fun k hk => by simp [va_up, hk]; exact hL2 k hk) (fun s' h1 h2 => ?_) (fun s' h1 => ?_) hU (fun i => ⟨hnew i, fun q => ?_⟩)
                 · simp only [va_up, if_true, vp_updL]
                   rw [if_neg (by omega)]
                   exact hup s' (by omega) h2
                 · simp only [va_up, if_true, vp_updL]
                   by_cases q : s' = s
                   · subst q
                     rw [if_pos rfl]
                     refine ⟨0, rfl, by omega, fun z => absurd rfl z, ?_⟩
                     rintro ⟨-, b, t, a1, a2, a3⟩
                     exact absurd ⟨t, a2, a3⟩ (hno b a1)
                   · rw [if_neg q]
                     exact hdn s' (by omega)
                 · rcases hold i q with z | ⟨b, t, a1, a2, a3, a4, a5⟩
                   · exact z
                   · exact absurd ⟨t, a3, a4⟩ (hno b a1)
               · rw [e1] at hc41
                 exact absurd (nI_pos' (by omega)) hc41)
            | (have hVs : V s ≠ 0 := fun q => hc26 (by rw [cmp_z, lN_z (hV s hs).2]; exact q)
               rcases hr34 with ⟨e1, -⟩ | ⟨U2, e1, e2, ⟨b0, e3, t0, e4, e5⟩, e6⟩
               · rw [e1] at hc41
                 exact absurd hc41 (by decide)
               · rw [e1, nI_or]
                 refine ih (s + 1) L2 (U ||| U2) _ (by omega) (by omega) hL2 (fun s' h1 h2 => hup s' (by omega) h2) (fun s' h1 => ?_) (Nat.or_lt_two_pow (n := 7) hU e2) (fun i => ?_)
                 · by_cases q : s' = s
                   · subst q
                     exact ⟨V s', (hup s' (Nat.le_refl _) hs).trans (hV s' hs).1, (hV s' hs).2, ⟨fun z => ⟨z, b0, t0, e3, e4, e5⟩, fun z => z.1⟩⟩
                   · exact hdn s' (by omega)
                 · rw [Nat.testBit_or, Bool.or_eq_true]
                   constructor
                   · rintro (z | z)
                     · exact hnew i z
                     · obtain ⟨b, a1, ⟨t, a2, a3⟩, a4⟩ := (e6 i).mp z
                       exact ⟨s, b, t, by omega, a1, hVs, a2, a3, a4⟩
                   · intro q
                     rcases hold i q with z | ⟨b, t, a1, a2, a3, a4, a5⟩
                     · exact Or.inl z
                     · exact Or.inr ((e6 i).mpr ⟨b, a1, ⟨t, a3, a4⟩, a5⟩))
  exact loop 257 0 L 0 _ (by omega) (by omega) (fun _ _ => rfl) (fun _ _ _ => rfl) (fun s' hs => absurd hs (Nat.not_lt_zero _)) (by omega) (fun i => by
    rw [Nat.zero_testBit]
    constructor
    · intro q; cases q
    · rintro ⟨s', b, t, q, -⟩
      exact absurd q (Nat.not_lt_zero _))
abbrev rmX4_aboard : Room := { frames := 5, cells := 0, slots := 0, locals := 120 }
theorem dm_X4_keepThoseThatGoOn : yX4_keepThoseThatGoOn.cls = RX4 ∧ yX4_keepThoseThatGoOn.cls ≠ "java/lang/invoke/MethodHandle" ∧ yX4_keepThoseThatGoOn.cls ≠ "java/lang/invoke/VarHandle" ∧ (parseMethodDescriptor yX4_keepThoseThatGoOn.desc).map (fun d => d.parameters.length) = some 2 := by decide +kernel
set_option maxRecDepth 100000 in
set_option maxHeartbeats 4000000 in
theorem c_X4_aboard (E : EN) (hM : EM E) (m : Nat) (ρ : Nat → Nat → Nat) (g : Nat → Int32) (h : Nat → Int64) (T : Nat → Nat → Int32) (L : Nat → Nat → Int64) (hR : RvX g T m ρ) (ld : Nat) (hld : ld < 1000) (hgl : g 604 = nI ld) (sn : List (Nat × Nat × Nat)) (bg n c : Nat) (hc0 : 1 ≤ c) (hcn : c ≤ n) (hn : n ≤ 5) (hrow : ∀ k s, k ≤ n → s < 256 → L (36 + k) s = lN ((wy (fun _ => (crN m (ρ 2) (ρ 3) ld (2 ^ m - 1))) (agN sn) (2 ^ m) bg) k s)) : GtI E yX4_aboard wsX4_aboard rmX4_aboard [.ref (eA E 31), .ref (eA E 6), .int (nI n), .int (nI c)] g h T L (fun r g2 h2 T2 L2 => g2 = g ∧ h2 = h ∧ T2 = T ∧ FrL L L2 ∧ ∃ U, r = nI U ∧ U < 128 ∧ ∀ i, U.testBit i = true ↔ ∃ s b t, s < 256 ∧ b < 2 ^ m ∧ (wy (fun _ => (crN m (ρ 2) (ρ 3) ld (2 ^ m - 1))) (agN sn) (2 ^ m) bg) (c - 1) s ≠ 0 ∧ (crN m (ρ 2) (ρ 3) ld (2 ^ m - 1)) s b = some t ∧ Vn (crN m (ρ 2) (ρ 3) ld (2 ^ m - 1)) (wy (fun _ => (crN m (ρ 2) (ρ 3) ld (2 ^ m - 1))) (agN sn) (2 ^ m) bg) (2 ^ m) n (n - c) t ∧ b.testBit i = true) := by
  refine CtI_of (cc := cX4_aboard) (nL := 6) RX4 [some (.ref (eA E 31)), some (.ref (eA E 6)), some (.int (nI n)), some (.int (nI c)), none, none] ⟨rfl, rfl⟩ (by decide) rfl rfl (Nat.le_of_ble_eq_true rfl) ⟨2, rfl⟩ hM.2 (fun Y C hQ => ?_)
  have hM0 := hM
  obtain ⟨hS, hNN⟩ := hM
  have hm := hR.1
  have h7 := p7 hm
  have hcl : ∀ s b t, s < 256 → (crN m (ρ 2) (ρ 3) ld (2 ^ m - 1)) s b = some t → t < 256 := fun s b t hs h => (crN_lt hm hs h).1
  obtain ⟨W, hWd⟩ : ∃ W : Nat → Nat → Nat, W = (wy (fun _ => (crN m (ρ 2) (ρ 3) ld (2 ^ m - 1))) (agN sn) (2 ^ m) bg) := ⟨_, rfl⟩
  rw [← hWd] at hrow
  have hWs : ∀ k s, k ≤ 5 → W k s < 2 ^ 63 := fun k s hk => by rw [hWd]; exact wy_sm hk
  refine J_iconst C (0) dX4_aboard_0 ic_0 ?_
  refine J_istore_4 C dX4_aboard_1 (by decide) trivial ?_
  refine J_iload_2 C dX4_aboard_3 ?_
  refine J_istore_5 C dX4_aboard_4 (by decide) trivial ?_
  have loop : ∀ (n1 : Nat) (k : Nat) (x : Int32) (L2 : Nat → Nat → Int64), k ≤ n → c ≤ k + 1 → k + 1 < n1 + c → FrL L L2 → (∀ j s, j < k → s < 256 → L2 (36 + j) s = lN (W j s)) → (∀ t, t < 256 → ∃ v, L2 (36 + k) t = lN v ∧ v < 2 ^ 63 ∧ (v ≠ 0 ↔ Vn (crN m (ρ 2) (ρ 3) ld (2 ^ m - 1)) W (2 ^ m) n (n - k) t)) → (k < n → ∃ U, x = nI U ∧ U < 128 ∧ ∀ i, U.testBit i = true ↔ ∃ s b t, s < 256 ∧ b < 2 ^ m ∧ W ((k + 1) - 1) s ≠ 0 ∧ (crN m (ρ 2) (ρ 3) ld (2 ^ m - 1)) s b = some t ∧ Vn (crN m (ρ 2) (ρ 3) ld (2 ^ m - 1)) W (2 ^ m) n (n - (k + 1)) t ∧ b.testBit i = true) → J E Y (eN E) 0 0 (wS E g h T L2) 6 [some (.ref (eA E 31)), some (.ref (eA E 6)), some (.int (nI n)), some (.int (nI c)), some (.int x), some (.int (nI k))] [] := by
    intro n1
    induction n1 with
    | zero =>
      intro k x L2 h1 h2 h3 hF hlow hcur hx
      omega
    | succ n1 ih =>
      intro k x L2 h1 h2 h3 hF hlow hcur hx
      refine J_iload_5 C dX4_aboard_6 ?_
      refine J_iload_3 C dX4_aboard_8 ?_
      refine J_icmp_lt C 27 dX4_aboard_9 (by decide) (fun hc9 => ?_) (fun hc9 => ?_)
      · skip
        refine J_iload_4 C dX4_aboard_27 ?_
        refine hQ _ _ _ _ dX4_aboard_29 ⟨_, _, _, _, rfl, ?_⟩
        have hkc : k + 1 = c := by
          have := (nI_ltI (by omega) (by omega)).mp hc9
          omega
        have h9 := hx (by omega)
        rw [hkc, hWd] at h9
        exact ⟨rfl, rfl, rfl, hF, h9⟩
      · skip
        obtain ⟨kk, rfl⟩ : ∃ kk, k = kk + 1 := by
          have hck : c ≤ k := by
            rcases Nat.lt_or_ge k c with q | q
            · exact absurd (nI_lt q (by omega)) hc9
            · exact q
          exact ⟨k - 1, by omega⟩
        have hck : c ≤ kk + 1 := by
          rcases Nat.lt_or_ge (kk + 1) c with q | q
          · exact absurd (nI_lt q (by omega)) hc9
          · exact q
        obtain ⟨f, hf⟩ : ∃ f : Nat → Nat, ∀ t, t < 256 → L2 (36 + (kk + 1)) t = lN (f t) ∧ f t < 2 ^ 63 ∧ (f t ≠ 0 ↔ Vn (crN m (ρ 2) (ρ 3) ld (2 ^ m - 1)) W (2 ^ m) n (n - (kk + 1)) t) :=
          ⟨fun t => if h : t < 256 then (hcur t h).choose else 0, fun t ht => by
            simp only [dif_pos ht]
            exact (hcur t ht).choose_spec⟩
        refine J_aload_0 C dX4_aboard_12 ?_
        refine J_aload_1 C dX4_aboard_13 ?_
        refine J_iload_5 C dX4_aboard_14 ?_
        refine G_vti C dX4_aboard_16 (c_X4_keepThoseThatGoOn E hM0 m ρ g h T L2 hR ld hld hgl kk (W kk) f (by omega) (fun s hs => ⟨hlow kk s (by omega) hs, hWs kk s (by omega)⟩) (fun t ht => ⟨(hf t ht).1, (hf t ht).2.1⟩)) gX4_aboard_X4_keepThoseThatGoOn rfl dm_X4_keepThoseThatGoOn rfl rfl (hS _ (by decide)) rfl rfl (Nat.le_of_ble_eq_true rfl) (rmOK_b rfl) (fun r16 g16 h16 T16 L16 hp16 => ?_)
        refine J_istore_4 C dX4_aboard_19 (by decide) trivial ?_
        refine J_iinc_5 C (-1) dX4_aboard_21 (by decide) trivial ic_m1 ?_
        refine J_goto C 6 dX4_aboard_24 (by decide) ?_
        obtain ⟨rfl, rfl, rfl, k4, k5, U, k6, k7, k8⟩ := hp16
        rw [show (-1 : Int32) = 0 - nI 1 by decide, show nI (kk + 1) + (0 - nI 1) = nI kk from pk_m1 kk]
        refine ih kk r16 L16 (by omega) (by omega) (by omega) (fun i hi => by rw [k4 i (by omega)]; exact hF i hi) (fun j s hj hs => by rw [k4 _ (by omega)]; exact hlow j s (by omega) hs) (fun t ht => ?_) (fun _ => ⟨U, k6, k7, fun i => ?_⟩)
        · obtain ⟨v, e1, e2, e3⟩ := k5 t ht
          refine ⟨v, e1, e2, e3.trans ?_⟩
          have e9 : n - kk = (n - (kk + 1)) + 1 := by omega
          rw [e9]
          show _ ↔ t < 256 ∧ W (n - ((n - (kk + 1)) + 1)) t ≠ 0 ∧ ∃ b u, b < 2 ^ m ∧ (crN m (ρ 2) (ρ 3) ld (2 ^ m - 1)) t b = some u ∧ Vn (crN m (ρ 2) (ρ 3) ld (2 ^ m - 1)) W (2 ^ m) n (n - (kk + 1)) u
          rw [show n - ((n - (kk + 1)) + 1) = kk by omega]
          constructor
          · rintro ⟨q1, b, u, q2, q3, q4⟩
            exact ⟨ht, q1, b, u, q2, q3, (hf u (hcl t b u ht q3)).2.2.mp q4⟩
          · rintro ⟨-, q1, b, u, q2, q3, q4⟩
            exact ⟨q1, b, u, q2, q3, (hf u (hcl t b u ht q3)).2.2.mpr q4⟩
        · rw [k8 i, show kk + 1 - 1 = kk by omega]
          constructor
          · rintro ⟨s, b, t, q1, q2, q3, q4, q5, q6⟩
            exact ⟨s, b, t, q1, q2, q3, q4, (hf t (hcl s b t q1 q4)).2.2.mp q5, q6⟩
          · rintro ⟨s, b, t, q1, q2, q3, q4, q5, q6⟩
            exact ⟨s, b, t, q1, q2, q3, q4, (hf t (hcl s b t q1 q4)).2.2.mpr q5, q6⟩
  refine loop (n + 2) n 0 L (Nat.le_refl _) (by omega) (by omega) (fun _ _ => rfl) (fun j s hj hs => hrow j s (by omega) hs) (fun t ht => ⟨W n t, hrow n t (Nat.le_refl _) ht, hWs n t hn, ?_⟩) (fun q => absurd q (Nat.lt_irrefl _))
  rw [Nat.sub_self]
  exact ⟨fun q => ⟨ht, q⟩, fun q => q.2⟩
