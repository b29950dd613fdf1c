/-! Sightings: follow, waysOf, aboard -/
def FrL (L L2 : Nat → Nat → Int64) : Prop := ∀ k, k < 36 ∨ 41 < k → L2 k = L k
theorem wy_sm {m : Nat} {wt fr : Nat → Nat} {ld th : Nat} {ag : Nat → Nat → Bool} {B bg k s : Nat} (hk : k ≤ 5) : wy (fun _ => crN m wt fr ld th) ag B bg k s < 2 ^ 63 := by
  have := wy_small (ag := ag) (B := B) (bg := bg) (s := s) (fun _ : Nat => crN_inj (m := m) (wt := wt) (fr := fr) (ld := ld) (th := th)) hk
  omega
abbrev rmX4_follow : Room := { frames := 4, cells := 0, slots := 0, locals := 94 }
theorem fX4_follow_29 : Cond.fieldLink RX4 29 RX4 (TX4 4).2.1 (TX4 4).2.2.1 ∈ wsX4_follow := by decide +kernel
theorem fX4_follow_38 : Cond.fieldLink RX4 38 RX3 (TX3 3).2.1 (TX3 3).2.2.1 ∈ wsX4_follow := by decide +kernel
theorem iX4_follow_3 : ∀ x ∈ wsX30, x ∈ wsX4_follow := by decide +kernel
theorem iX4_follow_4 : ∀ x ∈ wsX40, x ∈ wsX4_follow := by decide +kernel
theorem dm_J7_fill_d0a16 : yJ7_fill_d0a16.cls ≠ "java/lang/invoke/MethodHandle" ∧ yJ7_fill_d0a16.cls ≠ "java/lang/invoke/VarHandle" ∧ (parseMethodDescriptor yJ7_fill_d0a16.desc).map (fun d => d.parameters.length) = some 2 := by decide +kernel
theorem dm_X4_followFrom : yX4_followFrom.cls = RX4 ∧ yX4_followFrom.cls ≠ "java/lang/invoke/MethodHandle" ∧ yX4_followFrom.cls ≠ "java/lang/invoke/VarHandle" ∧ (parseMethodDescriptor yX4_followFrom.desc).map (fun d => d.parameters.length) = some 3 := by decide +kernel
set_option maxRecDepth 100000 in
set_option maxHeartbeats 4000000 in
theorem c_X4_follow (E : EN) (hM : EM E) (m : Nat) (ρ : Nat → Nat → Nat) (g : Nat → Int32) (h : Nat → Int64) (T : Nat → Nat → Int32) (L : Nat → Nat → Int64) (hR : RvX g T m ρ) (sn : List (Nat × Nat × Nat)) (hsn : rpS g T sn) (hso : SnOK sn) (ld : Nat) (hld : ld < 1000) (hgl : g 604 = nI ld) (bg : Nat) (hbg : bg < 256) (hgb : g 603 = nI bg) (n : Nat) (hn : n ≤ 5) : GtV E yX4_follow wsX4_follow rmX4_follow [.ref (eA E 31), .ref (eA E 6), .int (nI n)] g h T L (fun g2 h2 T2 L2 => g2 = g ∧ h2 = h ∧ T2 = T ∧ FrL L L2 ∧ ∀ k s, k ≤ n → s < 256 → L2 (36 + k) s = lN ((wy (fun _ => (crN m (ρ 2) (ρ 3) ld (2 ^ m - 1))) (agN sn) (2 ^ m) bg) k s)) := by
  refine CtV_of (cc := cX4_follow) (nL := 5) RX4 [some (.ref (eA E 31)), some (.ref (eA E 6)), some (.int (nI n)), none, none] ⟨rfl, rfl⟩ (by decide) rfl rfl (Nat.le_of_ble_eq_true rfl) ⟨2, rfl⟩ hM.2 (fun Y hnm C hQ => ?_)
  have hM0 := hM
  obtain ⟨hS, hNN⟩ := hM
  have hm := hR.1
  have h7 := p7 hm
  refine J_iconst C (0) dX4_follow_0 ic_0 ?_
  refine J_istore_3 C dX4_follow_1 (by decide) trivial ?_
  have loop : ∀ (n1 : Nat) (k : Nat) (L1 : Nat → Nat → Int64) (x4 : Option Value), k ≤ n + 1 → n + 1 < n1 + k → FrL L L1 → (∀ j s, j < k → s < 256 → L1 (36 + j) s = lN 0) → J E Y (eN E) 0 0 (wS E g h T L1) 2 [some (.ref (eA E 31)), some (.ref (eA E 6)), some (.int (nI n)), some (.int (nI k)), x4] [] := by
    intro n1
    induction n1 with
    | zero =>
      intro k L1 x4 h1 h2 hL hz
      omega
    | succ n1 ih =>
      intro k L1 x4 h1 h2 hL hz
      refine J_iload_3 C dX4_follow_2 ?_
      refine J_iload_2 C dX4_follow_3 ?_
      refine J_icmp_gt C 23 dX4_follow_4 (by decide) (fun hc4 => ?_) (fun hc4 => ?_)
      · skip
        have hkn : k = n + 1 := by
          have := (nI_ltI (by omega) (by omega)).mp hc4
          omega
        subst hkn
        have hcut : ∀ (L3 : Nat → Nat → Int64), FrL L L3 → (∀ s, s < 256 → L3 36 s = lN ((wy (fun _ => (crN m (ρ 2) (ρ 3) ld (2 ^ m - 1))) (agN sn) (2 ^ m) bg) 0 s)) → (∀ k s, 1 ≤ k → k ≤ n → s < 256 → L3 (36 + k) s = lN 0) → J E Y (eN E) 0 0 (wS E g h T L3) 47 [some (.ref (eA E 31)), some (.ref (eA E 6)), some (.int (nI n)), some (.int (nI (n + 1))), x4] [] := by
          intro L3 hF3 hr0 hr1
          refine J_iconst C (1) dX4_follow_47 ic_1 ?_
          refine J_istore_3 C dX4_follow_48 (by decide) trivial ?_
          have loop2 : ∀ (n2 : Nat) (k : Nat) (L4 : Nat → Nat → Int64) (x4 : Option Value), 1 ≤ k → k ≤ n + 1 → n + 1 < n2 + k → FrL L L4 → (∀ j s, j < k → s < 256 → L4 (36 + j) s = lN ((wy (fun _ => (crN m (ρ 2) (ρ 3) ld (2 ^ m - 1))) (agN sn) (2 ^ m) bg) j s)) → (∀ j s, k ≤ j → j ≤ n → s < 256 → L4 (36 + j) s = lN 0) → J E Y (eN E) 0 0 (wS E g h T L4) 49 [some (.ref (eA E 31)), some (.ref (eA E 6)), some (.int (nI n)), some (.int (nI k)), x4] [] := by
            intro n2
            induction n2 with
            | zero =>
              intro k L4 x4 h0 h1 h2 hF4 hrow0 hz4
              omega
            | succ n2 ih2 =>
              intro k L4 x4 h0 h1 h2 hF4 hrow0 hz4
              refine J_iload_3 C dX4_follow_49 ?_
              refine J_iload_2 C dX4_follow_50 ?_
              refine J_icmp_gt C 101 dX4_follow_51 (by decide) (fun hc51 => ?_) (fun hc51 => ?_)
              · skip
                refine hQ _ _ _ dX4_follow_101 ⟨_, _, _, _, rfl, ?_⟩
                have hkn : k = n + 1 := by
                  have := (nI_ltI (by omega) (by omega)).mp hc51
                  omega
                subst hkn
                exact ⟨rfl, rfl, rfl, hF4, fun k s hk hs => hrow0 k s (by omega) hs⟩
              · skip
                have hkn : k ≤ n := by
                  rcases Nat.lt_or_ge n k with q | q
                  · exact absurd (nI_lt q (by omega)) hc51
                  · exact q
                have hk1 : k - 1 + 1 = k := by omega
                refine J_iconst C (0) dX4_follow_54 ic_0 ?_
                refine J_istore_4 C dX4_follow_55 (by decide) trivial ?_
                have loop3 : ∀ (n3 : Nat) (s : Nat) (L5 : Nat → Nat → Int64), s ≤ 256 → 256 < n3 + s → FrL L L5 → (∀ j s, j < k → s < 256 → L5 (36 + j) s = lN ((wy (fun _ => (crN m (ρ 2) (ρ 3) ld (2 ^ m - 1))) (agN sn) (2 ^ m) bg) j s)) → (∀ j s, k < j → j ≤ n → s < 256 → L5 (36 + j) s = lN 0) → (∀ t, t < 256 → L5 (36 + k) t = lN (acO (crN m (ρ 2) (ρ 3) ld (2 ^ m - 1)) (agN sn k) ((wy (fun _ => (crN m (ρ 2) (ρ 3) ld (2 ^ m - 1))) (agN sn) (2 ^ m) bg) (k - 1)) (2 ^ m) s t)) → J E Y (eN E) 0 0 (wS E g h T L5) 57 [some (.ref (eA E 31)), some (.ref (eA E 6)), some (.int (nI n)), some (.int (nI k)), some (.int (nI s))] [] := by
                  intro n3
                  induction n3 with
                  | zero =>
                    intro s L5 hs1 hs2 hF5 hrow hz5 hcur
                    omega
                  | succ n3 ih3 =>
                    intro s L5 hs1 hs2 hF5 hrow hz5 hcur
                    refine J_iload_4 C dX4_follow_57 ?_
                    refine J_sipush C (256) dX4_follow_59 sc_256 ?_
                    refine J_icmp_ge C 95 dX4_follow_62 (by decide) (fun hc62 => ?_) (fun hc62 => ?_)
                    · skip
                      have hs : s = 256 := by
                        have := ge_nI (m := 256) (by omega) hc62
                        omega
                      subst hs
                      refine J_iinc_3 C (1) dX4_follow_95 (by decide) trivial ic_1 ?_
                      refine J_goto C 49 dX4_follow_98 (by decide) ?_
                      rw [nI_1]
                      refine ih2 (k + 1) L5 _ (by omega) (by omega) (by omega) hF5 (fun j s hj hs => ?_) (fun j s h1 h2 hs => hz5 j s (by omega) h2 hs)
                      by_cases e : j = k
                      · subst e
                        rw [hcur s hs]
                        obtain ⟨j', rfl⟩ : ∃ j', j = j' + 1 := ⟨j - 1, by omega⟩
                        rfl
                      · exact hrow j s (by omega) hs
                    · skip
                      have hs : s < 256 := lt_nI (m := 256) (by omega) hc62
                      refine J_aload_0 C dX4_follow_65 ?_
                      refine G4_getr C (n := 35) 4 dX4_follow_66 fX4_follow_29 iX4_follow_4 rfl (hS _ (by decide)) rfl rfl ?_
                      refine J_iload_3 C dX4_follow_69 ?_
                      refine J_iconst C (1) dX4_follow_70 ic_1 ?_
                      refine J_isub C dX4_follow_71 ?_
                      refine G_gald C (m := 36 + (k - 1)) (k - 1) dX4_follow_72 rfl (hS _ (by decide)) (by rw [show (1 : Int32) = nI 1 by decide, pk_sub (by omega)]) (by omega) rfl ?_
                      refine J_iload_4 C dX4_follow_73 ?_
                      refine G_lald C s dX4_follow_75 (kd36 (k - 1) (by omega)) (hS _ (by omega)) rfl hs ?_
                      rw [hrow (k - 1) s (by omega) hs]
                      refine J_lconst C (0) dX4_follow_76 lc_0 ?_
                      refine J_lcmp C dX4_follow_77 ?_
                      refine J_if_eq C 89 dX4_follow_78 (by decide) (fun hc78 => ?_) (fun hc78 => ?_)
                      · skip
                        refine J_iinc_4 C (1) dX4_follow_89 (by decide) trivial ic_1 ?_
                        refine J_goto C 57 dX4_follow_92 (by decide) ?_
                        rw [nI_1]
                        first
                        | (refine ih3 (s + 1) L5 (by omega) (by omega) hF5 hrow hz5 (fun t ht => ?_)
                           rw [cmp_z, lN_z (wy_sm (by omega))] at hc78
                           show _ = lN (acI (crN m (ρ 2) (ρ 3) ld (2 ^ m - 1)) (agN sn k) ((wy (fun _ => (crN m (ρ 2) (ρ 3) ld (2 ^ m - 1))) (agN sn) (2 ^ m) bg) (k - 1) s) s (acO (crN m (ρ 2) (ρ 3) ld (2 ^ m - 1)) (agN sn k) ((wy (fun _ => (crN m (ρ 2) (ρ 3) ld (2 ^ m - 1))) (agN sn) (2 ^ m) bg) (k - 1)) (2 ^ m) s) (2 ^ m) t)
                           rw [hc78, acI_zero]
                           exact hcur t ht)
                        | (obtain ⟨rfl, rfl, rfl, k4, k5⟩ := hp86
                           refine ih3 (s + 1) L86 (by omega) (by omega) (fun i hi => by rw [k4 i (by omega)]; exact hF5 i hi) (fun j s' hj hs' => by rw [k4 _ (by omega)]; exact hrow j s' hj hs') (fun j s' h1 h2 hs' => by rw [k4 _ (by omega)]; exact hz5 j s' h1 h2 hs') (fun t ht => k5 t ht))
                      · skip
                        refine J_aload_0 C dX4_follow_81 ?_
                        refine J_aload_1 C dX4_follow_82 ?_
                        refine J_iload_4 C dX4_follow_83 ?_
                        refine J_iload_3 C dX4_follow_85 ?_
                        refine G_vtv C dX4_follow_86 ((by have h9 := c_X4_followFrom E hM0 m ρ g h T L5 hR sn hsn hso ld hld hgl s (k - 1) ((wy (fun _ => (crN m (ρ 2) (ρ 3) ld (2 ^ m - 1))) (agN sn) (2 ^ m) bg) (k - 1) s) (acO (crN m (ρ 2) (ρ 3) ld (2 ^ m - 1)) (agN sn k) ((wy (fun _ => (crN m (ρ 2) (ρ 3) ld (2 ^ m - 1))) (agN sn) (2 ^ m) bg) (k - 1)) (2 ^ m) s) hs (by omega) (hrow (k - 1) s (by omega) hs) (by rw [hk1]; exact hcur); rw [hk1] at h9; exact h9)) gX4_follow_X4_followFrom rfl dm_X4_followFrom rfl rfl (hS _ (by decide)) rfl rfl (Nat.le_of_ble_eq_true rfl) (rmOK_b rfl) (fun g86 h86 T86 L86 hp86 => ?_)
                        refine J_iinc_4 C (1) dX4_follow_89 (by decide) trivial ic_1 ?_
                        refine J_goto C 57 dX4_follow_92 (by decide) ?_
                        rw [nI_1]
                        first
                        | (refine ih3 (s + 1) L5 (by omega) (by omega) hF5 hrow hz5 (fun t ht => ?_)
                           rw [cmp_z, lN_z (wy_sm (by omega))] at hc78
                           show _ = lN (acI (crN m (ρ 2) (ρ 3) ld (2 ^ m - 1)) (agN sn k) ((wy (fun _ => (crN m (ρ 2) (ρ 3) ld (2 ^ m - 1))) (agN sn) (2 ^ m) bg) (k - 1) s) s (acO (crN m (ρ 2) (ρ 3) ld (2 ^ m - 1)) (agN sn k) ((wy (fun _ => (crN m (ρ 2) (ρ 3) ld (2 ^ m - 1))) (agN sn) (2 ^ m) bg) (k - 1)) (2 ^ m) s) (2 ^ m) t)
                           rw [hc78, acI_zero]
                           exact hcur t ht)
                        | (obtain ⟨rfl, rfl, rfl, k4, k5⟩ := hp86
                           refine ih3 (s + 1) L86 (by omega) (by omega) (fun i hi => by rw [k4 i (by omega)]; exact hF5 i hi) (fun j s' hj hs' => by rw [k4 _ (by omega)]; exact hrow j s' hj hs') (fun j s' h1 h2 hs' => by rw [k4 _ (by omega)]; exact hz5 j s' h1 h2 hs') (fun t ht => k5 t ht))
                exact loop3 257 0 L4 (by omega) (by omega) hF4 hrow0 (fun j s h1 h2 hs => hz4 j s (by omega) h2 hs) (fun t ht => hz4 k t (Nat.le_refl _) hkn ht)
          exact loop2 (n + 2) 1 L3 _ (by omega) (by omega) (by omega) hF3 (fun j s hj hs => by
            have : j = 0 := by omega
            subst this
            exact hr0 s hs) (fun j s h1 h2 hs => hr1 j s h1 h2 hs)
        refine J_aload_0 C dX4_follow_23 ?_
        refine J_iconst C (0) dX4_follow_24 ic_0 ?_
        refine J_aload_1 C dX4_follow_25 ?_
        refine G3_geti C (n := 603) 3 dX4_follow_26 fX4_follow_38 iX4_follow_3 rfl (hS _ (by decide)) rfl rfl ?_
        rw [hgb]
        refine G_vpi C dX4_follow_29 (c_X4_agrees E hM0 _ _ _ _ sn hsn hso 0 bg (by omega) hbg) gX4_follow_X4_agrees rfl dm_X4_agrees rfl rfl (hS _ (by decide)) rfl rfl (Nat.le_of_ble_eq_true rfl) (rmOK_b rfl) (fun r29 hr29 => ?_)
        subst hr29
        refine J_if_eq C 47 dX4_follow_32 (by decide) (fun hc32 => ?_) (fun hc32 => ?_)
        · skip
          first
          | (refine hcut L1 hL (fun s hs => ?_) (fun k s h1 h2 hs => hz k s (by omega) hs)
             rw [show L1 36 s = 0 from hz 0 s (by omega) hs]
             show (0 : Int64) = lN (if s = bg ∧ agN sn 0 s = true then 1 else 0)
             have : ¬ (s = bg ∧ agN sn 0 s = true) := by
               rintro ⟨rfl, q⟩
               rw [if_pos q] at hc32
               exact absurd hc32 (by decide)
             rw [if_neg this]
             rfl)
          | (have hag : agN sn 0 bg = true := by
               by_cases q : agN sn 0 bg = true
               · exact q
               · rw [if_neg q] at hc32
                 exact absurd rfl hc32
             refine hcut _ (fun k hk => by simp [va_up, show k ≠ 36 by omega]; exact hL k hk) (fun s hs => ?_) (fun k s h1 h2 hs => ?_)
             · show _ = lN (if s = bg ∧ agN sn 0 s = true then 1 else 0)
               simp only [va_up, if_true, vp_updL]
               by_cases e : s = bg
               · subst e
                 rw [if_pos rfl, if_pos ⟨rfl, hag⟩]
                 rfl
               · rw [if_neg e, if_neg (fun q => e q.1)]
                 exact hz 0 s (by omega) hs
             · simp only [va_up, if_neg (show ¬ 36 + k = 36 by omega)]
               exact hz k s (by omega) hs)
        · skip
          refine J_aload_0 C dX4_follow_35 ?_
          refine G4_getr C (n := 35) 4 dX4_follow_36 fX4_follow_29 iX4_follow_4 rfl (hS _ (by decide)) rfl rfl ?_
          refine J_iconst C (0) dX4_follow_39 ic_0 ?_
          refine G_gald C (m := 36) 0 dX4_follow_40 rfl (hS _ (by decide)) rfl (by omega) rfl ?_
          refine J_aload_1 C dX4_follow_41 ?_
          refine G3_geti C (n := 603) 3 dX4_follow_42 fX4_follow_38 iX4_follow_3 rfl (hS _ (by decide)) rfl rfl ?_
          
          refine J_lconst C (1) dX4_follow_45 lc_1 ?_
          refine G_last C bg dX4_follow_46 rfl (hS _ (by decide)) hgb hbg ?_
          first
          | (refine hcut L1 hL (fun s hs => ?_) (fun k s h1 h2 hs => hz k s (by omega) hs)
             rw [show L1 36 s = 0 from hz 0 s (by omega) hs]
             show (0 : Int64) = lN (if s = bg ∧ agN sn 0 s = true then 1 else 0)
             have : ¬ (s = bg ∧ agN sn 0 s = true) := by
               rintro ⟨rfl, q⟩
               rw [if_pos q] at hc32
               exact absurd hc32 (by decide)
             rw [if_neg this]
             rfl)
          | (have hag : agN sn 0 bg = true := by
               by_cases q : agN sn 0 bg = true
               · exact q
               · rw [if_neg q] at hc32
                 exact absurd rfl hc32
             refine hcut _ (fun k hk => by simp [va_up, show k ≠ 36 by omega]; exact hL k hk) (fun s hs => ?_) (fun k s h1 h2 hs => ?_)
             · show _ = lN (if s = bg ∧ agN sn 0 s = true then 1 else 0)
               simp only [va_up, if_true, vp_updL]
               by_cases e : s = bg
               · subst e
                 rw [if_pos rfl, if_pos ⟨rfl, hag⟩]
                 rfl
               · rw [if_neg e, if_neg (fun q => e q.1)]
                 exact hz 0 s (by omega) hs
             · simp only [va_up, if_neg (show ¬ 36 + k = 36 by omega)]
               exact hz k s (by omega) hs)
      · skip
        have hkn : k ≤ n := by
          rcases Nat.lt_or_ge n k with q | q
          · exact absurd (nI_lt q (by omega)) hc4
          · exact q
        refine J_aload_0 C dX4_follow_7 ?_
        refine G4_getr C (n := 35) 4 dX4_follow_8 fX4_follow_29 iX4_follow_4 rfl (hS _ (by decide)) rfl rfl ?_
        refine J_iload_3 C dX4_follow_11 ?_
        refine G_gald C (m := 36 + k) k dX4_follow_12 rfl (hS _ (by decide)) rfl (by omega) rfl ?_
        refine J_lconst C (0) dX4_follow_13 lc_0 ?_
        refine G_stv C dX4_follow_14 (c_fill E hM0.2 (36 + k) (kd36 k (by omega)) (hS _ (by omega)) _ _ _ _ _) gX4_follow_J7_fill_d0a16 rfl dm_J7_fill_d0a16 rfl rfl (Nat.le_of_ble_eq_true rfl) (rmOK_b rfl) (fun g14 h14 T14 L14 hp14 => ?_)
        refine J_iinc_3 C (1) dX4_follow_17 (by decide) trivial ic_1 ?_
        refine J_goto C 2 dX4_follow_20 (by decide) ?_
        obtain ⟨rfl, rfl, rfl, k4, k5⟩ := hp14
        rw [nI_1]
        refine ih (k + 1) L14 _ (by omega) (by omega) (fun i hi => by rw [k4 i (by omega)]; exact hL i hi) (fun j s hj hs => ?_)
        by_cases e : j = k
        · subst e
          exact k5 s hs
        · rw [k4 (36 + j) (by omega)]
          exact hz j s (by omega) hs
  exact loop (n + 2) 0 L _ (by omega) (by omega) (fun _ _ => rfl) (fun j s hj => by omega)
abbrev rmX4_waysOf : Room := { frames := 0, cells := 0, slots := 0, locals := 0 }
theorem fX4_waysOf_29 : Cond.fieldLink RX4 29 RX4 (TX4 4).2.1 (TX4 4).2.2.1 ∈ wsX4_waysOf := by decide +kernel
theorem iX4_waysOf_4 : ∀ x ∈ wsX40, x ∈ wsX4_waysOf := by decide +kernel
set_option maxRecDepth 100000 in
set_option maxHeartbeats 4000000 in
theorem c_X4_waysOf (E : EN) (hM : EM E) (g : Nat → Int32) (h : Nat → Int64) (T : Nat → Nat → Int32) (L : Nat → Nat → Int64) (n : Nat) (hn : n ≤ 5) (f : Nat → Nat) (hf : ∀ s, s < 256 → L (36 + n) s = lN (f s)) : GpL E yX4_waysOf wsX4_waysOf rmX4_waysOf [.ref (eA E 31), .int (nI n)] g h T L (fun r => r = lN (smN f 256)) := by
  refine CtL_of (cc := cX4_waysOf) (nL := 5) RX4 [some (.ref (eA E 31)), some (.int (nI n)), none, none, none] ⟨rfl, rfl⟩ (by decide) rfl rfl (Nat.le_of_ble_eq_true rfl) ⟨3, rfl⟩ hM.2 (fun Y C hQ => ?_)
  have hM0 := hM
  obtain ⟨hS, hNN⟩ := hM
  refine J_lconst C (0) dX4_waysOf_0 lc_0 ?_
  refine J_lstore_2 C dX4_waysOf_1 (by decide) trivial ?_
  refine J_iconst C (0) dX4_waysOf_2 ic_0 ?_
  refine J_istore_4 C dX4_waysOf_3 (by decide) trivial ?_
  have loop : ∀ (n1 : Nat) (k : Nat), k ≤ 256 → 256 < n1 + k → J E Y (eN E) 0 0 (wS E g h T L) 5 [some (.ref (eA E 31)), some (.int (nI n)), some (.long (lN (smN f k))), none, some (.int (nI k))] [] := by
    intro n1
    induction n1 with
    | zero =>
      intro k h1 h2
      omega
    | succ n1 ih =>
      intro k h1 h2
      refine J_iload_4 C dX4_waysOf_5 ?_
      refine J_sipush C (256) dX4_waysOf_7 sc_256 ?_
      refine J_icmp_ge C 31 dX4_waysOf_10 (by decide) (fun hc10 => ?_) (fun hc10 => ?_)
      · skip
        refine J_lload_2 C dX4_waysOf_31 ?_
        refine hQ _ _ _ _ dX4_waysOf_32 ⟨rfl, ?_⟩
        have hk : k = 256 := by
          have := ge_nI (m := 256) (by omega) hc10
          omega
        rw [hk]
      · skip
        have hk : k < 256 := lt_nI (m := 256) (by omega) hc10
        refine J_lload_2 C dX4_waysOf_13 ?_
        refine J_aload_0 C dX4_waysOf_14 ?_
        refine G4_getr C (n := 35) 4 dX4_waysOf_15 fX4_waysOf_29 iX4_waysOf_4 rfl (hS _ (by decide)) rfl rfl ?_
        refine J_iload_1 C dX4_waysOf_18 ?_
        refine G_gald C (m := 36 + n) n dX4_waysOf_19 rfl (hS _ (by decide)) rfl (by omega) rfl ?_
        refine J_iload_4 C dX4_waysOf_20 ?_
        refine G_lald C k dX4_waysOf_22 (kd36 n (by omega)) (hS _ (by omega)) rfl hk ?_
        rw [hf k hk]
        refine J_ladd C dX4_waysOf_23 ?_
        rw [lN_add]
        refine J_lstore_2 C dX4_waysOf_24 (by decide) trivial ?_
        refine J_iinc_4 C (1) dX4_waysOf_25 (by decide) trivial ic_1 ?_
        refine J_goto C 5 dX4_waysOf_28 (by decide) ?_
        rw [nI_1]
        exact ih (k + 1) (by omega) (by omega)
  exact loop 257 0 (by omega) (by omega)
/-- the sets that go on, as they are gathered -/
def CvI (P : Nat → Prop) (b : Nat) (x : Int32) : Prop := (x = -1 ∧ ∀ b', b' < b → ¬ P b') ∨ ∃ U, x = nI U ∧ U < 128 ∧ (∃ b', b' < b ∧ P b') ∧ ∀ i, U.testBit i = true ↔ ∃ b', b' < b ∧ P b' ∧ b'.testBit i = true
theorem CvI.no {P : Nat → Prop} {b b2 : Nat} {x : Int32} (h : CvI P b x) (hb : b ≤ b2) (hn : ∀ b', b ≤ b' → b' < b2 → ¬ P b') : CvI P b2 x := by
  rcases h with ⟨h1, h2⟩ | ⟨U, h1, h2, ⟨b0, h3, h4⟩, h5⟩
  · refine Or.inl ⟨h1, fun b' hb' => ?_⟩
    by_cases q : b' < b
    · exact h2 b' q
    · exact hn b' (by omega) hb'
  · refine Or.inr ⟨U, h1, h2, ⟨b0, by omega, h4⟩, fun i => ?_⟩
    rw [h5 i]
    constructor
    · rintro ⟨b', a1, a2, a3⟩
      exact ⟨b', by omega, a2, a3⟩
    · rintro ⟨b', a1, a2, a3⟩
      refine ⟨b', ?_, a2, a3⟩
      by_cases q : b' < b
      · exact q
      · exact absurd a2 (hn b' (by omega) a1)
theorem CvI.yes {P : Nat → Prop} {b : Nat} {x : Int32} (h : CvI P b x) (hp : P b) (hb : b < 128) : CvI P (b + 1) ((if x < 0 then 0 else x) ||| nI b) := by
  rcases h with ⟨h1, h2⟩ | ⟨U, h1, h2, ⟨b0, h3, h4⟩, h5⟩
  · subst h1
    rw [if_pos (by decide)]
    refine Or.inr ⟨b, ?_, hb, ⟨b, by omega, hp⟩, fun i => ?_⟩
    · rw [show (0 : Int32) = nI 0 by decide, nI_or, Nat.zero_or]
    · constructor
      · intro q
        exact ⟨b, by omega, hp, q⟩
      · rintro ⟨b', a1, a2, a3⟩
        have : b' = b := by
          rcases Nat.lt_or_ge b' b with z | z
          · exact absurd a2 (h2 b' z)
          · omega
        subst this
        exact a3
  · subst h1
    rw [if_neg (nI_pos (by omega)), nI_or]
    refine Or.inr ⟨U ||| b, rfl, Nat.or_lt_two_pow (n := 7) h2 hb, ⟨b, by omega, hp⟩, fun i => ?_⟩
    rw [Nat.testBit_or, Bool.or_eq_true, h5 i]
    constructor
    · rintro (⟨b', a1, a2, a3⟩ | q)
      · exact ⟨b', by omega, a2, a3⟩
      · exact ⟨b, by omega, hp, q⟩
    · rintro ⟨b', a1, a2, a3⟩
      by_cases q : b' = b
      · subst q
        exact Or.inr a3
      · exact Or.inl ⟨b', by omega, a2, a3⟩
theorem mmX4_crossedFrom_1 : Cond.methodLink RX4 78 Lib.Math.max.name ∈ wsX4_crossedFrom := by decide +kernel
theorem mmX4_crossedFrom_2 : Cond.static Lib.Math.max.name ∈ wsX4_crossedFrom := by decide +kernel
theorem mmX4_crossedFrom_3 : Cond.initialized "java/lang/Math" ∈ wsX4_crossedFrom := by decide +kernel
theorem mmX4_crossedFrom_4 : Cond.code Lib.Math.max.name Lib.Math.max.code 2 (some .int) ∈ wsX4_crossedFrom := by decide +kernel
abbrev rmX4_crossedFrom : Room := { frames := 3, cells := 0, slots := 0, locals := 66 }
theorem fX4_crossedFrom_29 : Cond.fieldLink RX4 29 RX4 (TX4 4).2.1 (TX4 4).2.2.1 ∈ wsX4_crossedFrom := by decide +kernel
theorem fX4_crossedFrom_56 : Cond.fieldLink RX4 56 RX3 (TX3 4).2.1 (TX3 4).2.2.1 ∈ wsX4_crossedFrom := by decide +kernel
theorem fX4_crossedFrom_59 : Cond.fieldLink RX4 59 RX3 (TX3 1).2.1 (TX3 1).2.2.1 ∈ wsX4_crossedFrom := by decide +kernel
theorem iX4_crossedFrom_3 : ∀ x ∈ wsX30, x ∈ wsX4_crossedFrom := by decide +kernel
theorem iX4_crossedFrom_4 : ∀ x ∈ wsX40, x ∈ wsX4_crossedFrom := by decide +kernel
set_option maxRecDepth 100000 in
set_option maxHeartbeats 4000000 in
theorem c_X4_crossedFrom (E : EN) (hM : EM E) (m : Nat) (ρ : Nat → Nat → Nat) (g : Nat → Int32) (h : Nat → Int64) (T : Nat → Nat → Int32) (L : Nat → Nat → Int64) (hR : RvX g T m ρ) (ld : Nat) (hld : ld < 1000) (hgl : g 604 = nI ld) (s kk : Nat) (W : Nat → Nat) (hs : s < 256) (hkk : kk ≤ 5) (hW : ∀ t, t < 256 → L (36 + kk) t = lN (W t) ∧ W t < 2 ^ 63) : GpI E yX4_crossedFrom wsX4_crossedFrom rmX4_crossedFrom [.ref (eA E 31), .ref (eA E 6), .int (nI s), .int (nI kk)] g h T L (fun r => CvI (fun b => ∃ t, (crN m (ρ 2) (ρ 3) ld (2 ^ m - 1)) s b = some t ∧ W t ≠ 0) (2 ^ m) r) := by
  refine CtI_of (cc := cX4_crossedFrom) (nL := 10) RX4 [some (.ref (eA E 31)), some (.ref (eA E 6)), some (.int (nI s)), some (.int (nI kk)), none, none, none, none, none, none] ⟨rfl, rfl⟩ (by decide) rfl rfl (Nat.le_of_ble_eq_true rfl) ⟨6, rfl⟩ hM.2 (fun Y C hQ => ?_)
  have hM0 := hM
  obtain ⟨hS, hNN⟩ := hM
  have hm := hR.1
  have h7 := p7 hm
  have hcl : ∀ s b t, s < 256 → (crN m (ρ 2) (ρ 3) ld (2 ^ m - 1)) s b = some t → t < 256 := fun s b t hs h => (crN_lt hm hs h).1
  obtain ⟨d, hd⟩ : ∃ d, d = hN m s &&& (2 ^ m - 1) := ⟨_, rfl⟩
  have hdm : d < 2 ^ m := by rw [hd]; exact Nat.lt_of_le_of_lt Nat.and_le_left hN_lt
  have hdd : hN m s = d := by rw [hd, hN_all]
  refine J_aload_1 C dX4_crossedFrom_0 ?_
  refine J_iload_2 C dX4_crossedFrom_1 ?_
  refine G_vpi C dX4_crossedFrom_2 (c_X3_atFerry E hM0 m ρ g h T L hR s hs) gX4_crossedFrom_X3_atFerry rfl dm_X3_atFerry rfl rfl (hS _ (by decide)) rfl rfl (Nat.le_of_ble_eq_true rfl) (rmOK_b rfl) (fun r2 hr2 => ?_)
  subst hr2
  rw [hdd]
  refine J_istore_4 C dX4_crossedFrom_5 (by decide) trivial ?_
  refine J_iload_4 C dX4_crossedFrom_7 ?_
  refine G_spi C dX4_crossedFrom_9 (c_X3_setsOf E hM0 d (by omega) g h T L) gX4_crossedFrom_X3_setsOf rfl dm_X3_setsOf rfl rfl (Nat.le_of_ble_eq_true rfl) (rmOK_b rfl) (fun r9 hr9 => ?_)
  subst hr9
  refine J_istore_5 C dX4_crossedFrom_12 (by decide) trivial ?_
  refine J_iconst C (-1) dX4_crossedFrom_14 ic_m1 ?_
  refine J_istore_6 C dX4_crossedFrom_15 (by decide) trivial ?_
  refine J_iconst C (0) dX4_crossedFrom_17 ic_0 ?_
  refine J_istore_7 C dX4_crossedFrom_18 (by decide) trivial ?_
  refine J_iconst C (0) dX4_crossedFrom_20 ic_0 ?_
  refine J_istore_8 C dX4_crossedFrom_21 (by decide) trivial ?_
  have hexit : ∀ (x : Int32) (x9 : Option Value), CvI (fun b => ∃ t, (crN m (ρ 2) (ρ 3) ld (2 ^ m - 1)) s b = some t ∧ W t ≠ 0) (2 ^ m) x → J E Y (eN E) 0 0 (wS E g h T L) 23 [some (.ref (eA E 31)), some (.ref (eA E 6)), some (.int (nI s)), some (.int (nI kk)), some (.int (nI d)), some (.int (nI (2 ^ pcN d))), some (.int x), some (.int (nI 0)), some (.int (nI (2 ^ pcN d))), x9] [] := by
    intro x x9 hx
    refine J_iload_8 C dX4_crossedFrom_23 ?_
    refine J_iload_5 C dX4_crossedFrom_25 ?_
    refine J_icmp_ge C 92 dX4_crossedFrom_27 (by decide) (fun _ => ?_) (fun hc => absurd (Int32.le_refl _) hc)
    refine J_iload_6 C dX4_crossedFrom_92 ?_
    refine hQ _ _ _ _ dX4_crossedFrom_94 ⟨rfl, hx⟩
  have loop : ∀ (n : Nat) (b : Nat) (x : Int32) (x9 : Option Value), b &&& d = b → d < n + b → CvI (fun b => ∃ t, (crN m (ρ 2) (ρ 3) ld (2 ^ m - 1)) s b = some t ∧ W t ≠ 0) b x → J E Y (eN E) 0 0 (wS E g h T L) 23 [some (.ref (eA E 31)), some (.ref (eA E 6)), some (.int (nI s)), some (.int (nI kk)), some (.int (nI d)), some (.int (nI (2 ^ pcN d))), some (.int x), some (.int (nI b)), some (.int (nI (rkN d b))), x9] [] := by
    intro n
    induction n with
    | zero =>
      intro b x x9 hsub hfu hx
      have : b ≤ d := by rw [← hsub]; exact Nat.and_le_right
      omega
    | succ n ih =>
      intro b x x9 hsub hfu hx
      have hbl : b < 2 ^ m := sub_lt hsub hdm
      have hexit : ∀ (x : Int32) (x9 : Option Value), CvI (fun b => ∃ t, (crN m (ρ 2) (ρ 3) ld (2 ^ m - 1)) s b = some t ∧ W t ≠ 0) (2 ^ m) x → J E Y (eN E) 0 0 (wS E g h T L) 23 [some (.ref (eA E 31)), some (.ref (eA E 6)), some (.int (nI s)), some (.int (nI kk)), some (.int (nI d)), some (.int (nI (2 ^ pcN d))), some (.int x), some (.int (nI 0)), some (.int (nI (2 ^ pcN d))), x9] [] := by
        intro x x9 hx
        refine J_iload_8 C dX4_crossedFrom_23 ?_
        refine J_iload_5 C dX4_crossedFrom_25 ?_
        refine J_icmp_ge C 92 dX4_crossedFrom_27 (by decide) (fun _ => ?_) (fun hc => absurd (Int32.le_refl _) hc)
        refine J_iload_6 C dX4_crossedFrom_92 ?_
        refine hQ _ _ _ _ dX4_crossedFrom_94 ⟨rfl, hx⟩
      refine J_iload_8 C dX4_crossedFrom_23 ?_
      refine J_iload_5 C dX4_crossedFrom_25 ?_
      refine J_icmp_ge C 92 dX4_crossedFrom_27 (by decide) (fun hc => absurd hc (show ¬ nI (2 ^ pcN d) ≤ nI (rkN d b) from nI_ge (rk_lt (by omega) hsub) (by have := Nat.pow_le_pow_right (n := 2) (by omega) (pc_le d (by omega)); omega))) (fun hc27 => ?_)
      refine J_aload_1 C dX4_crossedFrom_30 ?_
      refine J_iload_2 C dX4_crossedFrom_31 ?_
      refine J_iload_7 C dX4_crossedFrom_32 ?_
      refine J_aload_1 C dX4_crossedFrom_34 ?_
      refine G3_geti C (n := 604) 4 dX4_crossedFrom_35 fX4_crossedFrom_56 iX4_crossedFrom_3 rfl (hS _ (by decide)) rfl rfl ?_
      refine J_aload_1 C dX4_crossedFrom_38 ?_
      refine G3_geti C (n := 601) 1 dX4_crossedFrom_39 fX4_crossedFrom_59 iX4_crossedFrom_3 rfl (hS _ (by decide)) rfl rfl ?_
      rw [hgl, hR.2.2.1]
      refine G_vpi C dX4_crossedFrom_42 (c_X3_crossing E hM0 m ρ g h T L hR s b ld (2 ^ m - 1) hs (by omega) hld) gX4_crossedFrom_X3_crossing rfl dm_X3_crossing rfl rfl (hS _ (by decide)) rfl rfl (Nat.le_of_ble_eq_true rfl) (rmOK_b rfl) (fun r42 hr42 => ?_)
      subst hr42
      refine J_top (y := oI ((crN m (ρ 2) (ρ 3) ld (2 ^ m - 1)) s b)) rfl ?_
      have hlt := fun t (ht : (crN m (ρ 2) (ρ 3) ld (2 ^ m - 1)) s b = some t) => (crN_lt hm hs ht).1
      refine J_istore_9 C dX4_crossedFrom_45 (by decide) trivial ?_
      refine J_iload_9 C dX4_crossedFrom_47 ?_
      refine J_if_lt C 77 dX4_crossedFrom_49 (by decide) (fun hc49 => ?_) (fun hc49 => ?_)
      · skip
        refine J_iload_7 C dX4_crossedFrom_77 ?_
        refine J_iload_4 C dX4_crossedFrom_79 ?_
        refine G_spi C dX4_crossedFrom_81 (c_X3_nextSet E hM0 b d (by omega) (by omega) _ _ _ _) gX4_crossedFrom_X3_nextSet rfl dm_X3_nextSet rfl rfl (Nat.le_of_ble_eq_true rfl) (rmOK_b rfl) (fun r81 hr81 => ?_)
        subst hr81
        refine J_istore_7 C dX4_crossedFrom_84 (by decide) trivial ?_
        refine J_iinc_8 C (1) dX4_crossedFrom_86 (by decide) trivial ic_1 ?_
        refine J_goto C 23 dX4_crossedFrom_89 (by decide) ?_
        have hexit : ∀ (x : Int32) (x9 : Option Value), CvI (fun b => ∃ t, (crN m (ρ 2) (ρ 3) ld (2 ^ m - 1)) s b = some t ∧ W t ≠ 0) (2 ^ m) x → J E Y (eN E) 0 0 (wS E g h T L) 23 [some (.ref (eA E 31)), some (.ref (eA E 6)), some (.int (nI s)), some (.int (nI kk)), some (.int (nI d)), some (.int (nI (2 ^ pcN d))), some (.int x), some (.int (nI 0)), some (.int (nI (2 ^ pcN d))), x9] [] := by
          intro x x9 hx
          refine J_iload_8 C dX4_crossedFrom_23 ?_
          refine J_iload_5 C dX4_crossedFrom_25 ?_
          refine J_icmp_ge C 92 dX4_crossedFrom_27 (by decide) (fun _ => ?_) (fun hc => absurd (Int32.le_refl _) hc)
          refine J_iload_6 C dX4_crossedFrom_92 ?_
          refine hQ _ _ _ _ dX4_crossedFrom_94 ⟨rfl, hx⟩
        rw [nI_1]
        have hgo : ∀ x2 : Int32, CvI (fun b => ∃ t, (crN m (ρ 2) (ρ 3) ld (2 ^ m - 1)) s b = some t ∧ W t ≠ 0) (b + 1) x2 → J E Y (eN E) 0 0 (wS E g h T L) 23 [some (.ref (eA E 31)), some (.ref (eA E 6)), some (.int (nI s)), some (.int (nI kk)), some (.int (nI d)), some (.int (nI (2 ^ pcN d))), some (.int x2), some (.int (nI (nxN b d))), some (.int (nI (rkN d b + 1))), some (.int (oI ((crN m (ρ 2) (ρ 3) ld (2 ^ m - 1)) s b)))] [] := by
          intro x2 hx2
          by_cases q : b = d
          · subst q
            rw [nx_end b (by omega), show rkN b b + 1 = 2 ^ pcN b by
              rw [← rk_all b (by omega)]
              show _ = rkN b b + (if b &&& b = b then 1 else 0)
              rw [if_pos hsub]]
            refine hexit x2 _ (hx2.no (by omega) (fun i h1 h2 => ?_))
            rintro ⟨t, q1, -⟩
            rw [crN_sub (fun h3 => by
              rw [hdd] at h3
              have e7 : b &&& (2 ^ m - 1) = b := by rw [Nat.and_two_pow_sub_one_eq_mod, Nat.mod_eq_of_lt hdm]
              rw [e7] at h3
              have : i ≤ b := by rw [← h3]; exact Nat.and_le_right
              omega)] at q1
            cases q1
          · obtain ⟨a1, a2, a3⟩ := nx_spec (by omega) hsub q
            rw [← rk_next (by omega) hsub q]
            refine ih (nxN b d) x2 _ a2 (by omega) (hx2.no (by omega) (fun i h1 h2 => ?_))
            rintro ⟨t, q1, -⟩
            rw [crN_sub (fun h3 => a3 i (by omega) (by omega) (by rw [hd]; exact h3))] at q1
            cases q1
        first
        | (refine hgo x (hx.no (by omega) (fun i h1 h2 => ?_))
           have : i = b := by omega
           subst this
           rintro ⟨t, q1, -⟩
           rw [(oI_neg hlt).mp hc49] at q1
           cases q1)
        | (rw [← hto]
           refine hgo x (hx.no (by omega) (fun i h1 h2 => ?_))
           have : i = b := by omega
           subst this
           rintro ⟨t', q1, q2⟩
           rw [hto] at q1
           cases q1
           rw [cmp_z, lN_z (hW t ht).2] at hc63
           exact q2 hc63)
        | (rw [← hto]
           refine hgo _ (hx.yes ⟨t, hto, fun q => hc63 ?_⟩ (by omega))
           rw [cmp_z, lN_z (hW t ht).2]
           exact q)
      · skip
        obtain ⟨t, hto⟩ : ∃ t, (crN m (ρ 2) (ρ 3) ld (2 ^ m - 1)) s b = some t := by
          cases q : (crN m (ρ 2) (ρ 3) ld (2 ^ m - 1)) s b with
          | none => exact absurd ((oI_neg hlt).mpr q) hc49
          | some t => exact ⟨t, rfl⟩
        rw [hto]
        have ht := hlt t hto
        refine J_aload_0 C dX4_crossedFrom_52 ?_
        refine G4_getr C (n := 35) 4 dX4_crossedFrom_53 fX4_crossedFrom_29 iX4_crossedFrom_4 rfl (hS _ (by decide)) rfl rfl ?_
        refine J_iload_3 C dX4_crossedFrom_56 ?_
        refine G_gald C (m := 36 + kk) kk dX4_crossedFrom_57 rfl (hS _ (by decide)) rfl (by omega) rfl ?_
        refine J_iload_9 C dX4_crossedFrom_58 ?_
        refine G_lald C t dX4_crossedFrom_60 (kd36 kk (by omega)) (hS _ (by omega)) rfl ht ?_
        rw [(hW t ht).1]
        refine J_lconst C (0) dX4_crossedFrom_61 lc_0 ?_
        refine J_lcmp C dX4_crossedFrom_62 ?_
        refine J_if_eq C 77 dX4_crossedFrom_63 (by decide) (fun hc63 => ?_) (fun hc63 => ?_)
        · skip
          refine J_iload_7 C dX4_crossedFrom_77 ?_
          refine J_iload_4 C dX4_crossedFrom_79 ?_
          refine G_spi C dX4_crossedFrom_81 (c_X3_nextSet E hM0 b d (by omega) (by omega) _ _ _ _) gX4_crossedFrom_X3_nextSet rfl dm_X3_nextSet rfl rfl (Nat.le_of_ble_eq_true rfl) (rmOK_b rfl) (fun r81 hr81 => ?_)
          subst hr81
          refine J_istore_7 C dX4_crossedFrom_84 (by decide) trivial ?_
          refine J_iinc_8 C (1) dX4_crossedFrom_86 (by decide) trivial ic_1 ?_
          refine J_goto C 23 dX4_crossedFrom_89 (by decide) ?_
          have hexit : ∀ (x : Int32) (x9 : Option Value), CvI (fun b => ∃ t, (crN m (ρ 2) (ρ 3) ld (2 ^ m - 1)) s b = some t ∧ W t ≠ 0) (2 ^ m) x → J E Y (eN E) 0 0 (wS E g h T L) 23 [some (.ref (eA E 31)), some (.ref (eA E 6)), some (.int (nI s)), some (.int (nI kk)), some (.int (nI d)), some (.int (nI (2 ^ pcN d))), some (.int x), some (.int (nI 0)), some (.int (nI (2 ^ pcN d))), x9] [] := by
            intro x x9 hx
            refine J_iload_8 C dX4_crossedFrom_23 ?_
            refine J_iload_5 C dX4_crossedFrom_25 ?_
            refine J_icmp_ge C 92 dX4_crossedFrom_27 (by decide) (fun _ => ?_) (fun hc => absurd (Int32.le_refl _) hc)
            refine J_iload_6 C dX4_crossedFrom_92 ?_
            refine hQ _ _ _ _ dX4_crossedFrom_94 ⟨rfl, hx⟩
          rw [nI_1]
          have hgo : ∀ x2 : Int32, CvI (fun b => ∃ t, (crN m (ρ 2) (ρ 3) ld (2 ^ m - 1)) s b = some t ∧ W t ≠ 0) (b + 1) x2 → J E Y (eN E) 0 0 (wS E g h T L) 23 [some (.ref (eA E 31)), some (.ref (eA E 6)), some (.int (nI s)), some (.int (nI kk)), some (.int (nI d)), some (.int (nI (2 ^ pcN d))), some (.int x2), some (.int (nI (nxN b d))), some (.int (nI (rkN d b + 1))), some (.int (oI ((crN m (ρ 2) (ρ 3) ld (2 ^ m - 1)) s b)))] [] := by
            intro x2 hx2
            by_cases q : b = d
            · subst q
              rw [nx_end b (by omega), show rkN b b + 1 = 2 ^ pcN b by
                rw [← rk_all b (by omega)]
                show _ = rkN b b + (if b &&& b = b then 1 else 0)
                rw [if_pos hsub]]
              refine hexit x2 _ (hx2.no (by omega) (fun i h1 h2 => ?_))
              rintro ⟨t, q1, -⟩
              rw [crN_sub (fun h3 => by
                rw [hdd] at h3
                have e7 : b &&& (2 ^ m - 1) = b := by rw [Nat.and_two_pow_sub_one_eq_mod, Nat.mod_eq_of_lt hdm]
                rw [e7] at h3
                have : i ≤ b := by rw [← h3]; exact Nat.and_le_right
                omega)] at q1
              cases q1
            · obtain ⟨a1, a2, a3⟩ := nx_spec (by omega) hsub q
              rw [← rk_next (by omega) hsub q]
              refine ih (nxN b d) x2 _ a2 (by omega) (hx2.no (by omega) (fun i h1 h2 => ?_))
              rintro ⟨t, q1, -⟩
              rw [crN_sub (fun h3 => a3 i (by omega) (by omega) (by rw [hd]; exact h3))] at q1
              cases q1
          first
          | (refine hgo x (hx.no (by omega) (fun i h1 h2 => ?_))
             have : i = b := by omega
             subst this
             rintro ⟨t, q1, -⟩
             rw [(oI_neg hlt).mp hc49] at q1
             cases q1)
          | (rw [← hto]
             refine hgo x (hx.no (by omega) (fun i h1 h2 => ?_))
             have : i = b := by omega
             subst this
             rintro ⟨t', q1, q2⟩
             rw [hto] at q1
             cases q1
             rw [cmp_z, lN_z (hW t ht).2] at hc63
             exact q2 hc63)
          | (rw [← hto]
             refine hgo _ (hx.yes ⟨t, hto, fun q => hc63 ?_⟩ (by omega))
             rw [cmp_z, lN_z (hW t ht).2]
             exact q)
        · skip
          refine J_iload_6 C dX4_crossedFrom_66 ?_
          refine J_iconst C (0) dX4_crossedFrom_68 ic_0 ?_
          refine J_mmax C dX4_crossedFrom_69 mmX4_crossedFrom_1 mmX4_crossedFrom_2 mmX4_crossedFrom_3 mmX4_crossedFrom_4 (Nat.le_of_ble_eq_true rfl) (Nat.le_of_ble_eq_true rfl) (Nat.le_of_ble_eq_true rfl) (Nat.le_of_ble_eq_true rfl) ?_
          refine J_iload_7 C dX4_crossedFrom_72 ?_
          refine J_ior C dX4_crossedFrom_74 ?_
          refine J_istore_6 C dX4_crossedFrom_75 (by decide) trivial ?_
          refine J_iload_7 C dX4_crossedFrom_77 ?_
          refine J_iload_4 C dX4_crossedFrom_79 ?_
          refine G_spi C dX4_crossedFrom_81 (c_X3_nextSet E hM0 b d (by omega) (by omega) _ _ _ _) gX4_crossedFrom_X3_nextSet rfl dm_X3_nextSet rfl rfl (Nat.le_of_ble_eq_true rfl) (rmOK_b rfl) (fun r81 hr81 => ?_)
          subst hr81
          refine J_istore_7 C dX4_crossedFrom_84 (by decide) trivial ?_
          refine J_iinc_8 C (1) dX4_crossedFrom_86 (by decide) trivial ic_1 ?_
          refine J_goto C 23 dX4_crossedFrom_89 (by decide) ?_
          have hexit : ∀ (x : Int32) (x9 : Option Value), CvI (fun b => ∃ t, (crN m (ρ 2) (ρ 3) ld (2 ^ m - 1)) s b = some t ∧ W t ≠ 0) (2 ^ m) x → J E Y (eN E) 0 0 (wS E g h T L) 23 [some (.ref (eA E 31)), some (.ref (eA E 6)), some (.int (nI s)), some (.int (nI kk)), some (.int (nI d)), some (.int (nI (2 ^ pcN d))), some (.int x), some (.int (nI 0)), some (.int (nI (2 ^ pcN d))), x9] [] := by
            intro x x9 hx
            refine J_iload_8 C dX4_crossedFrom_23 ?_
            refine J_iload_5 C dX4_crossedFrom_25 ?_
            refine J_icmp_ge C 92 dX4_crossedFrom_27 (by decide) (fun _ => ?_) (fun hc => absurd (Int32.le_refl _) hc)
            refine J_iload_6 C dX4_crossedFrom_92 ?_
            refine hQ _ _ _ _ dX4_crossedFrom_94 ⟨rfl, hx⟩
          rw [nI_1]
          have hgo : ∀ x2 : Int32, CvI (fun b => ∃ t, (crN m (ρ 2) (ρ 3) ld (2 ^ m - 1)) s b = some t ∧ W t ≠ 0) (b + 1) x2 → J E Y (eN E) 0 0 (wS E g h T L) 23 [some (.ref (eA E 31)), some (.ref (eA E 6)), some (.int (nI s)), some (.int (nI kk)), some (.int (nI d)), some (.int (nI (2 ^ pcN d))), some (.int x2), some (.int (nI (nxN b d))), some (.int (nI (rkN d b + 1))), some (.int (oI ((crN m (ρ 2) (ρ 3) ld (2 ^ m - 1)) s b)))] [] := by
            intro x2 hx2
            by_cases q : b = d
            · subst q
              rw [nx_end b (by omega), show rkN b b + 1 = 2 ^ pcN b by
                rw [← rk_all b (by omega)]
                show _ = rkN b b + (if b &&& b = b then 1 else 0)
                rw [if_pos hsub]]
              refine hexit x2 _ (hx2.no (by omega) (fun i h1 h2 => ?_))
              rintro ⟨t, q1, -⟩
              rw [crN_sub (fun h3 => by
                rw [hdd] at h3
                have e7 : b &&& (2 ^ m - 1) = b := by rw [Nat.and_two_pow_sub_one_eq_mod, Nat.mod_eq_of_lt hdm]
                rw [e7] at h3
                have : i ≤ b := by rw [← h3]; exact Nat.and_le_right
                omega)] at q1
              cases q1
            · obtain ⟨a1, a2, a3⟩ := nx_spec (by omega) hsub q
              rw [← rk_next (by omega) hsub q]
              refine ih (nxN b d) x2 _ a2 (by omega) (hx2.no (by omega) (fun i h1 h2 => ?_))
              rintro ⟨t, q1, -⟩
              rw [crN_sub (fun h3 => a3 i (by omega) (by omega) (by rw [hd]; exact h3))] at q1
              cases q1
          first
          | (refine hgo x (hx.no (by omega) (fun i h1 h2 => ?_))
             have : i = b := by omega
             subst this
             rintro ⟨t, q1, -⟩
             rw [(oI_neg hlt).mp hc49] at q1
             cases q1)
          | (rw [← hto]
             refine hgo x (hx.no (by omega) (fun i h1 h2 => ?_))
             have : i = b := by omega
             subst this
             rintro ⟨t', q1, q2⟩
             rw [hto] at q1
             cases q1
             rw [cmp_z, lN_z (hW t ht).2] at hc63
             exact q2 hc63)
          | (rw [← hto]
             refine hgo _ (hx.yes ⟨t, hto, fun q => hc63 ?_⟩ (by omega))
             rw [cmp_z, lN_z (hW t ht).2]
             exact q)
  exact loop (d + 1) 0 _ _ (by simp) (by omega) (Or.inl ⟨rfl, fun b hb => absurd hb (Nat.not_lt_zero _)⟩)
