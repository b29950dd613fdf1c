theorem soBack {fr : Nat → Nat} {m j k : Nat} (hm : m ≤ 7) (hj : j < m) (hk : k < m) (hl : fr k < 2 ^ m) (hs : (fr k).testBit j = (fr j).testBit k) (hi : (fr j).testBit j = false) : ((if k = j then fr j else frJ fr j k) ||| (if (fr j).testBit k = true then 2 ^ j else 0)) = fr k := by
  by_cases e : k = j
  · subst e
    rw [if_pos rfl, hi]
    simp
  · rw [if_neg e]
    unfold frJ
    rw [if_neg e]
    apply Nat.eq_of_testBit_eq
    intro i
    rw [Nat.testBit_or, Nat.testBit_and, Nat.testBit_xor, Nat.testBit_two_pow_sub_one, Nat.testBit_two_pow]
    by_cases q : i = j
    · subst q
      rw [hs]
      cases h : (fr i).testBit k with
      | true => simp
      | false => simp
    · have q2 : ¬ j = i := fun z => q z.symm
      have hz : Nat.testBit (if (fr j).testBit k = true then 2 ^ j else 0) i = false := by
        split
        · rw [Nat.testBit_two_pow]; simp [q2]
        · simp
      rw [hz]
      by_cases h7 : i < 7
      · simp [q2, h7]
      · have : (fr k).testBit i = false := Nat.testBit_lt_two_pow (Nat.lt_of_lt_of_le hl (Nat.pow_le_pow_right (by decide) (by omega)))
        simp [this]
abbrev rmX6_sooner : Room := { frames := 6, cells := 0, slots := 0, locals := 139 }
theorem kcX6_sooner_243 : Cond.constant RX6 243 (-1000000) ∈ wsX6_sooner := by decide +kernel
theorem fX6_sooner_13 : Cond.fieldLink RX6 13 RX6 (TX6 4).2.1 (TX6 4).2.2.1 ∈ wsX6_sooner := by decide +kernel
theorem fX6_sooner_180 : Cond.fieldLink RX6 180 RX6 (TX6 11).2.1 (TX6 11).2.2.1 ∈ wsX6_sooner := by decide +kernel
theorem fX6_sooner_19 : Cond.fieldLink RX6 19 RX6 (TX6 6).2.1 (TX6 6).2.2.1 ∈ wsX6_sooner := by decide +kernel
theorem fX6_sooner_22 : Cond.fieldLink RX6 22 RX6 (TX6 7).2.1 (TX6 7).2.2.1 ∈ wsX6_sooner := by decide +kernel
theorem fX6_sooner_25 : Cond.fieldLink RX6 25 RX6 (TX6 8).2.1 (TX6 8).2.2.1 ∈ wsX6_sooner := by decide +kernel
theorem fX6_sooner_82 : Cond.fieldLink RX6 82 RX6 (TX6 2).2.1 (TX6 2).2.2.1 ∈ wsX6_sooner := by decide +kernel
theorem iX6_sooner_6 : ∀ x ∈ wsX60, x ∈ wsX6_sooner := by decide +kernel
theorem bc_100 : (Int8.ofInt (100)).toInt32 = (100) := by decide
set_option maxRecDepth 100000 in
set_option maxHeartbeats 4000000 in
theorem c_X6_sooner (E : EN) (hM : EM E) (g : Nat → Int32) (h : Nat → Int64) (T : Nat → Nat → Int32) (L : Nat → Nat → Int64) (m : Nat) (ρ : Nat → Nat → Nat) (hR : RvM g T m ρ) (hsym : ∀ a b, a < m → b < m → (ρ 3 a).testBit b = (ρ 3 b).testBit a) (hirr : ∀ a, a < m → (ρ 3 a).testBit a = false) (s ld : Nat) (hs : s < 256) (hld : ld < 100) (hg : g 4811 = nI s) (hgl : g 4808 = nI ld) (t : Int32) : GtI E yX6_sooner wsX6_sooner rmX6_sooner [.ref (eA E 48), .int t] g h T L (fun r g2 h2 T2 L2 => (SoR m ρ ld s t r ∧ FrP g g2 T T2) ∧ h2 = h ∧ L2 = L) := by
  refine CtI_of (cc := cX6_sooner) (nL := 8) RX6 [some (.ref (eA E 48)), some (.int t), none, none, none, none, none, none] ⟨rfl, rfl⟩ (by decide) rfl rfl (Nat.le_of_ble_eq_true rfl) ⟨6, rfl⟩ hM.2 (fun Y C hQ => ?_)
  have hM0 := hM
  obtain ⟨hS, hNN⟩ := hM
  have hm := hR.1
  have h128 := p7 hm
  have hld2 : ld < 1000 := by omega
  refine J_aload_0 C dX6_sooner_0 ?_
  refine J_iload_1 C dX6_sooner_1 ?_
  refine G_vpi C dX6_sooner_2 (c_X6_isThing E hM0 m ρ g h T L hR t) gX6_sooner_X6_isThing rfl dm_X6_isThing rfl rfl (hS _ (by decide)) rfl rfl (Nat.le_of_ble_eq_true rfl) (rmOK_b rfl) (fun r2 hr2 => ?_)
  subst hr2
  refine J_if_ne C 11 dX6_sooner_5 (by decide) (fun hc5 => ?_) (fun hc5 => ?_)
  · skip
    obtain ⟨j, rfl, hj⟩ := t_in (t := t) (m := m) hm (Decidable.byContradiction fun z => by rw [if_neg z] at hc5; exact hc5 rfl)
    refine J_aload_0 C dX6_sooner_11 ?_
    refine J_aload_0 C dX6_sooner_12 ?_
    refine G6_geti C (n := 4811) 11 dX6_sooner_13 fX6_sooner_180 iX6_sooner_6 rfl (hS _ (by decide)) rfl rfl ?_
    refine J_top (y := nI s) hg ?_
    refine J_aload_0 C dX6_sooner_16 ?_
    refine G6_geti C (n := 4808) 8 dX6_sooner_17 fX6_sooner_25 iX6_sooner_6 rfl (hS _ (by decide)) rfl rfl ?_
    refine J_top (y := nI ld) hgl ?_
    refine G_vti C dX6_sooner_20 (c_X6_doneFrom E hM0 m ρ g h T L hR s ld hs hld2) gX6_sooner_X6_doneFrom rfl dm_X6_doneFrom rfl rfl (hS _ (by decide)) rfl rfl (Nat.le_of_ble_eq_true rfl) (rmOK_b rfl) (fun r20 g20 h20 T20 L20 hp20 => ?_)
    obtain ⟨rfl, rfl, hF, -, o, ho, hro⟩ := hp20
    have hR2 := hR.fr hF
    have hrow2 := hR2.2.2.1
    have hrng := hR2.2.2.2
    have h48 : g20 4802 = nI m := hR2.2.1
    have hg2 : g20 4811 = nI s := by rw [hF.1 4811 (by decide)]; exact hg
    have hgl2 : g20 4808 = nI ld := by rw [hF.1 4808 (by decide)]; exact hgl
    have hoP := ho.congr (fun e => (Pd_all (m := m) (ρ := ρ) e).symm)
    refine J_istore_2 C dX6_sooner_23 (by decide) trivial ?_
    refine J_aload_0 C dX6_sooner_24 ?_
    refine G6_getr C (n := 50) 4 dX6_sooner_25 fX6_sooner_13 iX6_sooner_6 rfl (hS _ (by decide)) rfl rfl ?_
    refine J_iload_1 C dX6_sooner_28 ?_
    refine G_iald C j dX6_sooner_29 rfl (hS _ (by decide)) rfl (by omega) ?_
    refine J_top (y := nI (ρ 0 j)) (hrow2 j hj).1 ?_
    refine J_istore_3 C dX6_sooner_30 (by decide) trivial ?_
    refine J_aload_0 C dX6_sooner_31 ?_
    refine G6_getr C (n := 53) 7 dX6_sooner_32 fX6_sooner_22 iX6_sooner_6 rfl (hS _ (by decide)) rfl rfl ?_
    refine J_iload_1 C dX6_sooner_35 ?_
    refine G_iald C j dX6_sooner_36 rfl (hS _ (by decide)) rfl (by omega) ?_
    refine J_top (y := nI (ρ 3 j)) (hrow2 j hj).2.2.2 ?_
    refine J_istore_4 C dX6_sooner_37 (by decide) trivial ?_
    refine J_aload_0 C dX6_sooner_39 ?_
    refine G6_getr C (n := 52) 6 dX6_sooner_40 fX6_sooner_19 iX6_sooner_6 rfl (hS _ (by decide)) rfl rfl ?_
    refine J_iload_1 C dX6_sooner_43 ?_
    refine G_iald C j dX6_sooner_44 rfl (hS _ (by decide)) rfl (by omega) ?_
    refine J_top (y := nI (ρ 2 j)) (hrow2 j hj).2.2.1 ?_
    refine J_istore_5 C dX6_sooner_45 (by decide) trivial ?_
    refine J_aload_0 C dX6_sooner_47 ?_
    refine G6_getr C (n := 50) 4 dX6_sooner_48 fX6_sooner_13 iX6_sooner_6 rfl (hS _ (by decide)) rfl rfl ?_
    refine J_iload_1 C dX6_sooner_51 ?_
    refine J_iconst C (2) dX6_sooner_52 ic_2 ?_
    refine G_iast C j dX6_sooner_53 rfl (hS _ (by decide)) rfl (by omega) ?_
    refine J_aload_0 C dX6_sooner_54 ?_
    refine G6_getr C (n := 52) 6 dX6_sooner_55 fX6_sooner_19 iX6_sooner_6 rfl (hS _ (by decide)) rfl rfl ?_
    refine J_iload_1 C dX6_sooner_58 ?_
    refine J_bipush C (100) dX6_sooner_59 bc_100 ?_
    refine G_iast C j dX6_sooner_61 rfl (hS _ (by decide)) rfl (by omega) ?_
    obtain ⟨T1, hT1⟩ : ∃ T1, T1 = va_up (va_up T20 50 (upd (T20 50) j 2)) 52 (upd (va_up T20 50 (upd (T20 50) j 2) 52) j 100) := ⟨_, rfl⟩
    rw [← hT1]
    have e50 : T1 50 = upd (T20 50) j 2 := by rw [hT1, tU_ne (by decide), tU_eq]
    have e52 : T1 52 = upd (T20 52) j 100 := by rw [hT1, tU_eq, tU_ne (by decide)]
    have eT1 : ∀ c, c ≠ 50 → c ≠ 52 → T1 c = T20 c := fun c h1 h2 => by rw [hT1, tU_ne h2, tU_ne h1]
    clear hT1
    refine J_iconst C (0) dX6_sooner_62 ic_0 ?_
    refine J_istore_6 C dX6_sooner_63 (by decide) trivial ?_
    have loop : ∀ (n2 : Nat) (k : Nat) (T3 : Nat → Nat → Int32), k ≤ m → m < n2 + k → (∀ c, c ≠ 53 → T3 c = T1 c) → (∀ i, T3 53 i = if i < k then nI (frJ (ρ 3) j i) else T1 53 i) → J E Y (eN E) 0 0 (wS E g20 h20 T3 L20) 65 [some (.ref (eA E 48)), some (.int (nI j)), some (.int r20), some (.int (nI (ρ 0 j))), some (.int (nI (ρ 3 j))), some (.int (nI (ρ 2 j))), some (.int (nI k)), none] [] := by
      intro n2
      induction n2 with
      | zero =>
        intro k T3 hk hfu hT3 hz
        omega
      | succ n2 ih =>
        intro k T3 hk hfu hT3 hz
        refine J_iload_6 C dX6_sooner_65 ?_
        refine J_aload_0 C dX6_sooner_67 ?_
        refine G6_geti C (n := 4802) 2 dX6_sooner_68 fX6_sooner_82 iX6_sooner_6 rfl (hS _ (by decide)) rfl rfl ?_
        refine J_top (y := nI m) h48 ?_
        refine J_icmp_ge C 105 dX6_sooner_71 (by decide) (fun hc71 => ?_) (fun hc71 => ?_)
        · skip
          have hkm : m = k := by
            have := ge_nI (m := m) (by omega) hc71
            omega
          subst hkm
          have hR3 : RvM g20 T3 m (rhJ ρ j) := by
            refine ⟨hm, h48, fun t ht => ⟨?_, ?_, ?_, ?_⟩, fun t ht => ⟨(hrng t ht).1, ?_, ?_, frJ_lt (hrng t ht).2.2.2⟩⟩
            · show T3 50 t = nI (waJ (ρ 0) j t)
              rw [hT3 50 (by decide), e50]
              unfold upd waJ
              split
              · rfl
              · exact (hrow2 t ht).1
            · show T3 51 t = nI (ρ 1 t)
              rw [hT3 51 (by decide), eT1 51 (by decide) (by decide)]
              exact (hrow2 t ht).2.1
            · show T3 52 t = nI (wtJ (ρ 2) j t)
              rw [hT3 52 (by decide), e52]
              unfold upd wtJ
              split
              · rfl
              · exact (hrow2 t ht).2.2.1
            · show T3 53 t = nI (frJ (ρ 3) j t)
              rw [hz t, if_pos ht]
            · show wtJ (ρ 2) j t ≤ 100
              unfold wtJ
              split
              · exact Nat.le_refl _
              · exact (hrng t ht).2.1
            · show waJ (ρ 0) j t ≤ 2
              unfold waJ
              split
              · exact Nat.le_refl _
              · exact (hrng t ht).2.2.1
          refine J_aload_0 C dX6_sooner_105 ?_
          refine J_aload_0 C dX6_sooner_106 ?_
          refine G6_geti C (n := 4811) 11 dX6_sooner_107 fX6_sooner_180 iX6_sooner_6 rfl (hS _ (by decide)) rfl rfl ?_
          refine J_top (y := nI s) hg2 ?_
          refine J_aload_0 C dX6_sooner_110 ?_
          refine G6_geti C (n := 4808) 8 dX6_sooner_111 fX6_sooner_25 iX6_sooner_6 rfl (hS _ (by decide)) rfl rfl ?_
          refine J_top (y := nI ld) hgl2 ?_
          refine G_vti C dX6_sooner_114 (c_X6_doneFrom E hM0 m (rhJ ρ j) _ _ _ _ hR3 s ld hs hld2) gX6_sooner_X6_doneFrom rfl dm_X6_doneFrom rfl rfl (hS _ (by decide)) rfl rfl (Nat.le_of_ble_eq_true rfl) (rmOK_b rfl) (fun r114 g114 h114 T114 L114 hp114 => ?_)
          obtain ⟨rfl, rfl, hF2, -, o2, ho2, hro2⟩ := hp114
          have hbl : bfs (crN m (rhJ ρ j 2) (rhJ ρ j 3) ld (2 ^ m - 1)) (2 ^ m) s = bl m ρ ld (thJ m j) s := bl_J hm hj hld hs
          rw [hbl] at ho2 hro2
          have ho2P : isFirst (Pd m ρ (thJ m j)) (bl m ρ ld (thJ m j) s) o2 := ho2.congr (fun e => by
            show wrN (waJ (ρ 0) j) e.1 m = 0 ↔ wrN (ρ 0) e.1 m &&& thJ m j = 0
            rw [wrN_J hm])
          have h48b : g114 4802 = nI m := by rw [hF2.1 4802 (by decide)]; exact h48
          refine J_istore_6 C dX6_sooner_117 (by decide) trivial ?_
          refine J_aload_0 C dX6_sooner_119 ?_
          refine G6_getr C (n := 50) 4 dX6_sooner_120 fX6_sooner_13 iX6_sooner_6 rfl (hS _ (by decide)) rfl rfl ?_
          refine J_iload_1 C dX6_sooner_123 ?_
          refine J_iload_3 C dX6_sooner_124 ?_
          refine G_iast C j dX6_sooner_125 rfl (hS _ (by decide)) rfl (by omega) ?_
          refine J_aload_0 C dX6_sooner_126 ?_
          refine G6_getr C (n := 52) 6 dX6_sooner_127 fX6_sooner_19 iX6_sooner_6 rfl (hS _ (by decide)) rfl rfl ?_
          refine J_iload_1 C dX6_sooner_130 ?_
          refine J_iload_5 C dX6_sooner_131 ?_
          refine G_iast C j dX6_sooner_133 rfl (hS _ (by decide)) rfl (by omega) ?_
          refine J_aload_0 C dX6_sooner_134 ?_
          refine G6_getr C (n := 53) 7 dX6_sooner_135 fX6_sooner_22 iX6_sooner_6 rfl (hS _ (by decide)) rfl rfl ?_
          refine J_iload_1 C dX6_sooner_138 ?_
          refine J_iload_4 C dX6_sooner_139 ?_
          refine G_iast C j dX6_sooner_141 rfl (hS _ (by decide)) rfl (by omega) ?_
          obtain ⟨T4, hT4⟩ : ∃ T4, T4 = va_up (va_up (va_up T114 50 (upd (T114 50) j (nI (ρ 0 j)))) 52 (upd (va_up T114 50 (upd (T114 50) j (nI (ρ 0 j))) 52) j (nI (ρ 2 j)))) 53 (upd (va_up (va_up T114 50 (upd (T114 50) j (nI (ρ 0 j)))) 52 (upd (va_up T114 50 (upd (T114 50) j (nI (ρ 0 j))) 52) j (nI (ρ 2 j))) 53) j (nI (ρ 3 j))) := ⟨_, rfl⟩
          rw [← hT4]
          have f50 : T4 50 = T20 50 := by
            rw [hT4, tU_ne (by decide), tU_ne (by decide), tU_eq, hF2.2 50 (by decide) (by decide), hT3 50 (by decide), e50]
            funext i
            unfold upd
            split
            · rename_i q; rw [q]; exact ((hrow2 j hj).1).symm
            · rfl
          have f52 : T4 52 = T20 52 := by
            rw [hT4, tU_ne (by decide), tU_eq, tU_ne (by decide), hF2.2 52 (by decide) (by decide), hT3 52 (by decide), e52]
            funext i
            unfold upd
            split
            · rename_i q; rw [q]; exact ((hrow2 j hj).2.2.1).symm
            · rfl
          have f53 : ∀ i, T4 53 i = if i = j then nI (ρ 3 j) else if i < m then nI (frJ (ρ 3) j i) else T20 53 i := fun i => by
            rw [hT4, tU_eq, tU_ne (by decide), tU_ne (by decide), hF2.2 53 (by decide) (by decide)]
            unfold upd
            split
            · rfl
            · rw [hz i, eT1 53 (by decide) (by decide)]
          have fT4 : ∀ c, c ≠ 50 → c ≠ 52 → c ≠ 53 → c ≠ 62 → c ≠ 63 → T4 c = T20 c := fun c h1 h2 h3 h4 h5 => by
            rw [hT4, tU_ne h3, tU_ne h2, tU_ne h1, hF2.2 c h4 h5, hT3 c h3, eT1 c h1 h2]
          clear hT4 hT3 hz
          refine J_iconst C (0) dX6_sooner_142 ic_0 ?_
          refine J_istore_7 C dX6_sooner_143 (by decide) trivial ?_
          have loop2 : ∀ (n3 : Nat) (k2 : Nat) (T5 : Nat → Nat → Int32), k2 ≤ m → m < n3 + k2 → (∀ c, c ≠ 53 → T5 c = T4 c) → (∀ i, T5 53 i = if i < k2 then T20 53 i else T4 53 i) → J E Y (eN E) 0 0 (wS E g114 h114 T5 L114) 145 [some (.ref (eA E 48)), some (.int (nI j)), some (.int r20), some (.int (nI (ρ 0 j))), some (.int (nI (ρ 3 j))), some (.int (nI (ρ 2 j))), some (.int r114), some (.int (nI k2))] [] := by
            intro n3
            induction n3 with
            | zero =>
              intro k2 T5 hk2 hfu2 hT5 hz5
              omega
            | succ n3 ih2 =>
              intro k2 T5 hk2 hfu2 hT5 hz5
              refine J_iload_7 C dX6_sooner_145 ?_
              refine J_aload_0 C dX6_sooner_147 ?_
              refine G6_geti C (n := 4802) 2 dX6_sooner_148 fX6_sooner_82 iX6_sooner_6 rfl (hS _ (by decide)) rfl rfl ?_
              refine J_top (y := nI m) h48b ?_
              refine J_icmp_ge C 187 dX6_sooner_151 (by decide) (fun hc151 => ?_) (fun hc151 => ?_)
              · skip
                have hkm : m = k2 := by
                  have := ge_nI (m := m) (by omega) hc151
                  omega
                subst hkm
                have hfr : FrP g g114 T T5 := by
                  refine ⟨fun c hc => by rw [hF2.1 c hc, hF.1 c hc], fun c hc => ?_⟩
                  by_cases c53 : c = 53
                  · subst c53
                    rw [← hF.2 53 (by decide) (by decide)]
                    funext i
                    rw [hz5 i]
                    split
                    · rfl
                    · rename_i q
                      rw [f53, if_neg (by omega), if_neg q]
                  · rw [hT5 c c53, ← hF.2 c (by omega) (by omega)]
                    by_cases c50 : c = 50
                    · rw [c50, f50]
                    · by_cases c52 : c = 52
                      · rw [c52, f52]
                      · exact fT4 c c50 c52 c53 (by omega) (by omega)
                refine J_iload_2 C dX6_sooner_187 ?_
                refine J_if_lt C 196 dX6_sooner_188 (by decide) (fun hc188 => ?_) (fun hc188 => ?_)
                · skip
                  refine J_ldc C kcX6_sooner_243 dX6_sooner_196 ?_
                  refine J_goto C 205 dX6_sooner_198 (by decide) ?_
                  refine hQ _ _ _ _ dX6_sooner_205 ⟨_, _, _, _, rfl, ?_⟩
                  refine ⟨⟨Or.inr ⟨j, rfl, hj, o, o2, hoP, ho2P, ?_⟩, hfr⟩, rfl, rfl⟩
                  rw [show soV (stO (bl m ρ ld (2 ^ m - 1) s) o) (stO (bl m ρ ld (thJ m j) s) o2) = soV r20 r114 by rw [hro, hro2]]
                  unfold soV
                  first
                  | rw [if_pos hc188]
                  | rw [if_neg hc188, if_pos (Int32.not_le.mp hc193)]
                  | rw [if_neg hc188, if_neg (Int32.not_lt.mpr hc193)]
                · skip
                  refine J_iload_6 C dX6_sooner_191 ?_
                  refine J_if_ge C 201 dX6_sooner_193 (by decide) (fun hc193 => ?_) (fun hc193 => ?_)
                  · skip
                    refine J_iload_2 C dX6_sooner_201 ?_
                    refine J_iload_6 C dX6_sooner_202 ?_
                    refine J_isub C dX6_sooner_204 ?_
                    refine hQ _ _ _ _ dX6_sooner_205 ⟨_, _, _, _, rfl, ?_⟩
                    refine ⟨⟨Or.inr ⟨j, rfl, hj, o, o2, hoP, ho2P, ?_⟩, hfr⟩, rfl, rfl⟩
                    rw [show soV (stO (bl m ρ ld (2 ^ m - 1) s) o) (stO (bl m ρ ld (thJ m j) s) o2) = soV r20 r114 by rw [hro, hro2]]
                    unfold soV
                    first
                    | rw [if_pos hc188]
                    | rw [if_neg hc188, if_pos (Int32.not_le.mp hc193)]
                    | rw [if_neg hc188, if_neg (Int32.not_lt.mpr hc193)]
                  · skip
                    refine J_ldc C kcX6_sooner_243 dX6_sooner_196 ?_
                    refine J_goto C 205 dX6_sooner_198 (by decide) ?_
                    refine hQ _ _ _ _ dX6_sooner_205 ⟨_, _, _, _, rfl, ?_⟩
                    refine ⟨⟨Or.inr ⟨j, rfl, hj, o, o2, hoP, ho2P, ?_⟩, hfr⟩, rfl, rfl⟩
                    rw [show soV (stO (bl m ρ ld (2 ^ m - 1) s) o) (stO (bl m ρ ld (thJ m j) s) o2) = soV r20 r114 by rw [hro, hro2]]
                    unfold soV
                    first
                    | rw [if_pos hc188]
                    | rw [if_neg hc188, if_pos (Int32.not_le.mp hc193)]
                    | rw [if_neg hc188, if_neg (Int32.not_lt.mpr hc193)]
              · skip
                have hkm : k2 < m := lt_nI (m := m) (by omega) hc151
                have hv : T5 53 k2 = nI (if k2 = j then ρ 3 j else frJ (ρ 3) j k2) := by
                  rw [hz5 k2, if_neg (Nat.lt_irrefl k2), f53]
                  split
                  · rfl
                  · first
                    | rfl
                    | rw [if_pos hkm]
                have hsb := soBack (fr := ρ 3) (m := m) (j := j) (k := k2) hm hj hkm (hrng k2 hkm).2.2.2 (hsym k2 j hkm hj) (hirr j hj)
                refine J_aload_0 C dX6_sooner_154 ?_
                refine G6_getr C (n := 53) 7 dX6_sooner_155 fX6_sooner_22 iX6_sooner_6 rfl (hS _ (by decide)) rfl rfl ?_
                refine J_iload_7 C dX6_sooner_158 ?_
                refine J_dup2 C dX6_sooner_160 ?_
                refine G_iald C k2 dX6_sooner_161 rfl (hS _ (by decide)) rfl (by omega) ?_
                refine J_iload_4 C dX6_sooner_162 ?_
                refine J_iload_7 C dX6_sooner_164 ?_
                refine G_spi C dX6_sooner_166 (c_X6_has E hM0 (ρ 3 j) k2 (by have := (hrng j hj).2.2.2; omega) (by omega) _ _ _ _) gX6_sooner_X6_has rfl dm_X6_has rfl rfl (Nat.le_of_ble_eq_true rfl) (rmOK_b rfl) (fun r166 hr166 => ?_)
                subst hr166
                refine J_if_eq C 178 dX6_sooner_169 (by decide) (fun hc169 => ?_) (fun hc169 => ?_)
                · skip
                  refine J_iconst C (0) dX6_sooner_178 ic_0 ?_
                  refine J_ior C dX6_sooner_179 ?_
                  refine J_top (y := T20 53 k2) (by
                    rw [hv, (hrow2 k2 hkm).2.2.2]
                    by_cases hb : (ρ 3 j).testBit k2 = true
                    · rw [if_pos hb] at hsb
                      first
                      | (rw [nI_sh1 j (by omega), nI_or, hsb])
                      | exact absurd hc169 (by rw [if_pos hb]; decide)
                    · rw [if_neg hb] at hsb
                      first
                      | (rw [show (0 : Int32) = nI 0 from rfl, nI_or, hsb])
                      | exact absurd (if_neg hb) hc169) ?_
                  refine G_iast C k2 dX6_sooner_180 rfl (hS _ (by decide)) rfl (by omega) ?_
                  refine J_iinc_7 C (1) dX6_sooner_181 (by decide) trivial ic_1 ?_
                  refine J_goto C 145 dX6_sooner_184 (by decide) ?_
                  rw [nI_1]
                  refine ih2 (k2 + 1) _ (by omega) (by omega) (fun c hc => by rw [tU_ne hc]; exact hT5 c hc) (fun i => ?_)
                  rw [tU_eq]
                  simp only [upd]
                  by_cases e : i = k2
                  · subst e
                    rw [if_pos rfl, if_pos (Nat.lt_succ_self i)]
                  · rw [if_neg e, hz5 i]
                    by_cases q : i < k2
                    · rw [if_pos q, if_pos (Nat.lt_succ_of_lt q)]
                    · rw [if_neg q, if_neg (fun z => by omega)]
                · skip
                  refine J_iconst C (1) dX6_sooner_172 ic_1 ?_
                  refine J_iload_1 C dX6_sooner_173 ?_
                  refine J_ishl C dX6_sooner_174 ?_
                  refine J_goto C 179 dX6_sooner_175 (by decide) ?_
                  refine J_ior C dX6_sooner_179 ?_
                  refine J_top (y := T20 53 k2) (by
                    rw [hv, (hrow2 k2 hkm).2.2.2]
                    by_cases hb : (ρ 3 j).testBit k2 = true
                    · rw [if_pos hb] at hsb
                      first
                      | (rw [nI_sh1 j (by omega), nI_or, hsb])
                      | exact absurd hc169 (by rw [if_pos hb]; decide)
                    · rw [if_neg hb] at hsb
                      first
                      | (rw [show (0 : Int32) = nI 0 from rfl, nI_or, hsb])
                      | exact absurd (if_neg hb) hc169) ?_
                  refine G_iast C k2 dX6_sooner_180 rfl (hS _ (by decide)) rfl (by omega) ?_
                  refine J_iinc_7 C (1) dX6_sooner_181 (by decide) trivial ic_1 ?_
                  refine J_goto C 145 dX6_sooner_184 (by decide) ?_
                  rw [nI_1]
                  refine ih2 (k2 + 1) _ (by omega) (by omega) (fun c hc => by rw [tU_ne hc]; exact hT5 c hc) (fun i => ?_)
                  rw [tU_eq]
                  simp only [upd]
                  by_cases e : i = k2
                  · subst e
                    rw [if_pos rfl, if_pos (Nat.lt_succ_self i)]
                  · rw [if_neg e, hz5 i]
                    by_cases q : i < k2
                    · rw [if_pos q, if_pos (Nat.lt_succ_of_lt q)]
                    · rw [if_neg q, if_neg (fun z => by omega)]
          exact loop2 (m + 1) 0 T4 (by omega) (by omega) (fun _ _ => rfl) (fun i => by rw [if_neg (Nat.not_lt_zero i)])
        · skip
          have hkm : k < m := lt_nI (m := m) (by omega) hc71
          have hv : T3 53 k = nI (ρ 3 k) := by rw [hz k, if_neg (Nat.lt_irrefl k), eT1 53 (by decide) (by decide)]; exact (hrow2 k hkm).2.2.2
          have hl7 : ρ 3 k < 2 ^ 7 := by have := (hrng k hkm).2.2.2; omega
          refine J_aload_0 C dX6_sooner_74 ?_
          refine G6_getr C (n := 53) 7 dX6_sooner_75 fX6_sooner_22 iX6_sooner_6 rfl (hS _ (by decide)) rfl rfl ?_
          refine J_iload_6 C dX6_sooner_78 ?_
          refine J_dup2 C dX6_sooner_80 ?_
          refine G_iald C k dX6_sooner_81 rfl (hS _ (by decide)) rfl (by omega) ?_
          refine J_iload_6 C dX6_sooner_82 ?_
          refine J_iload_1 C dX6_sooner_84 ?_
          refine J_icmp_ne C 92 dX6_sooner_85 (by decide) (fun hc85 => ?_) (fun hc85 => ?_)
          · skip
            refine J_iconst C (1) dX6_sooner_92 ic_1 ?_
            refine J_iload_1 C dX6_sooner_93 ?_
            refine J_ishl C dX6_sooner_94 ?_
            refine J_iconst C (-1) dX6_sooner_95 ic_m1 ?_
            refine J_ixor C dX6_sooner_96 ?_
            refine J_iand C dX6_sooner_97 ?_
            refine J_top (y := nI (frJ (ρ 3) j k)) (by
              rw [hv]
              unfold frJ
              first
              | (rw [if_pos (nI_inj (by omega) (by omega) hc85), show (0 : Int32) = nI 0 from rfl, nI_and, Nat.and_zero])
              | (rw [if_neg (fun q => hc85 (by rw [q])), nI_sh1 j (by omega), nI_andn (n := 7) (by omega) hl7])) ?_
            refine G_iast C k dX6_sooner_98 rfl (hS _ (by decide)) rfl (by omega) ?_
            refine J_iinc_6 C (1) dX6_sooner_99 (by decide) trivial ic_1 ?_
            refine J_goto C 65 dX6_sooner_102 (by decide) ?_
            rw [nI_1]
            refine ih (k + 1) _ (by omega) (by omega) (fun c hc => by rw [tU_ne hc]; exact hT3 c hc) (fun i => ?_)
            rw [tU_eq]
            simp only [upd]
            by_cases e : i = k
            · subst e
              rw [if_pos rfl, if_pos (Nat.lt_succ_self i)]
            · rw [if_neg e, hz i]
              by_cases q : i < k
              · rw [if_pos q, if_pos (Nat.lt_succ_of_lt q)]
              · rw [if_neg q, if_neg (fun z => by omega)]
          · skip
            refine J_iconst C (0) dX6_sooner_88 ic_0 ?_
            refine J_goto C 97 dX6_sooner_89 (by decide) ?_
            refine J_iand C dX6_sooner_97 ?_
            refine J_top (y := nI (frJ (ρ 3) j k)) (by
              rw [hv]
              unfold frJ
              first
              | (rw [if_pos (nI_inj (by omega) (by omega) hc85), show (0 : Int32) = nI 0 from rfl, nI_and, Nat.and_zero])
              | (rw [if_neg (fun q => hc85 (by rw [q])), nI_sh1 j (by omega), nI_andn (n := 7) (by omega) hl7])) ?_
            refine G_iast C k dX6_sooner_98 rfl (hS _ (by decide)) rfl (by omega) ?_
            refine J_iinc_6 C (1) dX6_sooner_99 (by decide) trivial ic_1 ?_
            refine J_goto C 65 dX6_sooner_102 (by decide) ?_
            rw [nI_1]
            refine ih (k + 1) _ (by omega) (by omega) (fun c hc => by rw [tU_ne hc]; exact hT3 c hc) (fun i => ?_)
            rw [tU_eq]
            simp only [upd]
            by_cases e : i = k
            · subst e
              rw [if_pos rfl, if_pos (Nat.lt_succ_self i)]
            · rw [if_neg e, hz i]
              by_cases q : i < k
              · rw [if_pos q, if_pos (Nat.lt_succ_of_lt q)]
              · rw [if_neg q, if_neg (fun z => by omega)]
    exact loop (m + 1) 0 T1 (by omega) (by omega) (fun _ _ => rfl) (fun i => by rw [if_neg (Nat.not_lt_zero i)])
  · skip
    refine J_ldc C kcX6_sooner_243 dX6_sooner_8 ?_
    refine hQ _ _ _ _ dX6_sooner_10 ⟨_, _, _, _, rfl, ?_⟩
    refine ⟨⟨Or.inl ⟨fun z => ?_, rfl⟩, FrP.rf⟩, rfl, rfl⟩
    rw [if_pos z] at hc5
    exact absurd hc5 (by decide)
