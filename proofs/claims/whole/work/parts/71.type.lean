def tyD (f : Nat → Int32) (sz j d : Nat) (v : Int64) : Nat → Int32 := fun i => if sz ≤ i ∧ i < sz + d then nI (byN v (j - 1 - (i - sz))) else f i
theorem tyD_0 {f : Nat → Int32} {sz j : Nat} {v : Int64} : tyD f sz j 0 v = f := by
  funext i
  unfold tyD
  rw [if_neg (by omega)]
theorem tyD_s {f : Nat → Int32} {sz j d : Nat} {v : Int64} : upd (tyD f sz j d v) (sz + d) (nI (byN v (j - 1 - d))) = tyD f sz j (d + 1) v := by
  funext i
  unfold upd tyD
  by_cases e : i = sz + d
  · subst e
    rw [if_pos rfl, if_pos (by omega), Nat.add_sub_cancel_left]
  · rw [if_neg e]
    by_cases q : sz ≤ i ∧ i < sz + d
    · rw [if_pos q, if_pos (by omega)]
    · rw [if_neg q, if_neg (by omega)]
theorem up2 {T : Nat → Nat → Int32} {k : Nat} {f f' : Nat → Int32} : va_up (va_up T k f) k f' = va_up T k f' := by
  funext i
  unfold va_up
  split <;> rfl
theorem up_sf {T : Nat → Nat → Int32} {k : Nat} {f : Nat → Int32} (h : T k = f) : va_up T k f = T := by
  funext i
  unfold va_up
  split
  · rename_i e; rw [e, h]
  · rfl
def TyR (v : Int64) (n : Int32) (sz cg ct : Nat) (r : Int32) (g g2 : Nat → Int32) (T T2 : Nat → Nat → Int32) : Prop := ((n < 1 ∨ 8 < n) ∧ r = -1 ∧ g2 = g ∧ T2 = T) ∨ ∃ j, n = nI j ∧ 1 ≤ j ∧ j ≤ 8 ∧ ((200 < sz + j ∧ r = -3 ∧ g2 = g ∧ T2 = T) ∨ (sz + j ≤ 200 ∧ r = nI (sz + j) ∧ g2 = upd g cg (nI (sz + j)) ∧ T2 = va_up T ct (tyD (T ct) sz j j v)))
theorem n18 {n : Int32} (h1 : ¬ n < 1) (h2 : n ≤ 8) : ∃ j, n = nI j ∧ 1 ≤ j ∧ j ≤ 8 := by
  obtain ⟨j, h3, h4⟩ := nI_of2 (x := n) (M := 8) (n := 8) (by decide) (fun q => h1 (Int32.lt_trans q (by decide))) h2
  refine ⟨j, h4, ?_, h3⟩
  rcases Nat.lt_or_ge j 1 with q | q
  · rw [h4, show j = 0 by omega] at h1
    exact absurd (by decide) h1
  · exact q
theorem nI_pred1 {j : Nat} (h : 1 ≤ j) : nI j - 1 = nI (j - 1) := by
  obtain ⟨k, rfl⟩ : ∃ k, j = k + 1 := ⟨j - 1, by omega⟩
  exact nI_pred k
/-- how many are still to come -/
theorem J_gT {E : EN} {Y : YN} {N cs ss pc : Nat} {g g' : Nat → Int32} {h : Nat → Int64} {T T' : Nat → Nat → Int32} {L : Nat → Nat → Int64} {lv : List (Option Value)} {st : List Value} (e : g = g') (e2 : T = T') (kk : J E Y N cs ss (wS E g' h T' L) pc lv st) : J E Y N cs ss (wS E g h T L) pc lv st := by
  subst e; subst e2; exact kk
def rem (j d : Nat) : Int32 := nI j - 1 - nI d
theorem rem_i {j d : Nat} (hd : d < j) : rem j d = nI (j - 1 - d) := by
  unfold rem
  rw [nI_pred1 (by omega), nI_sub (by omega)]
theorem rem_n {j d : Nat} (hj : j ≤ 8) (h1 : 1 ≤ j) (hd : d ≤ j) : rem j d < 0 ↔ d = j := by
  constructor
  · intro h
    rcases Nat.lt_or_ge d j with q | q
    · rw [rem_i q] at h; exact absurd h (nI_pos (by omega))
    · omega
  · intro h
    subst h
    unfold rem
    revert h1 hj
    have : ∀ d, d < 9 → nI d - 1 - nI d < 0 := by decide
    intro _ h8
    exact this d (by omega)
theorem rem_s {j d : Nat} : rem j d + (-1) = rem j (d + 1) := by
  unfold rem
  rw [← nI_1]
  generalize nI j - 1 = a
  generalize nI d = c
  apply Int32.toBitVec_inj.mp
  simp only [Int32.toBitVec_add, Int32.toBitVec_sub, Int32.toBitVec_neg, Int32.toBitVec_one]
  bv_omega
theorem rem_0 {j : Nat} : nI j - 1 = rem j 0 := by
  unfold rem
  exact (Int32.sub_zero _).symm
theorem n_lo {n : Int32} : (1 : Int64) ≤ n.toInt64 ↔ ¬ n < 1 := by
  rw [Int32.not_lt, Int64.le_iff_toInt_le, Int32.le_iff_toInt_le, Int32.toInt_toInt64]
  exact Iff.rfl
theorem n_hi {n : Int32} : n.toInt64 ≤ (8 : Int64) ↔ n ≤ 8 := by
  rw [Int64.le_iff_toInt_le, Int32.le_iff_toInt_le, Int32.toInt_toInt64]
  exact Iff.rfl
abbrev rmX5_type : Room := { frames := 0, cells := 0, slots := 0, locals := 0 }
theorem fX5_type_13 : Cond.fieldLink RX5 13 RX5 (TX5 1).2.1 (TX5 1).2.2.1 ∈ wsX5_type := by decide +kernel
theorem fX5_type_9 : Cond.fieldLink RX5 9 RX5 (TX5 0).2.1 (TX5 0).2.2.1 ∈ wsX5_type := by decide +kernel
theorem iX5_type_5 : ∀ x ∈ wsX50, x ∈ wsX5_type := by decide +kernel
theorem bc_m3 : (Int8.ofInt (-3)).toInt32 = (-3) := by decide
set_option maxRecDepth 100000 in
set_option maxHeartbeats 4000000 in
theorem c_X5_type (E : EN) (hM : EM E) (g : Nat → Int32) (h : Nat → Int64) (T : Nat → Nat → Int32) (L : Nat → Nat → Int64) (v : Int64) (n : Int32) (sz : Nat) (hsz : sz ≤ 200) (hg : g 1 = nI sz) : GtI E yX5_type wsX5_type rmX5_type [.ref (eA E 0), .long v, .int n] g h T L (fun r g2 h2 T2 L2 => TyR v n sz 1 1 r g g2 T T2 ∧ h2 = h ∧ L2 = L) := by
  refine CtI_of (cc := cX5_type) (nL := 5) RX5 [some (.ref (eA E 0)), some (.long v), none, some (.int n), none] ⟨rfl, rfl⟩ (by decide) rfl rfl (Nat.le_of_ble_eq_true rfl) ⟨1, rfl⟩ hM.2 (fun Y C hQ => ?_)
  have hM0 := hM
  obtain ⟨hS, hNN⟩ := hM
  refine J_iload_3 C dX5_type_0 ?_
  refine J_iconst C (1) dX5_type_1 ic_1 ?_
  refine J_icmp_lt C 11 dX5_type_2 (by decide) (fun hc2 => ?_) (fun hc2 => ?_)
  · skip
    refine J_iconst C (-1) dX5_type_11 ic_m1 ?_
    refine hQ _ _ _ _ dX5_type_12 ⟨_, _, _, _, rfl, ?_⟩
    first
    | exact ⟨Or.inl ⟨Or.inl hc2, rfl, rfl, rfl⟩, rfl, rfl⟩
    | exact ⟨Or.inl ⟨Or.inr (Int32.not_le.mp hc8), rfl, rfl, rfl⟩, rfl, rfl⟩
  · skip
    refine J_iload_3 C dX5_type_5 ?_
    refine J_bipush C (8) dX5_type_6 bc_8 ?_
    refine J_icmp_le C 13 dX5_type_8 (by decide) (fun hc8 => ?_) (fun hc8 => ?_)
    · skip
      obtain ⟨j, rfl, hj1, hj8⟩ := n18 hc2 hc8
      refine J_aload_0 C dX5_type_13 ?_
      refine G5_geti C (n := 1) 1 dX5_type_14 fX5_type_13 iX5_type_5 rfl (hS _ (by decide)) rfl rfl ?_
      refine J_iload_3 C dX5_type_17 ?_
      refine J_iadd C dX5_type_18 ?_
      rw [hg, nI_add]
      refine J_sipush C (200) dX5_type_19 sc_200 ?_
      skip
      refine J_icmp_le C 28 dX5_type_22 (by decide) (fun hc22 => ?_) (fun hc22 => ?_)
      · skip
        have hle : sz + j ≤ 200 := by
          rcases Nat.lt_or_ge 200 (sz + j) with q | q
          · exact absurd ((nI_ltI (a := 200) (by decide) (by omega)).mpr q) (Int32.not_lt.mpr hc22)
          · exact q
        refine J_iload_3 C dX5_type_28 ?_
        refine J_iconst C (1) dX5_type_29 ic_1 ?_
        refine J_isub C dX5_type_30 ?_
        refine J_istore_4 C dX5_type_31 (by decide) trivial ?_
        have loop : ∀ (n2 : Nat) (d : Nat), d ≤ j → j < n2 + d → J E Y (eN E) 0 0 (wS E (upd g 1 (nI (sz + d))) h (va_up T 1 (tyD (T 1) sz j d v)) L) 33 [some (.ref (eA E 0)), some (.long v), none, some (.int (nI j)), some (.int (rem j d))] [] := by
          intro n2
          induction n2 with
          | zero =>
            intro d hdj hfu
            omega
          | succ n2 ih =>
            intro d hdj hfu
            refine J_iload_4 C dX5_type_33 ?_
            refine J_if_lt C 75 dX5_type_35 (by decide) (fun hc35 => ?_) (fun hc35 => ?_)
            · skip
              refine J_aload_0 C dX5_type_75 ?_
              refine G5_geti C (n := 1) 1 dX5_type_76 fX5_type_13 iX5_type_5 rfl (hS _ (by decide)) rfl rfl ?_
              refine hQ _ _ _ _ dX5_type_79 ⟨_, _, _, _, rfl, ?_⟩
              obtain rfl : d = j := (rem_n hj8 hj1 hdj).mp hc35
              refine ⟨Or.inr ⟨d, rfl, hj1, hj8, Or.inr ⟨hle, ?_, rfl, rfl⟩⟩, rfl, rfl⟩
              simp [upd]
            · skip
              have hd : d < j := by
                rcases Nat.lt_or_ge d j with q | q
                · exact q
                · exact absurd ((rem_n hj8 hj1 hdj).mpr (by omega)) hc35
              refine J_aload_0 C dX5_type_38 ?_
              refine G5_getr C (n := 1) 0 dX5_type_39 fX5_type_9 iX5_type_5 rfl (hS _ (by decide)) rfl rfl ?_
              refine J_aload_0 C dX5_type_42 ?_
              refine G5_geti C (n := 1) 1 dX5_type_43 fX5_type_13 iX5_type_5 rfl (hS _ (by decide)) rfl rfl ?_
              refine J_lload_1 C dX5_type_46 ?_
              refine J_bipush C (8) dX5_type_47 bc_8 ?_
              refine J_iload_4 C dX5_type_49 ?_
              refine J_imul C dX5_type_51 ?_
              refine J_lushr C dX5_type_52 ?_
              refine J_l2i C dX5_type_53 ?_
              refine J_sipush C (255) dX5_type_54 sc_255 ?_
              refine J_iand C dX5_type_57 ?_
              rw [rem_i hd, by_c v (j - 1 - d) (by omega)]
              refine G_iast C (sz + d) dX5_type_58 rfl (hS _ (by decide)) rfl (by omega) ?_
              refine J_aload_0 C dX5_type_59 ?_
              refine J_dup C dX5_type_60 ?_
              refine G5_geti C (n := 1) 1 dX5_type_61 fX5_type_13 iX5_type_5 rfl (hS _ (by decide)) rfl rfl ?_
              refine J_iconst C (1) dX5_type_64 ic_1 ?_
              refine J_iadd C dX5_type_65 ?_
              refine G5_puti C (n := 1) 1 dX5_type_66 fX5_type_13 iX5_type_5 rfl (hS _ (by decide)) rfl (tyX5_ok 1 (by decide)) rfl rfl ?_
              refine J_iinc_4 C (-1) dX5_type_69 (by decide) trivial ic_m1 ?_
              refine J_goto C 33 dX5_type_72 (by decide) ?_
              rw [← rem_i hd, rem_s]
              refine J_gT (g' := upd g 1 (nI (sz + (d + 1)))) (T' := va_up T 1 (tyD (T 1) sz j (d + 1) v)) (by rw [upd2, show upd g 1 (nI (sz + d)) 1 + 1 = nI (sz + (d + 1)) by rw [show sz + (d + 1) = sz + d + 1 by omega, ← nI_1]; simp [upd]]) (by rw [up2, tU_eq, tyD_s]) ?_
              exact ih (d + 1) (by omega) (by omega)
        have hz := loop (j + 1) 0 (by omega) (by omega)
        rw [tyD_0, up_sf rfl, ← rem_0, upd_sf (by rw [hg]; rfl)] at hz
        exact hz
      · skip
        refine J_bipush C (-3) dX5_type_25 bc_m3 ?_
        refine hQ _ _ _ _ dX5_type_27 ⟨_, _, _, _, rfl, ?_⟩
        refine ⟨Or.inr ⟨j, rfl, hj1, hj8, Or.inl ⟨?_, rfl, rfl, rfl⟩⟩, rfl, rfl⟩
        exact Nat.lt_of_not_le fun q => hc22 ((nI_leI (b := 200) (by omega) (by decide)).mpr q)
    · skip
      refine J_iconst C (-1) dX5_type_11 ic_m1 ?_
      refine hQ _ _ _ _ dX5_type_12 ⟨_, _, _, _, rfl, ?_⟩
      first
      | exact ⟨Or.inl ⟨Or.inl hc2, rfl, rfl, rfl⟩, rfl, rfl⟩
      | exact ⟨Or.inl ⟨Or.inr (Int32.not_le.mp hc8), rfl, rfl, rfl⟩, rfl, rfl⟩
abbrev rmX6_type : Room := { frames := 1, cells := 0, slots := 0, locals := 25 }
theorem kcX6_type_89 : Cond.constantLong RX6 89 (8) ∈ wsX6_type := by decide +kernel
theorem kcX6_type_94 : Cond.constantLong RX6 94 (255) ∈ wsX6_type := by decide +kernel
theorem fX6_type_7 : Cond.fieldLink RX6 7 RX6 (TX6 0).2.1 (TX6 0).2.2.1 ∈ wsX6_type := by decide +kernel
theorem fX6_type_91 : Cond.fieldLink RX6 91 RX6 (TX6 1).2.1 (TX6 1).2.2.1 ∈ wsX6_type := by decide +kernel
theorem iX6_type_6 : ∀ x ∈ wsX60, x ∈ wsX6_type := by decide +kernel
set_option maxRecDepth 100000 in
set_option maxHeartbeats 4000000 in
theorem c_X6_type (E : EN) (hM : EM E) (g : Nat → Int32) (h : Nat → Int64) (T : Nat → Nat → Int32) (L : Nat → Nat → Int64) (v : Int64) (n : Int32) (sz : Nat) (hsz : sz ≤ 200) (hg : g 4801 = nI sz) : GtI E yX6_type wsX6_type rmX6_type [.ref (eA E 48), .long v, .int n] g h T L (fun r g2 h2 T2 L2 => TyR v n sz 4801 49 r g g2 T T2 ∧ h2 = h ∧ L2 = L) := by
  refine CtI_of (cc := cX6_type) (nL := 5) RX6 [some (.ref (eA E 48)), some (.long v), none, some (.int n), none] ⟨rfl, rfl⟩ (by decide) rfl rfl (Nat.le_of_ble_eq_true rfl) ⟨1, rfl⟩ hM.2 (fun Y C hQ => ?_)
  have hM0 := hM
  obtain ⟨hS, hNN⟩ := hM
  refine J_iload_3 C dX6_type_0 ?_
  refine J_i2l C dX6_type_1 ?_
  refine J_lconst C (1) dX6_type_2 lc_1 ?_
  refine J_ldc2 C kcX6_type_89 dX6_type_3 ?_
  refine G_spi C dX6_type_6 (c_X6_in E hM0 _ _ _ _ _ _ _) gX6_type_X6_in rfl dm_X6_in rfl rfl (Nat.le_of_ble_eq_true rfl) (rmOK_b rfl) (fun r6 hr6 => ?_)
  subst hr6
  refine J_if_ne C 14 dX6_type_9 (by decide) (fun hc9 => ?_) (fun hc9 => ?_)
  · skip
    obtain ⟨hl1, hl2⟩ : (1 : Int64) ≤ n.toInt64 ∧ n.toInt64 ≤ 8 := Decidable.byContradiction fun z => by rw [if_neg z] at hc9; exact hc9 rfl
    obtain ⟨j, rfl, hj1, hj8⟩ := n18 (n_lo.mp hl1) (n_hi.mp hl2)
    refine J_aload_0 C dX6_type_14 ?_
    refine G6_geti C (n := 4801) 1 dX6_type_15 fX6_type_91 iX6_type_6 rfl (hS _ (by decide)) rfl rfl ?_
    refine J_iload_3 C dX6_type_18 ?_
    refine J_iadd C dX6_type_19 ?_
    rw [hg, nI_add]
    refine J_sipush C (200) dX6_type_20 sc_200 ?_
    skip
    refine J_icmp_le C 29 dX6_type_23 (by decide) (fun hc23 => ?_) (fun hc23 => ?_)
    · skip
      have hle : sz + j ≤ 200 := by
        rcases Nat.lt_or_ge 200 (sz + j) with q | q
        · exact absurd ((nI_ltI (a := 200) (by decide) (by omega)).mpr q) (Int32.not_lt.mpr hc23)
        · exact q
      refine J_iload_3 C dX6_type_29 ?_
      refine J_iconst C (1) dX6_type_30 ic_1 ?_
      refine J_isub C dX6_type_31 ?_
      refine J_istore_4 C dX6_type_32 (by decide) trivial ?_
      have loop : ∀ (n2 : Nat) (d : Nat), d ≤ j → j < n2 + d → J E Y (eN E) 0 0 (wS E (upd g 4801 (nI (sz + d))) h (va_up T 49 (tyD (T 49) sz j d v)) L) 34 [some (.ref (eA E 48)), some (.long v), none, some (.int (nI j)), some (.int (rem j d))] [] := by
        intro n2
        induction n2 with
        | zero =>
          intro d hdj hfu
          omega
        | succ n2 ih =>
          intro d hdj hfu
          refine J_iload_4 C dX6_type_34 ?_
          refine J_if_lt C 76 dX6_type_36 (by decide) (fun hc36 => ?_) (fun hc36 => ?_)
          · skip
            refine J_aload_0 C dX6_type_76 ?_
            refine G6_geti C (n := 4801) 1 dX6_type_77 fX6_type_91 iX6_type_6 rfl (hS _ (by decide)) rfl rfl ?_
            refine hQ _ _ _ _ dX6_type_80 ⟨_, _, _, _, rfl, ?_⟩
            obtain rfl : d = j := (rem_n hj8 hj1 hdj).mp hc36
            refine ⟨Or.inr ⟨d, rfl, hj1, hj8, Or.inr ⟨hle, ?_, rfl, rfl⟩⟩, rfl, rfl⟩
            simp [upd]
          · skip
            have hd : d < j := by
              rcases Nat.lt_or_ge d j with q | q
              · exact q
              · exact absurd ((rem_n hj8 hj1 hdj).mpr (by omega)) hc36
            refine J_aload_0 C dX6_type_39 ?_
            refine G6_getr C (n := 49) 0 dX6_type_40 fX6_type_7 iX6_type_6 rfl (hS _ (by decide)) rfl rfl ?_
            refine J_aload_0 C dX6_type_43 ?_
            refine G6_geti C (n := 4801) 1 dX6_type_44 fX6_type_91 iX6_type_6 rfl (hS _ (by decide)) rfl rfl ?_
            refine J_lload_1 C dX6_type_47 ?_
            refine J_bipush C (8) dX6_type_48 bc_8 ?_
            refine J_iload_4 C dX6_type_50 ?_
            refine J_imul C dX6_type_52 ?_
            refine J_lshr C dX6_type_53 ?_
            refine J_ldc2 C kcX6_type_94 dX6_type_54 ?_
            refine J_land C dX6_type_57 ?_
            refine J_l2i C dX6_type_58 ?_
            rw [rem_i hd, by_m v (j - 1 - d) (by omega)]
            refine G_iast C (sz + d) dX6_type_59 rfl (hS _ (by decide)) rfl (by omega) ?_
            refine J_aload_0 C dX6_type_60 ?_
            refine J_dup C dX6_type_61 ?_
            refine G6_geti C (n := 4801) 1 dX6_type_62 fX6_type_91 iX6_type_6 rfl (hS _ (by decide)) rfl rfl ?_
            refine J_iconst C (1) dX6_type_65 ic_1 ?_
            refine J_iadd C dX6_type_66 ?_
            refine G6_puti C (n := 4801) 1 dX6_type_67 fX6_type_91 iX6_type_6 rfl (hS _ (by decide)) rfl (tyX6_ok 1 (by decide)) rfl rfl ?_
            refine J_iinc_4 C (-1) dX6_type_70 (by decide) trivial ic_m1 ?_
            refine J_goto C 34 dX6_type_73 (by decide) ?_
            rw [← rem_i hd, rem_s]
            refine J_gT (g' := upd g 4801 (nI (sz + (d + 1)))) (T' := va_up T 49 (tyD (T 49) sz j (d + 1) v)) (by rw [upd2, show upd g 4801 (nI (sz + d)) 4801 + 1 = nI (sz + (d + 1)) by rw [show sz + (d + 1) = sz + d + 1 by omega, ← nI_1]; simp [upd]]) (by rw [up2, tU_eq, tyD_s]) ?_
            exact ih (d + 1) (by omega) (by omega)
      have hz := loop (j + 1) 0 (by omega) (by omega)
      rw [tyD_0, up_sf rfl, ← rem_0, upd_sf (by rw [hg]; rfl)] at hz
      exact hz
    · skip
      refine J_bipush C (-3) dX6_type_26 bc_m3 ?_
      refine hQ _ _ _ _ dX6_type_28 ⟨_, _, _, _, rfl, ?_⟩
      refine ⟨Or.inr ⟨j, rfl, hj1, hj8, Or.inl ⟨?_, rfl, rfl, rfl⟩⟩, rfl, rfl⟩
      exact Nat.lt_of_not_le fun q => hc23 ((nI_leI (b := 200) (by omega) (by decide)).mpr q)
  · skip
    refine J_iconst C (-1) dX6_type_12 ic_m1 ?_
    refine hQ _ _ _ _ dX6_type_13 ⟨_, _, _, _, rfl, ?_⟩
    have hz : ¬ ((1 : Int64) ≤ n.toInt64 ∧ n.toInt64 ≤ 8) := fun z => by
      rw [if_pos z] at hc9; exact absurd hc9 (by decide)
    refine ⟨Or.inl ⟨?_, rfl, rfl, rfl⟩, rfl, rfl⟩
    by_cases q : n < 1
    · exact Or.inl q
    · exact Or.inr (Int32.not_le.mp fun z => hz ⟨n_lo.mpr q, n_hi.mpr z⟩)
