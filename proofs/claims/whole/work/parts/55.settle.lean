/-! the sets' weights and peace, put down once for a river -/
theorem tb_add {t o i : Nat} (ho : o < 2 ^ t) : (2 ^ t + o).testBit i = (decide (i = t) || o.testBit i) := by
  have h := Nat.two_pow_add_eq_or_of_lt ho 1
  rw [Nat.mul_one] at h
  rw [h, Nat.testBit_or, Nat.testBit_two_pow]
  congr 1
  exact decide_eq_decide.mpr ⟨Eq.symm, Eq.symm⟩
theorem or_add {t o : Nat} (ho : o < 2 ^ t) : 2 ^ t ||| o = 2 ^ t + o := by
  have h := Nat.two_pow_add_eq_or_of_lt ho 1
  rw [Nat.mul_one] at h
  exact h.symm
theorem wN_add {we : Nat → Nat} {t o : Nat} (ho : o < 2 ^ t) : ∀ m, wN we (2 ^ t + o) m = wN we o m + if t < m then we t else 0
  | 0 => rfl
  | m + 1 => by
    have ih := wN_add (we := we) ho m
    simp only [wN, ih, tb_add ho]
    by_cases e : m = t
    · subst e
      have : o.testBit m = false := Nat.testBit_lt_two_pow ho
      simp [this]
    · by_cases q : t < m
      · simp [e, q, show t < m + 1 by omega]
        omega
      · simp [e, q, show ¬ t < m + 1 by omega]
theorem sfN_add {fr : Nat → Nat} {t o m : Nat} (ho : o < 2 ^ t) (ht : t < m) (hs : ∀ a b, a < m → b < m → (fr a).testBit b = (fr b).testBit a) (hi : ∀ a, a < m → (fr a).testBit a = false) : sfN fr (2 ^ t + o) m = true ↔ sfN fr o m = true ∧ fr t &&& o = 0 := by
  rw [sfN_iff, sfN_iff, ← or_add ho]
  have hz : ∀ a b c : Nat, a &&& (b ||| c) = 0 ↔ a &&& b = 0 ∧ a &&& c = 0 := by
    intro a b c
    rw [Nat.and_or_distrib_left]
    exact Nat.or_eq_zero_iff
  constructor
  · intro h
    refine ⟨fun t' ht' hb => ?_, ?_⟩
    · exact ((hz _ _ _).mp (h t' ht' (by rw [Nat.testBit_or, hb]; simp))).2
    · exact ((hz _ _ _).mp (h t ht (by rw [Nat.testBit_or, Nat.testBit_two_pow_self]; rfl))).2
  · intro ⟨h1, h2⟩ t' ht' hb
    rw [hz]
    by_cases e : t' = t
    · subst e
      exact ⟨tb_iff.mpr (hi t' ht'), h2⟩
    · rw [Nat.testBit_or, Nat.testBit_two_pow_of_ne (Ne.symm e), Bool.false_or] at hb
      refine ⟨tb_iff.mpr ?_, h1 t' ht' hb⟩
      rw [hs t' t ht' ht]
      have h3 : (fr t &&& o).testBit t' = false := by rw [h2]; simp
      rw [Nat.testBit_and, hb, Bool.and_true] at h3
      exact h3
theorem wN_z {we : Nat → Nat} : ∀ m, wN we 0 m = 0
  | 0 => rfl
  | m + 1 => by simp [wN, wN_z m]
theorem sfN_z {fr : Nat → Nat} {m : Nat} : sfN fr 0 m = true := by
  rw [sfN_iff]
  intro t _ h
  simp at h
abbrev rmX3_settle : Room := { frames := 0, cells := 0, slots := 0, locals := 0 }
theorem fX3_settle_16 : Cond.fieldLink RX3 16 RX3 (TX3 9).2.1 (TX3 9).2.2.1 ∈ wsX3_settle := by decide +kernel
theorem fX3_settle_19 : Cond.fieldLink RX3 19 RX3 (TX3 10).2.1 (TX3 10).2.2.1 ∈ wsX3_settle := by decide +kernel
theorem fX3_settle_22 : Cond.fieldLink RX3 22 RX3 (TX3 13).2.1 (TX3 13).2.2.1 ∈ wsX3_settle := by decide +kernel
theorem fX3_settle_25 : Cond.fieldLink RX3 25 RX3 (TX3 14).2.1 (TX3 14).2.2.1 ∈ wsX3_settle := by decide +kernel
theorem fX3_settle_35 : Cond.fieldLink RX3 35 RX3 (TX3 0).2.1 (TX3 0).2.2.1 ∈ wsX3_settle := by decide +kernel
theorem iX3_settle_3 : ∀ x ∈ wsX30, x ∈ wsX3_settle := by decide +kernel
set_option maxRecDepth 100000 in
set_option maxHeartbeats 4000000 in
theorem c_X3_settle_13 (E : EN) (hS : ∀ k, 13 ≤ k ∧ k < 20 → eS E k = true) (hNN : ∀ k, eS E k = true → k < eN E) (g : Nat → Int32) (h : Nat → Int64) (T : Nat → Nat → Int32) (L : Nat → Nat → Int64) (m : Nat) (we fr : Nat → Nat) (hm : m ≤ 7) (hg : g 1300 = nI m) (hrow : ∀ t, t < m → T 16 t = nI (we t) ∧ T 17 t = nI (fr t)) (hs : ∀ a b, a < m → b < m → (fr a).testBit b = (fr b).testBit a) (hi : ∀ a, a < m → (fr a).testBit a = false) : GtV E yX3_settle wsX3_settle rmX3_settle [.ref (eA E 13)] g h T L (fun g2 h2 T2 L2 => g2 = g ∧ (∀ k, k ≠ 18 → k ≠ 19 → T2 k = T k) ∧ (∀ b, b < 2 ^ m → T2 18 b = nI (wN we b m) ∧ T2 19 b = if sfN fr b m = true then 1 else 0) ∧ h2 = h ∧ L2 = L) := by
  refine CtV_of (cc := cX3_settle) (nL := 4) RX3 [some (.ref (eA E 13)), none, none, none] ⟨rfl, rfl⟩ (by decide) rfl rfl (Nat.le_of_ble_eq_true rfl) ⟨3, rfl⟩ hNN (fun Y hnm C hQ => ?_)
  have hp7 := p7 hm
  refine J_aload_0 C dX3_settle_0 ?_
  refine G3_getr C (n := 18) 13 dX3_settle_1 fX3_settle_22 iX3_settle_3 rfl (hS _ (by decide)) rfl rfl ?_
  refine J_iconst C (0) dX3_settle_4 ic_0 ?_
  refine J_iconst C (0) dX3_settle_5 ic_0 ?_
  refine G_iast C 0 dX3_settle_6 rfl (hS _ (by decide)) rfl (by decide) ?_
  refine J_aload_0 C dX3_settle_7 ?_
  refine G3_getr C (n := 19) 14 dX3_settle_8 fX3_settle_25 iX3_settle_3 rfl (hS _ (by decide)) rfl rfl ?_
  refine J_iconst C (0) dX3_settle_11 ic_0 ?_
  refine J_iconst C (1) dX3_settle_12 ic_1 ?_
  refine G_zast C 0 dX3_settle_13 rfl (hS _ (by decide)) rfl (by decide) rfl ?_
  refine J_iconst C (0) dX3_settle_14 ic_0 ?_
  refine J_istore_1 C dX3_settle_15 (by decide) trivial ?_
  have outer : ∀ (n1 : Nat) (t : Nat) (T2 : Nat → Nat → Int32) (x2 x3 : Option Value), t ≤ m → m < n1 + t → (∀ k, k ≠ 18 → k ≠ 19 → T2 k = T k) → (∀ b, b < 2 ^ t → T2 18 b = nI (wN we b m) ∧ T2 19 b = if sfN fr b m = true then 1 else 0) → J E Y (eN E) 0 0 (wS E g h T2 L) 16 [some (.ref (eA E 13)), some (.int (nI t)), x2, x3] [] := by
    intro n1
    induction n1 with
    | zero =>
      intro t T2 z2 z3 h1 h2 hT hb
      omega
    | succ n1 ih1 =>
      intro t T2 z2 z3 h1 h2 hT hb
      refine J_iload_1 C dX3_settle_16 ?_
      refine J_aload_0 C dX3_settle_17 ?_
      refine G3_geti C (n := 1300) 0 dX3_settle_18 fX3_settle_35 iX3_settle_3 rfl (hS _ (by decide)) rfl rfl ?_
      refine J_icmp_ge C 107 dX3_settle_21 (by decide) (fun hc21 => ?_) (fun hc21 => ?_)
      · skip
        refine hQ _ _ _ dX3_settle_107 ⟨_, _, _, _, rfl, ?_⟩
        have hk : t = m := by
          have h9 : m ≤ t := ge_nI (by omega) (by rw [← hg]; exact hc21)
          omega
        subst hk
        exact ⟨rfl, hT, hb, rfl, rfl⟩
      · skip
        have ht : t < m := lt_nI (by omega) (by rw [← hg]; exact hc21)
        have hpt : 2 ^ t * 2 ≤ 2 ^ m := by
          rw [← Nat.pow_succ]; exact Nat.pow_le_pow_right (by decide) ht
        obtain ⟨r1, r2⟩ := hrow t ht
        refine J_iload_1 C dX3_settle_24 ?_
        refine J_bipush C (7) dX3_settle_25 bc_7 ?_
        refine J_icmp_ge C 107 dX3_settle_27 (by decide) (fun hc => absurd hc (nI_ge (b := 7) (by omega) (by decide))) (fun hc27 => ?_)
        refine J_iconst C (1) dX3_settle_30 ic_1 ?_
        refine J_iload_1 C dX3_settle_31 ?_
        refine J_ishl C dX3_settle_32 ?_
        rw [nI_sh1 t (by omega)]
        refine J_istore_2 C dX3_settle_33 (by decide) trivial ?_
        refine J_iconst C (0) dX3_settle_34 ic_0 ?_
        refine J_istore_3 C dX3_settle_35 (by decide) trivial ?_
        have inner : ∀ (n2 : Nat) (o : Nat) (T2 : Nat → Nat → Int32), o ≤ 2 ^ t → 2 ^ t < n2 + o → (∀ k, k ≠ 18 → k ≠ 19 → T2 k = T k) → (∀ b, b < 2 ^ t + o → T2 18 b = nI (wN we b m) ∧ T2 19 b = if sfN fr b m = true then 1 else 0) → J E Y (eN E) 0 0 (wS E g h T2 L) 36 [some (.ref (eA E 13)), some (.int (nI t)), some (.int (nI (2 ^ t))), some (.int (nI o))] [] := by
          intro n2
          induction n2 with
          | zero =>
            intro o T2 h1 h2 hT hb
            omega
          | succ n2 ih2 =>
            intro o T2 h1 h2 hT hb
            refine J_iload_3 C dX3_settle_36 ?_
            refine J_iload_2 C dX3_settle_37 ?_
            refine J_icmp_ge C 101 dX3_settle_38 (by decide) (fun hc38 => ?_) (fun hc38 => ?_)
            · skip
              refine J_iinc_1 C (1) dX3_settle_101 (by decide) trivial ic_1 ?_
              refine J_goto C 16 dX3_settle_104 (by decide) ?_
              rw [nI_1]
              refine ih1 (t + 1) T2 _ _ (by omega) (by omega) hT (fun b hb' => hb b ?_)
              have ho : 2 ^ t ≤ o := ge_nI (by omega) hc38
              rw [Nat.pow_succ] at hb'
              omega
            · skip
              have ho : o < 2 ^ t := lt_nI (by omega) hc38
              obtain ⟨v1, v2⟩ := hb o (by omega)
              refine J_aload_0 C dX3_settle_41 ?_
              refine G3_getr C (n := 18) 13 dX3_settle_42 fX3_settle_22 iX3_settle_3 rfl (hS _ (by decide)) rfl rfl ?_
              refine J_iload_2 C dX3_settle_45 ?_
              refine J_iload_3 C dX3_settle_46 ?_
              refine J_ior C dX3_settle_47 ?_
              rw [nI_or, or_add ho]
              refine J_aload_0 C dX3_settle_48 ?_
              refine G3_getr C (n := 18) 13 dX3_settle_49 fX3_settle_22 iX3_settle_3 rfl (hS _ (by decide)) rfl rfl ?_
              refine J_iload_3 C dX3_settle_52 ?_
              refine G_iald C o dX3_settle_53 rfl (hS _ (by decide)) rfl (by omega) ?_
              rw [v1]
              refine J_aload_0 C dX3_settle_54 ?_
              refine G3_getr C (n := 16) 9 dX3_settle_55 fX3_settle_16 iX3_settle_3 rfl (hS _ (by decide)) rfl rfl ?_
              refine J_iload_1 C dX3_settle_58 ?_
              refine G_iald C t dX3_settle_59 rfl (hS _ (by decide)) rfl (by omega) ?_
              rw [hT 16 (by decide) (by decide), r1]
              refine J_iadd C dX3_settle_60 ?_
              rw [nI_add]
              refine G_iast C (2 ^ t + o) dX3_settle_61 rfl (hS _ (by decide)) rfl (by omega) ?_
              refine J_aload_0 C dX3_settle_62 ?_
              refine G3_getr C (n := 19) 14 dX3_settle_63 fX3_settle_25 iX3_settle_3 rfl (hS _ (by decide)) rfl rfl ?_
              refine J_iload_2 C dX3_settle_66 ?_
              refine J_iload_3 C dX3_settle_67 ?_
              refine J_ior C dX3_settle_68 ?_
              rw [nI_or, or_add ho]
              refine J_aload_0 C dX3_settle_69 ?_
              refine G3_getr C (n := 19) 14 dX3_settle_70 fX3_settle_25 iX3_settle_3 rfl (hS _ (by decide)) rfl rfl ?_
              refine J_iload_3 C dX3_settle_73 ?_
              refine G_zald C o dX3_settle_74 rfl (hS _ (by decide)) rfl (by omega) ?_
              refine J_top (y := if sfN fr o m = true then 1 else 0) (by rw [tU_ne (by decide)]; exact v2) ?_
              refine J_if_eq C 93 dX3_settle_75 (by decide) (fun hc75 => ?_) (fun hc75 => ?_)
              · skip
                refine J_iconst C (0) dX3_settle_93 ic_0 ?_
                refine J_top (y := if sfN fr (2 ^ t + o) m = true then 1 else 0) (by
                  have hand : fr t &&& o < 2 ^ 32 := Nat.lt_of_le_of_lt Nat.and_le_right (by omega)
                  first
                  | (have e1 : ¬ sfN fr o m = true := fun q => by rw [if_pos q] at hc75; exact absurd hc75 (by decide)
                     rw [if_neg (fun q => e1 ((sfN_add ho ht hs hi).mp q).1)])
                  | (have e1 : ¬ fr t &&& o = 0 := fun q => by rw [q] at hc86; exact hc86 rfl
                     rw [if_neg (fun q => e1 ((sfN_add ho ht hs hi).mp q).2)])
                  | (have e1 : sfN fr o m = true := Decidable.byContradiction fun q => by rw [if_neg q] at hc75; exact hc75 rfl
                     rw [if_pos ((sfN_add ho ht hs hi).mpr ⟨e1, (nI_z hand).mp hc86⟩)])) ?_
                refine G_zast C (2 ^ t + o) dX3_settle_94 rfl (hS _ (by decide)) rfl (by omega) (by split <;> rfl) ?_
                refine J_iinc_3 C (1) dX3_settle_95 (by decide) trivial ic_1 ?_
                refine J_goto C 36 dX3_settle_98 (by decide) ?_
                rw [nI_1]
                refine ih2 (o + 1) _ (by omega) (by omega) (fun k k1 k2 => by rw [tU_ne k2, tU_ne k1]; exact hT k k1 k2) (fun b hb' => ?_)
                have hwa := wN_add (we := we) ho m
                rw [if_pos ht] at hwa
                by_cases e : b = 2 ^ t + o
                · subst e
                  refine ⟨?_, ?_⟩
                  · rw [tU_ne (by decide), tU_eq, hwa]; simp [upd]
                  · rw [tU_eq]; simp only [upd, if_true]
                · obtain ⟨q1, q2⟩ := hb b (by omega)
                  refine ⟨?_, ?_⟩
                  · rw [tU_ne (by decide), tU_eq]; simp [upd, e]; exact q1
                  · rw [tU_eq, tU_ne (by decide)]; simp only [upd, if_neg e]; exact q2
              · skip
                refine J_aload_0 C dX3_settle_78 ?_
                refine G3_getr C (n := 17) 10 dX3_settle_79 fX3_settle_19 iX3_settle_3 rfl (hS _ (by decide)) rfl rfl ?_
                refine J_iload_1 C dX3_settle_82 ?_
                refine G_iald C t dX3_settle_83 rfl (hS _ (by decide)) rfl (by omega) ?_
                refine J_top (y := nI (fr t)) (by rw [tU_ne (by decide), hT 17 (by decide) (by decide)]; exact r2) ?_
                refine J_iload_3 C dX3_settle_84 ?_
                refine J_iand C dX3_settle_85 ?_
                rw [nI_and]
                refine J_if_ne C 93 dX3_settle_86 (by decide) (fun hc86 => ?_) (fun hc86 => ?_)
                · skip
                  refine J_iconst C (0) dX3_settle_93 ic_0 ?_
                  refine J_top (y := if sfN fr (2 ^ t + o) m = true then 1 else 0) (by
                    have hand : fr t &&& o < 2 ^ 32 := Nat.lt_of_le_of_lt Nat.and_le_right (by omega)
                    first
                    | (have e1 : ¬ sfN fr o m = true := fun q => by rw [if_pos q] at hc75; exact absurd hc75 (by decide)
                       rw [if_neg (fun q => e1 ((sfN_add ho ht hs hi).mp q).1)])
                    | (have e1 : ¬ fr t &&& o = 0 := fun q => by rw [q] at hc86; exact hc86 rfl
                       rw [if_neg (fun q => e1 ((sfN_add ho ht hs hi).mp q).2)])
                    | (have e1 : sfN fr o m = true := Decidable.byContradiction fun q => by rw [if_neg q] at hc75; exact hc75 rfl
                       rw [if_pos ((sfN_add ho ht hs hi).mpr ⟨e1, (nI_z hand).mp hc86⟩)])) ?_
                  refine G_zast C (2 ^ t + o) dX3_settle_94 rfl (hS _ (by decide)) rfl (by omega) (by split <;> rfl) ?_
                  refine J_iinc_3 C (1) dX3_settle_95 (by decide) trivial ic_1 ?_
                  refine J_goto C 36 dX3_settle_98 (by decide) ?_
                  rw [nI_1]
                  refine ih2 (o + 1) _ (by omega) (by omega) (fun k k1 k2 => by rw [tU_ne k2, tU_ne k1]; exact hT k k1 k2) (fun b hb' => ?_)
                  have hwa := wN_add (we := we) ho m
                  rw [if_pos ht] at hwa
                  by_cases e : b = 2 ^ t + o
                  · subst e
                    refine ⟨?_, ?_⟩
                    · rw [tU_ne (by decide), tU_eq, hwa]; simp [upd]
                    · rw [tU_eq]; simp only [upd, if_true]
                  · obtain ⟨q1, q2⟩ := hb b (by omega)
                    refine ⟨?_, ?_⟩
                    · rw [tU_ne (by decide), tU_eq]; simp [upd, e]; exact q1
                    · rw [tU_eq, tU_ne (by decide)]; simp only [upd, if_neg e]; exact q2
                · skip
                  refine J_iconst C (1) dX3_settle_89 ic_1 ?_
                  refine J_goto C 94 dX3_settle_90 (by decide) ?_
                  refine J_top (y := if sfN fr (2 ^ t + o) m = true then 1 else 0) (by
                    have hand : fr t &&& o < 2 ^ 32 := Nat.lt_of_le_of_lt Nat.and_le_right (by omega)
                    first
                    | (have e1 : ¬ sfN fr o m = true := fun q => by rw [if_pos q] at hc75; exact absurd hc75 (by decide)
                       rw [if_neg (fun q => e1 ((sfN_add ho ht hs hi).mp q).1)])
                    | (have e1 : ¬ fr t &&& o = 0 := fun q => by rw [q] at hc86; exact hc86 rfl
                       rw [if_neg (fun q => e1 ((sfN_add ho ht hs hi).mp q).2)])
                    | (have e1 : sfN fr o m = true := Decidable.byContradiction fun q => by rw [if_neg q] at hc75; exact hc75 rfl
                       rw [if_pos ((sfN_add ho ht hs hi).mpr ⟨e1, (nI_z hand).mp hc86⟩)])) ?_
                  refine G_zast C (2 ^ t + o) dX3_settle_94 rfl (hS _ (by decide)) rfl (by omega) (by split <;> rfl) ?_
                  refine J_iinc_3 C (1) dX3_settle_95 (by decide) trivial ic_1 ?_
                  refine J_goto C 36 dX3_settle_98 (by decide) ?_
                  rw [nI_1]
                  refine ih2 (o + 1) _ (by omega) (by omega) (fun k k1 k2 => by rw [tU_ne k2, tU_ne k1]; exact hT k k1 k2) (fun b hb' => ?_)
                  have hwa := wN_add (we := we) ho m
                  rw [if_pos ht] at hwa
                  by_cases e : b = 2 ^ t + o
                  · subst e
                    refine ⟨?_, ?_⟩
                    · rw [tU_ne (by decide), tU_eq, hwa]; simp [upd]
                    · rw [tU_eq]; simp only [upd, if_true]
                  · obtain ⟨q1, q2⟩ := hb b (by omega)
                    refine ⟨?_, ?_⟩
                    · rw [tU_ne (by decide), tU_eq]; simp [upd, e]; exact q1
                    · rw [tU_eq, tU_ne (by decide)]; simp only [upd, if_neg e]; exact q2
        exact inner (2 ^ t + 1) 0 T2 (by omega) (by omega) hT (fun b hb' => hb b (by omega))
  refine outer 8 0 _ _ _ (by omega) (by omega) (fun k k1 k2 => by rw [tU_ne k2, tU_ne k1]) (fun b hb => ?_)
  have : b = 0 := by omega
  subst this
  rw [wN_z, if_pos sfN_z]
  simp [va_up, upd]
  rfl
set_option maxRecDepth 100000 in
set_option maxHeartbeats 4000000 in
theorem c_X3_settle_6 (E : EN) (hS : ∀ k, 6 ≤ k ∧ k < 13 → eS E k = true) (hNN : ∀ k, eS E k = true → k < eN E) (g : Nat → Int32) (h : Nat → Int64) (T : Nat → Nat → Int32) (L : Nat → Nat → Int64) (m : Nat) (we fr : Nat → Nat) (hm : m ≤ 7) (hg : g 600 = nI m) (hrow : ∀ t, t < m → T 9 t = nI (we t) ∧ T 10 t = nI (fr t)) (hs : ∀ a b, a < m → b < m → (fr a).testBit b = (fr b).testBit a) (hi : ∀ a, a < m → (fr a).testBit a = false) : GtV E yX3_settle wsX3_settle rmX3_settle [.ref (eA E 6)] g h T L (fun g2 h2 T2 L2 => g2 = g ∧ (∀ k, k ≠ 11 → k ≠ 12 → T2 k = T k) ∧ (∀ b, b < 2 ^ m → T2 11 b = nI (wN we b m) ∧ T2 12 b = if sfN fr b m = true then 1 else 0) ∧ h2 = h ∧ L2 = L) := by
  refine CtV_of (cc := cX3_settle) (nL := 4) RX3 [some (.ref (eA E 6)), none, none, none] ⟨rfl, rfl⟩ (by decide) rfl rfl (Nat.le_of_ble_eq_true rfl) ⟨3, rfl⟩ hNN (fun Y hnm C hQ => ?_)
  have hp7 := p7 hm
  refine J_aload_0 C dX3_settle_0 ?_
  refine G3_getr C (n := 11) 13 dX3_settle_1 fX3_settle_22 iX3_settle_3 rfl (hS _ (by decide)) rfl rfl ?_
  refine J_iconst C (0) dX3_settle_4 ic_0 ?_
  refine J_iconst C (0) dX3_settle_5 ic_0 ?_
  refine G_iast C 0 dX3_settle_6 rfl (hS _ (by decide)) rfl (by decide) ?_
  refine J_aload_0 C dX3_settle_7 ?_
  refine G3_getr C (n := 12) 14 dX3_settle_8 fX3_settle_25 iX3_settle_3 rfl (hS _ (by decide)) rfl rfl ?_
  refine J_iconst C (0) dX3_settle_11 ic_0 ?_
  refine J_iconst C (1) dX3_settle_12 ic_1 ?_
  refine G_zast C 0 dX3_settle_13 rfl (hS _ (by decide)) rfl (by decide) rfl ?_
  refine J_iconst C (0) dX3_settle_14 ic_0 ?_
  refine J_istore_1 C dX3_settle_15 (by decide) trivial ?_
  have outer : ∀ (n1 : Nat) (t : Nat) (T2 : Nat → Nat → Int32) (x2 x3 : Option Value), t ≤ m → m < n1 + t → (∀ k, k ≠ 11 → k ≠ 12 → T2 k = T k) → (∀ b, b < 2 ^ t → T2 11 b = nI (wN we b m) ∧ T2 12 b = if sfN fr b m = true then 1 else 0) → J E Y (eN E) 0 0 (wS E g h T2 L) 16 [some (.ref (eA E 6)), some (.int (nI t)), x2, x3] [] := by
    intro n1
    induction n1 with
    | zero =>
      intro t T2 z2 z3 h1 h2 hT hb
      omega
    | succ n1 ih1 =>
      intro t T2 z2 z3 h1 h2 hT hb
      refine J_iload_1 C dX3_settle_16 ?_
      refine J_aload_0 C dX3_settle_17 ?_
      refine G3_geti C (n := 600) 0 dX3_settle_18 fX3_settle_35 iX3_settle_3 rfl (hS _ (by decide)) rfl rfl ?_
      refine J_icmp_ge C 107 dX3_settle_21 (by decide) (fun hc21 => ?_) (fun hc21 => ?_)
      · skip
        refine hQ _ _ _ dX3_settle_107 ⟨_, _, _, _, rfl, ?_⟩
        have hk : t = m := by
          have h9 : m ≤ t := ge_nI (by omega) (by rw [← hg]; exact hc21)
          omega
        subst hk
        exact ⟨rfl, hT, hb, rfl, rfl⟩
      · skip
        have ht : t < m := lt_nI (by omega) (by rw [← hg]; exact hc21)
        have hpt : 2 ^ t * 2 ≤ 2 ^ m := by
          rw [← Nat.pow_succ]; exact Nat.pow_le_pow_right (by decide) ht
        obtain ⟨r1, r2⟩ := hrow t ht
        refine J_iload_1 C dX3_settle_24 ?_
        refine J_bipush C (7) dX3_settle_25 bc_7 ?_
        refine J_icmp_ge C 107 dX3_settle_27 (by decide) (fun hc => absurd hc (nI_ge (b := 7) (by omega) (by decide))) (fun hc27 => ?_)
        refine J_iconst C (1) dX3_settle_30 ic_1 ?_
        refine J_iload_1 C dX3_settle_31 ?_
        refine J_ishl C dX3_settle_32 ?_
        rw [nI_sh1 t (by omega)]
        refine J_istore_2 C dX3_settle_33 (by decide) trivial ?_
        refine J_iconst C (0) dX3_settle_34 ic_0 ?_
        refine J_istore_3 C dX3_settle_35 (by decide) trivial ?_
        have inner : ∀ (n2 : Nat) (o : Nat) (T2 : Nat → Nat → Int32), o ≤ 2 ^ t → 2 ^ t < n2 + o → (∀ k, k ≠ 11 → k ≠ 12 → T2 k = T k) → (∀ b, b < 2 ^ t + o → T2 11 b = nI (wN we b m) ∧ T2 12 b = if sfN fr b m = true then 1 else 0) → J E Y (eN E) 0 0 (wS E g h T2 L) 36 [some (.ref (eA E 6)), some (.int (nI t)), some (.int (nI (2 ^ t))), some (.int (nI o))] [] := by
          intro n2
          induction n2 with
          | zero =>
            intro o T2 h1 h2 hT hb
            omega
          | succ n2 ih2 =>
            intro o T2 h1 h2 hT hb
            refine J_iload_3 C dX3_settle_36 ?_
            refine J_iload_2 C dX3_settle_37 ?_
            refine J_icmp_ge C 101 dX3_settle_38 (by decide) (fun hc38 => ?_) (fun hc38 => ?_)
            · skip
              refine J_iinc_1 C (1) dX3_settle_101 (by decide) trivial ic_1 ?_
              refine J_goto C 16 dX3_settle_104 (by decide) ?_
              rw [nI_1]
              refine ih1 (t + 1) T2 _ _ (by omega) (by omega) hT (fun b hb' => hb b ?_)
              have ho : 2 ^ t ≤ o := ge_nI (by omega) hc38
              rw [Nat.pow_succ] at hb'
              omega
            · skip
              have ho : o < 2 ^ t := lt_nI (by omega) hc38
              obtain ⟨v1, v2⟩ := hb o (by omega)
              refine J_aload_0 C dX3_settle_41 ?_
              refine G3_getr C (n := 11) 13 dX3_settle_42 fX3_settle_22 iX3_settle_3 rfl (hS _ (by decide)) rfl rfl ?_
              refine J_iload_2 C dX3_settle_45 ?_
              refine J_iload_3 C dX3_settle_46 ?_
              refine J_ior C dX3_settle_47 ?_
              rw [nI_or, or_add ho]
              refine J_aload_0 C dX3_settle_48 ?_
              refine G3_getr C (n := 11) 13 dX3_settle_49 fX3_settle_22 iX3_settle_3 rfl (hS _ (by decide)) rfl rfl ?_
              refine J_iload_3 C dX3_settle_52 ?_
              refine G_iald C o dX3_settle_53 rfl (hS _ (by decide)) rfl (by omega) ?_
              rw [v1]
              refine J_aload_0 C dX3_settle_54 ?_
              refine G3_getr C (n := 9) 9 dX3_settle_55 fX3_settle_16 iX3_settle_3 rfl (hS _ (by decide)) rfl rfl ?_
              refine J_iload_1 C dX3_settle_58 ?_
              refine G_iald C t dX3_settle_59 rfl (hS _ (by decide)) rfl (by omega) ?_
              rw [hT 9 (by decide) (by decide), r1]
              refine J_iadd C dX3_settle_60 ?_
              rw [nI_add]
              refine G_iast C (2 ^ t + o) dX3_settle_61 rfl (hS _ (by decide)) rfl (by omega) ?_
              refine J_aload_0 C dX3_settle_62 ?_
              refine G3_getr C (n := 12) 14 dX3_settle_63 fX3_settle_25 iX3_settle_3 rfl (hS _ (by decide)) rfl rfl ?_
              refine J_iload_2 C dX3_settle_66 ?_
              refine J_iload_3 C dX3_settle_67 ?_
              refine J_ior C dX3_settle_68 ?_
              rw [nI_or, or_add ho]
              refine J_aload_0 C dX3_settle_69 ?_
              refine G3_getr C (n := 12) 14 dX3_settle_70 fX3_settle_25 iX3_settle_3 rfl (hS _ (by decide)) rfl rfl ?_
              refine J_iload_3 C dX3_settle_73 ?_
              refine G_zald C o dX3_settle_74 rfl (hS _ (by decide)) rfl (by omega) ?_
              refine J_top (y := if sfN fr o m = true then 1 else 0) (by rw [tU_ne (by decide)]; exact v2) ?_
              refine J_if_eq C 93 dX3_settle_75 (by decide) (fun hc75 => ?_) (fun hc75 => ?_)
              · skip
                refine J_iconst C (0) dX3_settle_93 ic_0 ?_
                refine J_top (y := if sfN fr (2 ^ t + o) m = true then 1 else 0) (by
                  have hand : fr t &&& o < 2 ^ 32 := Nat.lt_of_le_of_lt Nat.and_le_right (by omega)
                  first
                  | (have e1 : ¬ sfN fr o m = true := fun q => by rw [if_pos q] at hc75; exact absurd hc75 (by decide)
                     rw [if_neg (fun q => e1 ((sfN_add ho ht hs hi).mp q).1)])
                  | (have e1 : ¬ fr t &&& o = 0 := fun q => by rw [q] at hc86; exact hc86 rfl
                     rw [if_neg (fun q => e1 ((sfN_add ho ht hs hi).mp q).2)])
                  | (have e1 : sfN fr o m = true := Decidable.byContradiction fun q => by rw [if_neg q] at hc75; exact hc75 rfl
                     rw [if_pos ((sfN_add ho ht hs hi).mpr ⟨e1, (nI_z hand).mp hc86⟩)])) ?_
                refine G_zast C (2 ^ t + o) dX3_settle_94 rfl (hS _ (by decide)) rfl (by omega) (by split <;> rfl) ?_
                refine J_iinc_3 C (1) dX3_settle_95 (by decide) trivial ic_1 ?_
                refine J_goto C 36 dX3_settle_98 (by decide) ?_
                rw [nI_1]
                refine ih2 (o + 1) _ (by omega) (by omega) (fun k k1 k2 => by rw [tU_ne k2, tU_ne k1]; exact hT k k1 k2) (fun b hb' => ?_)
                have hwa := wN_add (we := we) ho m
                rw [if_pos ht] at hwa
                by_cases e : b = 2 ^ t + o
                · subst e
                  refine ⟨?_, ?_⟩
                  · rw [tU_ne (by decide), tU_eq, hwa]; simp [upd]
                  · rw [tU_eq]; simp only [upd, if_true]
                · obtain ⟨q1, q2⟩ := hb b (by omega)
                  refine ⟨?_, ?_⟩
                  · rw [tU_ne (by decide), tU_eq]; simp [upd, e]; exact q1
                  · rw [tU_eq, tU_ne (by decide)]; simp only [upd, if_neg e]; exact q2
              · skip
                refine J_aload_0 C dX3_settle_78 ?_
                refine G3_getr C (n := 10) 10 dX3_settle_79 fX3_settle_19 iX3_settle_3 rfl (hS _ (by decide)) rfl rfl ?_
                refine J_iload_1 C dX3_settle_82 ?_
                refine G_iald C t dX3_settle_83 rfl (hS _ (by decide)) rfl (by omega) ?_
                refine J_top (y := nI (fr t)) (by rw [tU_ne (by decide), hT 10 (by decide) (by decide)]; exact r2) ?_
                refine J_iload_3 C dX3_settle_84 ?_
                refine J_iand C dX3_settle_85 ?_
                rw [nI_and]
                refine J_if_ne C 93 dX3_settle_86 (by decide) (fun hc86 => ?_) (fun hc86 => ?_)
                · skip
                  refine J_iconst C (0) dX3_settle_93 ic_0 ?_
                  refine J_top (y := if sfN fr (2 ^ t + o) m = true then 1 else 0) (by
                    have hand : fr t &&& o < 2 ^ 32 := Nat.lt_of_le_of_lt Nat.and_le_right (by omega)
                    first
                    | (have e1 : ¬ sfN fr o m = true := fun q => by rw [if_pos q] at hc75; exact absurd hc75 (by decide)
                       rw [if_neg (fun q => e1 ((sfN_add ho ht hs hi).mp q).1)])
                    | (have e1 : ¬ fr t &&& o = 0 := fun q => by rw [q] at hc86; exact hc86 rfl
                       rw [if_neg (fun q => e1 ((sfN_add ho ht hs hi).mp q).2)])
                    | (have e1 : sfN fr o m = true := Decidable.byContradiction fun q => by rw [if_neg q] at hc75; exact hc75 rfl
                       rw [if_pos ((sfN_add ho ht hs hi).mpr ⟨e1, (nI_z hand).mp hc86⟩)])) ?_
                  refine G_zast C (2 ^ t + o) dX3_settle_94 rfl (hS _ (by decide)) rfl (by omega) (by split <;> rfl) ?_
                  refine J_iinc_3 C (1) dX3_settle_95 (by decide) trivial ic_1 ?_
                  refine J_goto C 36 dX3_settle_98 (by decide) ?_
                  rw [nI_1]
                  refine ih2 (o + 1) _ (by omega) (by omega) (fun k k1 k2 => by rw [tU_ne k2, tU_ne k1]; exact hT k k1 k2) (fun b hb' => ?_)
                  have hwa := wN_add (we := we) ho m
                  rw [if_pos ht] at hwa
                  by_cases e : b = 2 ^ t + o
                  · subst e
                    refine ⟨?_, ?_⟩
                    · rw [tU_ne (by decide), tU_eq, hwa]; simp [upd]
                    · rw [tU_eq]; simp only [upd, if_true]
                  · obtain ⟨q1, q2⟩ := hb b (by omega)
                    refine ⟨?_, ?_⟩
                    · rw [tU_ne (by decide), tU_eq]; simp [upd, e]; exact q1
                    · rw [tU_eq, tU_ne (by decide)]; simp only [upd, if_neg e]; exact q2
                · skip
                  refine J_iconst C (1) dX3_settle_89 ic_1 ?_
                  refine J_goto C 94 dX3_settle_90 (by decide) ?_
                  refine J_top (y := if sfN fr (2 ^ t + o) m = true then 1 else 0) (by
                    have hand : fr t &&& o < 2 ^ 32 := Nat.lt_of_le_of_lt Nat.and_le_right (by omega)
                    first
                    | (have e1 : ¬ sfN fr o m = true := fun q => by rw [if_pos q] at hc75; exact absurd hc75 (by decide)
                       rw [if_neg (fun q => e1 ((sfN_add ho ht hs hi).mp q).1)])
                    | (have e1 : ¬ fr t &&& o = 0 := fun q => by rw [q] at hc86; exact hc86 rfl
                       rw [if_neg (fun q => e1 ((sfN_add ho ht hs hi).mp q).2)])
                    | (have e1 : sfN fr o m = true := Decidable.byContradiction fun q => by rw [if_neg q] at hc75; exact hc75 rfl
                       rw [if_pos ((sfN_add ho ht hs hi).mpr ⟨e1, (nI_z hand).mp hc86⟩)])) ?_
                  refine G_zast C (2 ^ t + o) dX3_settle_94 rfl (hS _ (by decide)) rfl (by omega) (by split <;> rfl) ?_
                  refine J_iinc_3 C (1) dX3_settle_95 (by decide) trivial ic_1 ?_
                  refine J_goto C 36 dX3_settle_98 (by decide) ?_
                  rw [nI_1]
                  refine ih2 (o + 1) _ (by omega) (by omega) (fun k k1 k2 => by rw [tU_ne k2, tU_ne k1]; exact hT k k1 k2) (fun b hb' => ?_)
                  have hwa := wN_add (we := we) ho m
                  rw [if_pos ht] at hwa
                  by_cases e : b = 2 ^ t + o
                  · subst e
                    refine ⟨?_, ?_⟩
                    · rw [tU_ne (by decide), tU_eq, hwa]; simp [upd]
                    · rw [tU_eq]; simp only [upd, if_true]
                  · obtain ⟨q1, q2⟩ := hb b (by omega)
                    refine ⟨?_, ?_⟩
                    · rw [tU_ne (by decide), tU_eq]; simp [upd, e]; exact q1
                    · rw [tU_eq, tU_ne (by decide)]; simp only [upd, if_neg e]; exact q2
        exact inner (2 ^ t + 1) 0 T2 (by omega) (by omega) hT (fun b hb' => hb b (by omega))
  refine outer 8 0 _ _ _ (by omega) (by omega) (fun k k1 k2 => by rw [tU_ne k2, tU_ne k1]) (fun b hb => ?_)
  have : b = 0 := by omega
  subst this
  rw [wN_z, if_pos sfN_z]
  simp [va_up, upd]
  rfl
