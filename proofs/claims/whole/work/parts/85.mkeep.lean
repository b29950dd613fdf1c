def kpF (i : Nat) (g : Nat → Int32) (f b : Nat → Int32) (k : Nat) : Nat → Int32 := fun j => if 30 * i + 6 ≤ j ∧ j < 30 * i + 6 + k then b (j - (30 * i + 6)) else if j = 30 * i + 5 then g 4815 else if j = 30 * i + 4 then g 4814 else if j = 30 * i + 3 then g 4813 else if j = 30 * i + 2 then g 4812 else if j = 30 * i + 1 then g 4811 else if j = 30 * i then 1 else f j
theorem kpF_out {i k j : Nat} {g f b : Nat → Int32} (h : j < 30 * i ∨ 30 * i + 6 + k ≤ j) (hk : 20 ≤ k) : kpF i g f b k j = f j := by
  unfold kpF
  rw [if_neg (by omega), if_neg (by omega), if_neg (by omega), if_neg (by omega), if_neg (by omega), if_neg (by omega), if_neg (by omega)]
theorem kpF_in {i k j : Nat} {g f b : Nat → Int32} (h : j < k) : kpF i g f b k (30 * i + 6 + j) = b j := by
  unfold kpF
  rw [if_pos (by omega)]
  congr 1
  omega
theorem kpF_0 {i k : Nat} {g f b : Nat → Int32} : kpF i g f b k (30 * i) = 1 := by
  unfold kpF
  rw [if_neg (by omega), if_neg (by omega), if_neg (by omega), if_neg (by omega), if_neg (by omega), if_neg (by omega), if_pos rfl]
theorem kpF_1 {i k : Nat} {g f b : Nat → Int32} : kpF i g f b k (30 * i + 1) = g 4811 := by
  unfold kpF
  rw [if_neg (by omega), if_neg (by omega), if_neg (by omega), if_neg (by omega), if_neg (by omega), if_pos rfl]
theorem kpF_2 {i k : Nat} {g f b : Nat → Int32} : kpF i g f b k (30 * i + 2) = g 4812 := by
  unfold kpF
  rw [if_neg (by omega), if_neg (by omega), if_neg (by omega), if_neg (by omega), if_pos rfl]
theorem kpF_3 {i k : Nat} {g f b : Nat → Int32} : kpF i g f b k (30 * i + 3) = g 4813 := by
  unfold kpF
  rw [if_neg (by omega), if_neg (by omega), if_neg (by omega), if_pos rfl]
theorem kpF_4 {i k : Nat} {g f b : Nat → Int32} : kpF i g f b k (30 * i + 4) = g 4814 := by
  unfold kpF
  rw [if_neg (by omega), if_neg (by omega), if_pos rfl]
theorem kpF_5 {i k : Nat} {g f b : Nat → Int32} : kpF i g f b k (30 * i + 5) = g 4815 := by
  unfold kpF
  rw [if_neg (by omega), if_pos rfl]
theorem ImM.keep {T T2 : Nat → Nat → Int32} {i : Nat} {o : Option MO} (h : ImM T i o) (ho : ∀ ν, o = some ν → MoOK ν) (hT : ∀ j, j < 26 → T2 58 (30 * i + j) = T 58 (30 * i + j)) : ImM T2 i o := by
  cases o with
  | none =>
    show T2 58 (30 * i) = 0
    rw [show 30 * i = 30 * i + 0 from rfl, hT 0 (by decide)]
    exact h
  | some ν =>
    obtain ⟨a0, a1, a2, a3, a4, a5, a6⟩ := h
    have hl := (ho ν rfl).2.2.2.1
    refine ⟨?_, ?_, ?_, ?_, ?_, ?_, fun j q hq => ?_⟩
    · rw [show 30 * i = 30 * i + 0 from rfl, hT 0 (by decide)]; exact a0
    · rw [hT 1 (by decide)]; exact a1
    · rw [hT 2 (by decide)]; exact a2
    · rw [hT 3 (by decide)]; exact a3
    · rw [hT 4 (by decide)]; exact a4
    · rw [hT 5 (by decide)]; exact a5
    · have hj : j < 10 := by have := (List.getElem?_eq_some_iff.mp hq).1; omega
      rw [show 30 * i + 6 + 2 * j = 30 * i + (6 + 2 * j) by omega, show 30 * i + 6 + (2 * j + 1) = 30 * i + (6 + (2 * j + 1)) by omega, hT _ (by omega), hT _ (by omega)]
      have := a6 j q hq
      rw [show 30 * i + 6 + 2 * j = 30 * i + (6 + 2 * j) by omega, show 30 * i + 6 + (2 * j + 1) = 30 * i + (6 + (2 * j + 1)) by omega] at this
      exact this
theorem a_2 (a : Nat) : nI a + 2 = nI (a + 2) := nI_add a 2
theorem a_3 (a : Nat) : nI a + 3 = nI (a + 3) := nI_add a 3
theorem a_4 (a : Nat) : nI a + 4 = nI (a + 4) := nI_add a 4
theorem a_5 (a : Nat) : nI a + 5 = nI (a + 5) := nI_add a 5
theorem a_6 (a : Nat) : nI a + 6 = nI (a + 6) := nI_add a 6
theorem ix30 {i : Nat} : (30 : Int32) * nI i = nI (30 * i) := by rw [show (30 : Int32) = nI 30 by decide, pk_mul]
theorem ixk {i k : Nat} : nI (30 * i) + 6 + nI k = nI (30 * i + 6 + k) := by rw [a_6, nI_add]
theorem in01L {x : Int32} : ((0 : Int64) ≤ x.toInt64 ∧ x.toInt64 ≤ 1) ↔ (0 ≤ x ∧ x ≤ 1) := in01
abbrev rmX6_keep : Room := { frames := 1, cells := 0, slots := 0, locals := 25 }
theorem fX6_keep_180 : Cond.fieldLink RX6 180 RX6 (TX6 11).2.1 (TX6 11).2.2.1 ∈ wsX6_keep := by decide +kernel
theorem fX6_keep_183 : Cond.fieldLink RX6 183 RX6 (TX6 13).2.1 (TX6 13).2.2.1 ∈ wsX6_keep := by decide +kernel
theorem fX6_keep_186 : Cond.fieldLink RX6 186 RX6 (TX6 15).2.1 (TX6 15).2.2.1 ∈ wsX6_keep := by decide +kernel
theorem fX6_keep_32 : Cond.fieldLink RX6 32 RX6 (TX6 12).2.1 (TX6 12).2.2.1 ∈ wsX6_keep := by decide +kernel
theorem fX6_keep_35 : Cond.fieldLink RX6 35 RX6 (TX6 14).2.1 (TX6 14).2.2.1 ∈ wsX6_keep := by decide +kernel
theorem fX6_keep_38 : Cond.fieldLink RX6 38 RX6 (TX6 16).2.1 (TX6 16).2.2.1 ∈ wsX6_keep := by decide +kernel
theorem fX6_keep_50 : Cond.fieldLink RX6 50 RX6 (TX6 21).2.1 (TX6 21).2.2.1 ∈ wsX6_keep := by decide +kernel
theorem iX6_keep_6 : ∀ x ∈ wsX60, x ∈ wsX6_keep := by decide +kernel
set_option maxRecDepth 100000 in
set_option maxHeartbeats 4000000 in
theorem c_X6_keep (E : EN) (hM : EM E) (g : Nat → Int32) (h : Nat → Int64) (T : Nat → Nat → Int32) (L : Nat → Nat → Int64) (μ : MO) (hmu : MoM g T μ) (hok : MoOK μ) (im : Nat → Option MO) (him : ∀ i, i ≤ 1 → ImM T i (im i)) (hio : ∀ i ν, im i = some ν → MoOK ν) (v : Int32) : GtI E yX6_keep wsX6_keep rmX6_keep [.ref (eA E 48), .int v] g h T L (fun r g2 h2 T2 L2 => (r = (keepS v μ im).1 ∧ (∀ i, i ≤ 1 → ImM T2 i ((keepS v μ im).2 i)) ∧ g2 = g ∧ ∀ k, k ≠ 58 → T2 k = T k) ∧ h2 = h ∧ L2 = L) := by
  refine CtI_of (cc := cX6_keep) (nL := 4) RX6 [some (.ref (eA E 48)), some (.int v), none, none] ⟨rfl, rfl⟩ (by decide) rfl rfl (Nat.le_of_ble_eq_true rfl) ⟨2, rfl⟩ hM.2 (fun Y C hQ => ?_)
  have hM0 := hM
  obtain ⟨hS, hNN⟩ := hM
  have hmu0 := hmu
  obtain ⟨a1, a2, a3, a4, a5, a6⟩ := hmu
  obtain ⟨o1, o2, o3, o4, o5⟩ := hok
  refine J_iload_1 C dX6_keep_0 ?_
  refine J_i2l C dX6_keep_1 ?_
  refine J_lconst C (0) dX6_keep_2 lc_0 ?_
  refine J_lconst C (1) dX6_keep_3 lc_1 ?_
  refine G_spi C dX6_keep_4 (c_X6_in E hM0 _ _ _ g h T L) gX6_keep_X6_in rfl dm_X6_in rfl rfl (Nat.le_of_ble_eq_true rfl) (rmOK_b rfl) (fun r4 hr4 => ?_)
  subst hr4
  refine J_if_ne C 12 dX6_keep_7 (by decide) (fun hc7 => ?_) (fun hc7 => ?_)
  · skip
    have hin : 0 ≤ v ∧ v ≤ 1 := in01.mp (Decidable.byContradiction fun z => by rw [if_neg z] at hc7; exact hc7 rfl)
    obtain ⟨i, rfl, hi⟩ := im2 hin
    have hbi : i2n (nI i) = i := i2n_nI (by omega)
    refine J_bipush C (30) dX6_keep_12 bc_30 ?_
    refine J_iload_1 C dX6_keep_14 ?_
    refine J_imul C dX6_keep_15 ?_
    refine J_top (y := nI (30 * i)) ix30 ?_
    refine J_istore_2 C dX6_keep_16 (by decide) trivial ?_
    refine J_aload_0 C dX6_keep_17 ?_
    refine G6_getr C (n := 58) 21 dX6_keep_18 fX6_keep_50 iX6_keep_6 rfl (hS _ (by decide)) rfl rfl ?_
    refine J_iload_2 C dX6_keep_21 ?_
    refine J_iconst C (1) dX6_keep_22 ic_1 ?_
    refine G_iast C (30 * i) dX6_keep_23 rfl (hS _ (by decide)) rfl (by omega) ?_
    refine J_aload_0 C dX6_keep_24 ?_
    refine G6_getr C (n := 58) 21 dX6_keep_25 fX6_keep_50 iX6_keep_6 rfl (hS _ (by decide)) rfl rfl ?_
    refine J_iload_2 C dX6_keep_28 ?_
    refine J_iconst C (1) dX6_keep_29 ic_1 ?_
    refine J_iadd C dX6_keep_30 ?_
    refine J_aload_0 C dX6_keep_31 ?_
    refine G6_geti C (n := 4811) 11 dX6_keep_32 fX6_keep_180 iX6_keep_6 rfl (hS _ (by decide)) rfl rfl ?_
    refine G_iast C (30 * i + 1) dX6_keep_35 rfl (hS _ (by decide)) (nI_1 _) (by omega) ?_
    refine J_aload_0 C dX6_keep_36 ?_
    refine G6_getr C (n := 58) 21 dX6_keep_37 fX6_keep_50 iX6_keep_6 rfl (hS _ (by decide)) rfl rfl ?_
    refine J_iload_2 C dX6_keep_40 ?_
    refine J_iconst C (2) dX6_keep_41 ic_2 ?_
    refine J_iadd C dX6_keep_42 ?_
    refine J_aload_0 C dX6_keep_43 ?_
    refine G6_geti C (n := 4812) 12 dX6_keep_44 fX6_keep_32 iX6_keep_6 rfl (hS _ (by decide)) rfl rfl ?_
    refine G_iast C (30 * i + 2) dX6_keep_47 rfl (hS _ (by decide)) (a_2 _) (by omega) ?_
    refine J_aload_0 C dX6_keep_48 ?_
    refine G6_getr C (n := 58) 21 dX6_keep_49 fX6_keep_50 iX6_keep_6 rfl (hS _ (by decide)) rfl rfl ?_
    refine J_iload_2 C dX6_keep_52 ?_
    refine J_iconst C (3) dX6_keep_53 ic_3 ?_
    refine J_iadd C dX6_keep_54 ?_
    refine J_aload_0 C dX6_keep_55 ?_
    refine G6_geti C (n := 4813) 13 dX6_keep_56 fX6_keep_183 iX6_keep_6 rfl (hS _ (by decide)) rfl rfl ?_
    refine G_iast C (30 * i + 3) dX6_keep_59 rfl (hS _ (by decide)) (a_3 _) (by omega) ?_
    refine J_aload_0 C dX6_keep_60 ?_
    refine G6_getr C (n := 58) 21 dX6_keep_61 fX6_keep_50 iX6_keep_6 rfl (hS _ (by decide)) rfl rfl ?_
    refine J_iload_2 C dX6_keep_64 ?_
    refine J_iconst C (4) dX6_keep_65 ic_4 ?_
    refine J_iadd C dX6_keep_66 ?_
    refine J_aload_0 C dX6_keep_67 ?_
    refine G6_geti C (n := 4814) 14 dX6_keep_68 fX6_keep_35 iX6_keep_6 rfl (hS _ (by decide)) rfl rfl ?_
    refine G_iast C (30 * i + 4) dX6_keep_71 rfl (hS _ (by decide)) (a_4 _) (by omega) ?_
    refine J_aload_0 C dX6_keep_72 ?_
    refine G6_getr C (n := 58) 21 dX6_keep_73 fX6_keep_50 iX6_keep_6 rfl (hS _ (by decide)) rfl rfl ?_
    refine J_iload_2 C dX6_keep_76 ?_
    refine J_iconst C (5) dX6_keep_77 ic_5 ?_
    refine J_iadd C dX6_keep_78 ?_
    refine J_aload_0 C dX6_keep_79 ?_
    refine G6_geti C (n := 4815) 15 dX6_keep_80 fX6_keep_186 iX6_keep_6 rfl (hS _ (by decide)) rfl rfl ?_
    refine G_iast C (30 * i + 5) dX6_keep_83 rfl (hS _ (by decide)) (a_5 _) (by omega) ?_
    refine J_iconst C (0) dX6_keep_84 ic_0 ?_
    refine J_istore_3 C dX6_keep_85 (by decide) trivial ?_
    have loop : ∀ (n2 : Nat) (k : Nat) (T3 : Nat → Nat → Int32), k ≤ 20 → 20 < n2 + k → (∀ c, c ≠ 58 → T3 c = T c) → T3 58 = kpF i g (T 58) (T 54) k → J E Y (eN E) 0 0 (wS E g h T3 L) 86 [some (.ref (eA E 48)), some (.int (nI i)), some (.int (nI (30 * i))), some (.int (nI k))] [] := by
      intro n2
      induction n2 with
      | zero =>
        intro k T3 hk hfu hT3 hz
        omega
      | succ n2 ih =>
        intro k T3 hk hfu hT3 hz
        refine J_iload_3 C dX6_keep_86 ?_
        refine J_bipush C (20) dX6_keep_87 bc_20 ?_
        refine J_icmp_ge C 115 dX6_keep_89 (by decide) (fun hc89 => ?_) (fun hc89 => ?_)
        · skip
          refine J_aload_0 C dX6_keep_115 ?_
          refine G6_geti C (n := 4812) 12 dX6_keep_116 fX6_keep_32 iX6_keep_6 rfl (hS _ (by decide)) rfl rfl ?_
          refine hQ _ _ _ _ dX6_keep_119 ⟨_, _, _, _, rfl, ?_⟩
          have hk20 : k = 20 := by
            have h8 := ge_nI (m := 20) (by decide) hc89
            omega
          subst hk20
          unfold keepS
          rw [if_pos hin, hbi]
          refine ⟨⟨a2, fun i2 hi2 => ?_, rfl, hT3⟩, rfl, rfl⟩
          dsimp only
          by_cases e : i2 = i
          · subst e
            rw [if_pos rfl]
            refine ⟨by rw [hz, kpF_0], by rw [hz, kpF_1]; exact a1, by rw [hz, kpF_2]; exact a2, by rw [hz, kpF_3]; exact a3, by rw [hz, kpF_4]; exact a4, by rw [hz, kpF_5]; exact a5, fun j q hq => ?_⟩
            have hj : j < 10 := by have := (List.getElem?_eq_some_iff.mp hq).1; omega
            rw [hz, kpF_in (by omega), kpF_in (by omega)]
            exact a6 j q hq
          · rw [if_neg e]
            exact (him i2 hi2).keep (fun ν hν => hio i2 ν hν) (fun j hj => by rw [hz, kpF_out (by omega) (by omega)])
        · skip
          have hk20 : k < 20 := lt_nI (m := 20) (by omega) hc89
          refine J_aload_0 C dX6_keep_92 ?_
          refine G6_getr C (n := 58) 21 dX6_keep_93 fX6_keep_50 iX6_keep_6 rfl (hS _ (by decide)) rfl rfl ?_
          refine J_iload_2 C dX6_keep_96 ?_
          refine J_bipush C (6) dX6_keep_97 bc_6 ?_
          refine J_iadd C dX6_keep_99 ?_
          refine J_iload_3 C dX6_keep_100 ?_
          refine J_iadd C dX6_keep_101 ?_
          refine J_aload_0 C dX6_keep_102 ?_
          refine G6_getr C (n := 54) 16 dX6_keep_103 fX6_keep_38 iX6_keep_6 rfl (hS _ (by decide)) rfl rfl ?_
          refine J_iload_3 C dX6_keep_106 ?_
          refine G_iald C k dX6_keep_107 rfl (hS _ (by decide)) rfl (by omega) ?_
          refine G_iast C (30 * i + 6 + k) dX6_keep_108 rfl (hS _ (by decide)) ixk (by omega) ?_
          refine J_iinc_3 C (1) dX6_keep_109 (by decide) trivial ic_1 ?_
          refine J_goto C 86 dX6_keep_112 (by decide) ?_
          rw [nI_1]
          refine ih (k + 1) _ (by omega) (by omega) (fun c hc => by rw [tU_ne hc]; exact hT3 c hc) ?_
          rw [tU_eq, hz, hT3 54 (by decide)]
          funext j
          simp only [upd]
          by_cases e : j = 30 * i + 6 + k
          · subst e
            rw [if_pos rfl, kpF_in (by omega)]
          · rw [if_neg e]
            unfold kpF
            by_cases q : 30 * i + 6 ≤ j ∧ j < 30 * i + 6 + k
            · rw [if_pos q, if_pos (by omega)]
            · rw [if_neg q, if_neg (show ¬ (30 * i + 6 ≤ j ∧ j < 30 * i + 6 + (k + 1)) by omega)]
    refine loop 21 0 _ (by omega) (by omega) (fun c hc => by rw [tU_ne hc, tU_ne hc, tU_ne hc, tU_ne hc, tU_ne hc, tU_ne hc]) ?_
    funext j
    simp only [tU_eq, upd, kpF]
    rw [if_neg (show ¬ (30 * i + 6 ≤ j ∧ j < 30 * i + 6 + 0) by omega)]
  · skip
    refine J_iconst C (-1) dX6_keep_10 ic_m1 ?_
    refine hQ _ _ _ _ dX6_keep_11 ⟨_, _, _, _, rfl, ?_⟩
    unfold keepS
    rw [if_neg (fun z => by have h2 := hc7; rw [if_pos (in01.mpr z)] at h2; exact absurd h2 (by decide))]
    exact ⟨⟨rfl, him, rfl, fun _ _ => rfl⟩, rfl, rfl⟩
abbrev rmX6_back : Room := { frames := 1, cells := 0, slots := 0, locals := 25 }
theorem fX6_back_180 : Cond.fieldLink RX6 180 RX6 (TX6 11).2.1 (TX6 11).2.2.1 ∈ wsX6_back := by decide +kernel
theorem fX6_back_183 : Cond.fieldLink RX6 183 RX6 (TX6 13).2.1 (TX6 13).2.2.1 ∈ wsX6_back := by decide +kernel
theorem fX6_back_186 : Cond.fieldLink RX6 186 RX6 (TX6 15).2.1 (TX6 15).2.2.1 ∈ wsX6_back := by decide +kernel
theorem fX6_back_32 : Cond.fieldLink RX6 32 RX6 (TX6 12).2.1 (TX6 12).2.2.1 ∈ wsX6_back := by decide +kernel
theorem fX6_back_35 : Cond.fieldLink RX6 35 RX6 (TX6 14).2.1 (TX6 14).2.2.1 ∈ wsX6_back := by decide +kernel
theorem fX6_back_38 : Cond.fieldLink RX6 38 RX6 (TX6 16).2.1 (TX6 16).2.2.1 ∈ wsX6_back := by decide +kernel
theorem fX6_back_50 : Cond.fieldLink RX6 50 RX6 (TX6 21).2.1 (TX6 21).2.2.1 ∈ wsX6_back := by decide +kernel
theorem iX6_back_6 : ∀ x ∈ wsX60, x ∈ wsX6_back := by decide +kernel
set_option maxRecDepth 100000 in
set_option maxHeartbeats 4000000 in
theorem c_X6_back (E : EN) (hM : EM E) (g : Nat → Int32) (h : Nat → Int64) (T : Nat → Nat → Int32) (L : Nat → Nat → Int64) (μ : MO) (hmu : MoM g T μ) (hok : MoOK μ) (im : Nat → Option MO) (him : ∀ i, i ≤ 1 → ImM T i (im i)) (hio : ∀ i ν, im i = some ν → MoOK ν) (v : Int32) : GtI E yX6_back wsX6_back rmX6_back [.ref (eA E 48), .int v] g h T L (fun r g2 h2 T2 L2 => (r = (backS v μ im).1 ∧ MoM g2 T2 (backS v μ im).2 ∧ FrMm g g2 T T2) ∧ h2 = h ∧ L2 = L) := by
  refine CtI_of (cc := cX6_back) (nL := 4) RX6 [some (.ref (eA E 48)), some (.int v), none, none] ⟨rfl, rfl⟩ (by decide) rfl rfl (Nat.le_of_ble_eq_true rfl) ⟨2, rfl⟩ hM.2 (fun Y C hQ => ?_)
  have hM0 := hM
  obtain ⟨hS, hNN⟩ := hM
  have hmu0 := hmu
  obtain ⟨a1, a2, a3, a4, a5, a6⟩ := hmu
  obtain ⟨o1, o2, o3, o4, o5⟩ := hok
  refine J_iload_1 C dX6_back_0 ?_
  refine J_i2l C dX6_back_1 ?_
  refine J_lconst C (0) dX6_back_2 lc_0 ?_
  refine J_lconst C (1) dX6_back_3 lc_1 ?_
  refine G_spi C dX6_back_4 (c_X6_in E hM0 _ _ _ g h T L) gX6_back_X6_in rfl dm_X6_in rfl rfl (Nat.le_of_ble_eq_true rfl) (rmOK_b rfl) (fun r4 hr4 => ?_)
  subst hr4
  refine J_if_ne C 12 dX6_back_7 (by decide) (fun hc7 => ?_) (fun hc7 => ?_)
  · skip
    have hin : 0 ≤ v ∧ v ≤ 1 := in01.mp (Decidable.byContradiction fun z => by rw [if_neg z] at hc7; exact hc7 rfl)
    obtain ⟨i, rfl, hi⟩ := im2 hin
    have hbi : i2n (nI i) = i := i2n_nI (by omega)
    refine J_bipush C (30) dX6_back_12 bc_30 ?_
    refine J_iload_1 C dX6_back_14 ?_
    refine J_imul C dX6_back_15 ?_
    refine J_top (y := nI (30 * i)) ix30 ?_
    refine J_istore_2 C dX6_back_16 (by decide) trivial ?_
    refine J_aload_0 C dX6_back_17 ?_
    refine G6_getr C (n := 58) 21 dX6_back_18 fX6_back_50 iX6_back_6 rfl (hS _ (by decide)) rfl rfl ?_
    refine J_iload_2 C dX6_back_21 ?_
    refine G_iald C (30 * i) dX6_back_22 rfl (hS _ (by decide)) rfl (by omega) ?_
    refine J_if_ne C 29 dX6_back_23 (by decide) (fun hc23 => ?_) (fun hc23 => ?_)
    · skip
      obtain ⟨ν, hν⟩ : ∃ ν, im i = some ν := by
        cases hq : im i with
        | none =>
          have hz := him i hi
          rw [hq] at hz
          exact absurd hz hc23
        | some ν => exact ⟨ν, rfl⟩
      have hzi := him i hi
      rw [hν] at hzi
      obtain ⟨z0, z1, z2, z3, z4, z5, z6⟩ := hzi
      have hno := hio i ν hν
      have hnl := hno.2.2.2.1
      refine J_aload_0 C dX6_back_29 ?_
      refine J_aload_0 C dX6_back_30 ?_
      refine G6_getr C (n := 58) 21 dX6_back_31 fX6_back_50 iX6_back_6 rfl (hS _ (by decide)) rfl rfl ?_
      refine J_iload_2 C dX6_back_34 ?_
      refine J_iconst C (1) dX6_back_35 ic_1 ?_
      refine J_iadd C dX6_back_36 ?_
      refine G_iald C (30 * i + 1) dX6_back_37 rfl (hS _ (by decide)) (nI_1 _) (by omega) ?_
      refine J_top (y := nI ν.1) z1 ?_
      refine G6_puti C (n := 4811) 11 dX6_back_38 fX6_back_180 iX6_back_6 rfl (hS _ (by decide)) rfl (tyX6_ok 11 (by decide)) rfl rfl ?_
      refine J_aload_0 C dX6_back_41 ?_
      refine J_aload_0 C dX6_back_42 ?_
      refine G6_getr C (n := 58) 21 dX6_back_43 fX6_back_50 iX6_back_6 rfl (hS _ (by decide)) rfl rfl ?_
      refine J_iload_2 C dX6_back_46 ?_
      refine J_iconst C (2) dX6_back_47 ic_2 ?_
      refine J_iadd C dX6_back_48 ?_
      refine G_iald C (30 * i + 2) dX6_back_49 rfl (hS _ (by decide)) (a_2 _) (by omega) ?_
      refine J_top (y := nI ν.2.1) z2 ?_
      refine G6_puti C (n := 4812) 12 dX6_back_50 fX6_back_32 iX6_back_6 rfl (hS _ (by decide)) rfl (tyX6_ok 12 (by decide)) rfl rfl ?_
      refine J_aload_0 C dX6_back_53 ?_
      refine J_aload_0 C dX6_back_54 ?_
      refine G6_getr C (n := 58) 21 dX6_back_55 fX6_back_50 iX6_back_6 rfl (hS _ (by decide)) rfl rfl ?_
      refine J_iload_2 C dX6_back_58 ?_
      refine J_iconst C (3) dX6_back_59 ic_3 ?_
      refine J_iadd C dX6_back_60 ?_
      refine G_iald C (30 * i + 3) dX6_back_61 rfl (hS _ (by decide)) (a_3 _) (by omega) ?_
      refine J_top (y := nI ν.2.2.1) z3 ?_
      refine G6_puti C (n := 4813) 13 dX6_back_62 fX6_back_183 iX6_back_6 rfl (hS _ (by decide)) rfl (tyX6_ok 13 (by decide)) rfl rfl ?_
      refine J_aload_0 C dX6_back_65 ?_
      refine J_aload_0 C dX6_back_66 ?_
      refine G6_getr C (n := 58) 21 dX6_back_67 fX6_back_50 iX6_back_6 rfl (hS _ (by decide)) rfl rfl ?_
      refine J_iload_2 C dX6_back_70 ?_
      refine J_iconst C (4) dX6_back_71 ic_4 ?_
      refine J_iadd C dX6_back_72 ?_
      refine G_iald C (30 * i + 4) dX6_back_73 rfl (hS _ (by decide)) (a_4 _) (by omega) ?_
      refine J_top (y := ν.2.2.2.1) z4 ?_
      refine G6_puti C (n := 4814) 14 dX6_back_74 fX6_back_35 iX6_back_6 rfl (hS _ (by decide)) rfl (tyX6_ok 14 (by decide)) rfl rfl ?_
      refine J_aload_0 C dX6_back_77 ?_
      refine J_aload_0 C dX6_back_78 ?_
      refine G6_getr C (n := 58) 21 dX6_back_79 fX6_back_50 iX6_back_6 rfl (hS _ (by decide)) rfl rfl ?_
      refine J_iload_2 C dX6_back_82 ?_
      refine J_iconst C (5) dX6_back_83 ic_5 ?_
      refine J_iadd C dX6_back_84 ?_
      refine G_iald C (30 * i + 5) dX6_back_85 rfl (hS _ (by decide)) (a_5 _) (by omega) ?_
      refine J_top (y := nI ν.2.2.2.2.length) z5 ?_
      refine G6_puti C (n := 4815) 15 dX6_back_86 fX6_back_186 iX6_back_6 rfl (hS _ (by decide)) rfl (tyX6_ok 15 (by decide)) rfl rfl ?_
      refine J_iconst C (0) dX6_back_89 ic_0 ?_
      refine J_istore_3 C dX6_back_90 (by decide) trivial ?_
      have loop : ∀ (n2 : Nat) (k : Nat) (T3 : Nat → Nat → Int32), k ≤ 20 → 20 < n2 + k → (∀ c, c ≠ 54 → T3 c = T c) → (∀ j, j < k → T3 54 j = T 58 (30 * i + 6 + j)) → J E Y (eN E) 0 0 (wS E (upd (upd (upd (upd (upd g 4811 (nI ν.1)) 4812 (nI ν.2.1)) 4813 (nI ν.2.2.1)) 4814 ν.2.2.2.1) 4815 (nI ν.2.2.2.2.length)) h T3 L) 91 [some (.ref (eA E 48)), some (.int (nI i)), some (.int (nI (30 * i))), some (.int (nI k))] [] := by
        intro n2
        induction n2 with
        | zero =>
          intro k T3 hk hfu hT3 hz
          omega
        | succ n2 ih =>
          intro k T3 hk hfu hT3 hz
          refine J_iload_3 C dX6_back_91 ?_
          refine J_bipush C (20) dX6_back_92 bc_20 ?_
          refine J_icmp_ge C 120 dX6_back_94 (by decide) (fun hc94 => ?_) (fun hc94 => ?_)
          · skip
            refine J_aload_0 C dX6_back_120 ?_
            refine G6_geti C (n := 4812) 12 dX6_back_121 fX6_back_32 iX6_back_6 rfl (hS _ (by decide)) rfl rfl ?_
            refine hQ _ _ _ _ dX6_back_124 ⟨_, _, _, _, rfl, ?_⟩
            have hk20 : k = 20 := by
              have h8 := ge_nI (m := 20) (by decide) hc94
              omega
            subst hk20
            unfold backS
            rw [if_pos hin, hbi, hν]
            refine ⟨⟨by simp [upd], ⟨by simp [upd], by simp [upd], by simp [upd], by simp [upd], by simp [upd], fun j q hq => ?_⟩, fun k hk => ?_, hT3⟩, rfl, rfl⟩
            · have hq2 : ν.2.2.2.2[j]? = some q := hq
              have hj : j < 10 := by have := (List.getElem?_eq_some_iff.mp hq2).1; omega
              rw [hz _ (by omega), hz _ (by omega)]
              exact z6 j q hq2
            · simp only [upd]
              rw [if_neg (by omega), if_neg (by omega), if_neg (by omega), if_neg (by omega), if_neg (by omega)]
          · skip
            have hk20 : k < 20 := lt_nI (m := 20) (by omega) hc94
            refine J_aload_0 C dX6_back_97 ?_
            refine G6_getr C (n := 54) 16 dX6_back_98 fX6_back_38 iX6_back_6 rfl (hS _ (by decide)) rfl rfl ?_
            refine J_iload_3 C dX6_back_101 ?_
            refine J_aload_0 C dX6_back_102 ?_
            refine G6_getr C (n := 58) 21 dX6_back_103 fX6_back_50 iX6_back_6 rfl (hS _ (by decide)) rfl rfl ?_
            refine J_iload_2 C dX6_back_106 ?_
            refine J_bipush C (6) dX6_back_107 bc_6 ?_
            refine J_iadd C dX6_back_109 ?_
            refine J_iload_3 C dX6_back_110 ?_
            refine J_iadd C dX6_back_111 ?_
            refine G_iald C (30 * i + 6 + k) dX6_back_112 rfl (hS _ (by decide)) ixk (by omega) ?_
            refine G_iast C k dX6_back_113 rfl (hS _ (by decide)) rfl (by omega) ?_
            refine J_iinc_3 C (1) dX6_back_114 (by decide) trivial ic_1 ?_
            refine J_goto C 91 dX6_back_117 (by decide) ?_
            rw [nI_1]
            refine ih (k + 1) _ (by omega) (by omega) (fun c hc => by rw [tU_ne hc]; exact hT3 c hc) (fun j hj => ?_)
            rw [tU_eq, hT3 58 (by decide)]
            simp only [upd]
            by_cases e : j = k
            · subst e
              rw [if_pos rfl]
            · rw [if_neg e]
              exact hz j (by omega)
      exact loop 21 0 _ (by omega) (by omega) (fun c hc => rfl) (fun j hj => absurd hj (Nat.not_lt_zero j))
    · skip
      refine J_bipush C (-2) dX6_back_26 bc_m2 ?_
      refine hQ _ _ _ _ dX6_back_28 ⟨_, _, _, _, rfl, ?_⟩
      have hn : im i = none := by
        cases hq : im i with
        | none => rfl
        | some ν =>
          have hz := him i hi
          rw [hq] at hz
          rw [hz.1] at hc23
          exact absurd hc23 (by decide)
      unfold backS
      rw [if_pos hin, hbi, hn]
      exact ⟨⟨rfl, hmu0, fun _ _ => rfl, fun _ _ => rfl⟩, rfl, rfl⟩
  · skip
    refine J_iconst C (-1) dX6_back_10 ic_m1 ?_
    refine hQ _ _ _ _ dX6_back_11 ⟨_, _, _, _, rfl, ?_⟩
    unfold backS
    rw [if_neg (fun z => by have h2 := hc7; rw [if_pos (in01.mpr z)] at h2; exact absurd h2 (by decide))]
    exact ⟨⟨rfl, hmu0, fun _ _ => rfl, fun _ _ => rfl⟩, rfl, rfl⟩
