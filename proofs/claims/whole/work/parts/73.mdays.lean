theorem get_app2 {l : List (Nat × Nat)} {e x : Nat × Nat} {i : Nat} (h : (l ++ [e])[i]? = some x) : l[i]? = some x ∨ (i = l.length ∧ x = e) := by
  by_cases hi : i < l.length
  · rw [List.getElem?_append_left hi] at h
    exact Or.inl h
  · rw [List.getElem?_append_right (by omega)] at h
    have h1 : i - l.length < 1 := (List.getElem?_eq_some_iff.mp h).1
    have h2 : i - l.length = 0 := by omega
    rw [h2] at h
    simp at h
    exact Or.inr ⟨by omega, h.symm⟩
theorem ix2 {d k : Nat} : (2 : Int32) * nI d + nI k = nI (2 * d + k) := by rw [show (2 : Int32) = nI 2 by decide, pk_mul, nI_add]
theorem ix20 {d : Nat} : (2 : Int32) * nI d = nI (2 * d) := by rw [show (2 : Int32) = nI 2 by decide, pk_mul]
theorem MoM.keep {g g2 : Nat → Int32} {T T2 : Nat → Nat → Int32} {μ : MO} (h : MoM g T μ) (hg : ∀ k, 4811 ≤ k → k ≤ 4815 → g2 k = g k) (hT : T2 54 = T 54) : MoM g2 T2 μ := by
  obtain ⟨a1, a2, a3, a4, a5, a6⟩ := h
  exact ⟨by rw [hg _ (by decide) (by decide)]; exact a1, by rw [hg _ (by decide) (by decide)]; exact a2, by rw [hg _ (by decide) (by decide)]; exact a3, by rw [hg _ (by decide) (by decide)]; exact a4, by rw [hg _ (by decide) (by decide)]; exact a5, by rw [hT]; exact a6⟩
abbrev rmX6_remember : Room := { frames := 0, cells := 0, slots := 0, locals := 0 }
theorem fX6_remember_180 : Cond.fieldLink RX6 180 RX6 (TX6 11).2.1 (TX6 11).2.2.1 ∈ wsX6_remember := by decide +kernel
theorem fX6_remember_186 : Cond.fieldLink RX6 186 RX6 (TX6 15).2.1 (TX6 15).2.2.1 ∈ wsX6_remember := by decide +kernel
theorem fX6_remember_32 : Cond.fieldLink RX6 32 RX6 (TX6 12).2.1 (TX6 12).2.2.1 ∈ wsX6_remember := by decide +kernel
theorem fX6_remember_38 : Cond.fieldLink RX6 38 RX6 (TX6 16).2.1 (TX6 16).2.2.1 ∈ wsX6_remember := by decide +kernel
theorem iX6_remember_6 : ∀ x ∈ wsX60, x ∈ wsX6_remember := by decide +kernel
theorem bc_18 : (Int8.ofInt (18)).toInt32 = (18) := by decide
set_option maxRecDepth 100000 in
set_option maxHeartbeats 4000000 in
theorem c_X6_remember (E : EN) (hM : EM E) (g : Nat → Int32) (h : Nat → Int64) (T : Nat → Nat → Int32) (L : Nat → Nat → Int64) (μ : MO) (hmu : MoM g T μ) (hok : MoOK μ) : GtV E yX6_remember wsX6_remember rmX6_remember [.ref (eA E 48)] g h T L (fun g2 h2 T2 L2 => h2 = h ∧ L2 = L ∧ (∀ k, k ≠ 4815 → g2 k = g k) ∧ (∀ k, k ≠ 54 → T2 k = T k) ∧ MoM g2 T2 (μ.1, μ.2.1, μ.2.2.1, μ.2.2.2.1, pushU μ.2.2.2.2 (μ.1, μ.2.1))) := by
  refine CtV_of (cc := cX6_remember) (nL := 2) RX6 [some (.ref (eA E 48)), none] ⟨rfl, rfl⟩ (by decide) rfl rfl (Nat.le_of_ble_eq_true rfl) ⟨1, rfl⟩ hM.2 (fun Y hnm C hQ => ?_)
  have hM0 := hM
  obtain ⟨hS, hNN⟩ := hM
  have hmu0 := hmu
  obtain ⟨a1, a2, a3, a4, a5, a6⟩ := hmu
  obtain ⟨o1, o2, o3, o4, o5⟩ := hok
  have h9 := dropU_len o4
  refine J_aload_0 C dX6_remember_0 ?_
  refine G6_geti C (n := 4815) 15 dX6_remember_1 fX6_remember_186 iX6_remember_6 rfl (hS _ (by decide)) rfl rfl ?_
  have hcut : ∀ (x1 : Option Value) (T2 : Nat → Nat → Int32), (∀ k, k ≠ 54 → T2 k = T k) → (∀ (i : Nat) (q : Nat × Nat), (dropU μ.2.2.2.2)[i]? = some q → T2 54 (2 * i) = nI q.1 ∧ T2 54 (2 * i + 1) = nI q.2) → J E Y (eN E) 0 0 (wS E (upd g 4815 (nI (dropU μ.2.2.2.2).length)) h T2 L) 47 [some (.ref (eA E 48)), x1] [] := by
    intro x1 T2 hT2 hrow
    refine J_aload_0 C dX6_remember_47 ?_
    refine G6_getr C (n := 54) 16 dX6_remember_48 fX6_remember_38 iX6_remember_6 rfl (hS _ (by decide)) rfl rfl ?_
    refine J_iconst C (2) dX6_remember_51 ic_2 ?_
    refine J_aload_0 C dX6_remember_52 ?_
    refine G6_geti C (n := 4815) 15 dX6_remember_53 fX6_remember_186 iX6_remember_6 rfl (hS _ (by decide)) rfl rfl ?_
    refine J_imul C dX6_remember_56 ?_
    refine J_aload_0 C dX6_remember_57 ?_
    refine G6_geti C (n := 4811) 11 dX6_remember_58 fX6_remember_180 iX6_remember_6 rfl (hS _ (by decide)) rfl rfl ?_
    refine G_iast C (2 * (dropU μ.2.2.2.2).length) dX6_remember_61 rfl (hS _ (by decide)) ix20 (by omega) ?_
    refine J_aload_0 C dX6_remember_62 ?_
    refine G6_getr C (n := 54) 16 dX6_remember_63 fX6_remember_38 iX6_remember_6 rfl (hS _ (by decide)) rfl rfl ?_
    refine J_iconst C (2) dX6_remember_66 ic_2 ?_
    refine J_aload_0 C dX6_remember_67 ?_
    refine G6_geti C (n := 4815) 15 dX6_remember_68 fX6_remember_186 iX6_remember_6 rfl (hS _ (by decide)) rfl rfl ?_
    refine J_imul C dX6_remember_71 ?_
    refine J_iconst C (1) dX6_remember_72 ic_1 ?_
    refine J_iadd C dX6_remember_73 ?_
    refine J_aload_0 C dX6_remember_74 ?_
    refine G6_geti C (n := 4812) 12 dX6_remember_75 fX6_remember_32 iX6_remember_6 rfl (hS _ (by decide)) rfl rfl ?_
    refine G_iast C (2 * (dropU μ.2.2.2.2).length + 1) dX6_remember_78 rfl (hS _ (by decide)) ix2 (by omega) ?_
    refine J_aload_0 C dX6_remember_79 ?_
    refine J_dup C dX6_remember_80 ?_
    refine G6_geti C (n := 4815) 15 dX6_remember_81 fX6_remember_186 iX6_remember_6 rfl (hS _ (by decide)) rfl rfl ?_
    refine J_iconst C (1) dX6_remember_84 ic_1 ?_
    refine J_iadd C dX6_remember_85 ?_
    refine G6_puti C (n := 4815) 15 dX6_remember_86 fX6_remember_186 iX6_remember_6 rfl (hS _ (by decide)) rfl (tyX6_ok 15 (by decide)) rfl rfl ?_
    refine hQ _ _ _ dX6_remember_89 ⟨_, _, _, _, rfl, ?_⟩
    refine ⟨rfl, rfl, fun k hk => by simp [upd, hk], fun k hk => by rw [tU_ne hk, tU_ne hk]; exact hT2 k hk, ?_, ?_, ?_, ?_, ?_, fun i q hq => ?_⟩
    · simp [upd]; exact a1
    · simp [upd]; exact a2
    · simp [upd]; exact a3
    · simp [upd]; exact a4
    · simp [upd, pushU]
      exact nI_1 _
    · have hq' : (dropU μ.2.2.2.2 ++ [(μ.1, μ.2.1)])[i]? = some q := hq
      rw [tU_eq]
      rcases get_app2 hq' with z | ⟨z1, z2⟩
      · have hi := (List.getElem?_eq_some_iff.mp z).1
        obtain ⟨q1, q2⟩ := hrow i q z
        simp only [upd, tU_eq]
        rw [if_neg (by omega), if_neg (by omega), if_neg (by omega), if_neg (by omega)]
        exact ⟨q1, q2⟩
      · subst z1
        subst z2
        simp [upd, va_up]
        exact ⟨a1, a2⟩
  refine J_bipush C (10) dX6_remember_4 bc_10 ?_
  refine J_icmp_ne C 47 dX6_remember_6 (by decide) (fun hc6 => ?_) (fun hc6 => ?_)
  · skip
    first
    | (have hl : ¬ μ.2.2.2.2.length = 10 := fun z => hc6 (by rw [a5, z]; rfl)
       have hd : dropU μ.2.2.2.2 = μ.2.2.2.2 := by unfold dropU; rw [if_neg hl]
       refine J_gT (g' := upd g 4815 (nI (dropU μ.2.2.2.2).length)) (T' := T) (by rw [hd, upd_sf a5]) rfl (hcut _ T (fun _ _ => rfl) ?_)
       rw [hd]
       exact a6)
    | (have hl : μ.2.2.2.2.length = 10 := nI_inj (by omega) (by decide) (by rw [← a5]; exact hc6)
       have hd : dropU μ.2.2.2.2 = μ.2.2.2.2.drop 1 := by unfold dropU; rw [if_pos hl]
       have hk : k = 18 := by
         have h8 := ge_nI (m := 18) (by decide) hc14
         omega
       subst hk
       refine J_gT (g' := upd g 4815 (nI (dropU μ.2.2.2.2).length)) (T' := T3) (by rw [a5, hl, hd, List.length_drop, hl]; rfl) rfl (hcut _ T3 hT3 ?_)
       rw [hd]
       intro i q hq
       rw [List.getElem?_drop] at hq
       obtain ⟨q1, q2⟩ := a6 (1 + i) q hq
       have hi : 1 + i < 10 := by rw [← hl]; exact (List.getElem?_eq_some_iff.mp hq).1
       rw [hz _, hz _, if_pos (by omega), if_pos (by omega), show 2 * i + 2 = 2 * (1 + i) by omega, show 2 * i + 1 + 2 = 2 * (1 + i) + 1 by omega]
       exact ⟨q1, q2⟩)
  · skip
    refine J_iconst C (0) dX6_remember_9 ic_0 ?_
    refine J_istore_1 C dX6_remember_10 (by decide) trivial ?_
    have loop : ∀ (n2 : Nat) (k : Nat) (T3 : Nat → Nat → Int32), k ≤ 18 → 18 < n2 + k → (∀ c, c ≠ 54 → T3 c = T c) → (∀ j, T3 54 j = if j < k then T 54 (j + 2) else T 54 j) → J E Y (eN E) 0 0 (wS E g h T3 L) 11 [some (.ref (eA E 48)), some (.int (nI k))] [] := by
      intro n2
      induction n2 with
      | zero =>
        intro k T3 hk hfu hT3 hz
        omega
      | succ n2 ih =>
        intro k T3 hk hfu hT3 hz
        refine J_iload_1 C dX6_remember_11 ?_
        refine J_bipush C (18) dX6_remember_12 bc_18 ?_
        refine J_icmp_ge C 37 dX6_remember_14 (by decide) (fun hc14 => ?_) (fun hc14 => ?_)
        · skip
          refine J_aload_0 C dX6_remember_37 ?_
          refine J_dup C dX6_remember_38 ?_
          refine G6_geti C (n := 4815) 15 dX6_remember_39 fX6_remember_186 iX6_remember_6 rfl (hS _ (by decide)) rfl rfl ?_
          refine J_iconst C (1) dX6_remember_42 ic_1 ?_
          refine J_isub C dX6_remember_43 ?_
          refine G6_puti C (n := 4815) 15 dX6_remember_44 fX6_remember_186 iX6_remember_6 rfl (hS _ (by decide)) rfl (tyX6_ok 15 (by decide)) rfl rfl ?_
          first
          | (have hl : ¬ μ.2.2.2.2.length = 10 := fun z => hc6 (by rw [a5, z]; rfl)
             have hd : dropU μ.2.2.2.2 = μ.2.2.2.2 := by unfold dropU; rw [if_neg hl]
             refine J_gT (g' := upd g 4815 (nI (dropU μ.2.2.2.2).length)) (T' := T) (by rw [hd, upd_sf a5]) rfl (hcut _ T (fun _ _ => rfl) ?_)
             rw [hd]
             exact a6)
          | (have hl : μ.2.2.2.2.length = 10 := nI_inj (by omega) (by decide) (by rw [← a5]; exact hc6)
             have hd : dropU μ.2.2.2.2 = μ.2.2.2.2.drop 1 := by unfold dropU; rw [if_pos hl]
             have hk : k = 18 := by
               have h8 := ge_nI (m := 18) (by decide) hc14
               omega
             subst hk
             refine J_gT (g' := upd g 4815 (nI (dropU μ.2.2.2.2).length)) (T' := T3) (by rw [a5, hl, hd, List.length_drop, hl]; rfl) rfl (hcut _ T3 hT3 ?_)
             rw [hd]
             intro i q hq
             rw [List.getElem?_drop] at hq
             obtain ⟨q1, q2⟩ := a6 (1 + i) q hq
             have hi : 1 + i < 10 := by rw [← hl]; exact (List.getElem?_eq_some_iff.mp hq).1
             rw [hz _, hz _, if_pos (by omega), if_pos (by omega), show 2 * i + 2 = 2 * (1 + i) by omega, show 2 * i + 1 + 2 = 2 * (1 + i) + 1 by omega]
             exact ⟨q1, q2⟩)
        · skip
          have hk18 : k < 18 := lt_nI (m := 18) (by omega) hc14
          refine J_aload_0 C dX6_remember_17 ?_
          refine G6_getr C (n := 54) 16 dX6_remember_18 fX6_remember_38 iX6_remember_6 rfl (hS _ (by decide)) rfl rfl ?_
          refine J_iload_1 C dX6_remember_21 ?_
          refine J_aload_0 C dX6_remember_22 ?_
          refine G6_getr C (n := 54) 16 dX6_remember_23 fX6_remember_38 iX6_remember_6 rfl (hS _ (by decide)) rfl rfl ?_
          refine J_iload_1 C dX6_remember_26 ?_
          refine J_iconst C (2) dX6_remember_27 ic_2 ?_
          refine J_iadd C dX6_remember_28 ?_
          skip
          refine G_iald C (k + 2) dX6_remember_29 rfl (hS _ (by decide)) (show nI k + 2 = nI (k + 2) by rw [← nI_add]; rfl) (by omega) ?_
          refine G_iast C k dX6_remember_30 rfl (hS _ (by decide)) rfl (by omega) ?_
          refine J_iinc_1 C (1) dX6_remember_31 (by decide) trivial ic_1 ?_
          refine J_goto C 11 dX6_remember_34 (by decide) ?_
          rw [nI_1]
          refine ih (k + 1) _ (by omega) (by omega) (fun c hc => by rw [tU_ne hc]; exact hT3 c hc) (fun j => ?_)
          rw [tU_eq]
          simp only [upd]
          by_cases e : j = k
          · subst e
            rw [if_pos rfl, if_pos (by omega), hz, if_neg (by omega)]
          · rw [if_neg e, hz]
            by_cases q : j < k
            · rw [if_pos q, if_pos (by omega)]
            · rw [if_neg q, if_neg (by omega)]
    exact loop 19 0 T (by omega) (by omega) (fun _ _ => rfl) (fun j => by simp)
abbrev rmX6_rest : Room := { frames := 1, cells := 0, slots := 0, locals := 21 }
theorem fX6_rest_32 : Cond.fieldLink RX6 32 RX6 (TX6 12).2.1 (TX6 12).2.2.1 ∈ wsX6_rest := by decide +kernel
theorem iX6_rest_6 : ∀ x ∈ wsX60, x ∈ wsX6_rest := by decide +kernel
theorem dm_X6_remember : yX6_remember.cls = RX6 ∧ yX6_remember.cls ≠ "java/lang/invoke/MethodHandle" ∧ yX6_remember.cls ≠ "java/lang/invoke/VarHandle" ∧ (parseMethodDescriptor yX6_remember.desc).map (fun d => d.parameters.length) = some 0 := by decide +kernel
set_option maxRecDepth 100000 in
set_option maxHeartbeats 4000000 in
theorem c_X6_rest (E : EN) (hM : EM E) (g : Nat → Int32) (h : Nat → Int64) (T : Nat → Nat → Int32) (L : Nat → Nat → Int64) (μ : MO) (hmu : MoM g T μ) (hok : MoOK μ) : GtI E yX6_rest wsX6_rest rmX6_rest [.ref (eA E 48)] g h T L (fun r g2 h2 T2 L2 => (r = (restS μ).1 ∧ MoM g2 T2 (restS μ).2 ∧ FrMm g g2 T T2) ∧ h2 = h ∧ L2 = L) := by
  refine CtI_of (cc := cX6_rest) (nL := 1) RX6 [some (.ref (eA E 48))] ⟨rfl, rfl⟩ (by decide) rfl rfl (Nat.le_of_ble_eq_true rfl) ⟨0, rfl⟩ hM.2 (fun Y C hQ => ?_)
  have hM0 := hM
  obtain ⟨hS, hNN⟩ := hM
  have hmu0 := hmu
  obtain ⟨a1, a2, a3, a4, a5, a6⟩ := hmu
  obtain ⟨o1, o2, o3, o4, o5⟩ := hok
  refine J_aload_0 C dX6_rest_0 ?_
  refine G6_geti C (n := 4812) 12 dX6_rest_1 fX6_rest_32 iX6_rest_6 rfl (hS _ (by decide)) rfl rfl ?_
  refine J_if_ne C 10 dX6_rest_4 (by decide) (fun hc4 => ?_) (fun hc4 => ?_)
  · skip
    have hd : μ.2.1 ≠ 0 := fun z => by
      rw [a2, z] at hc4
      exact hc4 rfl
    refine J_aload_0 C dX6_rest_10 ?_
    refine G_vtv C dX6_rest_11 (c_X6_remember E hM0 g h T L μ hmu0 ⟨o1, o2, o3, o4, o5⟩) gX6_rest_X6_remember rfl dm_X6_remember rfl rfl (hS _ (by decide)) rfl rfl (Nat.le_of_ble_eq_true rfl) (rmOK_b rfl) (fun g11 h11 T11 L11 hp11 => ?_)
    obtain ⟨rfl, rfl, hg17, hT17, hm17⟩ := hp11
    obtain ⟨b1, b2, b3, b4, b5, b6⟩ := hm17
    refine J_aload_0 C dX6_rest_14 ?_
    refine J_dup C dX6_rest_15 ?_
    refine G6_geti C (n := 4812) 12 dX6_rest_16 fX6_rest_32 iX6_rest_6 rfl (hS _ (by decide)) rfl rfl ?_
    refine J_iconst C (1) dX6_rest_19 ic_1 ?_
    refine J_isub C dX6_rest_20 ?_
    refine J_top (y := nI (μ.2.1 - 1)) (by rw [show g11 4812 = nI μ.2.1 from b2, nI_pred1 (by omega)]) ?_
    refine G6_puti C (n := 4812) 12 dX6_rest_21 fX6_rest_32 iX6_rest_6 rfl (hS _ (by decide)) rfl (tyX6_ok 12 (by decide)) rfl rfl ?_
    refine J_aload_0 C dX6_rest_24 ?_
    refine G6_geti C (n := 4812) 12 dX6_rest_25 fX6_rest_32 iX6_rest_6 rfl (hS _ (by decide)) rfl rfl ?_
    refine hQ _ _ _ _ dX6_rest_28 ⟨_, _, _, _, rfl, ?_⟩
    unfold restS
    rw [if_neg hd]
    refine ⟨⟨by simp [upd], ⟨?_, by simp [upd], ?_, ?_, ?_, b6⟩, fun k hk => ?_, hT17⟩, rfl, rfl⟩
    · simp [upd]; exact b1
    · simp [upd]; exact b3
    · simp [upd]; exact b4
    · simp [upd]; exact b5
    · simp only [upd]
      rw [if_neg (by omega)]
      exact hg17 k (by omega)
  · skip
    refine J_bipush C (-2) dX6_rest_7 bc_m2 ?_
    refine hQ _ _ _ _ dX6_rest_9 ⟨_, _, _, _, rfl, ?_⟩
    have hd : μ.2.1 = 0 := by
      rw [a2, nI_z (by omega)] at hc4
      exact hc4
    unfold restS
    rw [if_pos hd]
    exact ⟨⟨rfl, hmu0, fun _ _ => rfl, fun _ _ => rfl⟩, rfl, rfl⟩
abbrev rmX6_undo : Room := { frames := 0, cells := 0, slots := 0, locals := 0 }
theorem fX6_undo_180 : Cond.fieldLink RX6 180 RX6 (TX6 11).2.1 (TX6 11).2.2.1 ∈ wsX6_undo := by decide +kernel
theorem fX6_undo_186 : Cond.fieldLink RX6 186 RX6 (TX6 15).2.1 (TX6 15).2.2.1 ∈ wsX6_undo := by decide +kernel
theorem fX6_undo_32 : Cond.fieldLink RX6 32 RX6 (TX6 12).2.1 (TX6 12).2.2.1 ∈ wsX6_undo := by decide +kernel
theorem fX6_undo_38 : Cond.fieldLink RX6 38 RX6 (TX6 16).2.1 (TX6 16).2.2.1 ∈ wsX6_undo := by decide +kernel
theorem iX6_undo_6 : ∀ x ∈ wsX60, x ∈ wsX6_undo := by decide +kernel
set_option maxRecDepth 100000 in
set_option maxHeartbeats 4000000 in
theorem c_X6_undo (E : EN) (hM : EM E) (g : Nat → Int32) (h : Nat → Int64) (T : Nat → Nat → Int32) (L : Nat → Nat → Int64) (μ : MO) (hmu : MoM g T μ) (hok : MoOK μ) : GtI E yX6_undo wsX6_undo rmX6_undo [.ref (eA E 48)] g h T L (fun r g2 h2 T2 L2 => (r = (undoS μ).1 ∧ MoM g2 T2 (undoS μ).2 ∧ FrMm g g2 T T2) ∧ h2 = h ∧ L2 = L) := by
  refine CtI_of (cc := cX6_undo) (nL := 1) RX6 [some (.ref (eA E 48))] ⟨rfl, rfl⟩ (by decide) rfl rfl (Nat.le_of_ble_eq_true rfl) ⟨0, rfl⟩ hM.2 (fun Y C hQ => ?_)
  have hM0 := hM
  obtain ⟨hS, hNN⟩ := hM
  have hmu0 := hmu
  obtain ⟨a1, a2, a3, a4, a5, a6⟩ := hmu
  obtain ⟨o1, o2, o3, o4, o5⟩ := hok
  refine J_aload_0 C dX6_undo_0 ?_
  refine G6_geti C (n := 4815) 15 dX6_undo_1 fX6_undo_186 iX6_undo_6 rfl (hS _ (by decide)) rfl rfl ?_
  refine J_if_ne C 10 dX6_undo_4 (by decide) (fun hc4 => ?_) (fun hc4 => ?_)
  · skip
    obtain ⟨u, x, hu, hl1, hl2⟩ := (last_cases μ.2.2.2.2).resolve_left (fun ⟨z, _⟩ => by
      rw [a5, z] at hc4
      exact hc4 rfl)
    have hul : u.length ≤ 9 := by rw [hu] at o4; simp at o4; omega
    have hue : g 4815 = nI (u.length + 1) := by rw [a5, hu]; simp
    obtain ⟨q1, q2⟩ := a6 u.length x (by rw [hu]; simp)
    refine J_aload_0 C dX6_undo_10 ?_
    refine J_dup C dX6_undo_11 ?_
    refine G6_geti C (n := 4815) 15 dX6_undo_12 fX6_undo_186 iX6_undo_6 rfl (hS _ (by decide)) rfl rfl ?_
    refine J_iconst C (1) dX6_undo_15 ic_1 ?_
    refine J_isub C dX6_undo_16 ?_
    refine J_top (y := nI u.length) (by rw [hue, nI_pred]) ?_
    refine G6_puti C (n := 4815) 15 dX6_undo_17 fX6_undo_186 iX6_undo_6 rfl (hS _ (by decide)) rfl (tyX6_ok 15 (by decide)) rfl rfl ?_
    refine J_aload_0 C dX6_undo_20 ?_
    refine J_aload_0 C dX6_undo_21 ?_
    refine G6_getr C (n := 54) 16 dX6_undo_22 fX6_undo_38 iX6_undo_6 rfl (hS _ (by decide)) rfl rfl ?_
    refine J_iconst C (2) dX6_undo_25 ic_2 ?_
    refine J_aload_0 C dX6_undo_26 ?_
    refine G6_geti C (n := 4815) 15 dX6_undo_27 fX6_undo_186 iX6_undo_6 rfl (hS _ (by decide)) rfl rfl ?_
    refine J_imul C dX6_undo_30 ?_
    refine G_iald C (2 * u.length) dX6_undo_31 rfl (hS _ (by decide)) ix20 (by omega) ?_
    refine G6_puti C (n := 4811) 11 dX6_undo_32 fX6_undo_180 iX6_undo_6 rfl (hS _ (by decide)) rfl (tyX6_ok 11 (by decide)) rfl rfl ?_
    refine J_aload_0 C dX6_undo_35 ?_
    refine J_aload_0 C dX6_undo_36 ?_
    refine G6_getr C (n := 54) 16 dX6_undo_37 fX6_undo_38 iX6_undo_6 rfl (hS _ (by decide)) rfl rfl ?_
    refine J_iconst C (2) dX6_undo_40 ic_2 ?_
    refine J_aload_0 C dX6_undo_41 ?_
    refine G6_geti C (n := 4815) 15 dX6_undo_42 fX6_undo_186 iX6_undo_6 rfl (hS _ (by decide)) rfl rfl ?_
    refine J_imul C dX6_undo_45 ?_
    refine J_iconst C (1) dX6_undo_46 ic_1 ?_
    refine J_iadd C dX6_undo_47 ?_
    refine G_iald C (2 * u.length + 1) dX6_undo_48 rfl (hS _ (by decide)) ix2 (by omega) ?_
    refine G6_puti C (n := 4812) 12 dX6_undo_49 fX6_undo_32 iX6_undo_6 rfl (hS _ (by decide)) rfl (tyX6_ok 12 (by decide)) rfl rfl ?_
    refine J_aload_0 C dX6_undo_52 ?_
    refine G6_geti C (n := 4815) 15 dX6_undo_53 fX6_undo_186 iX6_undo_6 rfl (hS _ (by decide)) rfl rfl ?_
    refine hQ _ _ _ _ dX6_undo_56 ⟨_, _, _, _, rfl, ?_⟩
    unfold undoS
    rw [hl1]
    refine ⟨⟨?_, ⟨?_, ?_, ?_, ?_, ?_, fun i q hq => ?_⟩, fun k hk => ?_, fun _ _ => rfl⟩, rfl, rfl⟩
    · simp [upd, hu]
    · simp [upd]; exact q1
    · simp [upd]; exact q2
    · simp [upd]; exact a3
    · simp [upd]; exact a4
    · simp [upd, hl2]
    · simp only [hl2] at hq
      refine a6 i q ?_
      rw [hu, List.getElem?_append_left (List.getElem?_eq_some_iff.mp hq).1]
      exact hq
    · simp only [upd]
      rw [if_neg (by omega), if_neg (by omega), if_neg (by omega)]
  · skip
    refine J_bipush C (-2) dX6_undo_7 bc_m2 ?_
    refine hQ _ _ _ _ dX6_undo_9 ⟨_, _, _, _, rfl, ?_⟩
    have hd : μ.2.2.2.2.getLast? = none := by
      rcases last_cases μ.2.2.2.2 with ⟨_, z⟩ | ⟨v, x, z, _⟩
      · exact z
      · rw [a5, nI_z (by omega)] at hc4
        rw [z] at hc4
        simp at hc4
    unfold undoS
    rw [hd]
    exact ⟨⟨rfl, hmu0, fun _ _ => rfl, fun _ _ => rfl⟩, rfl, rfl⟩
