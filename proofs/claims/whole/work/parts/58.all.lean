theorem mmX2_readAll_1 : Cond.methodLink RX2 24 Lib.Math.min.name ∈ wsX2_readAll := by decide +kernel
theorem mmX2_readAll_2 : Cond.static Lib.Math.min.name ∈ wsX2_readAll := by decide +kernel
theorem mmX2_readAll_3 : Cond.initialized "java/lang/Math" ∈ wsX2_readAll := by decide +kernel
theorem mmX2_readAll_4 : Cond.code Lib.Math.min.name Lib.Math.min.code 2 (some .int) ∈ wsX2_readAll := by decide +kernel
def FrA (g g2 : Nat → Int32) (T T2 : Nat → Nat → Int32) : Prop := (∀ k, (k < 200 ∨ 208 ≤ k) → (k < 1300 ∨ 1400 ≤ k) → g2 k = g k) ∧ ∀ k, (k < 3 ∨ 5 < k) → (k < 14 ∨ 19 < k) → T2 k = T k
theorem FrI.toA {g g2 : Nat → Int32} {T T2 : Nat → Nat → Int32} (h : FrI g g2 T T2) : FrA g g2 T T2 := ⟨fun k k1 k2 => h.1 k (by omega) (by omega), fun k k1 k2 => h.2 k (by omega)⟩
theorem FrA.tr {g g2 g3 : Nat → Int32} {T T2 T3 : Nat → Nat → Int32} (h : FrA g g2 T T2) (h2 : FrA g2 g3 T2 T3) : FrA g g3 T T3 := ⟨fun k k1 k2 => by rw [h2.1 k k1 k2, h.1 k k1 k2], fun k k1 k2 => by rw [h2.2 k k1 k2, h.2 k k1 k2]⟩
def AlI (g : Nat → Int32) (T : Nat → Nat → Int32) (g2 : Nat → Int32) (T2 : Nat → Nat → Int32) (n : Nat) (b : Nat → Nat) (m k : Nat) : Prop := FrA g g2 T T2 ∧ ((∃ s a, RdX g2 T2 n b m a none ∧ RwX g2 T2 s ∧ g2 207 = nI (tdN s.2.2.2) ∧ RsOK s ∧ allS n b (200 - k) s (psT n b a) k = readS n b) ∨ (∃ q, readS n b = .error q ∧ q < 256 ∧ g2 206 = nI q))
theorem AlI.ok {g : Nat → Int32} {T : Nat → Nat → Int32} {g2 : Nat → Int32} {T2 : Nat → Nat → Int32} {n : Nat} {b : Nat → Nat} {m k : Nat} (h : AlI g T g2 T2 n b m k) (hf : g2 206 < 0) : ∃ s a, RdX g2 T2 n b m a none ∧ RwX g2 T2 s ∧ g2 207 = nI (tdN s.2.2.2) ∧ RsOK s ∧ allS n b (200 - k) s (psT n b a) k = readS n b := by
  rcases h.2 with q | ⟨q, h1, h2, h3⟩
  · exact q
  · rw [h3] at hf
    exact absurd hf (nI_pos (by omega))
theorem AlI.er {g : Nat → Int32} {T : Nat → Nat → Int32} {g2 : Nat → Int32} {T2 : Nat → Nat → Int32} {n : Nat} {b : Nat → Nat} {m k : Nat} (h : AlI g T g2 T2 n b m k) (hf : ¬ g2 206 < 0) : ∃ q, readS n b = .error q ∧ q < 256 ∧ g2 206 = nI q := by
  rcases h.2 with ⟨s, a, h1, _⟩ | q
  · have := h1.2.2.2.2.1
    rw [this] at hf
    exact absurd (show oI none < 0 by decide) hf
  · exact q
theorem AlI.st {g : Nat → Int32} {T : Nat → Nat → Int32} {g2 : Nat → Int32} {T2 : Nat → Nat → Int32} {n : Nat} {b : Nat → Nat} {m k : Nat} {g3 : Nat → Int32} {T3 : Nat → Nat → Int32} {s : RS} {a : Nat} (hk : k < 200) (hF : FrA g g2 T T2) (h0 : tKn n b (psT n b a) ≠ 0) (hal : allS n b (200 - k) s (psT n b a) k = readS n b) (hI : ItR g2 g3 T2 T3 n b m (psT n b a) (itemS n b s (psT n b a))) : AlI g T g3 T3 n b m (k + 1) := by
  obtain ⟨h1, h2⟩ := hI
  refine ⟨hF.tr h1.toA, ?_⟩
  rw [show 200 - k = (200 - (k + 1)) + 1 by omega] at hal
  unfold allS at hal
  rw [if_neg h0] at hal
  rcases h2 with ⟨s', a2, e1, e2, e3, e4, e5, e6⟩ | ⟨q, e1, e2, e3⟩
  · rw [e1] at hal
    exact Or.inl ⟨s', a2, e2, e3, e4, e5, hal⟩
  · rw [e1] at hal
    exact Or.inr ⟨q, hal.symm, e2, e3⟩
def RedY (g g2 : Nat → Int32) (T T2 : Nat → Nat → Int32) (n : Nat) (b : Nat → Nat) (r : Int32) : Prop := FrA g g2 T T2 ∧ ((∃ s k, readS n b = .ok (s, k) ∧ k ≤ 200 ∧ r = nI k ∧ RsOK s ∧ RwX g2 T2 s ∧ ∀ c, c < 2 ^ s.1 → T2 18 c = nI (wN (s.2.1 2) c s.1) ∧ T2 19 c = if sfN (s.2.1 3) c s.1 = true then 1 else 0) ∨ (∃ q, readS n b = .error q ∧ q < 256 ∧ r = -10 - nI q))
abbrev rmX2_readAll : Room := { frames := 8, cells := 0, slots := 0, locals := 177 }
theorem fX2_readAll_21 : Cond.fieldLink RX2 21 RX2 (TX2 0).2.1 (TX2 0).2.2.1 ∈ wsX2_readAll := by decide +kernel
theorem fX2_readAll_30 : Cond.fieldLink RX2 30 RX2 (TX2 1).2.1 (TX2 1).2.2.1 ∈ wsX2_readAll := by decide +kernel
theorem fX2_readAll_37 : Cond.fieldLink RX2 37 RX2 (TX2 5).2.1 (TX2 5).2.2.1 ∈ wsX2_readAll := by decide +kernel
theorem fX2_readAll_40 : Cond.fieldLink RX2 40 RX2 (TX2 6).2.1 (TX2 6).2.2.1 ∈ wsX2_readAll := by decide +kernel
theorem fX2_readAll_43 : Cond.fieldLink RX2 43 RX2 (TX2 7).2.1 (TX2 7).2.2.1 ∈ wsX2_readAll := by decide +kernel
theorem fX2_readAll_9 : Cond.fieldLink RX2 9 RX2 (TX2 2).2.1 (TX2 2).2.2.1 ∈ wsX2_readAll := by decide +kernel
theorem iX2_readAll_2 : ∀ x ∈ wsX20, x ∈ wsX2_readAll := by decide +kernel
theorem dm_X2_readItem : yX2_readItem.cls = RX2 ∧ yX2_readItem.cls ≠ "java/lang/invoke/MethodHandle" ∧ yX2_readItem.cls ≠ "java/lang/invoke/VarHandle" ∧ (parseMethodDescriptor yX2_readItem.desc).map (fun d => d.parameters.length) = some 1 := by decide +kernel
theorem dm_X2_split : yX2_split.cls = RX2 ∧ yX2_split.cls ≠ "java/lang/invoke/MethodHandle" ∧ yX2_split.cls ≠ "java/lang/invoke/VarHandle" ∧ (parseMethodDescriptor yX2_split.desc).map (fun d => d.parameters.length) = some 0 := by decide +kernel
theorem dm_X3_beginAnew : yX3_beginAnew.cls = RX3 ∧ yX3_beginAnew.cls ≠ "java/lang/invoke/MethodHandle" ∧ yX3_beginAnew.cls ≠ "java/lang/invoke/VarHandle" ∧ (parseMethodDescriptor yX3_beginAnew.desc).map (fun d => d.parameters.length) = some 0 := by decide +kernel
theorem dm_X3_settle : yX3_settle.cls = RX3 ∧ yX3_settle.cls ≠ "java/lang/invoke/MethodHandle" ∧ yX3_settle.cls ≠ "java/lang/invoke/VarHandle" ∧ (parseMethodDescriptor yX3_settle.desc).map (fun d => d.parameters.length) = some 0 := by decide +kernel
theorem bc_m10 : (Int8.ofInt (-10)).toInt32 = (-10) := by decide
set_option maxRecDepth 100000 in
set_option maxHeartbeats 4000000 in
theorem c_X2_readAll (E : EN) (hM : EM E) (V : SV) (g : Nat → Int32) (h : Nat → Int64) (T : Nat → Nat → Int32) (L : Nat → Nat → Int64) (n : Nat) (b : Nat → Nat) (hn : n ≤ 200) (hb : ∀ i, i < n → T 1 i = nI (b i) ∧ b i < 256) : GtIS E V yX2_readAll wsX2_readAll rmX2_readAll [.ref (eA E 2), .ref (eA E 1), .int (nI n), .ref (eA E 13)] g h T L (fun r g2 h2 T2 L2 => RedY g g2 T T2 n b r ∧ h2 = h ∧ L2 = L) := by
  refine CtSI_of (cc := cX2_readAll) (nL := 5) RX2 [some (.ref (eA E 2)), some (.ref (eA E 1)), some (.int (nI n)), some (.ref (eA E 13)), none] ⟨rfl, rfl⟩ (by decide) rfl rfl (Nat.le_of_ble_eq_true rfl) ⟨1, rfl⟩ hM.2 (fun Y C hSP hQ => ?_)
  have hM0 := hM
  obtain ⟨hS, hNN⟩ := hM
  refine J_aload_0 C dX2_readAll_0 ?_
  refine J_aload_1 C dX2_readAll_1 ?_
  refine G2_putn C (n := 200) 0 dX2_readAll_2 fX2_readAll_21 iX2_readAll_2 rfl (hS _ (by decide)) rfl (tyX2_ok 0 (by decide)) rfl rfl ?_
  refine J_aload_0 C dX2_readAll_5 ?_
  refine J_iload_2 C dX2_readAll_6 ?_
  refine J_sipush C (200) dX2_readAll_7 sc_200 ?_
  refine J_mmin C dX2_readAll_10 mmX2_readAll_1 mmX2_readAll_2 mmX2_readAll_3 mmX2_readAll_4 (Nat.le_of_ble_eq_true rfl) (Nat.le_of_ble_eq_true rfl) (Nat.le_of_ble_eq_true rfl) (Nat.le_of_ble_eq_true rfl) ?_
  rw [if_neg (show ¬ (200 : Int32) < nI n from fun q => absurd ((nI_ltI (a := 200) (by decide) (by omega)).mp q) (by omega))]
  refine G2_puti C (n := 201) 1 dX2_readAll_13 fX2_readAll_30 iX2_readAll_2 rfl (hS _ (by decide)) rfl (tyX2_ok 1 (by decide)) rfl rfl ?_
  refine J_aload_0 C dX2_readAll_16 ?_
  refine G_vtSv C hSP dX2_readAll_17 (c_X2_split E hM0 V _ _ _ _ n b (show LxX (upd (upd g 200 1) 201 (nI n)) T n b from ⟨hn, show ¬ (1 : Int32) = 0 by decide, rfl, hb⟩)) gX2_readAll_X2_split rfl dm_X2_split rfl rfl (hS _ (by decide)) rfl rfl (Nat.le_of_ble_eq_true rfl) (rmOK_b rfl) (fun g17 h17 T17 L17 hp17 => ?_)
  obtain ⟨rfl, rfl, rfl, hT17, m, hTk⟩ := hp17
  refine J_aload_0 C dX2_readAll_20 ?_
  refine J_iconst C (0) dX2_readAll_21 ic_0 ?_
  refine G2_puti C (n := 205) 5 dX2_readAll_22 fX2_readAll_37 iX2_readAll_2 rfl (hS _ (by decide)) rfl (tyX2_ok 5 (by decide)) rfl rfl ?_
  refine J_aload_0 C dX2_readAll_25 ?_
  refine J_iconst C (-1) dX2_readAll_26 ic_m1 ?_
  refine G2_puti C (n := 206) 6 dX2_readAll_27 fX2_readAll_40 iX2_readAll_2 rfl (hS _ (by decide)) rfl (tyX2_ok 6 (by decide)) rfl rfl ?_
  refine J_aload_0 C dX2_readAll_30 ?_
  refine J_iconst C (0) dX2_readAll_31 ic_0 ?_
  refine G2_puti C (n := 207) 7 dX2_readAll_32 fX2_readAll_43 iX2_readAll_2 rfl (hS _ (by decide)) rfl (tyX2_ok 7 (by decide)) rfl rfl ?_
  refine J_aload_3 C dX2_readAll_35 ?_
  refine G_vtv C dX2_readAll_36 (c_X3_beginAnew_13 E (hS _ (by decide)) hNN _ _ _ _) gX2_readAll_X3_beginAnew rfl dm_X3_beginAnew rfl rfl (hS _ (by decide)) rfl rfl (Nat.le_of_ble_eq_true rfl) (rmOK_b rfl) (fun g36 h36 T36 L36 hp36 => ?_)
  obtain ⟨⟨b0, b1, b2, b3, b4, b5, b6, b7, b8⟩, hg36, rfl, rfl, rfl⟩ := hp36
  have hLx : LxX g36 T36 n b := ⟨hn, by rw [hg36 _ (by decide)]; exact (show ¬ (1 : Int32) = 0 by decide), by rw [hg36 _ (by decide)]; rfl, fun i hi => by rw [hT17 1 (by decide) (by decide) (by decide)]; exact hb i hi⟩
  have hRd : RdX g36 T36 n b m 0 none := ⟨hLx, hTk, Nat.zero_le _, by rw [hg36 _ (by decide)]; rfl, by rw [hg36 _ (by decide)]; rfl, fun q hq => by cases hq⟩
  have hRw : RwX g36 T36 rs0 := ⟨by rw [b0]; rfl, by rw [b1]; rfl, by rw [b2]; rfl, by rw [b3]; rfl, by rw [b4]; rfl, by rw [b5]; rfl, by rw [b6]; rfl, by rw [b7]; rfl, by rw [b8]; rfl, fun t ht => absurd ht (by simp [rs0])⟩
  have hA0 : AlI g T g36 T36 n b m 0 := ⟨⟨fun k k1 k2 => by
    rw [hg36 k (by omega)]
    simp only [upd]
    repeat rw [if_neg (by omega)], fun k k1 k2 => hT17 k (by omega) (by omega) (by omega)⟩, Or.inl ⟨rs0, 0, hRd, hRw, by rw [hg36 _ (by decide)]; rfl, rs0_ok, rfl⟩⟩
  refine J_iconst C (0) dX2_readAll_39 ic_0 ?_
  refine J_istore_4 C dX2_readAll_40 (by decide) trivial ?_
  have loop : ∀ (n2 : Nat) (k : Nat) (g2 : Nat → Int32) (T2 : Nat → Nat → Int32), k ≤ 200 → 200 < n2 + k → AlI g T g2 T2 n b m k → J E Y (eN E) 0 0 (wS E g2 h36 T2 L36) 42 [some (.ref (eA E 2)), some (.ref (eA E 1)), some (.int (nI n)), some (.ref (eA E 13)), some (.int (nI k))] [] := by
    intro n2
    induction n2 with
    | zero =>
      intro k g2 T2 h1 h2 hA
      omega
    | succ n2 ih =>
      intro k g2 T2 h1 h2 hA
      refine J_iload_4 C dX2_readAll_42 ?_
      refine J_sipush C (200) dX2_readAll_44 sc_200 ?_
      refine J_icmp_ge C 80 dX2_readAll_47 (by decide) (fun hc47 => ?_) (fun hc47 => ?_)
      · skip
        refine J_aload_0 C dX2_readAll_80 ?_
        refine G2_geti C (n := 206) 6 dX2_readAll_81 fX2_readAll_40 iX2_readAll_2 rfl (hS _ (by decide)) rfl rfl ?_
        refine J_if_lt C 95 dX2_readAll_84 (by decide) (fun hc84 => ?_) (fun hc84 => ?_)
        · skip
          obtain ⟨s9, a9, hRa9, hWa9, h7a9, hOa9, hala9⟩ := hA.ok hc84
          refine J_aload_3 C dX2_readAll_95 ?_
          refine G_vtv C dX2_readAll_96 (c_X3_settle_13 E (fun k hk => hS k (by omega)) hNN _ _ _ _ s9.1 (s9.2.1 2) (s9.2.1 3) hOa9.1 hWa9.1 (fun t ht => ⟨(hWa9.2.2.2.2.2.2.2.2.2 t ht).2.2.1, (hWa9.2.2.2.2.2.2.2.2.2 t ht).2.2.2⟩) hOa9.2.2.2.1 hOa9.2.2.2.2.1) gX2_readAll_X3_settle rfl dm_X3_settle rfl rfl (hS _ (by decide)) rfl rfl (Nat.le_of_ble_eq_true rfl) (rmOK_b rfl) (fun g96 h96 T96 L96 hp96 => ?_)
          obtain ⟨rfl, hT96, hrow96, rfl, rfl⟩ := hp96
          refine J_iload_4 C dX2_readAll_99 ?_
          refine hQ _ _ _ _ dX2_readAll_101 ⟨_, _, _, _, rfl, ?_⟩
          have hfin : readS n b = .ok (s9, k) := by
            rw [← hala9]
            first
            | (have hk : k = 200 := by
                 have := ge_nI (m := 200) (by omega) hc47
                 omega
               subst hk
               rfl)
            | exact absurd hc84 (Int32.not_lt.mpr hc54)
            | (have hk : k < 200 := lt_nI (m := 200) (by omega) hc47
               have hz : tKn n b (psT n b a9) = 0 := by
                 have ea : a9 = a := nI_inj (by have := hRa9.2.2.1; have := hTk.1; omega) (by have := hTk.1; omega) (by rw [← qg5, ← hRa9.2.2.2.1])
                 rw [ea]
                 exact nI_inj (by have := tKn_le (n := n) (b := b) (p := psT n b a); omega) (by decide) hc66
               rw [show 200 - k = (200 - (k + 1)) + 1 by omega]
               unfold allS
               rw [if_pos hz])
          refine ⟨⟨hA.1.tr ⟨fun _ _ _ => rfl, fun k k1 k2 => hT96 k (by omega) (by omega)⟩, Or.inl ⟨s9, k, hfin, h1, rfl, hOa9, hWa9.keep (fun _ _ _ => rfl) (fun k k1 k2 => hT96 k (by omega) (by omega)), hrow96⟩⟩, rfl, rfl⟩
        · skip
          refine J_bipush C (-10) dX2_readAll_87 bc_m10 ?_
          refine J_aload_0 C dX2_readAll_89 ?_
          refine G2_geti C (n := 206) 6 dX2_readAll_90 fX2_readAll_40 iX2_readAll_2 rfl (hS _ (by decide)) rfl rfl ?_
          refine J_isub C dX2_readAll_93 ?_
          refine hQ _ _ _ _ dX2_readAll_94 ⟨_, _, _, _, rfl, ?_⟩
          obtain ⟨q, e1, e2, e3⟩ := hA.er hc84
          rw [e3]
          exact ⟨⟨hA.1, Or.inr ⟨q, e1, e2, rfl⟩⟩, rfl, rfl⟩
      · skip
        refine J_aload_0 C dX2_readAll_50 ?_
        refine G2_geti C (n := 206) 6 dX2_readAll_51 fX2_readAll_40 iX2_readAll_2 rfl (hS _ (by decide)) rfl rfl ?_
        refine J_if_ge C 80 dX2_readAll_54 (by decide) (fun hc54 => ?_) (fun hc54 => ?_)
        · skip
          refine J_aload_0 C dX2_readAll_80 ?_
          refine G2_geti C (n := 206) 6 dX2_readAll_81 fX2_readAll_40 iX2_readAll_2 rfl (hS _ (by decide)) rfl rfl ?_
          refine J_if_lt C 95 dX2_readAll_84 (by decide) (fun hc84 => ?_) (fun hc84 => ?_)
          · skip
            obtain ⟨s9, a9, hRa9, hWa9, h7a9, hOa9, hala9⟩ := hA.ok hc84
            refine J_aload_3 C dX2_readAll_95 ?_
            refine G_vtv C dX2_readAll_96 (c_X3_settle_13 E (fun k hk => hS k (by omega)) hNN _ _ _ _ s9.1 (s9.2.1 2) (s9.2.1 3) hOa9.1 hWa9.1 (fun t ht => ⟨(hWa9.2.2.2.2.2.2.2.2.2 t ht).2.2.1, (hWa9.2.2.2.2.2.2.2.2.2 t ht).2.2.2⟩) hOa9.2.2.2.1 hOa9.2.2.2.2.1) gX2_readAll_X3_settle rfl dm_X3_settle rfl rfl (hS _ (by decide)) rfl rfl (Nat.le_of_ble_eq_true rfl) (rmOK_b rfl) (fun g96 h96 T96 L96 hp96 => ?_)
            obtain ⟨rfl, hT96, hrow96, rfl, rfl⟩ := hp96
            refine J_iload_4 C dX2_readAll_99 ?_
            refine hQ _ _ _ _ dX2_readAll_101 ⟨_, _, _, _, rfl, ?_⟩
            have hfin : readS n b = .ok (s9, k) := by
              rw [← hala9]
              first
              | (have hk : k = 200 := by
                   have := ge_nI (m := 200) (by omega) hc47
                   omega
                 subst hk
                 rfl)
              | exact absurd hc84 (Int32.not_lt.mpr hc54)
              | (have hk : k < 200 := lt_nI (m := 200) (by omega) hc47
                 have hz : tKn n b (psT n b a9) = 0 := by
                   have ea : a9 = a := nI_inj (by have := hRa9.2.2.1; have := hTk.1; omega) (by have := hTk.1; omega) (by rw [← qg5, ← hRa9.2.2.2.1])
                   rw [ea]
                   exact nI_inj (by have := tKn_le (n := n) (b := b) (p := psT n b a); omega) (by decide) hc66
                 rw [show 200 - k = (200 - (k + 1)) + 1 by omega]
                 unfold allS
                 rw [if_pos hz])
            refine ⟨⟨hA.1.tr ⟨fun _ _ _ => rfl, fun k k1 k2 => hT96 k (by omega) (by omega)⟩, Or.inl ⟨s9, k, hfin, h1, rfl, hOa9, hWa9.keep (fun _ _ _ => rfl) (fun k k1 k2 => hT96 k (by omega) (by omega)), hrow96⟩⟩, rfl, rfl⟩
          · skip
            refine J_bipush C (-10) dX2_readAll_87 bc_m10 ?_
            refine J_aload_0 C dX2_readAll_89 ?_
            refine G2_geti C (n := 206) 6 dX2_readAll_90 fX2_readAll_40 iX2_readAll_2 rfl (hS _ (by decide)) rfl rfl ?_
            refine J_isub C dX2_readAll_93 ?_
            refine hQ _ _ _ _ dX2_readAll_94 ⟨_, _, _, _, rfl, ?_⟩
            obtain ⟨q, e1, e2, e3⟩ := hA.er hc84
            rw [e3]
            exact ⟨⟨hA.1, Or.inr ⟨q, e1, e2, rfl⟩⟩, rfl, rfl⟩
        · skip
          obtain ⟨s, a, hRa, hWa, h7a, hOa, hala⟩ := hA.ok (Int32.not_le.mp hc54)
          obtain ⟨qX, ⟨qm1, qm2, qm3, qm4⟩, qam, qg5, qg6, qf⟩ := hRa
          obtain ⟨q4, q3, q5⟩ := qm4 a qam
          have hRa : RdX g2 T2 n b m a none := ⟨qX, ⟨qm1, qm2, qm3, qm4⟩, qam, qg5, qg6, qf⟩
          refine J_aload_0 C dX2_readAll_57 ?_
          refine G2_getr C (n := 3) 2 dX2_readAll_58 fX2_readAll_9 iX2_readAll_2 rfl (hS _ (by decide)) rfl rfl ?_
          refine J_aload_0 C dX2_readAll_61 ?_
          refine G2_geti C (n := 205) 5 dX2_readAll_62 fX2_readAll_37 iX2_readAll_2 rfl (hS _ (by decide)) rfl rfl ?_
          refine G_iald C a dX2_readAll_65 rfl (hS _ (by decide)) qg5 (by omega) ?_
          rw [q3]
          refine J_if_eq C 80 dX2_readAll_66 (by decide) (fun hc66 => ?_) (fun hc66 => ?_)
          · skip
            refine J_aload_0 C dX2_readAll_80 ?_
            refine G2_geti C (n := 206) 6 dX2_readAll_81 fX2_readAll_40 iX2_readAll_2 rfl (hS _ (by decide)) rfl rfl ?_
            refine J_if_lt C 95 dX2_readAll_84 (by decide) (fun hc84 => ?_) (fun hc84 => ?_)
            · skip
              obtain ⟨s9, a9, hRa9, hWa9, h7a9, hOa9, hala9⟩ := hA.ok hc84
              refine J_aload_3 C dX2_readAll_95 ?_
              refine G_vtv C dX2_readAll_96 (c_X3_settle_13 E (fun k hk => hS k (by omega)) hNN _ _ _ _ s9.1 (s9.2.1 2) (s9.2.1 3) hOa9.1 hWa9.1 (fun t ht => ⟨(hWa9.2.2.2.2.2.2.2.2.2 t ht).2.2.1, (hWa9.2.2.2.2.2.2.2.2.2 t ht).2.2.2⟩) hOa9.2.2.2.1 hOa9.2.2.2.2.1) gX2_readAll_X3_settle rfl dm_X3_settle rfl rfl (hS _ (by decide)) rfl rfl (Nat.le_of_ble_eq_true rfl) (rmOK_b rfl) (fun g96 h96 T96 L96 hp96 => ?_)
              obtain ⟨rfl, hT96, hrow96, rfl, rfl⟩ := hp96
              refine J_iload_4 C dX2_readAll_99 ?_
              refine hQ _ _ _ _ dX2_readAll_101 ⟨_, _, _, _, rfl, ?_⟩
              have hfin : readS n b = .ok (s9, k) := by
                rw [← hala9]
                first
                | (have hk : k = 200 := by
                     have := ge_nI (m := 200) (by omega) hc47
                     omega
                   subst hk
                   rfl)
                | exact absurd hc84 (Int32.not_lt.mpr hc54)
                | (have hk : k < 200 := lt_nI (m := 200) (by omega) hc47
                   have hz : tKn n b (psT n b a9) = 0 := by
                     have ea : a9 = a := nI_inj (by have := hRa9.2.2.1; have := hTk.1; omega) (by have := hTk.1; omega) (by rw [← qg5, ← hRa9.2.2.2.1])
                     rw [ea]
                     exact nI_inj (by have := tKn_le (n := n) (b := b) (p := psT n b a); omega) (by decide) hc66
                   rw [show 200 - k = (200 - (k + 1)) + 1 by omega]
                   unfold allS
                   rw [if_pos hz])
              refine ⟨⟨hA.1.tr ⟨fun _ _ _ => rfl, fun k k1 k2 => hT96 k (by omega) (by omega)⟩, Or.inl ⟨s9, k, hfin, h1, rfl, hOa9, hWa9.keep (fun _ _ _ => rfl) (fun k k1 k2 => hT96 k (by omega) (by omega)), hrow96⟩⟩, rfl, rfl⟩
            · skip
              refine J_bipush C (-10) dX2_readAll_87 bc_m10 ?_
              refine J_aload_0 C dX2_readAll_89 ?_
              refine G2_geti C (n := 206) 6 dX2_readAll_90 fX2_readAll_40 iX2_readAll_2 rfl (hS _ (by decide)) rfl rfl ?_
              refine J_isub C dX2_readAll_93 ?_
              refine hQ _ _ _ _ dX2_readAll_94 ⟨_, _, _, _, rfl, ?_⟩
              obtain ⟨q, e1, e2, e3⟩ := hA.er hc84
              rw [e3]
              exact ⟨⟨hA.1, Or.inr ⟨q, e1, e2, rfl⟩⟩, rfl, rfl⟩
          · skip
            refine J_aload_0 C dX2_readAll_69 ?_
            refine J_aload_3 C dX2_readAll_70 ?_
            refine G_vtv C dX2_readAll_71 (c_X2_readItem E hM0 _ _ _ _ n b m a hRa s hWa hOa h7a) gX2_readAll_X2_readItem rfl dm_X2_readItem rfl rfl (hS _ (by decide)) rfl rfl (Nat.le_of_ble_eq_true rfl) (rmOK_b rfl) (fun g71 h71 T71 L71 hp71 => ?_)
            obtain ⟨hI, rfl, rfl⟩ := hp71
            refine J_iinc_4 C (1) dX2_readAll_74 (by decide) trivial ic_1 ?_
            refine J_goto C 42 dX2_readAll_77 (by decide) ?_
            rw [nI_1]
            have hk : k < 200 := lt_nI (m := 200) (by omega) hc47
            exact ih (k + 1) g71 T71 (by omega) (by omega) (AlI.st hk hA.1 (fun z => hc66 (by rw [z]; rfl)) hala hI)
  exact loop 201 0 g36 T36 (by omega) (by omega) hA0
