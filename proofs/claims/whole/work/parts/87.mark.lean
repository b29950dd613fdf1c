def Adh (h h2 : Nat → Int64) (c : Nat) (n : Int64) : Prop := h2 c = h c + n ∧ ∀ k, k ≠ c → h2 k = h k
theorem Adh.up {h : Nat → Int64} {c : Nat} {n : Int64} : Adh h (vp_updL h c (h c + n)) c n := ⟨by unfold vp_updL; rw [if_pos rfl], fun k hk => by unfold vp_updL; rw [if_neg hk]⟩
theorem Adh.tr {h h1 h2 : Nat → Int64} {c : Nat} {a b : Int64} (n : Int64) (p : Adh h h1 c a) (q : Adh h1 h2 c b) (e : a + b = n) : Adh h h2 c n := ⟨by rw [q.1, p.1, Int64.add_assoc, e], fun k hk => by rw [q.2 k hk, p.2 k hk]⟩
def mkV (ρ : Nat → Nat → Nat) (ic j i : Nat) : Int32 := if i = 0 then nI (ρ 1 j) else if i = 1 then nI (ρ 1 j) + nI (ρ 2 j) else if i = 2 then nI (ρ 1 j) - nI (pcN (ρ 3 j)) else if i = 3 then (nI (ρ 1 j) + nI (ρ 2 j)) * 2 else if i = 4 then nI (ρ 1 j) - nI (pcN (ρ 3 j)) + nI j else nI (ρ 1 j) + nI ic
def mkT (i : Nat) : Int64 := if i = 0 then 1 else if i = 1 then 11 else if i = 2 then 101 else if i = 3 then 1011 else if i = 4 then 10101 else 100001
def markS (m : Nat) (ρ : Nat → Nat → Nat) (ic : Nat) (k t : Int32) : Int32 × Int64 := if (0 ≤ k ∧ k ≤ 5) ∧ 0 ≤ t ∧ t < nI m then (mkV ρ ic (i2n t) (i2n k), mkT (i2n k)) else (-1000000, 0)
theorem sw05 (x : Int32) : x = 0 ∨ x = 1 ∨ x = 2 ∨ x = 3 ∨ x = 4 ∨ x = 5 ∨ (x.toInt < 0 ∨ 5 < x.toInt) := by
  by_cases h : x.toInt < 0 ∨ 5 < x.toInt
  · exact Or.inr (Or.inr (Or.inr (Or.inr (Or.inr (Or.inr h)))))
  · have h2 : x.toInt = 0 ∨ x.toInt = 1 ∨ x.toInt = 2 ∨ x.toInt = 3 ∨ x.toInt = 4 ∨ x.toInt = 5 := by omega
    rcases h2 with e | e | e | e | e | e
    · exact Or.inl (Int32.toInt_inj.mp e)
    · exact Or.inr (Or.inl (Int32.toInt_inj.mp e))
    · exact Or.inr (Or.inr (Or.inl (Int32.toInt_inj.mp e)))
    · exact Or.inr (Or.inr (Or.inr (Or.inl (Int32.toInt_inj.mp e))))
    · exact Or.inr (Or.inr (Or.inr (Or.inr (Or.inl (Int32.toInt_inj.mp e)))))
    · exact Or.inr (Or.inr (Or.inr (Or.inr (Or.inr (Or.inl (Int32.toInt_inj.mp e))))))
theorem markS_in {m : Nat} {ρ : Nat → Nat → Nat} {ic i j : Nat} (hm : m ≤ 7) (hi : i ≤ 5) (hj : j < m) : markS m ρ ic (nI i) (nI j) = (mkV ρ ic j i, mkT i) := by
  unfold markS
  rw [if_pos ⟨⟨nI_pos' (by omega), nI_le hi (by decide)⟩, nI_pos' (by omega), nI_lt hj (by omega)⟩, i2n_nI (by omega), i2n_nI (by omega)]
theorem bts : ∀ x, x < 128 → x ≠ 0 → (x &&& (x - 1)) < x ∧ pcN (x &&& (x - 1)) + 1 = pcN x := by decide +kernel
abbrev rmX5_markThing : Room := { frames := 1, cells := 0, slots := 0, locals := 21 }
theorem fX5_markThing_27 : Cond.fieldLink RX5 27 RX5 (TX5 3).2.1 (TX5 3).2.2.1 ∈ wsX5_markThing := by decide +kernel
theorem fX5_markThing_63 : Cond.fieldLink RX5 63 RX5 (TX5 10).2.1 (TX5 10).2.2.1 ∈ wsX5_markThing := by decide +kernel
theorem fX5_markThing_89 : Cond.fieldLink RX5 89 RX3 (TX3 8).2.1 (TX3 8).2.2.1 ∈ wsX5_markThing := by decide +kernel
theorem iX5_markThing_3 : ∀ x ∈ wsX30, x ∈ wsX5_markThing := by decide +kernel
theorem iX5_markThing_5 : ∀ x ∈ wsX50, x ∈ wsX5_markThing := by decide +kernel
set_option maxRecDepth 100000 in
set_option maxHeartbeats 4000000 in
theorem c_X5_markThing (E : EN) (hM : EM E) (g : Nat → Int32) (h : Nat → Int64) (T : Nat → Nat → Int32) (L : Nat → Nat → Int64) (m : Nat) (ρ : Nat → Nat → Nat) (hR : RvX g T m ρ) (j : Nat) (hj : j < m) (t : Int32) (ht : t = nI j) : GtI E yX5_markThing wsX5_markThing rmX5_markThing [.ref (eA E 0), .int t] g h T L (fun r g2 h2 T2 L2 => (r = nI (ρ 1 j) ∧ Adh h h2 10 1) ∧ g2 = g ∧ T2 = T ∧ L2 = L) := by
  refine CtI_of (cc := cX5_markThing) (nL := 2) RX5 [some (.ref (eA E 0)), some (.int t)] ⟨rfl, rfl⟩ (by decide) rfl rfl (Nat.le_of_ble_eq_true rfl) ⟨0, rfl⟩ hM.2 (fun Y C hQ => ?_)
  have hM0 := hM
  obtain ⟨hS, hNN⟩ := hM
  subst ht
  have hm := hR.1
  have h6 : g (100 * 6 + 0) = nI m := hR.2.1
  have hrow := hR.2.2.2.2.2.1
  have hj1 : (0 : Int32) ≤ nI j ∧ nI j < nI m := ⟨nI_pos' (by omega), nI_lt hj (by omega)⟩
  refine J_aload_0 C dX5_markThing_0 ?_
  refine J_dup C dX5_markThing_1 ?_
  refine G5_getl C (n := 10) 10 dX5_markThing_2 fX5_markThing_63 iX5_markThing_5 rfl (hS _ (by decide)) rfl rfl ?_
  refine J_lconst C (1) dX5_markThing_5 lc_1 ?_
  refine J_ladd C dX5_markThing_6 ?_
  refine G5_putl C (n := 10) 10 dX5_markThing_7 fX5_markThing_63 iX5_markThing_5 rfl (hS _ (by decide)) rfl (tyX5_ok 10 (by decide)) rfl rfl ?_
  refine J_aload_0 C dX5_markThing_10 ?_
  refine G5_getr C (n := 6) 3 dX5_markThing_11 fX5_markThing_27 iX5_markThing_5 rfl (hS _ (by decide)) rfl rfl ?_
  refine J_iload_1 C dX5_markThing_14 ?_
  refine G_vpi C dX5_markThing_15 (c_X3_has E hNN 6 rfl (hS _ (by decide)) (nI j) _ _ _ _) gX5_markThing_X3_has rfl dm_X3_has rfl rfl (hS _ (by decide)) rfl rfl (Nat.le_of_ble_eq_true rfl) (rmOK_b rfl) (fun r15 hr15 => ?_)
  rw [h6, if_pos hj1] at hr15
  subst hr15
  refine J_if_eq C 33 dX5_markThing_18 (by decide) (fun hc => absurd hc (by decide)) (fun hc18 => ?_)
  refine J_aload_0 C dX5_markThing_21 ?_
  refine G5_getr C (n := 6) 3 dX5_markThing_22 fX5_markThing_27 iX5_markThing_5 rfl (hS _ (by decide)) rfl rfl ?_
  refine G3_getr C (n := 8) 8 dX5_markThing_25 fX5_markThing_89 iX5_markThing_3 rfl (hS _ (by decide)) rfl rfl ?_
  refine J_iload_1 C dX5_markThing_28 ?_
  refine G_iald C j dX5_markThing_29 rfl (hS _ (by decide)) rfl (by omega) ?_
  refine J_goto C 34 dX5_markThing_30 (by decide) ?_
  refine hQ _ _ _ _ dX5_markThing_34 ⟨_, _, _, _, rfl, ?_⟩
  exact ⟨⟨(hrow j hj).2.1, Adh.up⟩, rfl, rfl, rfl⟩
abbrev rmX5_markCow : Room := { frames := 2, cells := 0, slots := 0, locals := 42 }
theorem kcX5_markCow_203 : Cond.constantLong RX5 203 (10) ∈ wsX5_markCow := by decide +kernel
theorem fX5_markCow_27 : Cond.fieldLink RX5 27 RX5 (TX5 3).2.1 (TX5 3).2.2.1 ∈ wsX5_markCow := by decide +kernel
theorem fX5_markCow_63 : Cond.fieldLink RX5 63 RX5 (TX5 10).2.1 (TX5 10).2.2.1 ∈ wsX5_markCow := by decide +kernel
theorem fX5_markCow_92 : Cond.fieldLink RX5 92 RX3 (TX3 9).2.1 (TX3 9).2.2.1 ∈ wsX5_markCow := by decide +kernel
theorem iX5_markCow_3 : ∀ x ∈ wsX30, x ∈ wsX5_markCow := by decide +kernel
theorem iX5_markCow_5 : ∀ x ∈ wsX50, x ∈ wsX5_markCow := by decide +kernel
theorem dm_X5_markThing : yX5_markThing.cls = RX5 ∧ yX5_markThing.cls ≠ "java/lang/invoke/MethodHandle" ∧ yX5_markThing.cls ≠ "java/lang/invoke/VarHandle" ∧ (parseMethodDescriptor yX5_markThing.desc).map (fun d => d.parameters.length) = some 1 := by decide +kernel
set_option maxRecDepth 100000 in
set_option maxHeartbeats 4000000 in
theorem c_X5_markCow (E : EN) (hM : EM E) (g : Nat → Int32) (h : Nat → Int64) (T : Nat → Nat → Int32) (L : Nat → Nat → Int64) (m : Nat) (ρ : Nat → Nat → Nat) (hR : RvX g T m ρ) (j : Nat) (hj : j < m) (t : Int32) (ht : t = nI j) : GtI E yX5_markCow wsX5_markCow rmX5_markCow [.ref (eA E 0), .int t] g h T L (fun r g2 h2 T2 L2 => (r = nI (ρ 1 j) + nI (ρ 2 j) ∧ Adh h h2 10 11) ∧ g2 = g ∧ T2 = T ∧ L2 = L) := by
  refine CtI_of (cc := cX5_markCow) (nL := 2) RX5 [some (.ref (eA E 0)), some (.int t)] ⟨rfl, rfl⟩ (by decide) rfl rfl (Nat.le_of_ble_eq_true rfl) ⟨0, rfl⟩ hM.2 (fun Y C hQ => ?_)
  have hM0 := hM
  obtain ⟨hS, hNN⟩ := hM
  subst ht
  have hm := hR.1
  have h6 : g (100 * 6 + 0) = nI m := hR.2.1
  have hrow := hR.2.2.2.2.2.1
  have hj1 : (0 : Int32) ≤ nI j ∧ nI j < nI m := ⟨nI_pos' (by omega), nI_lt hj (by omega)⟩
  refine J_aload_0 C dX5_markCow_0 ?_
  refine J_dup C dX5_markCow_1 ?_
  refine G5_getl C (n := 10) 10 dX5_markCow_2 fX5_markCow_63 iX5_markCow_5 rfl (hS _ (by decide)) rfl rfl ?_
  refine J_ldc2 C kcX5_markCow_203 dX5_markCow_5 ?_
  refine J_ladd C dX5_markCow_8 ?_
  refine G5_putl C (n := 10) 10 dX5_markCow_9 fX5_markCow_63 iX5_markCow_5 rfl (hS _ (by decide)) rfl (tyX5_ok 10 (by decide)) rfl rfl ?_
  refine J_aload_0 C dX5_markCow_12 ?_
  refine J_iload_1 C dX5_markCow_13 ?_
  refine G_vti C dX5_markCow_14 (c_X5_markThing E hM0 _ _ _ _ m ρ hR j hj (nI j) rfl) gX5_markCow_X5_markThing rfl dm_X5_markThing rfl rfl (hS _ (by decide)) rfl rfl (Nat.le_of_ble_eq_true rfl) (rmOK_b rfl) (fun r14 g14 h14 T14 L14 hp14 => ?_)
  obtain ⟨⟨rfl, hA14⟩, rfl, rfl, rfl⟩ := hp14
  refine J_aload_0 C dX5_markCow_17 ?_
  refine G5_getr C (n := 6) 3 dX5_markCow_18 fX5_markCow_27 iX5_markCow_5 rfl (hS _ (by decide)) rfl rfl ?_
  refine J_iload_1 C dX5_markCow_21 ?_
  refine G_vpi C dX5_markCow_22 (c_X3_has E hNN 6 rfl (hS _ (by decide)) (nI j) _ _ _ _) gX5_markCow_X3_has rfl dm_X3_has rfl rfl (hS _ (by decide)) rfl rfl (Nat.le_of_ble_eq_true rfl) (rmOK_b rfl) (fun r22 hr22 => ?_)
  rw [h6, if_pos hj1] at hr22
  subst hr22
  refine J_if_eq C 40 dX5_markCow_25 (by decide) (fun hc => absurd hc (by decide)) (fun hc25 => ?_)
  refine J_aload_0 C dX5_markCow_28 ?_
  refine G5_getr C (n := 6) 3 dX5_markCow_29 fX5_markCow_27 iX5_markCow_5 rfl (hS _ (by decide)) rfl rfl ?_
  refine G3_getr C (n := 9) 9 dX5_markCow_32 fX5_markCow_92 iX5_markCow_3 rfl (hS _ (by decide)) rfl rfl ?_
  refine J_iload_1 C dX5_markCow_35 ?_
  refine G_iald C j dX5_markCow_36 rfl (hS _ (by decide)) rfl (by omega) ?_
  refine J_top (y := nI (ρ 2 j)) (hrow j hj).2.2.1 ?_
  refine J_goto C 41 dX5_markCow_37 (by decide) ?_
  refine J_iadd C dX5_markCow_41 ?_
  refine hQ _ _ _ _ dX5_markCow_42 ⟨_, _, _, _, rfl, ?_⟩
  exact ⟨⟨rfl, Adh.up.tr 11 hA14 (by decide)⟩, rfl, rfl, rfl⟩
abbrev rmX5_markBride : Room := { frames := 2, cells := 0, slots := 0, locals := 42 }
theorem kcX5_markBride_223 : Cond.constantLong RX5 223 (100) ∈ wsX5_markBride := by decide +kernel
theorem fX5_markBride_27 : Cond.fieldLink RX5 27 RX5 (TX5 3).2.1 (TX5 3).2.2.1 ∈ wsX5_markBride := by decide +kernel
theorem fX5_markBride_63 : Cond.fieldLink RX5 63 RX5 (TX5 10).2.1 (TX5 10).2.2.1 ∈ wsX5_markBride := by decide +kernel
theorem fX5_markBride_95 : Cond.fieldLink RX5 95 RX3 (TX3 10).2.1 (TX3 10).2.2.1 ∈ wsX5_markBride := by decide +kernel
theorem iX5_markBride_3 : ∀ x ∈ wsX30, x ∈ wsX5_markBride := by decide +kernel
theorem iX5_markBride_5 : ∀ x ∈ wsX50, x ∈ wsX5_markBride := by decide +kernel
set_option maxRecDepth 100000 in
set_option maxHeartbeats 4000000 in
theorem c_X5_markBride (E : EN) (hM : EM E) (g : Nat → Int32) (h : Nat → Int64) (T : Nat → Nat → Int32) (L : Nat → Nat → Int64) (m : Nat) (ρ : Nat → Nat → Nat) (hR : RvX g T m ρ) (j : Nat) (hj : j < m) (t : Int32) (ht : t = nI j) : GtI E yX5_markBride wsX5_markBride rmX5_markBride [.ref (eA E 0), .int t] g h T L (fun r g2 h2 T2 L2 => (r = nI (ρ 1 j) - nI (pcN (ρ 3 j)) ∧ Adh h h2 10 101) ∧ g2 = g ∧ T2 = T ∧ L2 = L) := by
  refine CtI_of (cc := cX5_markBride) (nL := 2) RX5 [some (.ref (eA E 0)), some (.int t)] ⟨rfl, rfl⟩ (by decide) rfl rfl (Nat.le_of_ble_eq_true rfl) ⟨0, rfl⟩ hM.2 (fun Y C hQ => ?_)
  have hM0 := hM
  obtain ⟨hS, hNN⟩ := hM
  subst ht
  have hm := hR.1
  have h6 : g (100 * 6 + 0) = nI m := hR.2.1
  have hrow := hR.2.2.2.2.2.1
  have hj1 : (0 : Int32) ≤ nI j ∧ nI j < nI m := ⟨nI_pos' (by omega), nI_lt hj (by omega)⟩
  refine J_aload_0 C dX5_markBride_0 ?_
  refine J_dup C dX5_markBride_1 ?_
  refine G5_getl C (n := 10) 10 dX5_markBride_2 fX5_markBride_63 iX5_markBride_5 rfl (hS _ (by decide)) rfl rfl ?_
  refine J_ldc2 C kcX5_markBride_223 dX5_markBride_5 ?_
  refine J_ladd C dX5_markBride_8 ?_
  refine G5_putl C (n := 10) 10 dX5_markBride_9 fX5_markBride_63 iX5_markBride_5 rfl (hS _ (by decide)) rfl (tyX5_ok 10 (by decide)) rfl rfl ?_
  refine J_aload_0 C dX5_markBride_12 ?_
  refine J_iload_1 C dX5_markBride_13 ?_
  refine G_vti C dX5_markBride_14 (c_X5_markThing E hM0 _ _ _ _ m ρ hR j hj (nI j) rfl) gX5_markBride_X5_markThing rfl dm_X5_markThing rfl rfl (hS _ (by decide)) rfl rfl (Nat.le_of_ble_eq_true rfl) (rmOK_b rfl) (fun r14 g14 h14 T14 L14 hp14 => ?_)
  obtain ⟨⟨rfl, hA14⟩, rfl, rfl, rfl⟩ := hp14
  refine J_aload_0 C dX5_markBride_17 ?_
  refine G5_getr C (n := 6) 3 dX5_markBride_18 fX5_markBride_27 iX5_markBride_5 rfl (hS _ (by decide)) rfl rfl ?_
  refine J_iload_1 C dX5_markBride_21 ?_
  refine G_vpi C dX5_markBride_22 (c_X3_has E hNN 6 rfl (hS _ (by decide)) (nI j) _ _ _ _) gX5_markBride_X3_has rfl dm_X3_has rfl rfl (hS _ (by decide)) rfl rfl (Nat.le_of_ble_eq_true rfl) (rmOK_b rfl) (fun r22 hr22 => ?_)
  rw [h6, if_pos hj1] at hr22
  subst hr22
  refine J_if_eq C 43 dX5_markBride_25 (by decide) (fun hc => absurd hc (by decide)) (fun hc25 => ?_)
  refine J_aload_0 C dX5_markBride_28 ?_
  refine G5_getr C (n := 6) 3 dX5_markBride_29 fX5_markBride_27 iX5_markBride_5 rfl (hS _ (by decide)) rfl rfl ?_
  refine G3_getr C (n := 10) 10 dX5_markBride_32 fX5_markBride_95 iX5_markBride_3 rfl (hS _ (by decide)) rfl rfl ?_
  refine J_iload_1 C dX5_markBride_35 ?_
  refine G_iald C j dX5_markBride_36 rfl (hS _ (by decide)) rfl (by omega) ?_
  have hf : ρ 3 j < 128 := by
    have := (hR.2.2.2.2.2.2.2.2 j hj).2.2.2.2
    have := p7 hm
    omega
  refine J_top (y := nI (ρ 3 j)) (hrow j hj).2.2.2 ?_
  refine G_spi C dX5_markBride_37 (c_bitCount E hM0 (nI (ρ 3 j)) _ _ _ _) gX5_markBride_J6_bitCount_0f7a4 rfl dm_J6_bitCount_0f7a4 rfl rfl (Nat.le_of_ble_eq_true rfl) (rmOK_b rfl) (fun r37 hr37 => ?_)
  subst hr37
  refine J_top (y := nI (pcN (ρ 3 j))) (bc_ok _ hf) ?_
  refine J_goto C 44 dX5_markBride_40 (by decide) ?_
  refine J_isub C dX5_markBride_44 ?_
  refine hQ _ _ _ _ dX5_markBride_45 ⟨_, _, _, _, rfl, ?_⟩
  exact ⟨⟨rfl, Adh.up.tr 101 hA14 (by decide)⟩, rfl, rfl, rfl⟩
abbrev rmX5_markTwin : Room := { frames := 3, cells := 0, slots := 0, locals := 63 }
theorem kcX5_markTwin_230 : Cond.constantLong RX5 230 (1000) ∈ wsX5_markTwin := by decide +kernel
theorem fX5_markTwin_63 : Cond.fieldLink RX5 63 RX5 (TX5 10).2.1 (TX5 10).2.2.1 ∈ wsX5_markTwin := by decide +kernel
theorem iX5_markTwin_5 : ∀ x ∈ wsX50, x ∈ wsX5_markTwin := by decide +kernel
theorem dm_X5_markCow : yX5_markCow.cls = RX5 ∧ yX5_markCow.cls ≠ "java/lang/invoke/MethodHandle" ∧ yX5_markCow.cls ≠ "java/lang/invoke/VarHandle" ∧ (parseMethodDescriptor yX5_markCow.desc).map (fun d => d.parameters.length) = some 1 := by decide +kernel
set_option maxRecDepth 100000 in
set_option maxHeartbeats 4000000 in
theorem c_X5_markTwin (E : EN) (hM : EM E) (g : Nat → Int32) (h : Nat → Int64) (T : Nat → Nat → Int32) (L : Nat → Nat → Int64) (m : Nat) (ρ : Nat → Nat → Nat) (hR : RvX g T m ρ) (j : Nat) (hj : j < m) (t : Int32) (ht : t = nI j) : GtI E yX5_markTwin wsX5_markTwin rmX5_markTwin [.ref (eA E 0), .int t] g h T L (fun r g2 h2 T2 L2 => (r = (nI (ρ 1 j) + nI (ρ 2 j)) * 2 ∧ Adh h h2 10 1011) ∧ g2 = g ∧ T2 = T ∧ L2 = L) := by
  refine CtI_of (cc := cX5_markTwin) (nL := 2) RX5 [some (.ref (eA E 0)), some (.int t)] ⟨rfl, rfl⟩ (by decide) rfl rfl (Nat.le_of_ble_eq_true rfl) ⟨0, rfl⟩ hM.2 (fun Y C hQ => ?_)
  have hM0 := hM
  obtain ⟨hS, hNN⟩ := hM
  subst ht
  have hm := hR.1
  have h6 : g (100 * 6 + 0) = nI m := hR.2.1
  have hrow := hR.2.2.2.2.2.1
  have hj1 : (0 : Int32) ≤ nI j ∧ nI j < nI m := ⟨nI_pos' (by omega), nI_lt hj (by omega)⟩
  refine J_aload_0 C dX5_markTwin_0 ?_
  refine J_dup C dX5_markTwin_1 ?_
  refine G5_getl C (n := 10) 10 dX5_markTwin_2 fX5_markTwin_63 iX5_markTwin_5 rfl (hS _ (by decide)) rfl rfl ?_
  refine J_ldc2 C kcX5_markTwin_230 dX5_markTwin_5 ?_
  refine J_ladd C dX5_markTwin_8 ?_
  refine G5_putl C (n := 10) 10 dX5_markTwin_9 fX5_markTwin_63 iX5_markTwin_5 rfl (hS _ (by decide)) rfl (tyX5_ok 10 (by decide)) rfl rfl ?_
  refine J_aload_0 C dX5_markTwin_12 ?_
  refine J_iload_1 C dX5_markTwin_13 ?_
  refine G_vti C dX5_markTwin_14 (c_X5_markCow E hM0 _ _ _ _ m ρ hR j hj (nI j) rfl) gX5_markTwin_X5_markCow rfl dm_X5_markCow rfl rfl (hS _ (by decide)) rfl rfl (Nat.le_of_ble_eq_true rfl) (rmOK_b rfl) (fun r14 g14 h14 T14 L14 hp14 => ?_)
  obtain ⟨⟨rfl, hA14⟩, rfl, rfl, rfl⟩ := hp14
  refine J_iconst C (2) dX5_markTwin_17 ic_2 ?_
  refine J_imul C dX5_markTwin_18 ?_
  refine hQ _ _ _ _ dX5_markTwin_19 ⟨_, _, _, _, rfl, ?_⟩
  exact ⟨⟨rfl, Adh.up.tr 1011 hA14 (by decide)⟩, rfl, rfl, rfl⟩
abbrev rmX5_markBishop : Room := { frames := 3, cells := 0, slots := 0, locals := 63 }
theorem kcX5_markBishop_232 : Cond.constantLong RX5 232 (10000) ∈ wsX5_markBishop := by decide +kernel
theorem fX5_markBishop_63 : Cond.fieldLink RX5 63 RX5 (TX5 10).2.1 (TX5 10).2.2.1 ∈ wsX5_markBishop := by decide +kernel
theorem iX5_markBishop_5 : ∀ x ∈ wsX50, x ∈ wsX5_markBishop := by decide +kernel
theorem dm_X5_markBride : yX5_markBride.cls = RX5 ∧ yX5_markBride.cls ≠ "java/lang/invoke/MethodHandle" ∧ yX5_markBride.cls ≠ "java/lang/invoke/VarHandle" ∧ (parseMethodDescriptor yX5_markBride.desc).map (fun d => d.parameters.length) = some 1 := by decide +kernel
set_option maxRecDepth 100000 in
set_option maxHeartbeats 4000000 in
theorem c_X5_markBishop (E : EN) (hM : EM E) (g : Nat → Int32) (h : Nat → Int64) (T : Nat → Nat → Int32) (L : Nat → Nat → Int64) (m : Nat) (ρ : Nat → Nat → Nat) (hR : RvX g T m ρ) (j : Nat) (hj : j < m) (t : Int32) (ht : t = nI j) : GtI E yX5_markBishop wsX5_markBishop rmX5_markBishop [.ref (eA E 0), .int t] g h T L (fun r g2 h2 T2 L2 => (r = nI (ρ 1 j) - nI (pcN (ρ 3 j)) + nI j ∧ Adh h h2 10 10101) ∧ g2 = g ∧ T2 = T ∧ L2 = L) := by
  refine CtI_of (cc := cX5_markBishop) (nL := 2) RX5 [some (.ref (eA E 0)), some (.int t)] ⟨rfl, rfl⟩ (by decide) rfl rfl (Nat.le_of_ble_eq_true rfl) ⟨0, rfl⟩ hM.2 (fun Y C hQ => ?_)
  have hM0 := hM
  obtain ⟨hS, hNN⟩ := hM
  subst ht
  have hm := hR.1
  have h6 : g (100 * 6 + 0) = nI m := hR.2.1
  have hrow := hR.2.2.2.2.2.1
  have hj1 : (0 : Int32) ≤ nI j ∧ nI j < nI m := ⟨nI_pos' (by omega), nI_lt hj (by omega)⟩
  refine J_aload_0 C dX5_markBishop_0 ?_
  refine J_dup C dX5_markBishop_1 ?_
  refine G5_getl C (n := 10) 10 dX5_markBishop_2 fX5_markBishop_63 iX5_markBishop_5 rfl (hS _ (by decide)) rfl rfl ?_
  refine J_ldc2 C kcX5_markBishop_232 dX5_markBishop_5 ?_
  refine J_ladd C dX5_markBishop_8 ?_
  refine G5_putl C (n := 10) 10 dX5_markBishop_9 fX5_markBishop_63 iX5_markBishop_5 rfl (hS _ (by decide)) rfl (tyX5_ok 10 (by decide)) rfl rfl ?_
  refine J_aload_0 C dX5_markBishop_12 ?_
  refine J_iload_1 C dX5_markBishop_13 ?_
  refine G_vti C dX5_markBishop_14 (c_X5_markBride E hM0 _ _ _ _ m ρ hR j hj (nI j) rfl) gX5_markBishop_X5_markBride rfl dm_X5_markBride rfl rfl (hS _ (by decide)) rfl rfl (Nat.le_of_ble_eq_true rfl) (rmOK_b rfl) (fun r14 g14 h14 T14 L14 hp14 => ?_)
  obtain ⟨⟨rfl, hA14⟩, rfl, rfl, rfl⟩ := hp14
  refine J_iload_1 C dX5_markBishop_17 ?_
  refine J_iadd C dX5_markBishop_18 ?_
  refine hQ _ _ _ _ dX5_markBishop_19 ⟨_, _, _, _, rfl, ?_⟩
  exact ⟨⟨rfl, Adh.up.tr 10101 hA14 (by decide)⟩, rfl, rfl, rfl⟩
abbrev rmX5_markBoot : Room := { frames := 2, cells := 0, slots := 0, locals := 42 }
theorem kcX5_markBoot_234 : Cond.constantLong RX5 234 (100000) ∈ wsX5_markBoot := by decide +kernel
theorem fX5_markBoot_110 : Cond.fieldLink RX5 110 RX0 (TX0 2).2.1 (TX0 2).2.2.1 ∈ wsX5_markBoot := by decide +kernel
theorem fX5_markBoot_37 : Cond.fieldLink RX5 37 RX5 (TX5 5).2.1 (TX5 5).2.2.1 ∈ wsX5_markBoot := by decide +kernel
theorem fX5_markBoot_63 : Cond.fieldLink RX5 63 RX5 (TX5 10).2.1 (TX5 10).2.2.1 ∈ wsX5_markBoot := by decide +kernel
theorem iX5_markBoot_0 : ∀ x ∈ wsX00, x ∈ wsX5_markBoot := by decide +kernel
theorem iX5_markBoot_5 : ∀ x ∈ wsX50, x ∈ wsX5_markBoot := by decide +kernel
set_option maxRecDepth 100000 in
set_option maxHeartbeats 4000000 in
theorem c_X5_markBoot (E : EN) (hM : EM E) (g : Nat → Int32) (h : Nat → Int64) (T : Nat → Nat → Int32) (L : Nat → Nat → Int64) (m : Nat) (ρ : Nat → Nat → Nat) (hR : RvX g T m ρ) (j : Nat) (hj : j < m) (t : Int32) (ht : t = nI j) : GtI E yX5_markBoot wsX5_markBoot rmX5_markBoot [.ref (eA E 0), .int t] g h T L (fun r g2 h2 T2 L2 => (r = nI (ρ 1 j) + g 2002 ∧ Adh h h2 10 100001) ∧ g2 = g ∧ T2 = T ∧ L2 = L) := by
  refine CtI_of (cc := cX5_markBoot) (nL := 2) RX5 [some (.ref (eA E 0)), some (.int t)] ⟨rfl, rfl⟩ (by decide) rfl rfl (Nat.le_of_ble_eq_true rfl) ⟨0, rfl⟩ hM.2 (fun Y C hQ => ?_)
  have hM0 := hM
  obtain ⟨hS, hNN⟩ := hM
  subst ht
  have hm := hR.1
  have h6 : g (100 * 6 + 0) = nI m := hR.2.1
  have hrow := hR.2.2.2.2.2.1
  have hj1 : (0 : Int32) ≤ nI j ∧ nI j < nI m := ⟨nI_pos' (by omega), nI_lt hj (by omega)⟩
  refine J_aload_0 C dX5_markBoot_0 ?_
  refine J_dup C dX5_markBoot_1 ?_
  refine G5_getl C (n := 10) 10 dX5_markBoot_2 fX5_markBoot_63 iX5_markBoot_5 rfl (hS _ (by decide)) rfl rfl ?_
  refine J_ldc2 C kcX5_markBoot_234 dX5_markBoot_5 ?_
  refine J_ladd C dX5_markBoot_8 ?_
  refine G5_putl C (n := 10) 10 dX5_markBoot_9 fX5_markBoot_63 iX5_markBoot_5 rfl (hS _ (by decide)) rfl (tyX5_ok 10 (by decide)) rfl rfl ?_
  refine J_aload_0 C dX5_markBoot_12 ?_
  refine J_iload_1 C dX5_markBoot_13 ?_
  refine G_vti C dX5_markBoot_14 (c_X5_markThing E hM0 _ _ _ _ m ρ hR j hj (nI j) rfl) gX5_markBoot_X5_markThing rfl dm_X5_markThing rfl rfl (hS _ (by decide)) rfl rfl (Nat.le_of_ble_eq_true rfl) (rmOK_b rfl) (fun r14 g14 h14 T14 L14 hp14 => ?_)
  obtain ⟨⟨rfl, hA14⟩, rfl, rfl, rfl⟩ := hp14
  refine J_aload_0 C dX5_markBoot_17 ?_
  refine G5_getr C (n := 20) 5 dX5_markBoot_18 fX5_markBoot_37 iX5_markBoot_5 rfl (hS _ (by decide)) rfl rfl ?_
  refine G0_geti C (n := 2002) 2 dX5_markBoot_21 fX5_markBoot_110 iX5_markBoot_0 rfl (hS _ (by decide)) rfl rfl ?_
  refine J_iadd C dX5_markBoot_24 ?_
  refine hQ _ _ _ _ dX5_markBoot_25 ⟨_, _, _, _, rfl, ?_⟩
  exact ⟨⟨rfl, Adh.up.tr 100001 hA14 (by decide)⟩, rfl, rfl, rfl⟩
abbrev rmX5_mark : Room := { frames := 4, cells := 0, slots := 0, locals := 84 }
theorem kcX5_mark_178 : Cond.constant RX5 178 (-1000000) ∈ wsX5_mark := by decide +kernel
theorem fX5_mark_27 : Cond.fieldLink RX5 27 RX5 (TX5 3).2.1 (TX5 3).2.2.1 ∈ wsX5_mark := by decide +kernel
theorem iX5_mark_5 : ∀ x ∈ wsX50, x ∈ wsX5_mark := by decide +kernel
theorem dm_X5_markBishop : yX5_markBishop.cls = RX5 ∧ yX5_markBishop.cls ≠ "java/lang/invoke/MethodHandle" ∧ yX5_markBishop.cls ≠ "java/lang/invoke/VarHandle" ∧ (parseMethodDescriptor yX5_markBishop.desc).map (fun d => d.parameters.length) = some 1 := by decide +kernel
theorem dm_X5_markBoot : yX5_markBoot.cls = RX5 ∧ yX5_markBoot.cls ≠ "java/lang/invoke/MethodHandle" ∧ yX5_markBoot.cls ≠ "java/lang/invoke/VarHandle" ∧ (parseMethodDescriptor yX5_markBoot.desc).map (fun d => d.parameters.length) = some 1 := by decide +kernel
theorem dm_X5_markTwin : yX5_markTwin.cls = RX5 ∧ yX5_markTwin.cls ≠ "java/lang/invoke/MethodHandle" ∧ yX5_markTwin.cls ≠ "java/lang/invoke/VarHandle" ∧ (parseMethodDescriptor yX5_markTwin.desc).map (fun d => d.parameters.length) = some 1 := by decide +kernel
set_option maxRecDepth 100000 in
set_option maxHeartbeats 4000000 in
theorem c_X5_mark (E : EN) (hM : EM E) (g : Nat → Int32) (h : Nat → Int64) (T : Nat → Nat → Int32) (L : Nat → Nat → Int64) (m : Nat) (ρ : Nat → Nat → Nat) (hR : RvX g T m ρ) (ic : Nat) (hic : g 2002 = nI ic) (k t : Int32) : GtI E yX5_mark wsX5_mark rmX5_mark [.ref (eA E 0), .int k, .int t] g h T L (fun r g2 h2 T2 L2 => (r = (markS m ρ ic k t).1 ∧ Adh h h2 10 (markS m ρ ic k t).2) ∧ g2 = g ∧ T2 = T ∧ L2 = L) := by
  refine CtI_of (cc := cX5_mark) (nL := 3) RX5 [some (.ref (eA E 0)), some (.int k), some (.int t)] ⟨rfl, rfl⟩ (by decide) rfl rfl (Nat.le_of_ble_eq_true rfl) ⟨0, rfl⟩ hM.2 (fun Y C hQ => ?_)
  have hM0 := hM
  obtain ⟨hS, hNN⟩ := hM
  have hm := hR.1
  have h6 : g (100 * 6 + 0) = nI m := hR.2.1
  have hA0 : Adh h h 10 0 := ⟨(Int64.add_zero _).symm, fun _ _ => rfl⟩
  refine J_aload_0 C dX5_mark_0 ?_
  refine G5_getr C (n := 6) 3 dX5_mark_1 fX5_mark_27 iX5_mark_5 rfl (hS _ (by decide)) rfl rfl ?_
  refine J_iload_2 C dX5_mark_4 ?_
  refine G_vpi C dX5_mark_5 (c_X3_has E hNN 6 rfl (hS _ (by decide)) t g h T L) gX5_mark_X3_has rfl dm_X3_has rfl rfl (hS _ (by decide)) rfl rfl (Nat.le_of_ble_eq_true rfl) (rmOK_b rfl) (fun r5 hr5 => ?_)
  subst hr5
  refine J_if_ne C 14 dX5_mark_8 (by decide) (fun hc8 => ?_) (fun hc8 => ?_)
  · skip
    obtain ⟨j, rfl, hj⟩ := t_in (t := t) (m := m) hm (Decidable.byContradiction fun z => by rw [h6] at hc8; rw [if_neg z] at hc8; exact hc8 rfl)
    refine J_iload_1 C dX5_mark_14 ?_
    rcases (sw05 k) with hsw15 | hsw15 | hsw15 | hsw15 | hsw15 | hsw15 | hsw15
    · skip
      subst hsw15
      refine J_tin C 52 dX5_mark_15 (by decide) (by decide) rfl (by decide) ?_
      refine J_aload_0 C dX5_mark_52 ?_
      refine J_iload_2 C dX5_mark_53 ?_
      refine G_vti C dX5_mark_54 (c_X5_markThing E hM0 _ _ _ _ m ρ hR j hj (nI j) rfl) gX5_mark_X5_markThing rfl dm_X5_markThing rfl rfl (hS _ (by decide)) rfl rfl (Nat.le_of_ble_eq_true rfl) (rmOK_b rfl) (fun r54 g54 h54 T54 L54 hp54 => ?_)
      obtain ⟨⟨rfl, hA54⟩, rfl, rfl, rfl⟩ := hp54
      refine hQ _ _ _ _ dX5_mark_57 ⟨_, _, _, _, rfl, ?_⟩
      rw [show (0 : Int32) = nI 0 by decide, markS_in hm (by decide) hj]
      exact ⟨⟨rfl, hA54⟩, rfl, rfl, rfl⟩
    · skip
      subst hsw15
      refine J_tin C 58 dX5_mark_15 (by decide) (by decide) rfl (by decide) ?_
      refine J_aload_0 C dX5_mark_58 ?_
      refine J_iload_2 C dX5_mark_59 ?_
      refine G_vti C dX5_mark_60 (c_X5_markCow E hM0 _ _ _ _ m ρ hR j hj (nI j) rfl) gX5_mark_X5_markCow rfl dm_X5_markCow rfl rfl (hS _ (by decide)) rfl rfl (Nat.le_of_ble_eq_true rfl) (rmOK_b rfl) (fun r60 g60 h60 T60 L60 hp60 => ?_)
      obtain ⟨⟨rfl, hA60⟩, rfl, rfl, rfl⟩ := hp60
      refine hQ _ _ _ _ dX5_mark_63 ⟨_, _, _, _, rfl, ?_⟩
      rw [show (1 : Int32) = nI 1 by decide, markS_in hm (by decide) hj]
      exact ⟨⟨rfl, hA60⟩, rfl, rfl, rfl⟩
    · skip
      subst hsw15
      refine J_tin C 64 dX5_mark_15 (by decide) (by decide) rfl (by decide) ?_
      refine J_aload_0 C dX5_mark_64 ?_
      refine J_iload_2 C dX5_mark_65 ?_
      refine G_vti C dX5_mark_66 (c_X5_markBride E hM0 _ _ _ _ m ρ hR j hj (nI j) rfl) gX5_mark_X5_markBride rfl dm_X5_markBride rfl rfl (hS _ (by decide)) rfl rfl (Nat.le_of_ble_eq_true rfl) (rmOK_b rfl) (fun r66 g66 h66 T66 L66 hp66 => ?_)
      obtain ⟨⟨rfl, hA66⟩, rfl, rfl, rfl⟩ := hp66
      refine hQ _ _ _ _ dX5_mark_69 ⟨_, _, _, _, rfl, ?_⟩
      rw [show (2 : Int32) = nI 2 by decide, markS_in hm (by decide) hj]
      exact ⟨⟨rfl, hA66⟩, rfl, rfl, rfl⟩
    · skip
      subst hsw15
      refine J_tin C 70 dX5_mark_15 (by decide) (by decide) rfl (by decide) ?_
      refine J_aload_0 C dX5_mark_70 ?_
      refine J_iload_2 C dX5_mark_71 ?_
      refine G_vti C dX5_mark_72 (c_X5_markTwin E hM0 _ _ _ _ m ρ hR j hj (nI j) rfl) gX5_mark_X5_markTwin rfl dm_X5_markTwin rfl rfl (hS _ (by decide)) rfl rfl (Nat.le_of_ble_eq_true rfl) (rmOK_b rfl) (fun r72 g72 h72 T72 L72 hp72 => ?_)
      obtain ⟨⟨rfl, hA72⟩, rfl, rfl, rfl⟩ := hp72
      refine hQ _ _ _ _ dX5_mark_75 ⟨_, _, _, _, rfl, ?_⟩
      rw [show (3 : Int32) = nI 3 by decide, markS_in hm (by decide) hj]
      exact ⟨⟨rfl, hA72⟩, rfl, rfl, rfl⟩
    · skip
      subst hsw15
      refine J_tin C 76 dX5_mark_15 (by decide) (by decide) rfl (by decide) ?_
      refine J_aload_0 C dX5_mark_76 ?_
      refine J_iload_2 C dX5_mark_77 ?_
      refine G_vti C dX5_mark_78 (c_X5_markBishop E hM0 _ _ _ _ m ρ hR j hj (nI j) rfl) gX5_mark_X5_markBishop rfl dm_X5_markBishop rfl rfl (hS _ (by decide)) rfl rfl (Nat.le_of_ble_eq_true rfl) (rmOK_b rfl) (fun r78 g78 h78 T78 L78 hp78 => ?_)
      obtain ⟨⟨rfl, hA78⟩, rfl, rfl, rfl⟩ := hp78
      refine hQ _ _ _ _ dX5_mark_81 ⟨_, _, _, _, rfl, ?_⟩
      rw [show (4 : Int32) = nI 4 by decide, markS_in hm (by decide) hj]
      exact ⟨⟨rfl, hA78⟩, rfl, rfl, rfl⟩
    · skip
      subst hsw15
      refine J_tin C 82 dX5_mark_15 (by decide) (by decide) rfl (by decide) ?_
      refine J_aload_0 C dX5_mark_82 ?_
      refine J_iload_2 C dX5_mark_83 ?_
      refine G_vti C dX5_mark_84 (c_X5_markBoot E hM0 _ _ _ _ m ρ hR j hj (nI j) rfl) gX5_mark_X5_markBoot rfl dm_X5_markBoot rfl rfl (hS _ (by decide)) rfl rfl (Nat.le_of_ble_eq_true rfl) (rmOK_b rfl) (fun r84 g84 h84 T84 L84 hp84 => ?_)
      obtain ⟨⟨rfl, hA84⟩, rfl, rfl, rfl⟩ := hp84
      refine hQ _ _ _ _ dX5_mark_87 ⟨_, _, _, _, rfl, ?_⟩
      rw [show (5 : Int32) = nI 5 by decide, markS_in hm (by decide) hj]
      exact ⟨⟨by rw [hic]; rfl, hA84⟩, rfl, rfl, rfl⟩
    · skip
      refine J_tout C 88 dX5_mark_15 hsw15 (by decide) ?_
      refine J_ldc C kcX5_mark_178 dX5_mark_88 ?_
      refine hQ _ _ _ _ dX5_mark_90 ⟨_, _, _, _, rfl, ?_⟩
      unfold markS
      rw [if_neg (fun ⟨⟨z1, z2⟩, _⟩ => by
        have h1 := Int32.le_iff_toInt_le.mp z1
        have h2 := Int32.le_iff_toInt_le.mp z2
        rw [show (0 : Int32).toInt = 0 by decide] at h1
        rw [show (5 : Int32).toInt = 5 by decide] at h2
        omega)]
      exact ⟨⟨rfl, hA0⟩, rfl, rfl, rfl⟩
  · skip
    refine J_ldc C kcX5_mark_178 dX5_mark_11 ?_
    refine hQ _ _ _ _ dX5_mark_13 ⟨_, _, _, _, rfl, ?_⟩
    unfold markS
    rw [if_neg (fun ⟨_, z⟩ => by have h2 := hc8; rw [h6, if_pos z] at h2; exact absurd h2 (by decide))]
    exact ⟨⟨rfl, hA0⟩, rfl, rfl, rfl⟩
abbrev rmX6_bits : Room := { frames := 0, cells := 0, slots := 0, locals := 0 }
set_option maxRecDepth 100000 in
set_option maxHeartbeats 4000000 in
theorem c_X6_bits (E : EN) (hM : EM E) (a : Nat) (ha : a < 128) (g : Nat → Int32) (h : Nat → Int64) (T : Nat → Nat → Int32) (L : Nat → Nat → Int64) : GpI E yX6_bits wsX6_bits rmX6_bits [.int (nI a)] g h T L (fun r => r = nI (pcN a)) := by
  refine CtI_of (cc := cX6_bits) (nL := 3) RX6 [some (.int (nI a)), none, none] ⟨rfl, rfl⟩ (by decide) rfl rfl (Nat.le_of_ble_eq_true rfl) ⟨2, rfl⟩ hM.2 (fun Y C hQ => ?_)
  have hM0 := hM
  obtain ⟨hS, hNN⟩ := hM
  refine J_iconst C (0) dX6_bits_0 ic_0 ?_
  refine J_istore_1 C dX6_bits_1 (by decide) trivial ?_
  refine J_iload_0 C dX6_bits_2 ?_
  refine J_istore_2 C dX6_bits_3 (by decide) trivial ?_
  have loop : ∀ (n2 : Nat) (n x : Nat), x < n2 → x < 128 → n + pcN x = pcN a → J E Y (eN E) 0 0 (wS E g h T L) 4 [some (.int (nI a)), some (.int (nI n)), some (.int (nI x))] [] := by
    intro n2
    induction n2 with
    | zero =>
      intro n x hfu hx he
      omega
    | succ n2 ih =>
      intro n x hfu hx he
      refine J_iload_2 C dX6_bits_4 ?_
      refine J_if_eq C 20 dX6_bits_5 (by decide) (fun hc5 => ?_) (fun hc5 => ?_)
      · skip
        refine J_iload_1 C dX6_bits_20 ?_
        refine hQ _ _ _ _ dX6_bits_21 ⟨rfl, ?_⟩
        have hx0 : x = 0 := nI_inj (by omega) (by decide) hc5
        rw [hx0] at he
        rw [← he]
        rfl
      · skip
        have hx0 : x ≠ 0 := fun z => hc5 (by rw [z]; rfl)
        obtain ⟨hb1, hb2⟩ := bts x hx hx0
        refine J_iinc_1 C (1) dX6_bits_8 (by decide) trivial ic_1 ?_
        refine J_iload_2 C dX6_bits_11 ?_
        refine J_iload_2 C dX6_bits_12 ?_
        refine J_iconst C (1) dX6_bits_13 ic_1 ?_
        refine J_isub C dX6_bits_14 ?_
        refine J_top (y := nI (x - 1)) (nI_pred1 (by omega)) ?_
        refine J_iand C dX6_bits_15 ?_
        refine J_top (y := nI (x &&& (x - 1))) (nI_and _ _) ?_
        refine J_istore_2 C dX6_bits_16 (by decide) trivial ?_
        refine J_goto C 4 dX6_bits_17 (by decide) ?_
        rw [nI_1]
        exact ih (n + 1) (x &&& (x - 1)) (by omega) (by omega) (by omega)
  exact loop 128 0 a (by omega) ha (by omega)
def mkTI (k : Int32) : Int64 := if k = 0 then 1 else if k = 1 then 11 else if k = 2 then 101 else if k = 3 then 1011 else if k = 4 then 10101 else 100001
def mkVI (ρ : Nat → Nat → Nat) (ic j : Nat) (k : Int32) : Int32 := if k = 0 then nI (ρ 1 j) else if k = 1 then nI (ρ 1 j) + nI (ρ 2 j) else if k = 2 then nI (ρ 1 j) - nI (pcN (ρ 3 j)) else if k = 3 then (nI (ρ 1 j) + nI (ρ 2 j)) * 2 else if k = 4 then nI (ρ 1 j) - nI (pcN (ρ 3 j)) + nI j else nI (ρ 1 j) + nI ic
theorem mkTI_eq : ∀ i, i ≤ 5 → mkTI (nI i) = mkT i := by decide +kernel
theorem mkVI_eq {ρ : Nat → Nat → Nat} {ic j i : Nat} (hi : i ≤ 5) : mkVI ρ ic j (nI i) = mkV ρ ic j i := by
  unfold mkVI mkV
  rcases (show i = 0 ∨ i = 1 ∨ i = 2 ∨ i = 3 ∨ i = 4 ∨ i = 5 by omega) with rfl | rfl | rfl | rfl | rfl | rfl
  · rw [if_pos (show nI 0 = 0 by decide), if_pos (show (0 : Nat) = 0 from rfl)]
  · rw [if_neg (show ¬ nI 1 = 0 by decide), if_pos (show nI 1 = 1 by decide), if_neg (show ¬ (1 : Nat) = 0 by decide), if_pos (show (1 : Nat) = 1 from rfl)]
  · rw [if_neg (show ¬ nI 2 = 0 by decide), if_neg (show ¬ nI 2 = 1 by decide), if_pos (show nI 2 = 2 by decide), if_neg (show ¬ (2 : Nat) = 0 by decide), if_neg (show ¬ (2 : Nat) = 1 by decide), if_pos (show (2 : Nat) = 2 from rfl)]
  · rw [if_neg (show ¬ nI 3 = 0 by decide), if_neg (show ¬ nI 3 = 1 by decide), if_neg (show ¬ nI 3 = 2 by decide), if_pos (show nI 3 = 3 by decide), if_neg (show ¬ (3 : Nat) = 0 by decide), if_neg (show ¬ (3 : Nat) = 1 by decide), if_neg (show ¬ (3 : Nat) = 2 by decide), if_pos (show (3 : Nat) = 3 from rfl)]
  · rw [if_neg (show ¬ nI 4 = 0 by decide), if_neg (show ¬ nI 4 = 1 by decide), if_neg (show ¬ nI 4 = 2 by decide), if_neg (show ¬ nI 4 = 3 by decide), if_pos (show nI 4 = 4 by decide), if_neg (show ¬ (4 : Nat) = 0 by decide), if_neg (show ¬ (4 : Nat) = 1 by decide), if_neg (show ¬ (4 : Nat) = 2 by decide), if_neg (show ¬ (4 : Nat) = 3 by decide), if_pos (show (4 : Nat) = 4 from rfl)]
  · rw [if_neg (show ¬ nI 5 = 0 by decide), if_neg (show ¬ nI 5 = 1 by decide), if_neg (show ¬ nI 5 = 2 by decide), if_neg (show ¬ nI 5 = 3 by decide), if_neg (show ¬ nI 5 = 4 by decide), if_neg (show ¬ (5 : Nat) = 0 by decide), if_neg (show ¬ (5 : Nat) = 1 by decide), if_neg (show ¬ (5 : Nat) = 2 by decide), if_neg (show ¬ (5 : Nat) = 3 by decide), if_neg (show ¬ (5 : Nat) = 4 by decide)]
abbrev rmX6_mark : Room := { frames := 2, cells := 0, slots := 0, locals := 46 }
theorem kcX6_mark_243 : Cond.constant RX6 243 (-1000000) ∈ wsX6_mark := by decide +kernel
theorem kcX6_mark_244 : Cond.constantLong RX6 244 (5) ∈ wsX6_mark := by decide +kernel
theorem kcX6_mark_258 : Cond.constantLong RX6 258 (11) ∈ wsX6_mark := by decide +kernel
theorem kcX6_mark_260 : Cond.constantLong RX6 260 (101) ∈ wsX6_mark := by decide +kernel
theorem kcX6_mark_262 : Cond.constantLong RX6 262 (1011) ∈ wsX6_mark := by decide +kernel
theorem kcX6_mark_264 : Cond.constantLong RX6 264 (10101) ∈ wsX6_mark := by decide +kernel
theorem kcX6_mark_266 : Cond.constantLong RX6 266 (100001) ∈ wsX6_mark := by decide +kernel
theorem fX6_mark_16 : Cond.fieldLink RX6 16 RX6 (TX6 5).2.1 (TX6 5).2.2.1 ∈ wsX6_mark := by decide +kernel
theorem fX6_mark_183 : Cond.fieldLink RX6 183 RX6 (TX6 13).2.1 (TX6 13).2.2.1 ∈ wsX6_mark := by decide +kernel
theorem fX6_mark_19 : Cond.fieldLink RX6 19 RX6 (TX6 6).2.1 (TX6 6).2.2.1 ∈ wsX6_mark := by decide +kernel
theorem fX6_mark_22 : Cond.fieldLink RX6 22 RX6 (TX6 7).2.1 (TX6 7).2.2.1 ∈ wsX6_mark := by decide +kernel
theorem fX6_mark_255 : Cond.fieldLink RX6 255 RX6 (TX6 22).2.1 (TX6 22).2.2.1 ∈ wsX6_mark := by decide +kernel
theorem iX6_mark_6 : ∀ x ∈ wsX60, x ∈ wsX6_mark := by decide +kernel
theorem dm_X6_bits : yX6_bits.cls ≠ "java/lang/invoke/MethodHandle" ∧ yX6_bits.cls ≠ "java/lang/invoke/VarHandle" ∧ (parseMethodDescriptor yX6_bits.desc).map (fun d => d.parameters.length) = some 1 := by decide +kernel
set_option maxRecDepth 100000 in
set_option maxHeartbeats 4000000 in
theorem c_X6_mark (E : EN) (hM : EM E) (g : Nat → Int32) (h : Nat → Int64) (T : Nat → Nat → Int32) (L : Nat → Nat → Int64) (m : Nat) (ρ : Nat → Nat → Nat) (hR : RvM g T m ρ) (hR4 : ∀ t, t < m → ρ 3 t < 128) (ic : Nat) (hic : g 4813 = nI ic) (k t : Int32) : GtI E yX6_mark wsX6_mark rmX6_mark [.ref (eA E 48), .int k, .int t] g h T L (fun r g2 h2 T2 L2 => (r = (markS m ρ ic k t).1 ∧ Adh h h2 4822 (markS m ρ ic k t).2) ∧ g2 = g ∧ T2 = T ∧ L2 = L) := by
  refine CtI_of (cc := cX6_mark) (nL := 5) RX6 [some (.ref (eA E 48)), some (.int k), some (.int t), none, none] ⟨rfl, rfl⟩ (by decide) rfl rfl (Nat.le_of_ble_eq_true rfl) ⟨2, rfl⟩ hM.2 (fun Y C hQ => ?_)
  have hM0 := hM
  obtain ⟨hS, hNN⟩ := hM
  have hm := hR.1
  have hrow := hR.2.2.1
  have hA0 : Adh h h 4822 0 := ⟨(Int64.add_zero _).symm, fun _ _ => rfl⟩
  refine J_iload_1 C dX6_mark_0 ?_
  refine J_i2l C dX6_mark_1 ?_
  refine J_lconst C (0) dX6_mark_2 lc_0 ?_
  refine J_ldc2 C kcX6_mark_244 dX6_mark_3 ?_
  refine G_spi C dX6_mark_6 (c_X6_in E hM0 _ _ _ g h T L) gX6_mark_X6_in rfl dm_X6_in rfl rfl (Nat.le_of_ble_eq_true rfl) (rmOK_b rfl) (fun r6 hr6 => ?_)
  subst hr6
  refine J_if_eq C 20 dX6_mark_9 (by decide) (fun hc9 => ?_) (fun hc9 => ?_)
  · skip
    refine J_ldc C kcX6_mark_243 dX6_mark_20 ?_
    refine hQ _ _ _ _ dX6_mark_22 ⟨_, _, _, _, rfl, ?_⟩
    unfold markS
    rw [if_neg (fun ⟨z1, z2⟩ => by
      first
      | exact absurd ((show (0 : Int32) = 1 from (by
          have h2 := hc17
          rw [if_pos z2] at h2
          exact h2.symm))) (by decide)
      | exact absurd (hc9.symm.trans (if_pos ((in_i (k := 5)).mpr z1))) (by decide))]
    exact ⟨⟨rfl, hA0⟩, rfl, rfl, rfl⟩
  · skip
    refine J_aload_0 C dX6_mark_12 ?_
    refine J_iload_2 C dX6_mark_13 ?_
    refine G_vpi C dX6_mark_14 (c_X6_isThing E hM0 m ρ g h T L hR t) gX6_mark_X6_isThing rfl dm_X6_isThing rfl rfl (hS _ (by decide)) rfl rfl (Nat.le_of_ble_eq_true rfl) (rmOK_b rfl) (fun r14 hr14 => ?_)
    subst hr14
    refine J_if_ne C 23 dX6_mark_17 (by decide) (fun hc17 => ?_) (fun hc17 => ?_)
    · skip
      have hk5 : 0 ≤ k ∧ k ≤ 5 := (in_i (k := 5)).mp (Decidable.byContradiction fun z => by
        apply hc9
        exact if_neg z)
      obtain ⟨j, rfl, hj⟩ := t_in (t := t) (m := m) hm (Decidable.byContradiction fun z => by rw [if_neg z] at hc17; exact hc17 rfl)
      obtain ⟨i, hi, rfl⟩ := nI_of2 (x := k) (M := 5) (n := 5) (by decide) (Int32.not_lt.mpr hk5.1) hk5.2
      rw [markS_in hm hi hj] at hQ
      refine J_aload_0 C dX6_mark_23 ?_
      refine J_dup C dX6_mark_24 ?_
      refine G6_getl C (n := 4822) 22 dX6_mark_25 fX6_mark_255 iX6_mark_6 rfl (hS _ (by decide)) rfl rfl ?_
      have hcut : ∀ (x : Int64), x = mkTI (nI i) → J E Y (eN E) 0 0 (wS E g h T L) 83 [some (.ref (eA E 48)), some (.int (nI i)), some (.int (nI j)), none, none] [.long x, .long (h 4822), .ref (eA E 48)] := by
        intro x hx
        subst hx
        refine J_ladd C dX6_mark_83 ?_
        refine G6_putl C (n := 4822) 22 dX6_mark_84 fX6_mark_255 iX6_mark_6 rfl (hS _ (by decide)) rfl (tyX6_ok 22 (by decide)) rfl rfl ?_
        refine J_aload_0 C dX6_mark_87 ?_
        refine G6_getr C (n := 51) 5 dX6_mark_88 fX6_mark_16 iX6_mark_6 rfl (hS _ (by decide)) rfl rfl ?_
        refine J_iload_2 C dX6_mark_91 ?_
        refine G_iald C j dX6_mark_92 rfl (hS _ (by decide)) rfl (by omega) ?_
        refine J_aload_0 C dX6_mark_93 ?_
        refine G6_getr C (n := 52) 6 dX6_mark_94 fX6_mark_19 iX6_mark_6 rfl (hS _ (by decide)) rfl rfl ?_
        refine J_iload_2 C dX6_mark_97 ?_
        refine G_iald C j dX6_mark_98 rfl (hS _ (by decide)) rfl (by omega) ?_
        refine J_iadd C dX6_mark_99 ?_
        refine J_top (y := nI (ρ 1 j) + nI (ρ 2 j)) (by rw [(hrow j hj).2.1, (hrow j hj).2.2.1]) ?_
        refine J_istore_3 C dX6_mark_100 (by decide) trivial ?_
        refine J_aload_0 C dX6_mark_101 ?_
        refine G6_getr C (n := 51) 5 dX6_mark_102 fX6_mark_16 iX6_mark_6 rfl (hS _ (by decide)) rfl rfl ?_
        refine J_iload_2 C dX6_mark_105 ?_
        refine G_iald C j dX6_mark_106 rfl (hS _ (by decide)) rfl (by omega) ?_
        refine J_aload_0 C dX6_mark_107 ?_
        refine G6_getr C (n := 53) 7 dX6_mark_108 fX6_mark_22 iX6_mark_6 rfl (hS _ (by decide)) rfl rfl ?_
        refine J_iload_2 C dX6_mark_111 ?_
        refine G_iald C j dX6_mark_112 rfl (hS _ (by decide)) rfl (by omega) ?_
        refine J_top (y := nI (ρ 3 j)) (hrow j hj).2.2.2 ?_
        refine G_spi C dX6_mark_113 (c_X6_bits E hM0 (ρ 3 j) (hR4 j hj) _ _ _ _) gX6_mark_X6_bits rfl dm_X6_bits rfl rfl (Nat.le_of_ble_eq_true rfl) (rmOK_b rfl) (fun r113 hr113 => ?_)
        subst hr113
        refine J_isub C dX6_mark_116 ?_
        refine J_top (y := nI (ρ 1 j) - nI (pcN (ρ 3 j))) (by rw [(hrow j hj).2.1]) ?_
        refine J_istore_4 C dX6_mark_117 (by decide) trivial ?_
        have hcut2 : ∀ (x : Int32), x = mkVI ρ ic j (nI i) → J E Y (eN E) 0 0 (wS E g (vp_updL h 4822 (h 4822 + mkTI (nI i))) T L) 185 [some (.ref (eA E 48)), some (.int (nI i)), some (.int (nI j)), some (.int (nI (ρ 1 j) + nI (ρ 2 j))), some (.int (nI (ρ 1 j) - nI (pcN (ρ 3 j))))] [.int x] := by
          intro x hx
          subst hx
          refine hQ _ _ _ _ dX6_mark_185 ⟨_, _, _, _, rfl, ?_⟩
          refine ⟨⟨?_, ?_⟩, rfl, rfl, rfl⟩
          · exact mkVI_eq hi
          · rw [mkTI_eq i hi]
            exact Adh.up
        refine J_iload_1 C dX6_mark_119 ?_
        refine J_if_ne C 132 dX6_mark_120 (by decide) (fun hc120 => ?_) (fun hc120 => ?_)
        · skip
          refine J_iload_1 C dX6_mark_132 ?_
          refine J_iconst C (1) dX6_mark_133 ic_1 ?_
          refine J_icmp_ne C 141 dX6_mark_134 (by decide) (fun hc134 => ?_) (fun hc134 => ?_)
          · skip
            refine J_iload_1 C dX6_mark_141 ?_
            refine J_iconst C (2) dX6_mark_142 ic_2 ?_
            refine J_icmp_ne C 151 dX6_mark_143 (by decide) (fun hc143 => ?_) (fun hc143 => ?_)
            · skip
              refine J_iload_1 C dX6_mark_151 ?_
              refine J_iconst C (3) dX6_mark_152 ic_3 ?_
              refine J_icmp_ne C 162 dX6_mark_153 (by decide) (fun hc153 => ?_) (fun hc153 => ?_)
              · skip
                refine J_iload_1 C dX6_mark_162 ?_
                refine J_iconst C (4) dX6_mark_163 ic_4 ?_
                refine J_icmp_ne C 174 dX6_mark_164 (by decide) (fun hc164 => ?_) (fun hc164 => ?_)
                · skip
                  refine J_aload_0 C dX6_mark_174 ?_
                  refine G6_getr C (n := 51) 5 dX6_mark_175 fX6_mark_16 iX6_mark_6 rfl (hS _ (by decide)) rfl rfl ?_
                  refine J_iload_2 C dX6_mark_178 ?_
                  refine G_iald C j dX6_mark_179 rfl (hS _ (by decide)) rfl (by omega) ?_
                  refine J_aload_0 C dX6_mark_180 ?_
                  refine G6_geti C (n := 4813) 13 dX6_mark_181 fX6_mark_183 iX6_mark_6 rfl (hS _ (by decide)) rfl rfl ?_
                  refine J_iadd C dX6_mark_184 ?_
                  refine hcut2 _ ?_
                  unfold mkVI
                  first
                  | (rw [if_pos hc120]; exact (hrow j hj).2.1)
                  | (rw [if_neg hc120, if_pos hc134]; done)
                  | (rw [if_neg hc120, if_neg hc134, if_pos hc143]; done)
                  | (rw [if_neg hc120, if_neg hc134, if_neg hc143, if_pos hc153]; exact Int32.mul_comm _ _)
                  | (rw [if_neg hc120, if_neg hc134, if_neg hc143, if_neg hc153, if_pos hc164]; done)
                  | (rw [if_neg hc120, if_neg hc134, if_neg hc143, if_neg hc153, if_neg hc164, (hrow j hj).2.1, show g 4813 = nI ic from hic]; done)
                · skip
                  refine J_iload_4 C dX6_mark_167 ?_
                  refine J_iload_2 C dX6_mark_169 ?_
                  refine J_iadd C dX6_mark_170 ?_
                  refine J_goto C 185 dX6_mark_171 (by decide) ?_
                  refine hcut2 _ ?_
                  unfold mkVI
                  first
                  | (rw [if_pos hc120]; exact (hrow j hj).2.1)
                  | (rw [if_neg hc120, if_pos hc134]; done)
                  | (rw [if_neg hc120, if_neg hc134, if_pos hc143]; done)
                  | (rw [if_neg hc120, if_neg hc134, if_neg hc143, if_pos hc153]; exact Int32.mul_comm _ _)
                  | (rw [if_neg hc120, if_neg hc134, if_neg hc143, if_neg hc153, if_pos hc164]; done)
                  | (rw [if_neg hc120, if_neg hc134, if_neg hc143, if_neg hc153, if_neg hc164, (hrow j hj).2.1, show g 4813 = nI ic from hic]; done)
              · skip
                refine J_iconst C (2) dX6_mark_156 ic_2 ?_
                refine J_iload_3 C dX6_mark_157 ?_
                refine J_imul C dX6_mark_158 ?_
                refine J_goto C 185 dX6_mark_159 (by decide) ?_
                refine hcut2 _ ?_
                unfold mkVI
                first
                | (rw [if_pos hc120]; exact (hrow j hj).2.1)
                | (rw [if_neg hc120, if_pos hc134]; done)
                | (rw [if_neg hc120, if_neg hc134, if_pos hc143]; done)
                | (rw [if_neg hc120, if_neg hc134, if_neg hc143, if_pos hc153]; exact Int32.mul_comm _ _)
                | (rw [if_neg hc120, if_neg hc134, if_neg hc143, if_neg hc153, if_pos hc164]; done)
                | (rw [if_neg hc120, if_neg hc134, if_neg hc143, if_neg hc153, if_neg hc164, (hrow j hj).2.1, show g 4813 = nI ic from hic]; done)
            · skip
              refine J_iload_4 C dX6_mark_146 ?_
              refine J_goto C 185 dX6_mark_148 (by decide) ?_
              refine hcut2 _ ?_
              unfold mkVI
              first
              | (rw [if_pos hc120]; exact (hrow j hj).2.1)
              | (rw [if_neg hc120, if_pos hc134]; done)
              | (rw [if_neg hc120, if_neg hc134, if_pos hc143]; done)
              | (rw [if_neg hc120, if_neg hc134, if_neg hc143, if_pos hc153]; exact Int32.mul_comm _ _)
              | (rw [if_neg hc120, if_neg hc134, if_neg hc143, if_neg hc153, if_pos hc164]; done)
              | (rw [if_neg hc120, if_neg hc134, if_neg hc143, if_neg hc153, if_neg hc164, (hrow j hj).2.1, show g 4813 = nI ic from hic]; done)
          · skip
            refine J_iload_3 C dX6_mark_137 ?_
            refine J_goto C 185 dX6_mark_138 (by decide) ?_
            refine hcut2 _ ?_
            unfold mkVI
            first
            | (rw [if_pos hc120]; exact (hrow j hj).2.1)
            | (rw [if_neg hc120, if_pos hc134]; done)
            | (rw [if_neg hc120, if_neg hc134, if_pos hc143]; done)
            | (rw [if_neg hc120, if_neg hc134, if_neg hc143, if_pos hc153]; exact Int32.mul_comm _ _)
            | (rw [if_neg hc120, if_neg hc134, if_neg hc143, if_neg hc153, if_pos hc164]; done)
            | (rw [if_neg hc120, if_neg hc134, if_neg hc143, if_neg hc153, if_neg hc164, (hrow j hj).2.1, show g 4813 = nI ic from hic]; done)
        · skip
          refine J_aload_0 C dX6_mark_123 ?_
          refine G6_getr C (n := 51) 5 dX6_mark_124 fX6_mark_16 iX6_mark_6 rfl (hS _ (by decide)) rfl rfl ?_
          refine J_iload_2 C dX6_mark_127 ?_
          refine G_iald C j dX6_mark_128 rfl (hS _ (by decide)) rfl (by omega) ?_
          refine J_goto C 185 dX6_mark_129 (by decide) ?_
          refine hcut2 _ ?_
          unfold mkVI
          first
          | (rw [if_pos hc120]; exact (hrow j hj).2.1)
          | (rw [if_neg hc120, if_pos hc134]; done)
          | (rw [if_neg hc120, if_neg hc134, if_pos hc143]; done)
          | (rw [if_neg hc120, if_neg hc134, if_neg hc143, if_pos hc153]; exact Int32.mul_comm _ _)
          | (rw [if_neg hc120, if_neg hc134, if_neg hc143, if_neg hc153, if_pos hc164]; done)
          | (rw [if_neg hc120, if_neg hc134, if_neg hc143, if_neg hc153, if_neg hc164, (hrow j hj).2.1, show g 4813 = nI ic from hic]; done)
      refine J_iload_1 C dX6_mark_28 ?_
      refine J_if_ne C 36 dX6_mark_29 (by decide) (fun hc29 => ?_) (fun hc29 => ?_)
      · skip
        refine J_iload_1 C dX6_mark_36 ?_
        refine J_iconst C (1) dX6_mark_37 ic_1 ?_
        refine J_icmp_ne C 47 dX6_mark_38 (by decide) (fun hc38 => ?_) (fun hc38 => ?_)
        · skip
          refine J_iload_1 C dX6_mark_47 ?_
          refine J_iconst C (2) dX6_mark_48 ic_2 ?_
          refine J_icmp_ne C 58 dX6_mark_49 (by decide) (fun hc49 => ?_) (fun hc49 => ?_)
          · skip
            refine J_iload_1 C dX6_mark_58 ?_
            refine J_iconst C (3) dX6_mark_59 ic_3 ?_
            refine J_icmp_ne C 69 dX6_mark_60 (by decide) (fun hc60 => ?_) (fun hc60 => ?_)
            · skip
              refine J_iload_1 C dX6_mark_69 ?_
              refine J_iconst C (4) dX6_mark_70 ic_4 ?_
              refine J_icmp_ne C 80 dX6_mark_71 (by decide) (fun hc71 => ?_) (fun hc71 => ?_)
              · skip
                refine J_ldc2 C kcX6_mark_266 dX6_mark_80 ?_
                refine hcut _ ?_
                unfold mkTI
                first
                | (rw [if_pos hc29]; done)
                | (rw [if_neg hc29, if_pos hc38]; done)
                | (rw [if_neg hc29, if_neg hc38, if_pos hc49]; done)
                | (rw [if_neg hc29, if_neg hc38, if_neg hc49, if_pos hc60]; done)
                | (rw [if_neg hc29, if_neg hc38, if_neg hc49, if_neg hc60, if_pos hc71]; done)
                | (rw [if_neg hc29, if_neg hc38, if_neg hc49, if_neg hc60, if_neg hc71]; done)
              · skip
                refine J_ldc2 C kcX6_mark_264 dX6_mark_74 ?_
                refine J_goto C 83 dX6_mark_77 (by decide) ?_
                refine hcut _ ?_
                unfold mkTI
                first
                | (rw [if_pos hc29]; done)
                | (rw [if_neg hc29, if_pos hc38]; done)
                | (rw [if_neg hc29, if_neg hc38, if_pos hc49]; done)
                | (rw [if_neg hc29, if_neg hc38, if_neg hc49, if_pos hc60]; done)
                | (rw [if_neg hc29, if_neg hc38, if_neg hc49, if_neg hc60, if_pos hc71]; done)
                | (rw [if_neg hc29, if_neg hc38, if_neg hc49, if_neg hc60, if_neg hc71]; done)
            · skip
              refine J_ldc2 C kcX6_mark_262 dX6_mark_63 ?_
              refine J_goto C 83 dX6_mark_66 (by decide) ?_
              refine hcut _ ?_
              unfold mkTI
              first
              | (rw [if_pos hc29]; done)
              | (rw [if_neg hc29, if_pos hc38]; done)
              | (rw [if_neg hc29, if_neg hc38, if_pos hc49]; done)
              | (rw [if_neg hc29, if_neg hc38, if_neg hc49, if_pos hc60]; done)
              | (rw [if_neg hc29, if_neg hc38, if_neg hc49, if_neg hc60, if_pos hc71]; done)
              | (rw [if_neg hc29, if_neg hc38, if_neg hc49, if_neg hc60, if_neg hc71]; done)
          · skip
            refine J_ldc2 C kcX6_mark_260 dX6_mark_52 ?_
            refine J_goto C 83 dX6_mark_55 (by decide) ?_
            refine hcut _ ?_
            unfold mkTI
            first
            | (rw [if_pos hc29]; done)
            | (rw [if_neg hc29, if_pos hc38]; done)
            | (rw [if_neg hc29, if_neg hc38, if_pos hc49]; done)
            | (rw [if_neg hc29, if_neg hc38, if_neg hc49, if_pos hc60]; done)
            | (rw [if_neg hc29, if_neg hc38, if_neg hc49, if_neg hc60, if_pos hc71]; done)
            | (rw [if_neg hc29, if_neg hc38, if_neg hc49, if_neg hc60, if_neg hc71]; done)
        · skip
          refine J_ldc2 C kcX6_mark_258 dX6_mark_41 ?_
          refine J_goto C 83 dX6_mark_44 (by decide) ?_
          refine hcut _ ?_
          unfold mkTI
          first
          | (rw [if_pos hc29]; done)
          | (rw [if_neg hc29, if_pos hc38]; done)
          | (rw [if_neg hc29, if_neg hc38, if_pos hc49]; done)
          | (rw [if_neg hc29, if_neg hc38, if_neg hc49, if_pos hc60]; done)
          | (rw [if_neg hc29, if_neg hc38, if_neg hc49, if_neg hc60, if_pos hc71]; done)
          | (rw [if_neg hc29, if_neg hc38, if_neg hc49, if_neg hc60, if_neg hc71]; done)
      · skip
        refine J_lconst C (1) dX6_mark_32 lc_1 ?_
        refine J_goto C 83 dX6_mark_33 (by decide) ?_
        refine hcut _ ?_
        unfold mkTI
        first
        | (rw [if_pos hc29]; done)
        | (rw [if_neg hc29, if_pos hc38]; done)
        | (rw [if_neg hc29, if_neg hc38, if_pos hc49]; done)
        | (rw [if_neg hc29, if_neg hc38, if_neg hc49, if_pos hc60]; done)
        | (rw [if_neg hc29, if_neg hc38, if_neg hc49, if_neg hc60, if_pos hc71]; done)
        | (rw [if_neg hc29, if_neg hc38, if_neg hc49, if_neg hc60, if_neg hc71]; done)
    · skip
      refine J_ldc C kcX6_mark_243 dX6_mark_20 ?_
      refine hQ _ _ _ _ dX6_mark_22 ⟨_, _, _, _, rfl, ?_⟩
      unfold markS
      rw [if_neg (fun ⟨z1, z2⟩ => by
        first
        | exact absurd ((show (0 : Int32) = 1 from (by
            have h2 := hc17
            rw [if_pos z2] at h2
            exact h2.symm))) (by decide)
        | exact absurd (hc9.symm.trans (if_pos ((in_i (k := 5)).mpr z1))) (by decide))]
      exact ⟨⟨rfl, hA0⟩, rfl, rfl, rfl⟩
