def ImX (g : Nat → Int32) (T : Nat → Nat → Int32) (i : Nat) : Option MO → Prop
  | none => T 24 i = 0
  | some ν => T 24 i = 1 ∧ MomX g T (42 + 3 * i) ν
def ImM (T : Nat → Nat → Int32) (i : Nat) : Option MO → Prop
  | none => T 58 (30 * i) = 0
  | some ν => T 58 (30 * i) = 1 ∧ T 58 (30 * i + 1) = nI ν.1 ∧ T 58 (30 * i + 2) = nI ν.2.1 ∧ T 58 (30 * i + 3) = nI ν.2.2.1 ∧ T 58 (30 * i + 4) = ν.2.2.2.1 ∧ T 58 (30 * i + 5) = nI ν.2.2.2.2.length ∧ ∀ (j : Nat) (q : Nat × Nat), ν.2.2.2.2[j]? = some q → T 58 (30 * i + 6 + 2 * j) = nI q.1 ∧ T 58 (30 * i + 6 + (2 * j + 1)) = nI q.2
def keepS (v : Int32) (μ : MO) (im : Nat → Option MO) : Int32 × (Nat → Option MO) := if 0 ≤ v ∧ v ≤ 1 then (nI μ.2.1, fun i => if i = i2n v then some μ else im i) else (-1, im)
def backS (v : Int32) (μ : MO) (im : Nat → Option MO) : Int32 × MO := if 0 ≤ v ∧ v ≤ 1 then (match im (i2n v) with
  | none => (-2, μ)
  | some ν => (nI ν.2.1, ν)) else (-1, μ)
theorem keepS_ok {v : Int32} {μ : MO} {im : Nat → Option MO} (h : MoOK μ) (hi : ∀ i ν, im i = some ν → MoOK ν) : ∀ i ν, (keepS v μ im).2 i = some ν → MoOK ν := by
  intro i ν hν
  unfold keepS at hν
  split at hν
  · dsimp only at hν
    split at hν
    · cases hν; exact h
    · exact hi i ν hν
  · exact hi i ν hν
theorem backS_ok {v : Int32} {μ : MO} {im : Nat → Option MO} (h : MoOK μ) (hi : ∀ i ν, im i = some ν → MoOK ν) : MoOK (backS v μ im).2 := by
  unfold backS
  split
  · split
    · exact h
    · rename_i ν hν
      exact hi _ ν hν
  · exact h
theorem MomX.keep {g g2 : Nat → Int32} {T T2 : Nat → Nat → Int32} {b : Nat} {μ : MO} (h : MomX g T b μ) (hg : ∀ j, j ≤ 4 → g2 (100 * b + j) = g (100 * b + j)) (h1 : T2 (b + 1) = T (b + 1)) (h2 : T2 (b + 2) = T (b + 2)) : MomX g2 T2 b μ := by
  obtain ⟨a1, a2, a3, a4, a5, a6⟩ := h
  refine ⟨?_, ?_, ?_, ?_, ?_, ?_⟩
  · rw [hg 0 (by decide)]; exact a1
  · rw [hg 1 (by decide)]; exact a2
  · rw [hg 2 (by decide)]; exact a3
  · rw [hg 3 (by decide)]; exact a4
  · rw [hg 4 (by decide)]; exact a5
  · rw [h1, h2]; exact a6
theorem MomX.cp {g g2 : Nat → Int32} {T T2 : Nat → Nat → Int32} {x y : Nat} {μ : MO} (h : MomX g T y μ) (hl : μ.2.2.2.2.length ≤ 10) (hg : ∀ j, j ≤ 4 → g2 (100 * x + j) = g (100 * y + j)) (hT : ∀ j, j < 10 → T2 (x + 1) j = T (y + 1) j ∧ T2 (x + 2) j = T (y + 2) j) : MomX g2 T2 x μ := by
  obtain ⟨a1, a2, a3, a4, a5, a6⟩ := h
  refine ⟨?_, ?_, ?_, ?_, ?_, fun i q hq => ?_⟩
  · rw [hg 0 (by decide)]; exact a1
  · rw [hg 1 (by decide)]; exact a2
  · rw [hg 2 (by decide)]; exact a3
  · rw [hg 3 (by decide)]; exact a4
  · rw [hg 4 (by decide)]; exact a5
  · have hi : i < 10 := by have := (List.getElem?_eq_some_iff.mp hq).1; omega
    rw [(hT i hi).1, (hT i hi).2]
    exact a6 i q hq
theorem im2 {v : Int32} (h : 0 ≤ v ∧ v ≤ 1) : ∃ i, v = nI i ∧ i ≤ 1 := by
  obtain ⟨i, h1, h2⟩ := nI_of2 (x := v) (M := 1) (n := 1) (by decide) (Int32.not_lt.mpr h.1) h.2
  exact ⟨i, h2, h1⟩
theorem lt2 {v : Int32} (h : v < 2) : v ≤ 1 := by
  have h1 := Int32.lt_iff_toInt_lt.mp h
  rw [show (2 : Int32).toInt = 2 by decide] at h1
  rw [Int32.le_iff_toInt_le, show (1 : Int32).toInt = 1 by decide]
  omega
theorem le1 {v : Int32} (h : v ≤ 1) : v < 2 := by
  have h1 := Int32.le_iff_toInt_le.mp h
  rw [show (1 : Int32).toInt = 1 by decide] at h1
  rw [Int32.lt_iff_toInt_lt, show (2 : Int32).toInt = 2 by decide]
  omega
abbrev rmX5_keep : Room := { frames := 1, cells := 0, slots := 0, locals := 22 }
theorem fX5_keep_107 : Cond.fieldLink RX5 107 RX0 (TX0 1).2.1 (TX0 1).2.2.1 ∈ wsX5_keep := by decide +kernel
theorem fX5_keep_37 : Cond.fieldLink RX5 37 RX5 (TX5 5).2.1 (TX5 5).2.2.1 ∈ wsX5_keep := by decide +kernel
theorem fX5_keep_41 : Cond.fieldLink RX5 41 RX5 (TX5 6).2.1 (TX5 6).2.2.1 ∈ wsX5_keep := by decide +kernel
theorem fX5_keep_45 : Cond.fieldLink RX5 45 RX5 (TX5 7).2.1 (TX5 7).2.2.1 ∈ wsX5_keep := by decide +kernel
theorem iX5_keep_0 : ∀ x ∈ wsX00, x ∈ wsX5_keep := by decide +kernel
theorem iX5_keep_5 : ∀ x ∈ wsX50, x ∈ wsX5_keep := by decide +kernel
theorem dm_X0_becomeLike : yX0_becomeLike.cls = RX0 ∧ yX0_becomeLike.cls ≠ "java/lang/invoke/MethodHandle" ∧ yX0_becomeLike.cls ≠ "java/lang/invoke/VarHandle" ∧ (parseMethodDescriptor yX0_becomeLike.desc).map (fun d => d.parameters.length) = some 1 := by decide +kernel
set_option maxRecDepth 100000 in
set_option maxHeartbeats 4000000 in
theorem c_X5_keep (E : EN) (hM : EM E) (g : Nat → Int32) (h : Nat → Int64) (T : Nat → Nat → Int32) (L : Nat → Nat → Int64) (μ : MO) (hmu : MomX g T 20 μ) (hok : MoOK μ) (im : Nat → Option MO) (him : ∀ i, i ≤ 1 → ImX g T i (im i)) (v : Int32) : GtI E yX5_keep wsX5_keep rmX5_keep [.ref (eA E 0), .int v] g h T L (fun r g2 h2 T2 L2 => (r = (keepS v μ im).1 ∧ (∀ i, i ≤ 1 → ImX g2 T2 i ((keepS v μ im).2 i)) ∧ (∀ k, (k < 4200 ∨ 4504 < k) → g2 k = g k) ∧ ∀ k, k ≠ 24 → (k < 43 ∨ 47 < k) → T2 k = T k) ∧ h2 = h ∧ L2 = L) := by
  refine CtI_of (cc := cX5_keep) (nL := 2) RX5 [some (.ref (eA E 0)), some (.int v)] ⟨rfl, rfl⟩ (by decide) rfl rfl (Nat.le_of_ble_eq_true rfl) ⟨0, rfl⟩ hM.2 (fun Y C hQ => ?_)
  have hM0 := hM
  obtain ⟨hS, hNN⟩ := hM
  have hmu0 := hmu
  obtain ⟨a1, a2, a3, a4, a5, a6⟩ := hmu
  obtain ⟨o1, o2, o3, o4, o5⟩ := hok
  refine J_iload_1 C dX5_keep_0 ?_
  refine J_if_lt C 9 dX5_keep_1 (by decide) (fun hc1 => ?_) (fun hc1 => ?_)
  · skip
    refine J_iconst C (-1) dX5_keep_9 ic_m1 ?_
    refine hQ _ _ _ _ dX5_keep_10 ⟨_, _, _, _, rfl, ?_⟩
    unfold keepS
    refine ⟨?_, rfl, rfl⟩
    rw [if_neg (fun z => by
      first
      | exact absurd hc1 (Int32.not_lt.mpr z.1)
      | exact absurd (le1 z.2) hc6)]
    exact ⟨rfl, him, fun _ _ => rfl, fun _ _ _ => rfl⟩
  · skip
    refine J_iload_1 C dX5_keep_4 ?_
    refine J_iconst C (2) dX5_keep_5 ic_2 ?_
    refine J_icmp_lt C 11 dX5_keep_6 (by decide) (fun hc6 => ?_) (fun hc6 => ?_)
    · skip
      have hin : 0 ≤ v ∧ v ≤ 1 := ⟨Int32.not_lt.mp hc1, lt2 hc6⟩
      obtain ⟨i, rfl, hi⟩ := im2 hin
      have hbi : i2n (nI i) = i := i2n_nI (by omega)
      have hi01 : i = 0 ∨ i = 1 := by omega
      have hk42 : kd (42 + 3 * i) = (0, 0) := by rcases hi01 with rfl | rfl <;> rfl
      have hk43 : kd (42 + 3 * i + 1) = (1, 10) := by rcases hi01 with rfl | rfl <;> rfl
      have hk44 : kd (42 + 3 * i + 2) = (1, 10) := by rcases hi01 with rfl | rfl <;> rfl
      have hs42 : eS E (42 + 3 * i) = true := hS _ (by omega)
      refine J_aload_0 C dX5_keep_11 ?_
      refine G5_getr C (n := 23) 6 dX5_keep_12 fX5_keep_41 iX5_keep_5 rfl (hS _ (by decide)) rfl rfl ?_
      refine J_iload_1 C dX5_keep_15 ?_
      refine G_mald C (m := 42 + 3 * i) i dX5_keep_16 rfl (hS _ (by decide)) rfl (by omega) rfl ?_
      refine J_aload_0 C dX5_keep_17 ?_
      refine G5_getr C (n := 20) 5 dX5_keep_18 fX5_keep_37 iX5_keep_5 rfl (hS _ (by decide)) rfl rfl ?_
      refine G_vtv C dX5_keep_21 (c_X0_becomeLike E hNN (42 + 3 * i) 20 hk42 rfl hk43 hk44 rfl rfl hS (by omega) (by omega) (by omega) g h T L) gX5_keep_X0_becomeLike rfl dm_X0_becomeLike rfl hk42 hs42 rfl rfl (Nat.le_of_ble_eq_true rfl) (rmOK_b rfl) (fun g21 h21 T21 L21 hp21 => ?_)
      obtain ⟨rfl, rfl, q1, q2, q3, q4⟩ := hp21
      refine J_aload_0 C dX5_keep_24 ?_
      refine G5_getr C (n := 24) 7 dX5_keep_25 fX5_keep_45 iX5_keep_5 rfl (hS _ (by decide)) rfl rfl ?_
      refine J_iload_1 C dX5_keep_28 ?_
      refine J_iconst C (1) dX5_keep_29 ic_1 ?_
      refine G_zast C i dX5_keep_30 rfl (hS _ (by decide)) rfl (by omega) rfl ?_
      refine J_aload_0 C dX5_keep_31 ?_
      refine G5_getr C (n := 20) 5 dX5_keep_32 fX5_keep_37 iX5_keep_5 rfl (hS _ (by decide)) rfl rfl ?_
      refine G0_geti C (n := 2001) 1 dX5_keep_35 fX5_keep_107 iX5_keep_0 rfl (hS _ (by decide)) rfl rfl ?_
      refine hQ _ _ _ _ dX5_keep_38 ⟨_, _, _, _, rfl, ?_⟩
      unfold keepS
      rw [if_pos hin, hbi]
      refine ⟨⟨?_, fun i2 hi2 => ?_, fun k hk => q1 k (by omega), fun k hk1 hk2 => by rw [tU_ne hk1]; exact q3 k (by omega) (by omega)⟩, rfl, rfl⟩
      · show g21 2001 = nI μ.2.1
        rw [q1 2001 (by omega)]
        exact a2
      · dsimp only
        have hm2 : MomX g21 T21 (42 + 3 * i) μ := hmu0.cp o4 q2 q4
        by_cases e : i2 = i
        · subst e
          rw [if_pos rfl]
          exact ⟨by rw [tU_eq]; simp [upd], hm2.keep (fun _ _ => rfl) (tU_ne (by omega)) (tU_ne (by omega))⟩
        · rw [if_neg e]
          have hz := him i2 hi2
          cases hq : im i2 with
          | none =>
            rw [hq] at hz
            show (va_up T21 24 (upd (T21 24) i 1)) 24 i2 = 0
            rw [tU_eq, q3 24 (by omega) (by omega)]
            simp only [upd]
            rw [if_neg e]
            exact hz
          | some ν =>
            rw [hq] at hz
            refine ⟨?_, hz.2.keep (fun j hj => q1 _ (by omega)) ?_ ?_⟩
            · rw [tU_eq, q3 24 (by omega) (by omega)]
              simp only [upd]
              rw [if_neg e]
              exact hz.1
            · rw [tU_ne (by omega), q3 _ (by omega) (by omega)]
            · rw [tU_ne (by omega), q3 _ (by omega) (by omega)]
    · skip
      refine J_iconst C (-1) dX5_keep_9 ic_m1 ?_
      refine hQ _ _ _ _ dX5_keep_10 ⟨_, _, _, _, rfl, ?_⟩
      unfold keepS
      refine ⟨?_, rfl, rfl⟩
      rw [if_neg (fun z => by
        first
        | exact absurd hc1 (Int32.not_lt.mpr z.1)
        | exact absurd (le1 z.2) hc6)]
      exact ⟨rfl, him, fun _ _ => rfl, fun _ _ _ => rfl⟩
abbrev rmX5_back : Room := { frames := 1, cells := 0, slots := 0, locals := 22 }
theorem fX5_back_107 : Cond.fieldLink RX5 107 RX0 (TX0 1).2.1 (TX0 1).2.2.1 ∈ wsX5_back := by decide +kernel
theorem fX5_back_37 : Cond.fieldLink RX5 37 RX5 (TX5 5).2.1 (TX5 5).2.2.1 ∈ wsX5_back := by decide +kernel
theorem fX5_back_41 : Cond.fieldLink RX5 41 RX5 (TX5 6).2.1 (TX5 6).2.2.1 ∈ wsX5_back := by decide +kernel
theorem fX5_back_45 : Cond.fieldLink RX5 45 RX5 (TX5 7).2.1 (TX5 7).2.2.1 ∈ wsX5_back := by decide +kernel
theorem iX5_back_0 : ∀ x ∈ wsX00, x ∈ wsX5_back := by decide +kernel
theorem iX5_back_5 : ∀ x ∈ wsX50, x ∈ wsX5_back := by decide +kernel
set_option maxRecDepth 100000 in
set_option maxHeartbeats 4000000 in
theorem c_X5_back (E : EN) (hM : EM E) (g : Nat → Int32) (h : Nat → Int64) (T : Nat → Nat → Int32) (L : Nat → Nat → Int64) (μ : MO) (hmu : MomX g T 20 μ) (hok : MoOK μ) (im : Nat → Option MO) (him : ∀ i, i ≤ 1 → ImX g T i (im i)) (v : Int32) (hio : ∀ i ν, im i = some ν → MoOK ν) : GtI E yX5_back wsX5_back rmX5_back [.ref (eA E 0), .int v] g h T L (fun r g2 h2 T2 L2 => (r = (backS v μ im).1 ∧ MomX g2 T2 20 (backS v μ im).2 ∧ FrMo g g2 T T2) ∧ h2 = h ∧ L2 = L) := by
  refine CtI_of (cc := cX5_back) (nL := 2) RX5 [some (.ref (eA E 0)), some (.int v)] ⟨rfl, rfl⟩ (by decide) rfl rfl (Nat.le_of_ble_eq_true rfl) ⟨0, rfl⟩ hM.2 (fun Y C hQ => ?_)
  have hM0 := hM
  obtain ⟨hS, hNN⟩ := hM
  have hmu0 := hmu
  obtain ⟨a1, a2, a3, a4, a5, a6⟩ := hmu
  obtain ⟨o1, o2, o3, o4, o5⟩ := hok
  refine J_iload_1 C dX5_back_0 ?_
  refine J_if_lt C 9 dX5_back_1 (by decide) (fun hc1 => ?_) (fun hc1 => ?_)
  · skip
    refine J_iconst C (-1) dX5_back_9 ic_m1 ?_
    refine hQ _ _ _ _ dX5_back_10 ⟨_, _, _, _, rfl, ?_⟩
    unfold backS
    rw [if_neg (fun z => by
      first
      | exact absurd hc1 (Int32.not_lt.mpr z.1)
      | exact absurd (le1 z.2) hc6)]
    exact ⟨⟨rfl, hmu0, fun _ _ => rfl, fun _ _ _ => rfl⟩, rfl, rfl⟩
  · skip
    refine J_iload_1 C dX5_back_4 ?_
    refine J_iconst C (2) dX5_back_5 ic_2 ?_
    refine J_icmp_lt C 11 dX5_back_6 (by decide) (fun hc6 => ?_) (fun hc6 => ?_)
    · skip
      have hin : 0 ≤ v ∧ v ≤ 1 := ⟨Int32.not_lt.mp hc1, lt2 hc6⟩
      obtain ⟨i, rfl, hi⟩ := im2 hin
      have hbi : i2n (nI i) = i := i2n_nI (by omega)
      have hi01 : i = 0 ∨ i = 1 := by omega
      have hk42 : kd (42 + 3 * i) = (0, 0) := by rcases hi01 with rfl | rfl <;> rfl
      have hk43 : kd (42 + 3 * i + 1) = (1, 10) := by rcases hi01 with rfl | rfl <;> rfl
      have hk44 : kd (42 + 3 * i + 2) = (1, 10) := by rcases hi01 with rfl | rfl <;> rfl
      have hs42 : eS E (42 + 3 * i) = true := hS _ (by omega)
      refine J_aload_0 C dX5_back_11 ?_
      refine G5_getr C (n := 24) 7 dX5_back_12 fX5_back_45 iX5_back_5 rfl (hS _ (by decide)) rfl rfl ?_
      refine J_iload_1 C dX5_back_15 ?_
      refine G_zald C i dX5_back_16 rfl (hS _ (by decide)) rfl (by omega) ?_
      refine J_if_ne C 23 dX5_back_17 (by decide) (fun hc17 => ?_) (fun hc17 => ?_)
      · skip
        obtain ⟨ν, hν⟩ : ∃ ν, im i = some ν := by
          cases hq : im i with
          | none =>
            have hz := him i hi
            rw [hq] at hz
            exact absurd hz hc17
          | some ν => exact ⟨ν, rfl⟩
        have hz := him i hi
        rw [hν] at hz
        have hno := hio i ν hν
        refine J_aload_0 C dX5_back_23 ?_
        refine G5_getr C (n := 20) 5 dX5_back_24 fX5_back_37 iX5_back_5 rfl (hS _ (by decide)) rfl rfl ?_
        refine J_aload_0 C dX5_back_27 ?_
        refine G5_getr C (n := 23) 6 dX5_back_28 fX5_back_41 iX5_back_5 rfl (hS _ (by decide)) rfl rfl ?_
        refine J_iload_1 C dX5_back_31 ?_
        refine G_mald C (m := 42 + 3 * i) i dX5_back_32 rfl (hS _ (by decide)) rfl (by omega) rfl ?_
        refine G_vtv C dX5_back_33 (c_X0_becomeLike E hNN 20 (42 + 3 * i) rfl hk42 rfl rfl hk43 hk44 hS (by omega) (by omega) (by omega) g h T L) gX5_back_X0_becomeLike rfl dm_X0_becomeLike rfl rfl (hS _ (by decide)) rfl rfl (Nat.le_of_ble_eq_true rfl) (rmOK_b rfl) (fun g33 h33 T33 L33 hp33 => ?_)
        obtain ⟨rfl, rfl, q1, q2, q3, q4⟩ := hp33
        refine J_aload_0 C dX5_back_36 ?_
        refine G5_getr C (n := 20) 5 dX5_back_37 fX5_back_37 iX5_back_5 rfl (hS _ (by decide)) rfl rfl ?_
        refine G0_geti C (n := 2001) 1 dX5_back_40 fX5_back_107 iX5_back_0 rfl (hS _ (by decide)) rfl rfl ?_
        refine hQ _ _ _ _ dX5_back_43 ⟨_, _, _, _, rfl, ?_⟩
        unfold backS
        rw [if_pos hin, hbi, hν]
        have hm2 : MomX g33 T33 20 ν := hz.2.cp hno.2.2.2.1 q2 q4
        exact ⟨⟨hm2.2.1, hm2, fun k hk => q1 k (by omega), fun k h1 h2 => q3 k h1 h2⟩, rfl, rfl⟩
      · skip
        refine J_bipush C (-2) dX5_back_20 bc_m2 ?_
        refine hQ _ _ _ _ dX5_back_22 ⟨_, _, _, _, rfl, ?_⟩
        have hn : im i = none := by
          cases hq : im i with
          | none => rfl
          | some ν =>
            have hz := him i hi
            rw [hq] at hz
            rw [hz.1] at hc17
            exact absurd hc17 (by decide)
        unfold backS
        rw [if_pos hin, hbi, hn]
        exact ⟨⟨rfl, hmu0, fun _ _ => rfl, fun _ _ _ => rfl⟩, rfl, rfl⟩
    · skip
      refine J_iconst C (-1) dX5_back_9 ic_m1 ?_
      refine hQ _ _ _ _ dX5_back_10 ⟨_, _, _, _, rfl, ?_⟩
      unfold backS
      rw [if_neg (fun z => by
        first
        | exact absurd hc1 (Int32.not_lt.mpr z.1)
        | exact absurd (le1 z.2) hc6)]
      exact ⟨⟨rfl, hmu0, fun _ _ => rfl, fun _ _ _ => rfl⟩, rfl, rfl⟩
