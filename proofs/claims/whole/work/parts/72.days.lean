/-! days: rest, undo, night, on both sides -/
def MoM (g : Nat → Int32) (T : Nat → Nat → Int32) (μ : MO) : Prop := g 4811 = nI μ.1 ∧ g 4812 = nI μ.2.1 ∧ g 4813 = nI μ.2.2.1 ∧ g 4814 = μ.2.2.2.1 ∧ g 4815 = nI μ.2.2.2.2.length ∧ ∀ (i : Nat) (q : Nat × Nat), μ.2.2.2.2[i]? = some q → T 54 (2 * i) = nI q.1 ∧ T 54 (2 * i + 1) = nI q.2
def restS (μ : MO) : Int32 × MO := if μ.2.1 = 0 then (-2, μ) else (nI (μ.2.1 - 1), (μ.1, μ.2.1 - 1, μ.2.2.1, μ.2.2.2.1, pushU μ.2.2.2.2 (μ.1, μ.2.1)))
def undoS (μ : MO) : Int32 × MO := match μ.2.2.2.2.getLast? with
  | none => (-2, μ)
  | some x => (nI (μ.2.2.2.2.length - 1), (x.1, x.2, μ.2.2.1, μ.2.2.2.1, μ.2.2.2.2.dropLast))
def FrMo (g g2 : Nat → Int32) (T T2 : Nat → Nat → Int32) : Prop := (∀ k, (k < 2000 ∨ 2004 < k) → g2 k = g k) ∧ ∀ k, k ≠ 21 → k ≠ 22 → T2 k = T k
def FrMm (g g2 : Nat → Int32) (T T2 : Nat → Nat → Int32) : Prop := (∀ k, (k < 4811 ∨ 4815 < k) → g2 k = g k) ∧ ∀ k, k ≠ 54 → T2 k = T k
theorem pushU_ok {u : List (Nat × Nat)} {x : Nat × Nat} (hl : u.length ≤ 10) (h : ∀ (i : Nat) (q : Nat × Nat), u[i]? = some q → q.1 < 256 ∧ q.2 ≤ 20) (hx : x.1 < 256 ∧ x.2 ≤ 20) : (pushU u x).length ≤ 10 ∧ ∀ (i : Nat) (q : Nat × Nat), (pushU u x)[i]? = some q → q.1 < 256 ∧ q.2 ≤ 20 := by
  have h9 := dropU_len hl
  have hall : ∀ q, q ∈ u → q.1 < 256 ∧ q.2 ≤ 20 := fun q hq => by
    obtain ⟨i, hi⟩ := List.getElem?_of_mem hq
    exact h i q hi
  refine ⟨by unfold pushU; simp; exact h9, fun i q hq => ?_⟩
  have hm := List.mem_of_getElem? hq
  unfold pushU dropU at hm
  rw [List.mem_append] at hm
  rcases hm with hm | hm
  · split at hm
    · exact hall q (List.mem_of_mem_drop hm)
    · exact hall q hm
  · rw [List.mem_singleton] at hm
    rw [hm]; exact hx
theorem restS_ok {μ : MO} (h : MoOK μ) : MoOK (restS μ).2 := by
  obtain ⟨h1, h2, h3, h4, h5⟩ := h
  unfold restS
  split
  · exact ⟨h1, h2, h3, h4, h5⟩
  · obtain ⟨p1, p2⟩ := pushU_ok (x := (μ.1, μ.2.1)) h4 h5 ⟨h1, h2⟩
    exact ⟨h1, by simp only; omega, h3, p1, p2⟩
theorem undoS_ok {μ : MO} (h : MoOK μ) : MoOK (undoS μ).2 := by
  obtain ⟨h1, h2, h3, h4, h5⟩ := h
  unfold undoS
  split
  · exact ⟨h1, h2, h3, h4, h5⟩
  · rename_i x hx
    obtain ⟨i, hi⟩ := List.getElem?_of_mem (List.mem_of_getLast? hx)
    have h6 := h5 i x hi
    refine ⟨h6.1, h6.2, h3, by simp; omega, fun j q hq => ?_⟩
    rw [List.getElem?_dropLast] at hq
    split at hq
    · exact h5 j q hq
    · cases hq
theorem last_cases (u : List (Nat × Nat)) : (u = [] ∧ u.getLast? = none) ∨ ∃ v x, u = v ++ [x] ∧ u.getLast? = some x ∧ u.dropLast = v := by
  rcases List.eq_nil_or_concat u with h | ⟨v, x, h⟩
  · exact Or.inl ⟨h, by rw [h]; rfl⟩
  · rw [List.concat_eq_append] at h
    exact Or.inr ⟨v, x, h, by rw [h]; simp, by rw [h]; simp⟩
abbrev rmX5_rest : Room := { frames := 2, cells := 0, slots := 0, locals := 41 }
theorem fX5_rest_107 : Cond.fieldLink RX5 107 RX0 (TX0 1).2.1 (TX0 1).2.2.1 ∈ wsX5_rest := by decide +kernel
theorem fX5_rest_37 : Cond.fieldLink RX5 37 RX5 (TX5 5).2.1 (TX5 5).2.2.1 ∈ wsX5_rest := by decide +kernel
theorem iX5_rest_0 : ∀ x ∈ wsX00, x ∈ wsX5_rest := by decide +kernel
theorem iX5_rest_5 : ∀ x ∈ wsX50, x ∈ wsX5_rest := by decide +kernel
theorem dm_X0_remember : yX0_remember.cls = RX0 ∧ yX0_remember.cls ≠ "java/lang/invoke/MethodHandle" ∧ yX0_remember.cls ≠ "java/lang/invoke/VarHandle" ∧ (parseMethodDescriptor yX0_remember.desc).map (fun d => d.parameters.length) = some 0 := by decide +kernel
theorem bc_m2 : (Int8.ofInt (-2)).toInt32 = (-2) := by decide
set_option maxRecDepth 100000 in
set_option maxHeartbeats 4000000 in
theorem c_X5_rest (E : EN) (hM : EM E) (g : Nat → Int32) (h : Nat → Int64) (T : Nat → Nat → Int32) (L : Nat → Nat → Int64) (μ : MO) (hmu : MomX g T 20 μ) (hok : MoOK μ) : GtI E yX5_rest wsX5_rest rmX5_rest [.ref (eA E 0)] g h T L (fun r g2 h2 T2 L2 => (r = (restS μ).1 ∧ MomX g2 T2 20 (restS μ).2 ∧ FrMo g g2 T T2) ∧ h2 = h ∧ L2 = L) := by
  refine CtI_of (cc := cX5_rest) (nL := 1) RX5 [some (.ref (eA E 0))] ⟨rfl, rfl⟩ (by decide) rfl rfl (Nat.le_of_ble_eq_true rfl) ⟨0, rfl⟩ hM.2 (fun Y C hQ => ?_)
  have hM0 := hM
  obtain ⟨hS, hNN⟩ := hM
  have hmu0 := hmu
  obtain ⟨a1, a2, a3, a4, a5, a6⟩ := hmu
  obtain ⟨o1, o2, o3, o4, o5⟩ := hok
  refine J_aload_0 C dX5_rest_0 ?_
  refine G5_getr C (n := 20) 5 dX5_rest_1 fX5_rest_37 iX5_rest_5 rfl (hS _ (by decide)) rfl rfl ?_
  refine G0_geti C (n := 2001) 1 dX5_rest_4 fX5_rest_107 iX5_rest_0 rfl (hS _ (by decide)) rfl rfl ?_
  refine J_if_gt C 13 dX5_rest_7 (by decide) (fun hc7 => ?_) (fun hc7 => ?_)
  · skip
    have hd : μ.2.1 ≠ 0 := fun z => by
      rw [show g 2001 = nI μ.2.1 from a2, z] at hc7
      exact absurd hc7 (by decide)
    refine J_aload_0 C dX5_rest_13 ?_
    refine G5_getr C (n := 20) 5 dX5_rest_14 fX5_rest_37 iX5_rest_5 rfl (hS _ (by decide)) rfl rfl ?_
    refine G_vtv C dX5_rest_17 (c_X0_remember E hM0 g h T L μ hmu0 ⟨o1, o2, o3, o4, o5⟩) gX5_rest_X0_remember rfl dm_X0_remember rfl rfl (hS _ (by decide)) rfl rfl (Nat.le_of_ble_eq_true rfl) (rmOK_b rfl) (fun g17 h17 T17 L17 hp17 => ?_)
    obtain ⟨rfl, rfl, hg17, hT17, hm17⟩ := hp17
    obtain ⟨b1, b2, b3, b4, b5, b6⟩ := hm17
    refine J_aload_0 C dX5_rest_20 ?_
    refine G5_getr C (n := 20) 5 dX5_rest_21 fX5_rest_37 iX5_rest_5 rfl (hS _ (by decide)) rfl rfl ?_
    refine J_dup C dX5_rest_24 ?_
    refine G0_geti C (n := 2001) 1 dX5_rest_25 fX5_rest_107 iX5_rest_0 rfl (hS _ (by decide)) rfl rfl ?_
    refine J_iconst C (1) dX5_rest_28 ic_1 ?_
    refine J_isub C dX5_rest_29 ?_
    refine J_top (y := nI (μ.2.1 - 1)) (by rw [show g17 2001 = nI μ.2.1 from b2, nI_pred1 (by omega)]) ?_
    refine G0_puti C (n := 2001) 1 dX5_rest_30 fX5_rest_107 iX5_rest_0 rfl (hS _ (by decide)) rfl (tyX0_ok 1 (by decide)) rfl rfl ?_
    refine J_aload_0 C dX5_rest_33 ?_
    refine G5_getr C (n := 20) 5 dX5_rest_34 fX5_rest_37 iX5_rest_5 rfl (hS _ (by decide)) rfl rfl ?_
    refine G0_geti C (n := 2001) 1 dX5_rest_37 fX5_rest_107 iX5_rest_0 rfl (hS _ (by decide)) rfl rfl ?_
    refine hQ _ _ _ _ dX5_rest_40 ⟨_, _, _, _, rfl, ?_⟩
    unfold restS
    rw [if_neg hd]
    refine ⟨⟨by simp [upd], ⟨?_, by simp [upd], ?_, ?_, ?_, b6⟩, fun k hk => ?_, hT17⟩, rfl, rfl⟩
    · simp [upd]; exact b1
    · simp [upd]; exact b3
    · simp [upd]; exact b4
    · simp [upd]; exact b5
    · simp only [upd]
      rw [if_neg (by omega)]
      exact hg17 k (by omega)
  · skip
    refine J_bipush C (-2) dX5_rest_10 bc_m2 ?_
    refine hQ _ _ _ _ dX5_rest_12 ⟨_, _, _, _, rfl, ?_⟩
    have hd : μ.2.1 = 0 := by
      rw [show g 2001 = nI μ.2.1 from a2] at hc7
      exact Decidable.byContradiction fun z => hc7 (by
        have := (nI_ltI (a := 0) (b := μ.2.1) (by decide) (by omega)).mpr (by omega)
        exact this)
    unfold restS
    rw [if_pos hd]
    exact ⟨⟨rfl, hmu0, fun _ _ => rfl, fun _ _ _ => rfl⟩, rfl, rfl⟩
abbrev rmX5_undo : Room := { frames := 1, cells := 0, slots := 0, locals := 20 }
theorem fX5_undo_145 : Cond.fieldLink RX5 145 RX0 (TX0 4).2.1 (TX0 4).2.2.1 ∈ wsX5_undo := by decide +kernel
theorem fX5_undo_37 : Cond.fieldLink RX5 37 RX5 (TX5 5).2.1 (TX5 5).2.2.1 ∈ wsX5_undo := by decide +kernel
theorem iX5_undo_0 : ∀ x ∈ wsX00, x ∈ wsX5_undo := by decide +kernel
theorem iX5_undo_5 : ∀ x ∈ wsX50, x ∈ wsX5_undo := by decide +kernel
theorem dm_X0_recall : yX0_recall.cls = RX0 ∧ yX0_recall.cls ≠ "java/lang/invoke/MethodHandle" ∧ yX0_recall.cls ≠ "java/lang/invoke/VarHandle" ∧ (parseMethodDescriptor yX0_recall.desc).map (fun d => d.parameters.length) = some 0 := by decide +kernel
set_option maxRecDepth 100000 in
set_option maxHeartbeats 4000000 in
theorem c_X5_undo (E : EN) (hM : EM E) (g : Nat → Int32) (h : Nat → Int64) (T : Nat → Nat → Int32) (L : Nat → Nat → Int64) (μ : MO) (hmu : MomX g T 20 μ) (hok : MoOK μ) : GtI E yX5_undo wsX5_undo rmX5_undo [.ref (eA E 0)] g h T L (fun r g2 h2 T2 L2 => (r = (undoS μ).1 ∧ MomX g2 T2 20 (undoS μ).2 ∧ FrMo g g2 T T2) ∧ h2 = h ∧ L2 = L) := by
  refine CtI_of (cc := cX5_undo) (nL := 1) RX5 [some (.ref (eA E 0))] ⟨rfl, rfl⟩ (by decide) rfl rfl (Nat.le_of_ble_eq_true rfl) ⟨0, rfl⟩ hM.2 (fun Y C hQ => ?_)
  have hM0 := hM
  obtain ⟨hS, hNN⟩ := hM
  have hmu0 := hmu
  obtain ⟨a1, a2, a3, a4, a5, a6⟩ := hmu
  obtain ⟨o1, o2, o3, o4, o5⟩ := hok
  refine J_aload_0 C dX5_undo_0 ?_
  refine G5_getr C (n := 20) 5 dX5_undo_1 fX5_undo_37 iX5_undo_5 rfl (hS _ (by decide)) rfl rfl ?_
  refine G0_geti C (n := 2004) 4 dX5_undo_4 fX5_undo_145 iX5_undo_0 rfl (hS _ (by decide)) rfl rfl ?_
  refine J_if_gt C 13 dX5_undo_7 (by decide) (fun hc7 => ?_) (fun hc7 => ?_)
  · skip
    obtain ⟨u, x, hu, hl1, hl2⟩ := (last_cases μ.2.2.2.2).resolve_left (fun ⟨z, _⟩ => by
      rw [show g 2004 = nI μ.2.2.2.2.length from a5, z] at hc7
      exact absurd hc7 (by decide))
    have hul : u.length ≤ 9 := by rw [hu] at o4; simp at o4; omega
    refine J_aload_0 C dX5_undo_13 ?_
    refine G5_getr C (n := 20) 5 dX5_undo_14 fX5_undo_37 iX5_undo_5 rfl (hS _ (by decide)) rfl rfl ?_
    refine G_vtv C dX5_undo_17 (c_X0_recall E hM0 g h T L μ hmu0 u x hu hul) gX5_undo_X0_recall rfl dm_X0_recall rfl rfl (hS _ (by decide)) rfl rfl (Nat.le_of_ble_eq_true rfl) (rmOK_b rfl) (fun g17 h17 T17 L17 hp17 => ?_)
    obtain ⟨rfl, rfl, rfl, hg17, hm17⟩ := hp17
    refine J_aload_0 C dX5_undo_20 ?_
    refine G5_getr C (n := 20) 5 dX5_undo_21 fX5_undo_37 iX5_undo_5 rfl (hS _ (by decide)) rfl rfl ?_
    refine G0_geti C (n := 2004) 4 dX5_undo_24 fX5_undo_145 iX5_undo_0 rfl (hS _ (by decide)) rfl rfl ?_
    refine hQ _ _ _ _ dX5_undo_27 ⟨_, _, _, _, rfl, ?_⟩
    unfold undoS
    rw [hl1]
    refine ⟨⟨?_, ?_, fun k hk => hg17 k (by omega) (by omega) (by omega), fun _ _ _ => rfl⟩, rfl, rfl⟩
    · show g17 2004 = _
      rw [show g17 2004 = nI u.length from hm17.2.2.2.2.1, hu]
      simp
    · simp only [hl2]
      exact hm17
  · skip
    refine J_bipush C (-2) dX5_undo_10 bc_m2 ?_
    refine hQ _ _ _ _ dX5_undo_12 ⟨_, _, _, _, rfl, ?_⟩
    have hd : μ.2.2.2.2.getLast? = none := by
      rcases last_cases μ.2.2.2.2 with ⟨_, z⟩ | ⟨v, x, z, _⟩
      · exact z
      · exfalso
        apply hc7
        rw [show g 2004 = nI μ.2.2.2.2.length from a5]
        exact (nI_ltI (a := 0) (by decide) (by omega)).mpr (by rw [z]; simp)
    unfold undoS
    rw [hd]
    exact ⟨⟨rfl, hmu0, fun _ _ => rfl, fun _ _ _ => rfl⟩, rfl, rfl⟩
