/-! the reference's count of the plans that fit -/
def rpSM (g : Nat → Int32) (T : Nat → Nat → Int32) (sn : List (Nat × Nat × Nat)) : Prop := g 4817 = nI sn.length ∧ ∀ (i : Nat) (q : Nat × Nat × Nat), sn[i]? = some q → T 55 i = nI q.1 ∧ T 56 i = nI q.2.1 ∧ T 57 i = nI q.2.2
def cfV (c : Nat → Nat → Option Nat) (cv : Int32) (tt : Nat) : Nat → Nat → Nat → Option Nat := fun k s b => if nI k = cv ∧ b.testBit tt = false then none else c s b
theorem cfV_inj {c : Nat → Nat → Option Nat} (h : inj2 c) {cv : Int32} {tt k : Nat} : inj2 (cfV c cv tt k) := by
  intro s b b' t h1 h2
  unfold cfV at h1 h2
  split at h1
  · cases h1
  · split at h2
    · cases h2
    · exact h s b b' t h1 h2
def FrLM (L L2 : Nat → Nat → Int64) : Prop := ∀ k, k ≠ 66 → k ≠ 67 → L2 k = L k
abbrev rmX6_isSeen : Room := { frames := 0, cells := 0, slots := 0, locals := 0 }
theorem fX6_isSeen_189 : Cond.fieldLink RX6 189 RX6 (TX6 17).2.1 (TX6 17).2.2.1 ∈ wsX6_isSeen := by decide +kernel
theorem fX6_isSeen_41 : Cond.fieldLink RX6 41 RX6 (TX6 18).2.1 (TX6 18).2.2.1 ∈ wsX6_isSeen := by decide +kernel
theorem fX6_isSeen_44 : Cond.fieldLink RX6 44 RX6 (TX6 19).2.1 (TX6 19).2.2.1 ∈ wsX6_isSeen := by decide +kernel
theorem fX6_isSeen_47 : Cond.fieldLink RX6 47 RX6 (TX6 20).2.1 (TX6 20).2.2.1 ∈ wsX6_isSeen := by decide +kernel
theorem iX6_isSeen_6 : ∀ x ∈ wsX60, x ∈ wsX6_isSeen := by decide +kernel
set_option maxRecDepth 100000 in
set_option maxHeartbeats 4000000 in
theorem c_X6_isSeen (E : EN) (hM : EM E) (g : Nat → Int32) (h : Nat → Int64) (T : Nat → Nat → Int32) (L : Nat → Nat → Int64) (sn : List (Nat × Nat × Nat)) (hsn : rpSM g T sn) (hso : SnOK sn) (s c : Nat) (hs : s < 256) (hc : c < 1000) : GpI E yX6_isSeen wsX6_isSeen rmX6_isSeen [.ref (eA E 48), .int (nI s), .int (nI c)] g h T L (fun r => r = if agN sn c s = true then 1 else 0) := by
  refine CtZ_of (cc := cX6_isSeen) (nL := 5) RX6 [some (.ref (eA E 48)), some (.int (nI s)), some (.int (nI c)), none, none] ⟨rfl, rfl⟩ (by decide) rfl rfl (Nat.le_of_ble_eq_true rfl) ⟨2, rfl⟩ hM.2 (fun Y C hQ => ?_)
  have hM0 := hM
  obtain ⟨hS, hNN⟩ := hM
  have hl8 := hso.1
  have htk : ∀ k (q : Nat × Nat × Nat), sn[k]? = some q → agN (sn.take (k + 1)) c s = (agN (sn.take k) c s && (!(q.1 == c) || ((if s.testBit q.2.1 = true then 1 else 0) == q.2.2))) := fun k q hq => by
    unfold agN
    rw [List.take_add_one, hq, List.all_append]
    simp
  refine J_iconst C (1) dX6_isSeen_0 ic_1 ?_
  refine J_istore_3 C dX6_isSeen_1 (by decide) trivial ?_
  refine J_iconst C (0) dX6_isSeen_2 ic_0 ?_
  refine J_istore_4 C dX6_isSeen_3 (by decide) trivial ?_
  have loop : ∀ (n : Nat) (k : Nat), k ≤ sn.length → sn.length < n + k → J E Y (eN E) 0 0 (wS E g h T L) 5 [some (.ref (eA E 48)), some (.int (nI s)), some (.int (nI c)), some (.int (if agN (sn.take k) c s = true then 1 else 0)), some (.int (nI k))] [] := by
    intro n
    induction n with
    | zero =>
      intro k h1 h2
      omega
    | succ n ih =>
      intro k h1 h2
      refine J_iload_4 C dX6_isSeen_5 ?_
      refine J_aload_0 C dX6_isSeen_7 ?_
      refine G6_geti C (n := 4817) 17 dX6_isSeen_8 fX6_isSeen_189 iX6_isSeen_6 rfl (hS _ (by decide)) rfl rfl ?_
      refine J_icmp_ge C 62 dX6_isSeen_11 (by decide) (fun hc11 => ?_) (fun hc11 => ?_)
      · skip
        refine J_iload_3 C dX6_isSeen_62 ?_
        refine hQ _ _ _ _ dX6_isSeen_63 (by split <;> rfl) ⟨rfl, ?_⟩
        have hk : k = sn.length := by
          rw [hsn.1] at hc11
          have := ge_nI (by omega) hc11
          omega
        rw [hk, List.take_length]
      · skip
        have hkl : k < sn.length := by
          rw [hsn.1] at hc11
          exact lt_nI (by omega) hc11
        obtain ⟨q, hq⟩ : ∃ q, sn[k]? = some q := ⟨_, List.getElem?_eq_getElem hkl⟩
        obtain ⟨q1, q2, q3⟩ := hsn.2 k q hq
        obtain ⟨o1, o2, o3⟩ := hso.2 k q hq
        have htk1 := htk k q hq
        refine J_iload_3 C dX6_isSeen_14 ?_
        refine J_if_eq C 54 dX6_isSeen_15 (by decide) (fun hc15 => ?_) (fun hc15 => ?_)
        · skip
          refine J_iconst C (0) dX6_isSeen_54 ic_0 ?_
          refine J_istore_3 C dX6_isSeen_55 (by decide) trivial ?_
          refine J_iinc_4 C (1) dX6_isSeen_56 (by decide) trivial ic_1 ?_
          refine J_goto C 5 dX6_isSeen_59 (by decide) ?_
          rw [nI_1]
          have hx := ih (k + 1) (by omega) (by omega)
          rw [htk1] at hx
          by_cases z1 : agN (sn.take k) c s = true
          · by_cases z2 : q.1 = c
            · by_cases z3 : (if s.testBit q.2.1 = true then 1 else 0) = q.2.2
              · simp only [z1, z2, z3, beq_self_eq_true, Bool.not_true, Bool.false_or, Bool.and_true, if_true] at hx
                first
                | exact hx
                | (rw [if_pos z1] at hc15; exact absurd hc15 (by decide))
                | (rw [← z3] at hc47
                   by_cases z : s.testBit q.2.1 = true
                   · rw [if_pos z, if_pos z] at hc47; exact absurd rfl hc47
                   · rw [if_neg z, if_neg z] at hc47; exact absurd rfl hc47)
              · have z3' : ((if s.testBit q.2.1 = true then 1 else 0) == q.2.2) = false := beq_eq_false_iff_ne.mpr z3
                simp only [z1, z2, z3', beq_self_eq_true, Bool.not_true, Bool.false_or, Bool.and_false, Bool.false_eq_true, if_false] at hx
                first
                | exact hx
                | (rw [if_pos z1] at hc15; exact absurd hc15 (by decide))
                | (rw [z2] at hc26; exact absurd rfl hc26)
                | (exfalso
                   apply z3
                   by_cases z : s.testBit q.2.1 = true
                   · rw [if_pos z] at hc47 ⊢
                     exact nI_inj (by omega) (by omega) hc47
                   · rw [if_neg z] at hc47 ⊢
                     exact nI_inj (by omega) (by omega) hc47)
            · have z2' : (q.1 == c) = false := beq_eq_false_iff_ne.mpr z2
              simp only [z1, z2', Bool.not_false, Bool.true_or, Bool.and_true, if_true] at hx
              first
              | exact hx
              | (rw [if_pos z1] at hc15; exact absurd hc15 (by decide))
              | (exact absurd (nI_inj (by omega) (by omega) hc26) z2)
          · have z1' : agN (sn.take k) c s = false := by simpa using z1
            simp only [z1', Bool.false_and, Bool.false_eq_true, if_false] at hx
            first
            | exact hx
            | (rw [if_neg z1] at hc15; exact absurd rfl hc15)
        · skip
          refine J_aload_0 C dX6_isSeen_18 ?_
          refine G6_getr C (n := 55) 18 dX6_isSeen_19 fX6_isSeen_41 iX6_isSeen_6 rfl (hS _ (by decide)) rfl rfl ?_
          refine J_iload_4 C dX6_isSeen_22 ?_
          refine G_iald C k dX6_isSeen_24 rfl (hS _ (by decide)) rfl (by omega) ?_
          rw [q1]
          refine J_iload_2 C dX6_isSeen_25 ?_
          refine J_icmp_ne C 50 dX6_isSeen_26 (by decide) (fun hc26 => ?_) (fun hc26 => ?_)
          · skip
            refine J_iconst C (1) dX6_isSeen_50 ic_1 ?_
            refine J_goto C 55 dX6_isSeen_51 (by decide) ?_
            refine J_istore_3 C dX6_isSeen_55 (by decide) trivial ?_
            refine J_iinc_4 C (1) dX6_isSeen_56 (by decide) trivial ic_1 ?_
            refine J_goto C 5 dX6_isSeen_59 (by decide) ?_
            rw [nI_1]
            have hx := ih (k + 1) (by omega) (by omega)
            rw [htk1] at hx
            by_cases z1 : agN (sn.take k) c s = true
            · by_cases z2 : q.1 = c
              · by_cases z3 : (if s.testBit q.2.1 = true then 1 else 0) = q.2.2
                · simp only [z1, z2, z3, beq_self_eq_true, Bool.not_true, Bool.false_or, Bool.and_true, if_true] at hx
                  first
                  | exact hx
                  | (rw [if_pos z1] at hc15; exact absurd hc15 (by decide))
                  | (rw [← z3] at hc47
                     by_cases z : s.testBit q.2.1 = true
                     · rw [if_pos z, if_pos z] at hc47; exact absurd rfl hc47
                     · rw [if_neg z, if_neg z] at hc47; exact absurd rfl hc47)
                · have z3' : ((if s.testBit q.2.1 = true then 1 else 0) == q.2.2) = false := beq_eq_false_iff_ne.mpr z3
                  simp only [z1, z2, z3', beq_self_eq_true, Bool.not_true, Bool.false_or, Bool.and_false, Bool.false_eq_true, if_false] at hx
                  first
                  | exact hx
                  | (rw [if_pos z1] at hc15; exact absurd hc15 (by decide))
                  | (rw [z2] at hc26; exact absurd rfl hc26)
                  | (exfalso
                     apply z3
                     by_cases z : s.testBit q.2.1 = true
                     · rw [if_pos z] at hc47 ⊢
                       exact nI_inj (by omega) (by omega) hc47
                     · rw [if_neg z] at hc47 ⊢
                       exact nI_inj (by omega) (by omega) hc47)
              · have z2' : (q.1 == c) = false := beq_eq_false_iff_ne.mpr z2
                simp only [z1, z2', Bool.not_false, Bool.true_or, Bool.and_true, if_true] at hx
                first
                | exact hx
                | (rw [if_pos z1] at hc15; exact absurd hc15 (by decide))
                | (exact absurd (nI_inj (by omega) (by omega) hc26) z2)
            · have z1' : agN (sn.take k) c s = false := by simpa using z1
              simp only [z1', Bool.false_and, Bool.false_eq_true, if_false] at hx
              first
              | exact hx
              | (rw [if_neg z1] at hc15; exact absurd rfl hc15)
          · skip
            refine J_iload_1 C dX6_isSeen_29 ?_
            refine J_aload_0 C dX6_isSeen_30 ?_
            refine G6_getr C (n := 56) 19 dX6_isSeen_31 fX6_isSeen_44 iX6_isSeen_6 rfl (hS _ (by decide)) rfl rfl ?_
            refine J_iload_4 C dX6_isSeen_34 ?_
            refine G_iald C k dX6_isSeen_36 rfl (hS _ (by decide)) rfl (by omega) ?_
            rw [q2]
            refine J_ishr C dX6_isSeen_37 ?_
            refine J_iconst C (1) dX6_isSeen_38 ic_1 ?_
            refine J_iand C dX6_isSeen_39 ?_
            rw [bit_i (by omega) (by omega)]
            refine J_aload_0 C dX6_isSeen_40 ?_
            refine G6_getr C (n := 57) 20 dX6_isSeen_41 fX6_isSeen_47 iX6_isSeen_6 rfl (hS _ (by decide)) rfl rfl ?_
            refine J_iload_4 C dX6_isSeen_44 ?_
            refine G_iald C k dX6_isSeen_46 rfl (hS _ (by decide)) rfl (by omega) ?_
            rw [q3]
            refine J_icmp_ne C 54 dX6_isSeen_47 (by decide) (fun hc47 => ?_) (fun hc47 => ?_)
            · skip
              refine J_iconst C (0) dX6_isSeen_54 ic_0 ?_
              refine J_istore_3 C dX6_isSeen_55 (by decide) trivial ?_
              refine J_iinc_4 C (1) dX6_isSeen_56 (by decide) trivial ic_1 ?_
              refine J_goto C 5 dX6_isSeen_59 (by decide) ?_
              rw [nI_1]
              have hx := ih (k + 1) (by omega) (by omega)
              rw [htk1] at hx
              by_cases z1 : agN (sn.take k) c s = true
              · by_cases z2 : q.1 = c
                · by_cases z3 : (if s.testBit q.2.1 = true then 1 else 0) = q.2.2
                  · simp only [z1, z2, z3, beq_self_eq_true, Bool.not_true, Bool.false_or, Bool.and_true, if_true] at hx
                    first
                    | exact hx
                    | (rw [if_pos z1] at hc15; exact absurd hc15 (by decide))
                    | (rw [← z3] at hc47
                       by_cases z : s.testBit q.2.1 = true
                       · rw [if_pos z, if_pos z] at hc47; exact absurd rfl hc47
                       · rw [if_neg z, if_neg z] at hc47; exact absurd rfl hc47)
                  · have z3' : ((if s.testBit q.2.1 = true then 1 else 0) == q.2.2) = false := beq_eq_false_iff_ne.mpr z3
                    simp only [z1, z2, z3', beq_self_eq_true, Bool.not_true, Bool.false_or, Bool.and_false, Bool.false_eq_true, if_false] at hx
                    first
                    | exact hx
                    | (rw [if_pos z1] at hc15; exact absurd hc15 (by decide))
                    | (rw [z2] at hc26; exact absurd rfl hc26)
                    | (exfalso
                       apply z3
                       by_cases z : s.testBit q.2.1 = true
                       · rw [if_pos z] at hc47 ⊢
                         exact nI_inj (by omega) (by omega) hc47
                       · rw [if_neg z] at hc47 ⊢
                         exact nI_inj (by omega) (by omega) hc47)
                · have z2' : (q.1 == c) = false := beq_eq_false_iff_ne.mpr z2
                  simp only [z1, z2', Bool.not_false, Bool.true_or, Bool.and_true, if_true] at hx
                  first
                  | exact hx
                  | (rw [if_pos z1] at hc15; exact absurd hc15 (by decide))
                  | (exact absurd (nI_inj (by omega) (by omega) hc26) z2)
              · have z1' : agN (sn.take k) c s = false := by simpa using z1
                simp only [z1', Bool.false_and, Bool.false_eq_true, if_false] at hx
                first
                | exact hx
                | (rw [if_neg z1] at hc15; exact absurd rfl hc15)
            · skip
              refine J_iconst C (1) dX6_isSeen_50 ic_1 ?_
              refine J_goto C 55 dX6_isSeen_51 (by decide) ?_
              refine J_istore_3 C dX6_isSeen_55 (by decide) trivial ?_
              refine J_iinc_4 C (1) dX6_isSeen_56 (by decide) trivial ic_1 ?_
              refine J_goto C 5 dX6_isSeen_59 (by decide) ?_
              rw [nI_1]
              have hx := ih (k + 1) (by omega) (by omega)
              rw [htk1] at hx
              by_cases z1 : agN (sn.take k) c s = true
              · by_cases z2 : q.1 = c
                · by_cases z3 : (if s.testBit q.2.1 = true then 1 else 0) = q.2.2
                  · simp only [z1, z2, z3, beq_self_eq_true, Bool.not_true, Bool.false_or, Bool.and_true, if_true] at hx
                    first
                    | exact hx
                    | (rw [if_pos z1] at hc15; exact absurd hc15 (by decide))
                    | (rw [← z3] at hc47
                       by_cases z : s.testBit q.2.1 = true
                       · rw [if_pos z, if_pos z] at hc47; exact absurd rfl hc47
                       · rw [if_neg z, if_neg z] at hc47; exact absurd rfl hc47)
                  · have z3' : ((if s.testBit q.2.1 = true then 1 else 0) == q.2.2) = false := beq_eq_false_iff_ne.mpr z3
                    simp only [z1, z2, z3', beq_self_eq_true, Bool.not_true, Bool.false_or, Bool.and_false, Bool.false_eq_true, if_false] at hx
                    first
                    | exact hx
                    | (rw [if_pos z1] at hc15; exact absurd hc15 (by decide))
                    | (rw [z2] at hc26; exact absurd rfl hc26)
                    | (exfalso
                       apply z3
                       by_cases z : s.testBit q.2.1 = true
                       · rw [if_pos z] at hc47 ⊢
                         exact nI_inj (by omega) (by omega) hc47
                       · rw [if_neg z] at hc47 ⊢
                         exact nI_inj (by omega) (by omega) hc47)
                · have z2' : (q.1 == c) = false := beq_eq_false_iff_ne.mpr z2
                  simp only [z1, z2', Bool.not_false, Bool.true_or, Bool.and_true, if_true] at hx
                  first
                  | exact hx
                  | (rw [if_pos z1] at hc15; exact absurd hc15 (by decide))
                  | (exact absurd (nI_inj (by omega) (by omega) hc26) z2)
              · have z1' : agN (sn.take k) c s = false := by simpa using z1
                simp only [z1', Bool.false_and, Bool.false_eq_true, if_false] at hx
                first
                | exact hx
                | (rw [if_neg z1] at hc15; exact absurd rfl hc15)
  exact loop (sn.length + 1) 0 (by omega) (by omega)
abbrev rmX6_fitting : Room := { frames := 4, cells := 0, slots := 0, locals := 90 }
theorem fX6_fitting_177 : Cond.fieldLink RX6 177 RX6 (TX6 10).2.1 (TX6 10).2.2.1 ∈ wsX6_fitting := by decide +kernel
theorem fX6_fitting_25 : Cond.fieldLink RX6 25 RX6 (TX6 8).2.1 (TX6 8).2.2.1 ∈ wsX6_fitting := by decide +kernel
theorem fX6_fitting_75 : Cond.fieldLink RX6 75 RX6 (TX6 37).2.1 (TX6 37).2.2.1 ∈ wsX6_fitting := by decide +kernel
theorem fX6_fitting_79 : Cond.fieldLink RX6 79 RX6 (TX6 38).2.1 (TX6 38).2.2.1 ∈ wsX6_fitting := by decide +kernel
theorem fX6_fitting_82 : Cond.fieldLink RX6 82 RX6 (TX6 2).2.1 (TX6 2).2.2.1 ∈ wsX6_fitting := by decide +kernel
theorem iX6_fitting_6 : ∀ x ∈ wsX60, x ∈ wsX6_fitting := by decide +kernel
theorem dm_X6_isSeen : yX6_isSeen.cls = RX6 ∧ yX6_isSeen.cls ≠ "java/lang/invoke/MethodHandle" ∧ yX6_isSeen.cls ≠ "java/lang/invoke/VarHandle" ∧ (parseMethodDescriptor yX6_isSeen.desc).map (fun d => d.parameters.length) = some 2 := by decide +kernel
set_option maxRecDepth 100000 in
set_option maxHeartbeats 4000000 in
theorem c_X6_fitting (E : EN) (hM : EM E) (m : Nat) (ρ : Nat → Nat → Nat) (g : Nat → Int32) (h : Nat → Int64) (T : Nat → Nat → Int32) (L : Nat → Nat → Int64) (hR : RvM g T m ρ) (sn : List (Nat × Nat × Nat)) (hsn : rpSM g T sn) (hso : SnOK sn) (ld : Nat) (hld : ld < 1000) (hgl : g 4808 = nI ld) (bg : Nat) (hbg : bg < 256) (hgb : g 4810 = nI bg) (c : Nat → Nat → Option Nat) (hc : c = (crN m (ρ 2) (ρ 3) ld (2 ^ m - 1))) (n tt : Nat) (cv : Int32) (hn : n ≤ 5) (htt : tt < 7) : GtL E yX6_fitting wsX6_fitting rmX6_fitting [.ref (eA E 48), .int (nI n), .int cv, .int (nI tt)] g h T L (fun r g2 h2 T2 L2 => g2 = g ∧ h2 = h ∧ T2 = T ∧ FrLM L L2 ∧ r = lN (smN ((wy (cfV c cv tt) (agN sn) (2 ^ m) bg) n) 256)) := by
  refine CtL_of (cc := cX6_fitting) (nL := 8) RX6 [some (.ref (eA E 48)), some (.int (nI n)), some (.int cv), some (.int (nI tt)), none, none, none, none] ⟨rfl, rfl⟩ (by decide) rfl rfl (Nat.le_of_ble_eq_true rfl) ⟨4, rfl⟩ hM.2 (fun Y C hQ => ?_)
  have hM0 := hM
  obtain ⟨hS, hNN⟩ := hM
  have hm := hR.1
  have h7 := p7 hm
  have hci : inj2 c := by rw [hc]; exact crN_inj
  have hsm : ∀ k s, k ≤ 5 → (wy (cfV c cv tt) (agN sn) (2 ^ m) bg) k s < 2 ^ 63 := fun k s hk => by
    have := wy_small (ag := agN sn) (B := 2 ^ m) (bg := bg) (s := s) (fun k => cfV_inj (cv := cv) (tt := tt) (k := k) hci) hk
    omega
  have hcl : ∀ k s b t, s < 256 → (cfV c cv tt) k s b = some t → t < 256 := fun k s b t hs h => by
    unfold cfV at h
    split at h
    · cases h
    · rw [hc] at h
      exact (crN_lt hm hs h).1
  refine J_iconst C (0) dX6_fitting_0 ic_0 ?_
  refine J_istore_4 C dX6_fitting_1 (by decide) trivial ?_
  have loop : ∀ (n1 : Nat) (s : Nat) (L1 : Nat → Nat → Int64), s ≤ 256 → 256 < n1 + s → FrLM L L1 → (∀ t, t < s → L1 66 t = lN ((wy (cfV c cv tt) (agN sn) (2 ^ m) bg) 0 t)) → J E Y (eN E) 0 0 (wS E g h T L1) 3 [some (.ref (eA E 48)), some (.int (nI n)), some (.int cv), some (.int (nI tt)), some (.int (nI s)), none, none, none] [] := by
    intro n1
    induction n1 with
    | zero =>
      intro s L1 h1 h2 hF hz
      omega
    | succ n1 ih =>
      intro s L1 h1 h2 hF hz
      refine J_iload_4 C dX6_fitting_3 ?_
      refine J_sipush C (256) dX6_fitting_5 sc_256 ?_
      refine J_icmp_ge C 48 dX6_fitting_8 (by decide) (fun hc8 => ?_) (fun hc8 => ?_)
      · skip
        have hs : s = 256 := by
          have := ge_nI (m := 256) (by omega) hc8
          omega
        subst hs
        refine J_iconst C (1) dX6_fitting_48 ic_1 ?_
        refine J_istore_4 C dX6_fitting_49 (by decide) trivial ?_
        have loop2 : ∀ (n2 : Nat) (k : Nat) (L2 : Nat → Nat → Int64) (x5 x6 x7 : Option Value), 1 ≤ k → k ≤ n + 1 → n + 1 < n2 + k → FrLM L L2 → (∀ t, t < 256 → L2 66 t = lN ((wy (cfV c cv tt) (agN sn) (2 ^ m) bg) (k - 1) t)) → J E Y (eN E) 0 0 (wS E g h T L2) 51 [some (.ref (eA E 48)), some (.int (nI n)), some (.int cv), some (.int (nI tt)), some (.int (nI k)), x5, x6, x7] [] := by
          intro n2
          induction n2 with
          | zero =>
            intro k L2 x5 x6 x7 h0 h1 h2 hF2 hway
            omega
          | succ n2 ih2 =>
            intro k L2 x5 x6 x7 h0 h1 h2 hF2 hway
            refine J_iload_4 C dX6_fitting_51 ?_
            refine J_iload_1 C dX6_fitting_53 ?_
            refine J_icmp_gt C 234 dX6_fitting_54 (by decide) (fun hc54 => ?_) (fun hc54 => ?_)
            · skip
              have hkn : k = n + 1 := by
                have := (nI_ltI (by omega) (by omega)).mp hc54
                omega
              subst hkn
              refine J_lconst C (0) dX6_fitting_234 lc_0 ?_
              refine J_lstore_4 C dX6_fitting_235 (by decide) trivial ?_
              refine J_iconst C (0) dX6_fitting_237 ic_0 ?_
              refine J_istore_6 C dX6_fitting_238 (by decide) trivial ?_
              have loop7 : ∀ (n7 : Nat) (z : Nat) (x7 : Option Value), z ≤ 256 → 256 < n7 + z → J E Y (eN E) 0 0 (wS E g h T L2) 240 [some (.ref (eA E 48)), some (.int (nI n)), some (.int cv), some (.int (nI tt)), some (.long (lN (smN ((wy (cfV c cv tt) (agN sn) (2 ^ m) bg) n) z))), none, some (.int (nI z)), x7] [] := by
                intro n7
                induction n7 with
                | zero =>
                  intro z x7 h5 h6
                  omega
                | succ n7 ih7 =>
                  intro z x7 h5 h6
                  refine J_iload_6 C dX6_fitting_240 ?_
                  refine J_sipush C (256) dX6_fitting_242 sc_256 ?_
                  refine J_icmp_ge C 266 dX6_fitting_245 (by decide) (fun hc245 => ?_) (fun hc245 => ?_)
                  · skip
                    refine J_lload_4 C dX6_fitting_266 ?_
                    refine hQ _ _ _ _ dX6_fitting_268 ⟨_, _, _, _, rfl, ?_⟩
                    have hz0 : z = 256 := by
                      have := ge_nI (m := 256) (by omega) hc245
                      omega
                    subst hz0
                    exact ⟨rfl, rfl, rfl, hF2, rfl⟩
                  · skip
                    have hz0 : z < 256 := lt_nI (m := 256) (by omega) hc245
                    refine J_lload_4 C dX6_fitting_248 ?_
                    refine J_aload_0 C dX6_fitting_250 ?_
                    refine G6_getr C (n := 66) 37 dX6_fitting_251 fX6_fitting_75 iX6_fitting_6 rfl (hS _ (by decide)) rfl rfl ?_
                    refine J_iload_6 C dX6_fitting_254 ?_
                    refine G_lald C z dX6_fitting_256 rfl (hS _ (by decide)) rfl hz0 ?_
                    rw [hway z hz0]
                    refine J_ladd C dX6_fitting_257 ?_
                    rw [lN_add]
                    refine J_lstore_4 C dX6_fitting_258 (by decide) trivial ?_
                    refine J_iinc_6 C (1) dX6_fitting_260 (by decide) trivial ic_1 ?_
                    refine J_goto C 240 dX6_fitting_263 (by decide) ?_
                    rw [nI_1]
                    exact ih7 (z + 1) _ (by omega) (by omega)
              exact loop7 257 0 _ (by omega) (by omega)
            · skip
              obtain ⟨kk, rfl⟩ : ∃ kk, k = kk + 1 := ⟨k - 1, by omega⟩
              have hkn : kk + 1 ≤ n := by
                rcases Nat.lt_or_ge n (kk + 1) with q | q
                · exact absurd (nI_lt q (by omega)) hc54
                · exact q
              refine J_iconst C (0) dX6_fitting_57 ic_0 ?_
              refine J_istore_5 C dX6_fitting_58 (by decide) trivial ?_
              have loop3 : ∀ (n3 : Nat) (z : Nat) (L3 : Nat → Nat → Int64), z ≤ 256 → 256 < n3 + z → FrLM L L3 → (∀ t, t < 256 → L3 66 t = lN ((wy (cfV c cv tt) (agN sn) (2 ^ m) bg) kk t)) → (∀ t, t < z → L3 67 t = lN 0) → J E Y (eN E) 0 0 (wS E g h T L3) 60 [some (.ref (eA E 48)), some (.int (nI n)), some (.int cv), some (.int (nI tt)), some (.int (nI (kk + 1))), some (.int (nI z)), x6, x7] [] := by
                intro n3
                induction n3 with
                | zero =>
                  intro z L3 h3 h4 hF3 hw3 hz3
                  omega
                | succ n3 ih3 =>
                  intro z L3 h3 h4 hF3 hw3 hz3
                  refine J_iload_5 C dX6_fitting_60 ?_
                  refine J_sipush C (256) dX6_fitting_62 sc_256 ?_
                  refine J_icmp_ge C 82 dX6_fitting_65 (by decide) (fun hc65 => ?_) (fun hc65 => ?_)
                  · skip
                    have hz0 : z = 256 := by
                      have := ge_nI (m := 256) (by omega) hc65
                      omega
                    subst hz0
                    refine J_iconst C (0) dX6_fitting_82 ic_0 ?_
                    refine J_istore_5 C dX6_fitting_83 (by decide) trivial ?_
                    have loop4 : ∀ (n4 : Nat) (s : Nat) (L4 : Nat → Nat → Int64) (x6 x7 : Option Value), s ≤ 256 → 256 < n4 + s → FrLM L L4 → (∀ t, t < 256 → L4 66 t = lN ((wy (cfV c cv tt) (agN sn) (2 ^ m) bg) kk t)) → (∀ t, t < 256 → L4 67 t = lN (acO ((cfV c cv tt) (kk + 1)) (agN sn (kk + 1)) ((wy (cfV c cv tt) (agN sn) (2 ^ m) bg) kk) (2 ^ m) s t)) → J E Y (eN E) 0 0 (wS E g h T L4) 85 [some (.ref (eA E 48)), some (.int (nI n)), some (.int cv), some (.int (nI tt)), some (.int (nI (kk + 1))), some (.int (nI s)), x6, x7] [] := by
                      intro n4
                      induction n4 with
                      | zero =>
                        intro s L4 x6 x7 h3 h4 hF4 hw4 hm4
                        omega
                      | succ n4 ih4 =>
                        intro s L4 x6 x7 h3 h4 hF4 hw4 hm4
                        refine J_iload_5 C dX6_fitting_85 ?_
                        refine J_sipush C (256) dX6_fitting_87 sc_256 ?_
                        refine J_icmp_ge C 197 dX6_fitting_90 (by decide) (fun hc90 => ?_) (fun hc90 => ?_)
                        · skip
                          have hs : s = 256 := by
                            have := ge_nI (m := 256) (by omega) hc90
                            omega
                          subst hs
                          refine J_iconst C (0) dX6_fitting_197 ic_0 ?_
                          refine J_istore_5 C dX6_fitting_198 (by decide) trivial ?_
                          have loop6 : ∀ (n6 : Nat) (z : Nat) (L6 : Nat → Nat → Int64), z ≤ 256 → 256 < n6 + z → FrLM L L6 → (∀ t, t < 256 → L6 67 t = lN ((wy (cfV c cv tt) (agN sn) (2 ^ m) bg) (kk + 1) t)) → (∀ t, t < z → L6 66 t = lN ((wy (cfV c cv tt) (agN sn) (2 ^ m) bg) (kk + 1) t)) → J E Y (eN E) 0 0 (wS E g h T L6) 200 [some (.ref (eA E 48)), some (.int (nI n)), some (.int cv), some (.int (nI tt)), some (.int (nI (kk + 1))), some (.int (nI z)), x6, x7] [] := by
                            intro n6
                            induction n6 with
                            | zero =>
                              intro z L6 h5 h6 hF6 hmo hcp
                              omega
                            | succ n6 ih6 =>
                              intro z L6 h5 h6 hF6 hmo hcp
                              refine J_iload_5 C dX6_fitting_200 ?_
                              refine J_sipush C (256) dX6_fitting_202 sc_256 ?_
                              refine J_icmp_ge C 228 dX6_fitting_205 (by decide) (fun hc205 => ?_) (fun hc205 => ?_)
                              · skip
                                have hz0 : z = 256 := by
                                  have := ge_nI (m := 256) (by omega) hc205
                                  omega
                                subst hz0
                                refine J_iinc_4 C (1) dX6_fitting_228 (by decide) trivial ic_1 ?_
                                refine J_goto C 51 dX6_fitting_231 (by decide) ?_
                                rw [nI_1]
                                refine ih2 (kk + 1 + 1) L6 _ _ _ (by omega) (by omega) (by omega) hF6 (fun t ht => ?_)
                                rw [show kk + 1 + 1 - 1 = kk + 1 by omega]
                                exact hcp t ht
                              · skip
                                have hz0 : z < 256 := lt_nI (m := 256) (by omega) hc205
                                refine J_aload_0 C dX6_fitting_208 ?_
                                refine G6_getr C (n := 66) 37 dX6_fitting_209 fX6_fitting_75 iX6_fitting_6 rfl (hS _ (by decide)) rfl rfl ?_
                                refine J_iload_5 C dX6_fitting_212 ?_
                                refine J_aload_0 C dX6_fitting_214 ?_
                                refine G6_getr C (n := 67) 38 dX6_fitting_215 fX6_fitting_79 iX6_fitting_6 rfl (hS _ (by decide)) rfl rfl ?_
                                refine J_iload_5 C dX6_fitting_218 ?_
                                refine G_lald C z dX6_fitting_220 rfl (hS _ (by decide)) rfl hz0 ?_
                                rw [hmo z hz0]
                                refine G_last C z dX6_fitting_221 rfl (hS _ (by decide)) rfl hz0 ?_
                                refine J_iinc_5 C (1) dX6_fitting_222 (by decide) trivial ic_1 ?_
                                refine J_goto C 200 dX6_fitting_225 (by decide) ?_
                                rw [nI_1]
                                refine ih6 (z + 1) _ (by omega) (by omega) (fun k hk hk2 => by simp [va_up, hk]; exact hF6 k hk hk2) (fun t ht => by simp [va_up]; exact hmo t ht) (fun t ht => ?_)
                                simp only [va_up, if_true, vp_updL]
                                by_cases e : t = z
                                · subst e
                                  rw [if_pos rfl]
                                · rw [if_neg e]; exact hcp t (by omega)
                          exact loop6 257 0 L4 (by omega) (by omega) hF4 hm4 (fun t ht => absurd ht (Nat.not_lt_zero _))
                        · skip
                          have hs : s < 256 := lt_nI (m := 256) (by omega) hc90
                          refine J_iconst C (0) dX6_fitting_93 ic_0 ?_
                          refine J_istore_6 C dX6_fitting_94 (by decide) trivial ?_
                          have loop5 : ∀ (n5 : Nat) (b : Nat) (L5 : Nat → Nat → Int64) (x7 : Option Value), b ≤ 2 ^ m → 2 ^ m < n5 + b → FrLM L L5 → (∀ t, t < 256 → L5 66 t = lN ((wy (cfV c cv tt) (agN sn) (2 ^ m) bg) kk t)) → (∀ t, t < 256 → L5 67 t = lN (acI ((cfV c cv tt) (kk + 1)) (agN sn (kk + 1)) ((wy (cfV c cv tt) (agN sn) (2 ^ m) bg) kk s) s (acO ((cfV c cv tt) (kk + 1)) (agN sn (kk + 1)) ((wy (cfV c cv tt) (agN sn) (2 ^ m) bg) kk) (2 ^ m) s) b t)) → J E Y (eN E) 0 0 (wS E g h T L5) 96 [some (.ref (eA E 48)), some (.int (nI n)), some (.int cv), some (.int (nI tt)), some (.int (nI (kk + 1))), some (.int (nI s)), some (.int (nI b)), x7] [] := by
                            intro n5
                            induction n5 with
                            | zero =>
                              intro b L5 x7 h5 h6 hF5 hw6 hm6
                              omega
                            | succ n5 ih5 =>
                              intro b L5 x7 h5 h6 hF5 hw6 hm6
                              refine J_iload_6 C dX6_fitting_96 ?_
                              refine J_iconst C (1) dX6_fitting_98 ic_1 ?_
                              refine J_aload_0 C dX6_fitting_99 ?_
                              refine G6_geti C (n := 4802) 2 dX6_fitting_100 fX6_fitting_82 iX6_fitting_6 rfl (hS _ (by decide)) rfl rfl ?_
                              rw [hR.2.1]
                              refine J_ishl C dX6_fitting_103 ?_
                              rw [nI_sh1 m (by omega)]
                              refine J_icmp_ge C 191 dX6_fitting_104 (by decide) (fun hc104 => ?_) (fun hc104 => ?_)
                              · skip
                                refine J_iinc_5 C (1) dX6_fitting_191 (by decide) trivial ic_1 ?_
                                refine J_goto C 85 dX6_fitting_194 (by decide) ?_
                                rw [nI_1]
                                first
                                | (have hbl : b = 2 ^ m := by
                                     have := ge_nI (by omega) hc104
                                     omega
                                   subst hbl
                                   exact ih4 (s + 1) L5 _ _ (by omega) (by omega) hF5 hw6 hm6)
                                | (have hw0 := (cmp_lez (hsm kk s (by omega))).mp hc116
                                   refine ih4 (s + 1) L5 _ _ (by omega) (by omega) hF5 hw6 (fun t ht => ?_)
                                   have h9 := hm6 t ht
                                   rw [hw0, acI_zero] at h9
                                   show _ = lN (acI ((cfV c cv tt) (kk + 1)) (agN sn (kk + 1)) ((wy (cfV c cv tt) (agN sn) (2 ^ m) bg) kk s) s (acO ((cfV c cv tt) (kk + 1)) (agN sn (kk + 1)) ((wy (cfV c cv tt) (agN sn) (2 ^ m) bg) kk) (2 ^ m) s) (2 ^ m) t)
                                   rw [hw0, acI_zero]
                                   exact h9)
                              · skip
                                have hbl : b < 2 ^ m := lt_nI (by omega) hc104
                                refine J_aload_0 C dX6_fitting_107 ?_
                                refine G6_getr C (n := 66) 37 dX6_fitting_108 fX6_fitting_75 iX6_fitting_6 rfl (hS _ (by decide)) rfl rfl ?_
                                refine J_iload_5 C dX6_fitting_111 ?_
                                refine G_lald C s dX6_fitting_113 rfl (hS _ (by decide)) rfl hs ?_
                                rw [hw6 s hs]
                                refine J_lconst C (0) dX6_fitting_114 lc_0 ?_
                                refine J_lcmp C dX6_fitting_115 ?_
                                refine J_if_le C 191 dX6_fitting_116 (by decide) (fun hc116 => ?_) (fun hc116 => ?_)
                                · skip
                                  refine J_iinc_5 C (1) dX6_fitting_191 (by decide) trivial ic_1 ?_
                                  refine J_goto C 85 dX6_fitting_194 (by decide) ?_
                                  rw [nI_1]
                                  first
                                  | (have hbl : b = 2 ^ m := by
                                       have := ge_nI (by omega) hc104
                                       omega
                                     subst hbl
                                     exact ih4 (s + 1) L5 _ _ (by omega) (by omega) hF5 hw6 hm6)
                                  | (have hw0 := (cmp_lez (hsm kk s (by omega))).mp hc116
                                     refine ih4 (s + 1) L5 _ _ (by omega) (by omega) hF5 hw6 (fun t ht => ?_)
                                     have h9 := hm6 t ht
                                     rw [hw0, acI_zero] at h9
                                     show _ = lN (acI ((cfV c cv tt) (kk + 1)) (agN sn (kk + 1)) ((wy (cfV c cv tt) (agN sn) (2 ^ m) bg) kk s) s (acO ((cfV c cv tt) (kk + 1)) (agN sn (kk + 1)) ((wy (cfV c cv tt) (agN sn) (2 ^ m) bg) kk) (2 ^ m) s) (2 ^ m) t)
                                     rw [hw0, acI_zero]
                                     exact h9)
                                · skip
                                  have hwp : (wy (cfV c cv tt) (agN sn) (2 ^ m) bg) kk s ≠ 0 := fun q => hc116 ((cmp_lez (hsm kk s (by omega))).mpr q)
                                  have hcut : ∀ (x : Int32), x = oI ((cfV c cv tt) (kk + 1) s b) → J E Y (eN E) 0 0 (wS E g h T L5) 150 [some (.ref (eA E 48)), some (.int (nI n)), some (.int cv), some (.int (nI tt)), some (.int (nI (kk + 1))), some (.int (nI s)), some (.int (nI b)), x7] [.int x] := by
                                    intro x hx
                                    subst hx
                                    refine J_istore_7 C dX6_fitting_150 (by decide) trivial ?_
                                    refine J_iload_7 C dX6_fitting_152 ?_
                                    refine J_if_lt C 185 dX6_fitting_154 (by decide) (fun hc154 => ?_) (fun hc154 => ?_)
                                    · skip
                                      refine J_iinc_6 C (1) dX6_fitting_185 (by decide) trivial ic_1 ?_
                                      refine J_goto C 96 dX6_fitting_188 (by decide) ?_
                                      rw [nI_1]
                                      have hst : ∀ t', acI ((cfV c cv tt) (kk + 1)) (agN sn (kk + 1)) ((wy (cfV c cv tt) (agN sn) (2 ^ m) bg) kk s) s (acO ((cfV c cv tt) (kk + 1)) (agN sn (kk + 1)) ((wy (cfV c cv tt) (agN sn) (2 ^ m) bg) kk) (2 ^ m) s) (b + 1) t' = acI ((cfV c cv tt) (kk + 1)) (agN sn (kk + 1)) ((wy (cfV c cv tt) (agN sn) (2 ^ m) bg) kk s) s (acO ((cfV c cv tt) (kk + 1)) (agN sn (kk + 1)) ((wy (cfV c cv tt) (agN sn) (2 ^ m) bg) kk) (2 ^ m) s) b t' + (if (cfV c cv tt) (kk + 1) s b = some t' ∧ agN sn (kk + 1) t' = true then (wy (cfV c cv tt) (agN sn) (2 ^ m) bg) kk s else 0) := fun t' => acS_at
                                      first
                                      | (refine ih5 (b + 1) L5 _ (by omega) (by omega) hF5 hw6 (fun t' ht' => ?_)
                                         rw [hst, (oI_neg (fun t ht => hcl _ s b t hs ht)).mp hc154, if_neg (fun q => by cases q.1)]
                                         exact hm6 t' ht')
                                      | (refine ih5 (b + 1) L5 _ (by omega) (by omega) hF5 hw6 (fun t' ht' => ?_)
                                         have : ¬ agN sn (kk + 1) t = true := by
                                           intro q
                                           rw [if_pos q] at hc165
                                           exact absurd hc165 (by decide)
                                         rw [hst, hto, if_neg (fun q => by
                                           have e9 := Option.some.inj q.1
                                           rw [← e9] at q
                                           exact this q.2)]
                                         exact hm6 t' ht')
                                      | (refine ih5 (b + 1) _ _ (by omega) (by omega) (fun k hk hk2 => by simp [va_up, hk2]; exact hF5 k hk hk2) (fun t ht => by simp [va_up]; exact hw6 t ht) (fun t' ht' => ?_)
                                         have hag : agN sn (kk + 1) t = true := by
                                           by_cases q : agN sn (kk + 1) t = true
                                           · exact q
                                           · rw [if_neg q] at hc165
                                             exact absurd rfl hc165
                                         rw [hst, hto]
                                         simp only [va_up, if_true, vp_updL]
                                         by_cases e : t' = t
                                         · subst e
                                           rw [if_pos rfl, if_pos ⟨rfl, hag⟩]
                                         · rw [if_neg e, if_neg (fun q => e (Option.some.inj q.1).symm)]
                                           exact hm6 t' ht')
                                    · skip
                                      obtain ⟨t, hto⟩ : ∃ t, (cfV c cv tt) (kk + 1) s b = some t := by
                                        cases q : (cfV c cv tt) (kk + 1) s b with
                                        | none => exact absurd ((oI_neg (fun t ht => hcl _ s b t hs ht)).mpr q) hc154
                                        | some t => exact ⟨t, rfl⟩
                                      rw [hto]
                                      have ht := hcl _ s b t hs hto
                                      refine J_aload_0 C dX6_fitting_157 ?_
                                      refine J_iload_7 C dX6_fitting_158 ?_
                                      refine J_iload_4 C dX6_fitting_160 ?_
                                      refine G_vpi C dX6_fitting_162 (c_X6_isSeen E hM0 _ _ _ _ sn hsn hso t (kk + 1) ht (by omega)) gX6_fitting_X6_isSeen rfl dm_X6_isSeen rfl rfl (hS _ (by decide)) rfl rfl (Nat.le_of_ble_eq_true rfl) (rmOK_b rfl) (fun r162 hr162 => ?_)
                                      subst hr162
                                      refine J_if_eq C 185 dX6_fitting_165 (by decide) (fun hc165 => ?_) (fun hc165 => ?_)
                                      · skip
                                        refine J_iinc_6 C (1) dX6_fitting_185 (by decide) trivial ic_1 ?_
                                        refine J_goto C 96 dX6_fitting_188 (by decide) ?_
                                        rw [nI_1]
                                        have hst : ∀ t', acI ((cfV c cv tt) (kk + 1)) (agN sn (kk + 1)) ((wy (cfV c cv tt) (agN sn) (2 ^ m) bg) kk s) s (acO ((cfV c cv tt) (kk + 1)) (agN sn (kk + 1)) ((wy (cfV c cv tt) (agN sn) (2 ^ m) bg) kk) (2 ^ m) s) (b + 1) t' = acI ((cfV c cv tt) (kk + 1)) (agN sn (kk + 1)) ((wy (cfV c cv tt) (agN sn) (2 ^ m) bg) kk s) s (acO ((cfV c cv tt) (kk + 1)) (agN sn (kk + 1)) ((wy (cfV c cv tt) (agN sn) (2 ^ m) bg) kk) (2 ^ m) s) b t' + (if (cfV c cv tt) (kk + 1) s b = some t' ∧ agN sn (kk + 1) t' = true then (wy (cfV c cv tt) (agN sn) (2 ^ m) bg) kk s else 0) := fun t' => acS_at
                                        first
                                        | (refine ih5 (b + 1) L5 _ (by omega) (by omega) hF5 hw6 (fun t' ht' => ?_)
                                           rw [hst, (oI_neg (fun t ht => hcl _ s b t hs ht)).mp hc154, if_neg (fun q => by cases q.1)]
                                           exact hm6 t' ht')
                                        | (refine ih5 (b + 1) L5 _ (by omega) (by omega) hF5 hw6 (fun t' ht' => ?_)
                                           have : ¬ agN sn (kk + 1) t = true := by
                                             intro q
                                             rw [if_pos q] at hc165
                                             exact absurd hc165 (by decide)
                                           rw [hst, hto, if_neg (fun q => by
                                             have e9 := Option.some.inj q.1
                                             rw [← e9] at q
                                             exact this q.2)]
                                           exact hm6 t' ht')
                                        | (refine ih5 (b + 1) _ _ (by omega) (by omega) (fun k hk hk2 => by simp [va_up, hk2]; exact hF5 k hk hk2) (fun t ht => by simp [va_up]; exact hw6 t ht) (fun t' ht' => ?_)
                                           have hag : agN sn (kk + 1) t = true := by
                                             by_cases q : agN sn (kk + 1) t = true
                                             · exact q
                                             · rw [if_neg q] at hc165
                                               exact absurd rfl hc165
                                           rw [hst, hto]
                                           simp only [va_up, if_true, vp_updL]
                                           by_cases e : t' = t
                                           · subst e
                                             rw [if_pos rfl, if_pos ⟨rfl, hag⟩]
                                           · rw [if_neg e, if_neg (fun q => e (Option.some.inj q.1).symm)]
                                             exact hm6 t' ht')
                                      · skip
                                        refine J_aload_0 C dX6_fitting_168 ?_
                                        refine G6_getr C (n := 67) 38 dX6_fitting_169 fX6_fitting_79 iX6_fitting_6 rfl (hS _ (by decide)) rfl rfl ?_
                                        refine J_iload_7 C dX6_fitting_172 ?_
                                        refine J_dup2 C dX6_fitting_174 ?_
                                        refine G_lald C t dX6_fitting_175 rfl (hS _ (by decide)) rfl ht ?_
                                        rw [hm6 t ht]
                                        refine J_aload_0 C dX6_fitting_176 ?_
                                        refine G6_getr C (n := 66) 37 dX6_fitting_177 fX6_fitting_75 iX6_fitting_6 rfl (hS _ (by decide)) rfl rfl ?_
                                        refine J_iload_5 C dX6_fitting_180 ?_
                                        refine G_lald C s dX6_fitting_182 rfl (hS _ (by decide)) rfl hs ?_
                                        rw [hw6 s hs]
                                        refine J_ladd C dX6_fitting_183 ?_
                                        rw [lN_add]
                                        refine G_last C t dX6_fitting_184 rfl (hS _ (by decide)) rfl ht ?_
                                        refine J_iinc_6 C (1) dX6_fitting_185 (by decide) trivial ic_1 ?_
                                        refine J_goto C 96 dX6_fitting_188 (by decide) ?_
                                        rw [nI_1]
                                        have hst : ∀ t', acI ((cfV c cv tt) (kk + 1)) (agN sn (kk + 1)) ((wy (cfV c cv tt) (agN sn) (2 ^ m) bg) kk s) s (acO ((cfV c cv tt) (kk + 1)) (agN sn (kk + 1)) ((wy (cfV c cv tt) (agN sn) (2 ^ m) bg) kk) (2 ^ m) s) (b + 1) t' = acI ((cfV c cv tt) (kk + 1)) (agN sn (kk + 1)) ((wy (cfV c cv tt) (agN sn) (2 ^ m) bg) kk s) s (acO ((cfV c cv tt) (kk + 1)) (agN sn (kk + 1)) ((wy (cfV c cv tt) (agN sn) (2 ^ m) bg) kk) (2 ^ m) s) b t' + (if (cfV c cv tt) (kk + 1) s b = some t' ∧ agN sn (kk + 1) t' = true then (wy (cfV c cv tt) (agN sn) (2 ^ m) bg) kk s else 0) := fun t' => acS_at
                                        first
                                        | (refine ih5 (b + 1) L5 _ (by omega) (by omega) hF5 hw6 (fun t' ht' => ?_)
                                           rw [hst, (oI_neg (fun t ht => hcl _ s b t hs ht)).mp hc154, if_neg (fun q => by cases q.1)]
                                           exact hm6 t' ht')
                                        | (refine ih5 (b + 1) L5 _ (by omega) (by omega) hF5 hw6 (fun t' ht' => ?_)
                                           have : ¬ agN sn (kk + 1) t = true := by
                                             intro q
                                             rw [if_pos q] at hc165
                                             exact absurd hc165 (by decide)
                                           rw [hst, hto, if_neg (fun q => by
                                             have e9 := Option.some.inj q.1
                                             rw [← e9] at q
                                             exact this q.2)]
                                           exact hm6 t' ht')
                                        | (refine ih5 (b + 1) _ _ (by omega) (by omega) (fun k hk hk2 => by simp [va_up, hk2]; exact hF5 k hk hk2) (fun t ht => by simp [va_up]; exact hw6 t ht) (fun t' ht' => ?_)
                                           have hag : agN sn (kk + 1) t = true := by
                                             by_cases q : agN sn (kk + 1) t = true
                                             · exact q
                                             · rw [if_neg q] at hc165
                                               exact absurd rfl hc165
                                           rw [hst, hto]
                                           simp only [va_up, if_true, vp_updL]
                                           by_cases e : t' = t
                                           · subst e
                                             rw [if_pos rfl, if_pos ⟨rfl, hag⟩]
                                           · rw [if_neg e, if_neg (fun q => e (Option.some.inj q.1).symm)]
                                             exact hm6 t' ht')
                                  refine J_iload_4 C dX6_fitting_119 ?_
                                  refine J_iload_2 C dX6_fitting_121 ?_
                                  refine J_icmp_ne C 138 dX6_fitting_122 (by decide) (fun hc122 => ?_) (fun hc122 => ?_)
                                  · skip
                                    refine J_aload_0 C dX6_fitting_138 ?_
                                    refine J_iload_5 C dX6_fitting_139 ?_
                                    refine J_iload_6 C dX6_fitting_141 ?_
                                    refine J_aload_0 C dX6_fitting_143 ?_
                                    
                                    refine G6_geti C (n := 4808) 8 dX6_fitting_144 fX6_fitting_25 iX6_fitting_6 rfl (hS _ (by decide)) rfl rfl ?_
                                    rw [hgl]
                                    refine G_vpi C dX6_fitting_147 (c_X6_crosses E hM0 m ρ g h T L5 hR s b ld hs (by omega) hld) gX6_fitting_X6_crosses rfl dm_X6_crosses rfl rfl (hS _ (by decide)) rfl rfl (Nat.le_of_ble_eq_true rfl) (rmOK_b rfl) (fun r147 hr147 => ?_)
                                    subst hr147
                                    refine hcut _ ?_
                                    unfold cfV
                                    first
                                    | (rw [if_pos ⟨hc122, by
                                         cases q : b.testBit tt
                                         · rfl
                                         · rw [q] at hc131
                                           exact absurd hc131 (by decide)⟩]
                                       rfl)
                                    | (rw [if_neg (fun q => hc122 q.1), hc]
                                       rfl)
                                    | (rw [if_neg (fun q => by
                                         rw [q.2] at hc131
                                         exact absurd rfl hc131), hc]
                                       rfl)
                                  · skip
                                    refine J_iload_6 C dX6_fitting_125 ?_
                                    refine J_iload_3 C dX6_fitting_127 ?_
                                    refine G_spi C dX6_fitting_128 (c_X6_has E hM0 b tt (by omega) (by omega) _ _ _ _) gX6_fitting_X6_has rfl dm_X6_has rfl rfl (Nat.le_of_ble_eq_true rfl) (rmOK_b rfl) (fun r128 hr128 => ?_)
                                    subst hr128
                                    refine J_if_ne C 138 dX6_fitting_131 (by decide) (fun hc131 => ?_) (fun hc131 => ?_)
                                    · skip
                                      refine J_aload_0 C dX6_fitting_138 ?_
                                      refine J_iload_5 C dX6_fitting_139 ?_
                                      refine J_iload_6 C dX6_fitting_141 ?_
                                      refine J_aload_0 C dX6_fitting_143 ?_
                                      
                                      refine G6_geti C (n := 4808) 8 dX6_fitting_144 fX6_fitting_25 iX6_fitting_6 rfl (hS _ (by decide)) rfl rfl ?_
                                      rw [hgl]
                                      refine G_vpi C dX6_fitting_147 (c_X6_crosses E hM0 m ρ g h T L5 hR s b ld hs (by omega) hld) gX6_fitting_X6_crosses rfl dm_X6_crosses rfl rfl (hS _ (by decide)) rfl rfl (Nat.le_of_ble_eq_true rfl) (rmOK_b rfl) (fun r147 hr147 => ?_)
                                      subst hr147
                                      refine hcut _ ?_
                                      unfold cfV
                                      first
                                      | (rw [if_pos ⟨hc122, by
                                           cases q : b.testBit tt
                                           · rfl
                                           · rw [q] at hc131
                                             exact absurd hc131 (by decide)⟩]
                                         rfl)
                                      | (rw [if_neg (fun q => hc122 q.1), hc]
                                         rfl)
                                      | (rw [if_neg (fun q => by
                                           rw [q.2] at hc131
                                           exact absurd rfl hc131), hc]
                                         rfl)
                                    · skip
                                      refine J_iconst C (-1) dX6_fitting_134 ic_m1 ?_
                                      refine J_goto C 150 dX6_fitting_135 (by decide) ?_
                                      refine hcut _ ?_
                                      unfold cfV
                                      first
                                      | (rw [if_pos ⟨hc122, by
                                           cases q : b.testBit tt
                                           · rfl
                                           · rw [q] at hc131
                                             exact absurd hc131 (by decide)⟩]
                                         rfl)
                                      | (rw [if_neg (fun q => hc122 q.1), hc]
                                         rfl)
                                      | (rw [if_neg (fun q => by
                                           rw [q.2] at hc131
                                           exact absurd rfl hc131), hc]
                                         rfl)
                          exact loop5 (2 ^ m + 1) 0 L4 _ (Nat.zero_le _) (by omega) hF4 hw4 hm4
                    exact loop4 257 0 L3 _ _ (by omega) (by omega) hF3 hw3 hz3
                  · skip
                    have hz0 : z < 256 := lt_nI (m := 256) (by omega) hc65
                    refine J_aload_0 C dX6_fitting_68 ?_
                    refine G6_getr C (n := 67) 38 dX6_fitting_69 fX6_fitting_79 iX6_fitting_6 rfl (hS _ (by decide)) rfl rfl ?_
                    refine J_iload_5 C dX6_fitting_72 ?_
                    refine J_lconst C (0) dX6_fitting_74 lc_0 ?_
                    refine G_last C z dX6_fitting_75 rfl (hS _ (by decide)) rfl hz0 ?_
                    refine J_iinc_5 C (1) dX6_fitting_76 (by decide) trivial ic_1 ?_
                    refine J_goto C 60 dX6_fitting_79 (by decide) ?_
                    rw [nI_1]
                    refine ih3 (z + 1) _ (by omega) (by omega) (fun k hk hk2 => by simp [va_up, hk2]; exact hF3 k hk hk2) (fun t ht => by simp [va_up]; exact hw3 t ht) (fun t ht => ?_)
                    simp only [va_up, if_true, vp_updL]
                    by_cases e : t = z
                    · rw [if_pos e]; rfl
                    · rw [if_neg e]; exact hz3 t (by omega)
              exact loop3 257 0 L2 (by omega) (by omega) hF2 hway (fun t ht => absurd ht (Nat.not_lt_zero _))
        exact loop2 (n + 2) 1 L1 _ _ _ (by omega) (by omega) (by omega) hF hz
      · skip
        have hs : s < 256 := lt_nI (m := 256) (by omega) hc8
        refine J_aload_0 C dX6_fitting_11 ?_
        refine G6_getr C (n := 66) 37 dX6_fitting_12 fX6_fitting_75 iX6_fitting_6 rfl (hS _ (by decide)) rfl rfl ?_
        refine J_iload_4 C dX6_fitting_15 ?_
        refine J_iload_4 C dX6_fitting_17 ?_
        refine J_aload_0 C dX6_fitting_19 ?_
        refine G6_geti C (n := 4810) 10 dX6_fitting_20 fX6_fitting_177 iX6_fitting_6 rfl (hS _ (by decide)) rfl rfl ?_
        rw [hgb]
        refine J_icmp_ne C 40 dX6_fitting_23 (by decide) (fun hc23 => ?_) (fun hc23 => ?_)
        · skip
          refine J_lconst C (0) dX6_fitting_40 lc_0 ?_
          refine G_last C s dX6_fitting_41 rfl (hS _ (by decide)) rfl hs ?_
          refine J_iinc_4 C (1) dX6_fitting_42 (by decide) trivial ic_1 ?_
          refine J_goto C 3 dX6_fitting_45 (by decide) ?_
          rw [nI_1]
          refine ih (s + 1) _ (by omega) (by omega) (fun k hk hk2 => by simp [va_up, hk]; exact hF k hk hk2) (fun t ht => ?_)
          simp only [va_up, if_true, vp_updL]
          by_cases e : t = s
          · subst e
            rw [if_pos rfl]
            show _ = lN (if t = bg ∧ agN sn 0 t = true then 1 else 0)
            first
            | (rw [if_neg (fun q => hc23 (by rw [q.1]))]
               rfl)
            | (have e9 := nI_inj (by omega) (by omega) hc23
               by_cases q : agN sn 0 t = true
               · first
                 | (rw [if_pos ⟨e9, q⟩]; rfl)
                 | (rw [if_pos q] at hc33
                    exact absurd hc33 (by decide))
               · first
                 | (rw [if_neg (fun z => q z.2)]; rfl)
                 | (rw [if_neg q] at hc33
                    exact absurd rfl hc33))
          · rw [if_neg e]
            exact hz t (by omega)
        · skip
          refine J_aload_0 C dX6_fitting_26 ?_
          refine J_iload_4 C dX6_fitting_27 ?_
          refine J_iconst C (0) dX6_fitting_29 ic_0 ?_
          refine G_vpi C dX6_fitting_30 (c_X6_isSeen E hM0 _ _ _ _ sn hsn hso s 0 hs (by omega)) gX6_fitting_X6_isSeen rfl dm_X6_isSeen rfl rfl (hS _ (by decide)) rfl rfl (Nat.le_of_ble_eq_true rfl) (rmOK_b rfl) (fun r30 hr30 => ?_)
          subst hr30
          refine J_if_eq C 40 dX6_fitting_33 (by decide) (fun hc33 => ?_) (fun hc33 => ?_)
          · skip
            refine J_lconst C (0) dX6_fitting_40 lc_0 ?_
            refine G_last C s dX6_fitting_41 rfl (hS _ (by decide)) rfl hs ?_
            refine J_iinc_4 C (1) dX6_fitting_42 (by decide) trivial ic_1 ?_
            refine J_goto C 3 dX6_fitting_45 (by decide) ?_
            rw [nI_1]
            refine ih (s + 1) _ (by omega) (by omega) (fun k hk hk2 => by simp [va_up, hk]; exact hF k hk hk2) (fun t ht => ?_)
            simp only [va_up, if_true, vp_updL]
            by_cases e : t = s
            · subst e
              rw [if_pos rfl]
              show _ = lN (if t = bg ∧ agN sn 0 t = true then 1 else 0)
              first
              | (rw [if_neg (fun q => hc23 (by rw [q.1]))]
                 rfl)
              | (have e9 := nI_inj (by omega) (by omega) hc23
                 by_cases q : agN sn 0 t = true
                 · first
                   | (rw [if_pos ⟨e9, q⟩]; rfl)
                   | (rw [if_pos q] at hc33
                      exact absurd hc33 (by decide))
                 · first
                   | (rw [if_neg (fun z => q z.2)]; rfl)
                   | (rw [if_neg q] at hc33
                      exact absurd rfl hc33))
            · rw [if_neg e]
              exact hz t (by omega)
          · skip
            refine J_lconst C (1) dX6_fitting_36 lc_1 ?_
            refine J_goto C 41 dX6_fitting_37 (by decide) ?_
            refine G_last C s dX6_fitting_41 rfl (hS _ (by decide)) rfl hs ?_
            refine J_iinc_4 C (1) dX6_fitting_42 (by decide) trivial ic_1 ?_
            refine J_goto C 3 dX6_fitting_45 (by decide) ?_
            rw [nI_1]
            refine ih (s + 1) _ (by omega) (by omega) (fun k hk hk2 => by simp [va_up, hk]; exact hF k hk hk2) (fun t ht => ?_)
            simp only [va_up, if_true, vp_updL]
            by_cases e : t = s
            · subst e
              rw [if_pos rfl]
              show _ = lN (if t = bg ∧ agN sn 0 t = true then 1 else 0)
              first
              | (rw [if_neg (fun q => hc23 (by rw [q.1]))]
                 rfl)
              | (have e9 := nI_inj (by omega) (by omega) hc23
                 by_cases q : agN sn 0 t = true
                 · first
                   | (rw [if_pos ⟨e9, q⟩]; rfl)
                   | (rw [if_pos q] at hc33
                      exact absurd hc33 (by decide))
                 · first
                   | (rw [if_neg (fun z => q z.2)]; rfl)
                   | (rw [if_neg q] at hc33
                      exact absurd rfl hc33))
            · rw [if_neg e]
              exact hz t (by omega)
  exact loop 257 0 L (by omega) (by omega) (fun _ _ _ => rfl) (fun t ht => absurd ht (Nat.not_lt_zero _))
