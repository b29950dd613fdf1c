abbrev rmX2_wordOf : Room := { frames := 5, cells := 0, slots := 0, locals := 109 }
theorem dm_X2_spells : yX2_spells.cls = RX2 ∧ yX2_spells.cls ≠ "java/lang/invoke/MethodHandle" ∧ yX2_spells.cls ≠ "java/lang/invoke/VarHandle" ∧ (parseMethodDescriptor yX2_spells.desc).map (fun d => d.parameters.length) = some 3 := by decide +kernel
theorem bc_6 : (Int8.ofInt (6)).toInt32 = (6) := by decide
theorem ic_3 : Int32.ofInt (3) = (3) := by decide
theorem ic_5 : Int32.ofInt (5) = (5) := by decide
set_option maxRecDepth 100000 in
set_option maxHeartbeats 4000000 in
theorem c_X2_wordOf (E : EN) (hM : EM E) (V : SV) (g : Nat → Int32) (h : Nat → Int64) (T : Nat → Nat → Int32) (L : Nat → Nat → Int64) (n : Nat) (b : Nat → Nat) (hX : LxX g T n b) (s e : Nat) (hs : s < e) (he : e ≤ n) : GpIS E V yX2_wordOf wsX2_wordOf rmX2_wordOf [.ref (eA E 2), .int (nI s), .int (nI e)] g h T L (fun r => r = nI (wdN b s e)) := by
  refine CtSI_of (cc := cX2_wordOf) (nL := 3) RX2 [some (.ref (eA E 2)), some (.int (nI s)), some (.int (nI e))] ⟨rfl, rfl⟩ (by decide) rfl rfl (Nat.le_of_ble_eq_true rfl) ⟨0, rfl⟩ hM.2 (fun Y C hSP hQ => ?_)
  have hX0 := hX
  have hM0 := hM
  obtain ⟨hS, hNN⟩ := hM
  obtain ⟨x1, x2, x3, x4⟩ := hX
  refine J_aload_0 C dX2_wordOf_0 ?_
  refine J_iload_1 C dX2_wordOf_1 ?_
  refine J_iload_2 C dX2_wordOf_2 ?_
  refine J_ldcS C (hSP.2.1 0 (by decide)) dX2_wordOf_3 ?_
  refine G_vpSi C hSP dX2_wordOf_5 (c_X2_spells E hM0 V g h T L n b hX0 s e 0 hs he (by decide)) gX2_wordOf_X2_spells rfl dm_X2_spells rfl rfl (hS _ (by decide)) rfl rfl (Nat.le_of_ble_eq_true rfl) (rmOK_b rfl) (fun r5 hr5 => ?_)
  subst hr5
  refine J_if_eq C 15 dX2_wordOf_8 (by decide) (fun hc8 => ?_) (fun hc8 => ?_)
  · skip
    refine J_aload_0 C dX2_wordOf_15 ?_
    refine J_iload_1 C dX2_wordOf_16 ?_
    refine J_iload_2 C dX2_wordOf_17 ?_
    refine J_ldcS C (hSP.2.1 1 (by decide)) dX2_wordOf_18 ?_
    refine G_vpSi C hSP dX2_wordOf_20 (c_X2_spells E hM0 V g h T L n b hX0 s e 1 hs he (by decide)) gX2_wordOf_X2_spells rfl dm_X2_spells rfl rfl (hS _ (by decide)) rfl rfl (Nat.le_of_ble_eq_true rfl) (rmOK_b rfl) (fun r20 hr20 => ?_)
    subst hr20
    refine J_if_eq C 30 dX2_wordOf_23 (by decide) (fun hc23 => ?_) (fun hc23 => ?_)
    · skip
      refine J_aload_0 C dX2_wordOf_30 ?_
      refine J_iload_1 C dX2_wordOf_31 ?_
      refine J_iload_2 C dX2_wordOf_32 ?_
      refine J_ldcS C (hSP.2.1 2 (by decide)) dX2_wordOf_33 ?_
      refine G_vpSi C hSP dX2_wordOf_35 (c_X2_spells E hM0 V g h T L n b hX0 s e 2 hs he (by decide)) gX2_wordOf_X2_spells rfl dm_X2_spells rfl rfl (hS _ (by decide)) rfl rfl (Nat.le_of_ble_eq_true rfl) (rmOK_b rfl) (fun r35 hr35 => ?_)
      subst hr35
      refine J_if_eq C 46 dX2_wordOf_38 (by decide) (fun hc38 => ?_) (fun hc38 => ?_)
      · skip
        refine J_aload_0 C dX2_wordOf_46 ?_
        refine J_iload_1 C dX2_wordOf_47 ?_
        refine J_iload_2 C dX2_wordOf_48 ?_
        refine J_ldcS C (hSP.2.1 3 (by decide)) dX2_wordOf_49 ?_
        refine G_vpSi C hSP dX2_wordOf_51 (c_X2_spells E hM0 V g h T L n b hX0 s e 3 hs he (by decide)) gX2_wordOf_X2_spells rfl dm_X2_spells rfl rfl (hS _ (by decide)) rfl rfl (Nat.le_of_ble_eq_true rfl) (rmOK_b rfl) (fun r51 hr51 => ?_)
        subst hr51
        refine J_if_eq C 62 dX2_wordOf_54 (by decide) (fun hc54 => ?_) (fun hc54 => ?_)
        · skip
          refine J_aload_0 C dX2_wordOf_62 ?_
          refine J_iload_1 C dX2_wordOf_63 ?_
          refine J_iload_2 C dX2_wordOf_64 ?_
          refine J_ldcS C (hSP.2.1 4 (by decide)) dX2_wordOf_65 ?_
          refine G_vpSi C hSP dX2_wordOf_67 (c_X2_spells E hM0 V g h T L n b hX0 s e 4 hs he (by decide)) gX2_wordOf_X2_spells rfl dm_X2_spells rfl rfl (hS _ (by decide)) rfl rfl (Nat.le_of_ble_eq_true rfl) (rmOK_b rfl) (fun r67 hr67 => ?_)
          subst hr67
          refine J_if_eq C 78 dX2_wordOf_70 (by decide) (fun hc70 => ?_) (fun hc70 => ?_)
          · skip
            refine J_aload_0 C dX2_wordOf_78 ?_
            refine J_iload_1 C dX2_wordOf_79 ?_
            refine J_iload_2 C dX2_wordOf_80 ?_
            refine J_ldcS C (hSP.2.1 5 (by decide)) dX2_wordOf_81 ?_
            refine G_vpSi C hSP dX2_wordOf_83 (c_X2_spells E hM0 V g h T L n b hX0 s e 5 hs he (by decide)) gX2_wordOf_X2_spells rfl dm_X2_spells rfl rfl (hS _ (by decide)) rfl rfl (Nat.le_of_ble_eq_true rfl) (rmOK_b rfl) (fun r83 hr83 => ?_)
            subst hr83
            refine J_if_eq C 94 dX2_wordOf_86 (by decide) (fun hc86 => ?_) (fun hc86 => ?_)
            · skip
              refine J_iconst C (3) dX2_wordOf_94 ic_3 ?_
              refine hQ _ _ _ _ dX2_wordOf_95 ⟨rfl, ?_⟩
              first
              | (unfold wdN
                 rw [if_pos (bI_n.mp hc8)]
                 rfl)
              | (unfold wdN
                 rw [if_neg (by rw [bI_0.mp hc8]; decide)]
                 rw [if_pos (bI_n.mp hc23)]
                 rfl)
              | (unfold wdN
                 rw [if_neg (by rw [bI_0.mp hc8]; decide)]
                 rw [if_neg (by rw [bI_0.mp hc23]; decide)]
                 rw [if_pos (bI_n.mp hc38)]
                 rfl)
              | (unfold wdN
                 rw [if_neg (by rw [bI_0.mp hc8]; decide)]
                 rw [if_neg (by rw [bI_0.mp hc23]; decide)]
                 rw [if_neg (by rw [bI_0.mp hc38]; decide)]
                 rw [if_pos (bI_n.mp hc54)]
                 rfl)
              | (unfold wdN
                 rw [if_neg (by rw [bI_0.mp hc8]; decide)]
                 rw [if_neg (by rw [bI_0.mp hc23]; decide)]
                 rw [if_neg (by rw [bI_0.mp hc38]; decide)]
                 rw [if_neg (by rw [bI_0.mp hc54]; decide)]
                 rw [if_pos (bI_n.mp hc70)]
                 rfl)
              | (unfold wdN
                 rw [if_neg (by rw [bI_0.mp hc8]; decide)]
                 rw [if_neg (by rw [bI_0.mp hc23]; decide)]
                 rw [if_neg (by rw [bI_0.mp hc38]; decide)]
                 rw [if_neg (by rw [bI_0.mp hc54]; decide)]
                 rw [if_neg (by rw [bI_0.mp hc70]; decide)]
                 rw [if_pos (bI_n.mp hc86)]
                 rfl)
              | (unfold wdN
                 rw [if_neg (by rw [bI_0.mp hc8]; decide)]
                 rw [if_neg (by rw [bI_0.mp hc23]; decide)]
                 rw [if_neg (by rw [bI_0.mp hc38]; decide)]
                 rw [if_neg (by rw [bI_0.mp hc54]; decide)]
                 rw [if_neg (by rw [bI_0.mp hc70]; decide)]
                 rw [if_neg (by rw [bI_0.mp hc86]; decide)]
                 rfl)
            · skip
              refine J_bipush C (9) dX2_wordOf_89 bc_9 ?_
              refine J_goto C 95 dX2_wordOf_91 (by decide) ?_
              refine hQ _ _ _ _ dX2_wordOf_95 ⟨rfl, ?_⟩
              first
              | (unfold wdN
                 rw [if_pos (bI_n.mp hc8)]
                 rfl)
              | (unfold wdN
                 rw [if_neg (by rw [bI_0.mp hc8]; decide)]
                 rw [if_pos (bI_n.mp hc23)]
                 rfl)
              | (unfold wdN
                 rw [if_neg (by rw [bI_0.mp hc8]; decide)]
                 rw [if_neg (by rw [bI_0.mp hc23]; decide)]
                 rw [if_pos (bI_n.mp hc38)]
                 rfl)
              | (unfold wdN
                 rw [if_neg (by rw [bI_0.mp hc8]; decide)]
                 rw [if_neg (by rw [bI_0.mp hc23]; decide)]
                 rw [if_neg (by rw [bI_0.mp hc38]; decide)]
                 rw [if_pos (bI_n.mp hc54)]
                 rfl)
              | (unfold wdN
                 rw [if_neg (by rw [bI_0.mp hc8]; decide)]
                 rw [if_neg (by rw [bI_0.mp hc23]; decide)]
                 rw [if_neg (by rw [bI_0.mp hc38]; decide)]
                 rw [if_neg (by rw [bI_0.mp hc54]; decide)]
                 rw [if_pos (bI_n.mp hc70)]
                 rfl)
              | (unfold wdN
                 rw [if_neg (by rw [bI_0.mp hc8]; decide)]
                 rw [if_neg (by rw [bI_0.mp hc23]; decide)]
                 rw [if_neg (by rw [bI_0.mp hc38]; decide)]
                 rw [if_neg (by rw [bI_0.mp hc54]; decide)]
                 rw [if_neg (by rw [bI_0.mp hc70]; decide)]
                 rw [if_pos (bI_n.mp hc86)]
                 rfl)
              | (unfold wdN
                 rw [if_neg (by rw [bI_0.mp hc8]; decide)]
                 rw [if_neg (by rw [bI_0.mp hc23]; decide)]
                 rw [if_neg (by rw [bI_0.mp hc38]; decide)]
                 rw [if_neg (by rw [bI_0.mp hc54]; decide)]
                 rw [if_neg (by rw [bI_0.mp hc70]; decide)]
                 rw [if_neg (by rw [bI_0.mp hc86]; decide)]
                 rfl)
          · skip
            refine J_bipush C (8) dX2_wordOf_73 bc_8 ?_
            refine J_goto C 95 dX2_wordOf_75 (by decide) ?_
            refine hQ _ _ _ _ dX2_wordOf_95 ⟨rfl, ?_⟩
            first
            | (unfold wdN
               rw [if_pos (bI_n.mp hc8)]
               rfl)
            | (unfold wdN
               rw [if_neg (by rw [bI_0.mp hc8]; decide)]
               rw [if_pos (bI_n.mp hc23)]
               rfl)
            | (unfold wdN
               rw [if_neg (by rw [bI_0.mp hc8]; decide)]
               rw [if_neg (by rw [bI_0.mp hc23]; decide)]
               rw [if_pos (bI_n.mp hc38)]
               rfl)
            | (unfold wdN
               rw [if_neg (by rw [bI_0.mp hc8]; decide)]
               rw [if_neg (by rw [bI_0.mp hc23]; decide)]
               rw [if_neg (by rw [bI_0.mp hc38]; decide)]
               rw [if_pos (bI_n.mp hc54)]
               rfl)
            | (unfold wdN
               rw [if_neg (by rw [bI_0.mp hc8]; decide)]
               rw [if_neg (by rw [bI_0.mp hc23]; decide)]
               rw [if_neg (by rw [bI_0.mp hc38]; decide)]
               rw [if_neg (by rw [bI_0.mp hc54]; decide)]
               rw [if_pos (bI_n.mp hc70)]
               rfl)
            | (unfold wdN
               rw [if_neg (by rw [bI_0.mp hc8]; decide)]
               rw [if_neg (by rw [bI_0.mp hc23]; decide)]
               rw [if_neg (by rw [bI_0.mp hc38]; decide)]
               rw [if_neg (by rw [bI_0.mp hc54]; decide)]
               rw [if_neg (by rw [bI_0.mp hc70]; decide)]
               rw [if_pos (bI_n.mp hc86)]
               rfl)
            | (unfold wdN
               rw [if_neg (by rw [bI_0.mp hc8]; decide)]
               rw [if_neg (by rw [bI_0.mp hc23]; decide)]
               rw [if_neg (by rw [bI_0.mp hc38]; decide)]
               rw [if_neg (by rw [bI_0.mp hc54]; decide)]
               rw [if_neg (by rw [bI_0.mp hc70]; decide)]
               rw [if_neg (by rw [bI_0.mp hc86]; decide)]
               rfl)
        · skip
          refine J_bipush C (7) dX2_wordOf_57 bc_7 ?_
          refine J_goto C 95 dX2_wordOf_59 (by decide) ?_
          refine hQ _ _ _ _ dX2_wordOf_95 ⟨rfl, ?_⟩
          first
          | (unfold wdN
             rw [if_pos (bI_n.mp hc8)]
             rfl)
          | (unfold wdN
             rw [if_neg (by rw [bI_0.mp hc8]; decide)]
             rw [if_pos (bI_n.mp hc23)]
             rfl)
          | (unfold wdN
             rw [if_neg (by rw [bI_0.mp hc8]; decide)]
             rw [if_neg (by rw [bI_0.mp hc23]; decide)]
             rw [if_pos (bI_n.mp hc38)]
             rfl)
          | (unfold wdN
             rw [if_neg (by rw [bI_0.mp hc8]; decide)]
             rw [if_neg (by rw [bI_0.mp hc23]; decide)]
             rw [if_neg (by rw [bI_0.mp hc38]; decide)]
             rw [if_pos (bI_n.mp hc54)]
             rfl)
          | (unfold wdN
             rw [if_neg (by rw [bI_0.mp hc8]; decide)]
             rw [if_neg (by rw [bI_0.mp hc23]; decide)]
             rw [if_neg (by rw [bI_0.mp hc38]; decide)]
             rw [if_neg (by rw [bI_0.mp hc54]; decide)]
             rw [if_pos (bI_n.mp hc70)]
             rfl)
          | (unfold wdN
             rw [if_neg (by rw [bI_0.mp hc8]; decide)]
             rw [if_neg (by rw [bI_0.mp hc23]; decide)]
             rw [if_neg (by rw [bI_0.mp hc38]; decide)]
             rw [if_neg (by rw [bI_0.mp hc54]; decide)]
             rw [if_neg (by rw [bI_0.mp hc70]; decide)]
             rw [if_pos (bI_n.mp hc86)]
             rfl)
          | (unfold wdN
             rw [if_neg (by rw [bI_0.mp hc8]; decide)]
             rw [if_neg (by rw [bI_0.mp hc23]; decide)]
             rw [if_neg (by rw [bI_0.mp hc38]; decide)]
             rw [if_neg (by rw [bI_0.mp hc54]; decide)]
             rw [if_neg (by rw [bI_0.mp hc70]; decide)]
             rw [if_neg (by rw [bI_0.mp hc86]; decide)]
             rfl)
      · skip
        refine J_bipush C (6) dX2_wordOf_41 bc_6 ?_
        refine J_goto C 95 dX2_wordOf_43 (by decide) ?_
        refine hQ _ _ _ _ dX2_wordOf_95 ⟨rfl, ?_⟩
        first
        | (unfold wdN
           rw [if_pos (bI_n.mp hc8)]
           rfl)
        | (unfold wdN
           rw [if_neg (by rw [bI_0.mp hc8]; decide)]
           rw [if_pos (bI_n.mp hc23)]
           rfl)
        | (unfold wdN
           rw [if_neg (by rw [bI_0.mp hc8]; decide)]
           rw [if_neg (by rw [bI_0.mp hc23]; decide)]
           rw [if_pos (bI_n.mp hc38)]
           rfl)
        | (unfold wdN
           rw [if_neg (by rw [bI_0.mp hc8]; decide)]
           rw [if_neg (by rw [bI_0.mp hc23]; decide)]
           rw [if_neg (by rw [bI_0.mp hc38]; decide)]
           rw [if_pos (bI_n.mp hc54)]
           rfl)
        | (unfold wdN
           rw [if_neg (by rw [bI_0.mp hc8]; decide)]
           rw [if_neg (by rw [bI_0.mp hc23]; decide)]
           rw [if_neg (by rw [bI_0.mp hc38]; decide)]
           rw [if_neg (by rw [bI_0.mp hc54]; decide)]
           rw [if_pos (bI_n.mp hc70)]
           rfl)
        | (unfold wdN
           rw [if_neg (by rw [bI_0.mp hc8]; decide)]
           rw [if_neg (by rw [bI_0.mp hc23]; decide)]
           rw [if_neg (by rw [bI_0.mp hc38]; decide)]
           rw [if_neg (by rw [bI_0.mp hc54]; decide)]
           rw [if_neg (by rw [bI_0.mp hc70]; decide)]
           rw [if_pos (bI_n.mp hc86)]
           rfl)
        | (unfold wdN
           rw [if_neg (by rw [bI_0.mp hc8]; decide)]
           rw [if_neg (by rw [bI_0.mp hc23]; decide)]
           rw [if_neg (by rw [bI_0.mp hc38]; decide)]
           rw [if_neg (by rw [bI_0.mp hc54]; decide)]
           rw [if_neg (by rw [bI_0.mp hc70]; decide)]
           rw [if_neg (by rw [bI_0.mp hc86]; decide)]
           rfl)
    · skip
      refine J_iconst C (5) dX2_wordOf_26 ic_5 ?_
      refine J_goto C 95 dX2_wordOf_27 (by decide) ?_
      refine hQ _ _ _ _ dX2_wordOf_95 ⟨rfl, ?_⟩
      first
      | (unfold wdN
         rw [if_pos (bI_n.mp hc8)]
         rfl)
      | (unfold wdN
         rw [if_neg (by rw [bI_0.mp hc8]; decide)]
         rw [if_pos (bI_n.mp hc23)]
         rfl)
      | (unfold wdN
         rw [if_neg (by rw [bI_0.mp hc8]; decide)]
         rw [if_neg (by rw [bI_0.mp hc23]; decide)]
         rw [if_pos (bI_n.mp hc38)]
         rfl)
      | (unfold wdN
         rw [if_neg (by rw [bI_0.mp hc8]; decide)]
         rw [if_neg (by rw [bI_0.mp hc23]; decide)]
         rw [if_neg (by rw [bI_0.mp hc38]; decide)]
         rw [if_pos (bI_n.mp hc54)]
         rfl)
      | (unfold wdN
         rw [if_neg (by rw [bI_0.mp hc8]; decide)]
         rw [if_neg (by rw [bI_0.mp hc23]; decide)]
         rw [if_neg (by rw [bI_0.mp hc38]; decide)]
         rw [if_neg (by rw [bI_0.mp hc54]; decide)]
         rw [if_pos (bI_n.mp hc70)]
         rfl)
      | (unfold wdN
         rw [if_neg (by rw [bI_0.mp hc8]; decide)]
         rw [if_neg (by rw [bI_0.mp hc23]; decide)]
         rw [if_neg (by rw [bI_0.mp hc38]; decide)]
         rw [if_neg (by rw [bI_0.mp hc54]; decide)]
         rw [if_neg (by rw [bI_0.mp hc70]; decide)]
         rw [if_pos (bI_n.mp hc86)]
         rfl)
      | (unfold wdN
         rw [if_neg (by rw [bI_0.mp hc8]; decide)]
         rw [if_neg (by rw [bI_0.mp hc23]; decide)]
         rw [if_neg (by rw [bI_0.mp hc38]; decide)]
         rw [if_neg (by rw [bI_0.mp hc54]; decide)]
         rw [if_neg (by rw [bI_0.mp hc70]; decide)]
         rw [if_neg (by rw [bI_0.mp hc86]; decide)]
         rfl)
  · skip
    refine J_iconst C (4) dX2_wordOf_11 ic_4 ?_
    refine J_goto C 95 dX2_wordOf_12 (by decide) ?_
    refine hQ _ _ _ _ dX2_wordOf_95 ⟨rfl, ?_⟩
    first
    | (unfold wdN
       rw [if_pos (bI_n.mp hc8)]
       rfl)
    | (unfold wdN
       rw [if_neg (by rw [bI_0.mp hc8]; decide)]
       rw [if_pos (bI_n.mp hc23)]
       rfl)
    | (unfold wdN
       rw [if_neg (by rw [bI_0.mp hc8]; decide)]
       rw [if_neg (by rw [bI_0.mp hc23]; decide)]
       rw [if_pos (bI_n.mp hc38)]
       rfl)
    | (unfold wdN
       rw [if_neg (by rw [bI_0.mp hc8]; decide)]
       rw [if_neg (by rw [bI_0.mp hc23]; decide)]
       rw [if_neg (by rw [bI_0.mp hc38]; decide)]
       rw [if_pos (bI_n.mp hc54)]
       rfl)
    | (unfold wdN
       rw [if_neg (by rw [bI_0.mp hc8]; decide)]
       rw [if_neg (by rw [bI_0.mp hc23]; decide)]
       rw [if_neg (by rw [bI_0.mp hc38]; decide)]
       rw [if_neg (by rw [bI_0.mp hc54]; decide)]
       rw [if_pos (bI_n.mp hc70)]
       rfl)
    | (unfold wdN
       rw [if_neg (by rw [bI_0.mp hc8]; decide)]
       rw [if_neg (by rw [bI_0.mp hc23]; decide)]
       rw [if_neg (by rw [bI_0.mp hc38]; decide)]
       rw [if_neg (by rw [bI_0.mp hc54]; decide)]
       rw [if_neg (by rw [bI_0.mp hc70]; decide)]
       rw [if_pos (bI_n.mp hc86)]
       rfl)
    | (unfold wdN
       rw [if_neg (by rw [bI_0.mp hc8]; decide)]
       rw [if_neg (by rw [bI_0.mp hc23]; decide)]
       rw [if_neg (by rw [bI_0.mp hc38]; decide)]
       rw [if_neg (by rw [bI_0.mp hc54]; decide)]
       rw [if_neg (by rw [bI_0.mp hc70]; decide)]
       rw [if_neg (by rw [bI_0.mp hc86]; decide)]
       rfl)
abbrev rmX2_tokenOf : Room := { frames := 6, cells := 0, slots := 0, locals := 131 }
theorem dm_X2_wordOf : yX2_wordOf.cls = RX2 ∧ yX2_wordOf.cls ≠ "java/lang/invoke/MethodHandle" ∧ yX2_wordOf.cls ≠ "java/lang/invoke/VarHandle" ∧ (parseMethodDescriptor yX2_wordOf.desc).map (fun d => d.parameters.length) = some 2 := by decide +kernel
theorem bc_59 : (Int8.ofInt (59)).toInt32 = (59) := by decide
set_option maxRecDepth 100000 in
set_option maxHeartbeats 4000000 in
theorem c_X2_tokenOf (E : EN) (hM : EM E) (V : SV) (g : Nat → Int32) (h : Nat → Int64) (T : Nat → Nat → Int32) (L : Nat → Nat → Int64) (n : Nat) (b : Nat → Nat) (hX : LxX g T n b) (s e : Nat) (hs : s < e) (he : e ≤ n) : GpIS E V yX2_tokenOf wsX2_tokenOf rmX2_tokenOf [.ref (eA E 2), .int (nI s), .int (nI e)] g h T L (fun r => r = nI (tkN b s e)) := by
  refine CtSI_of (cc := cX2_tokenOf) (nL := 4) RX2 [some (.ref (eA E 2)), some (.int (nI s)), some (.int (nI e)), none] ⟨rfl, rfl⟩ (by decide) rfl rfl (Nat.le_of_ble_eq_true rfl) ⟨1, rfl⟩ hM.2 (fun Y C hSP hQ => ?_)
  have hX0 := hX
  have hM0 := hM
  obtain ⟨hS, hNN⟩ := hM
  obtain ⟨x1, x2, x3, x4⟩ := hX
  have hb : b s < 256 := (x4 s (by omega)).2
  refine J_aload_0 C dX2_tokenOf_0 ?_
  refine J_iload_1 C dX2_tokenOf_1 ?_
  refine G_vpi C dX2_tokenOf_2 (c_X2_byteAt E hM0 g h T L n b hX0 s (by omega)) gX2_tokenOf_X2_byteAt rfl dm_X2_byteAt rfl rfl (hS _ (by decide)) rfl rfl (Nat.le_of_ble_eq_true rfl) (rmOK_b rfl) (fun r2 hr2 => ?_)
  subst hr2
  refine J_istore_3 C dX2_tokenOf_5 (by decide) trivial ?_
  refine J_iload_3 C dX2_tokenOf_6 ?_
  refine G_spi C dX2_tokenOf_7 (c_X2_isLetter E hM0 g h T L (b s) hb) gX2_tokenOf_X2_isLetter rfl dm_X2_isLetter rfl rfl (Nat.le_of_ble_eq_true rfl) (rmOK_b rfl) (fun r7 hr7 => ?_)
  subst hr7
  refine J_if_eq C 22 dX2_tokenOf_10 (by decide) (fun hc10 => ?_) (fun hc10 => ?_)
  · skip
    refine J_iload_3 C dX2_tokenOf_22 ?_
    refine G_spi C dX2_tokenOf_23 (c_X2_isDigit E hM0 g h T L (b s) hb) gX2_tokenOf_X2_isDigit rfl dm_X2_isDigit rfl rfl (Nat.le_of_ble_eq_true rfl) (rmOK_b rfl) (fun r23 hr23 => ?_)
    subst hr23
    refine J_if_eq C 33 dX2_tokenOf_26 (by decide) (fun hc26 => ?_) (fun hc26 => ?_)
    · skip
      refine J_iload_3 C dX2_tokenOf_33 ?_
      refine J_bipush C (59) dX2_tokenOf_34 bc_59 ?_
      refine J_icmp_ne C 43 dX2_tokenOf_36 (by decide) (fun hc36 => ?_) (fun hc36 => ?_)
      · skip
        refine J_iconst C (3) dX2_tokenOf_43 ic_3 ?_
        refine hQ _ _ _ _ dX2_tokenOf_44 ⟨rfl, ?_⟩
        first
        | (unfold tkN
           rw [if_pos (bI_n.mp hc10)])
        | (unfold tkN
           rw [if_neg (by rw [bI_0.mp hc10]; decide), if_pos (bI_n.mp hc26)]
           rfl)
        | (unfold tkN
           rw [if_neg (by rw [bI_0.mp hc10]; decide), if_neg (by rw [bI_0.mp hc26]; decide), if_pos (nI_inj (by omega) (by decide) hc36)]
           rfl)
        | (unfold tkN
           rw [if_neg (by rw [bI_0.mp hc10]; decide), if_neg (by rw [bI_0.mp hc26]; decide), if_neg (fun q => hc36 (by rw [q]; rfl))]
           rfl)
      · skip
        refine J_iconst C (2) dX2_tokenOf_39 ic_2 ?_
        refine J_goto C 44 dX2_tokenOf_40 (by decide) ?_
        refine hQ _ _ _ _ dX2_tokenOf_44 ⟨rfl, ?_⟩
        first
        | (unfold tkN
           rw [if_pos (bI_n.mp hc10)])
        | (unfold tkN
           rw [if_neg (by rw [bI_0.mp hc10]; decide), if_pos (bI_n.mp hc26)]
           rfl)
        | (unfold tkN
           rw [if_neg (by rw [bI_0.mp hc10]; decide), if_neg (by rw [bI_0.mp hc26]; decide), if_pos (nI_inj (by omega) (by decide) hc36)]
           rfl)
        | (unfold tkN
           rw [if_neg (by rw [bI_0.mp hc10]; decide), if_neg (by rw [bI_0.mp hc26]; decide), if_neg (fun q => hc36 (by rw [q]; rfl))]
           rfl)
    · skip
      refine J_iconst C (1) dX2_tokenOf_29 ic_1 ?_
      refine J_goto C 44 dX2_tokenOf_30 (by decide) ?_
      refine hQ _ _ _ _ dX2_tokenOf_44 ⟨rfl, ?_⟩
      first
      | (unfold tkN
         rw [if_pos (bI_n.mp hc10)])
      | (unfold tkN
         rw [if_neg (by rw [bI_0.mp hc10]; decide), if_pos (bI_n.mp hc26)]
         rfl)
      | (unfold tkN
         rw [if_neg (by rw [bI_0.mp hc10]; decide), if_neg (by rw [bI_0.mp hc26]; decide), if_pos (nI_inj (by omega) (by decide) hc36)]
         rfl)
      | (unfold tkN
         rw [if_neg (by rw [bI_0.mp hc10]; decide), if_neg (by rw [bI_0.mp hc26]; decide), if_neg (fun q => hc36 (by rw [q]; rfl))]
         rfl)
  · skip
    refine J_aload_0 C dX2_tokenOf_13 ?_
    refine J_iload_1 C dX2_tokenOf_14 ?_
    refine J_iload_2 C dX2_tokenOf_15 ?_
    refine G_vpSi C hSP dX2_tokenOf_16 (c_X2_wordOf E hM0 V g h T L n b hX0 s e hs he) gX2_tokenOf_X2_wordOf rfl dm_X2_wordOf rfl rfl (hS _ (by decide)) rfl rfl (Nat.le_of_ble_eq_true rfl) (rmOK_b rfl) (fun r16 hr16 => ?_)
    subst hr16
    refine J_goto C 44 dX2_tokenOf_19 (by decide) ?_
    refine hQ _ _ _ _ dX2_tokenOf_44 ⟨rfl, ?_⟩
    first
    | (unfold tkN
       rw [if_pos (bI_n.mp hc10)])
    | (unfold tkN
       rw [if_neg (by rw [bI_0.mp hc10]; decide), if_pos (bI_n.mp hc26)]
       rfl)
    | (unfold tkN
       rw [if_neg (by rw [bI_0.mp hc10]; decide), if_neg (by rw [bI_0.mp hc26]; decide), if_pos (nI_inj (by omega) (by decide) hc36)]
       rfl)
    | (unfold tkN
       rw [if_neg (by rw [bI_0.mp hc10]; decide), if_neg (by rw [bI_0.mp hc26]; decide), if_neg (fun q => hc36 (by rw [q]; rfl))]
       rfl)
abbrev rmX2_numberOf : Room := { frames := 1, cells := 0, slots := 0, locals := 21 }
set_option maxRecDepth 100000 in
set_option maxHeartbeats 4000000 in
theorem c_X2_numberOf (E : EN) (hM : EM E) (g : Nat → Int32) (h : Nat → Int64) (T : Nat → Nat → Int32) (L : Nat → Nat → Int64) (n : Nat) (b : Nat → Nat) (hX : LxX g T n b) (s e : Nat) (hs : s < e) (he : e ≤ n) (hd : ∀ j, s ≤ j → j < e → isD (b j) = true) : GpI E yX2_numberOf wsX2_numberOf rmX2_numberOf [.ref (eA E 2), .int (nI s), .int (nI e)] g h T L (fun r => r = oI (nvO b s e)) := by
  refine CtI_of (cc := cX2_numberOf) (nL := 5) RX2 [some (.ref (eA E 2)), some (.int (nI s)), some (.int (nI e)), none, none] ⟨rfl, rfl⟩ (by decide) rfl rfl (Nat.le_of_ble_eq_true rfl) ⟨2, rfl⟩ hM.2 (fun Y C hQ => ?_)
  have hX0 := hX
  have hM0 := hM
  obtain ⟨hS, hNN⟩ := hM
  obtain ⟨x1, x2, x3, x4⟩ := hX
  have hsub : nI e - nI s = nI (e - s) := by rw [show nI e = nI (e - s) + nI s by rw [nI_add]; congr 1; omega, Int32.add_sub_cancel]
  have he1 : nI e - 1 = nI (e - 1) := by rw [show nI e = nI (e - 1 + 1) by congr 1; omega, nI_pred]
  have hD : ∀ j, s ≤ j → j < e → 48 ≤ b j ∧ b j ≤ 57 := fun j h1 h2 => by
    have := hd j h1 h2
    simpa [isD] using this
  have hds := hD s (Nat.le_refl _) hs
  have hde := hD (e - 1) (by omega) (by omega)
  have hS48 : ∀ c, 48 ≤ c → nI c - 48 = nI (c - 48) := fun c hc => by rw [show nI c = nI (c - 48) + nI 48 by rw [nI_add]; congr 1; omega, show (48 : Int32) = nI 48 by decide, Int32.add_sub_cancel]
  refine J_aload_0 C dX2_numberOf_0 ?_
  refine J_iload_2 C dX2_numberOf_1 ?_
  refine J_iconst C (1) dX2_numberOf_2 ic_1 ?_
  refine J_isub C dX2_numberOf_3 ?_
  rw [he1]
  refine G_vpi C dX2_numberOf_4 (c_X2_byteAt E hM0 g h T L n b hX0 (e - 1) (by omega)) gX2_numberOf_X2_byteAt rfl dm_X2_byteAt rfl rfl (hS _ (by decide)) rfl rfl (Nat.le_of_ble_eq_true rfl) (rmOK_b rfl) (fun r4 hr4 => ?_)
  subst hr4
  refine J_bipush C (48) dX2_numberOf_7 bc_48 ?_
  refine J_isub C dX2_numberOf_9 ?_
  rw [hS48 _ hde.1]
  refine J_istore_3 C dX2_numberOf_10 (by decide) trivial ?_
  refine J_iload_2 C dX2_numberOf_11 ?_
  refine J_iload_1 C dX2_numberOf_12 ?_
  refine J_isub C dX2_numberOf_13 ?_
  rw [hsub]
  refine J_iconst C (1) dX2_numberOf_14 ic_1 ?_
  refine J_icmp_ne C 20 dX2_numberOf_15 (by decide) (fun hc15 => ?_) (fun hc15 => ?_)
  · skip
    refine J_aload_0 C dX2_numberOf_20 ?_
    refine J_iload_1 C dX2_numberOf_21 ?_
    refine G_vpi C dX2_numberOf_22 (c_X2_byteAt E hM0 g h T L n b hX0 s (by omega)) gX2_numberOf_X2_byteAt rfl dm_X2_byteAt rfl rfl (hS _ (by decide)) rfl rfl (Nat.le_of_ble_eq_true rfl) (rmOK_b rfl) (fun r22 hr22 => ?_)
    subst hr22
    refine J_bipush C (48) dX2_numberOf_25 bc_48 ?_
    refine J_isub C dX2_numberOf_27 ?_
    rw [hS48 _ hds.1]
    refine J_istore_4 C dX2_numberOf_28 (by decide) trivial ?_
    refine J_iload_2 C dX2_numberOf_30 ?_
    refine J_iload_1 C dX2_numberOf_31 ?_
    refine J_isub C dX2_numberOf_32 ?_
    rw [hsub]
    refine J_iconst C (2) dX2_numberOf_33 ic_2 ?_
    refine J_icmp_ne C 52 dX2_numberOf_34 (by decide) (fun hc34 => ?_) (fun hc34 => ?_)
    · skip
      refine J_iconst C (-1) dX2_numberOf_52 ic_m1 ?_
      refine hQ _ _ _ _ dX2_numberOf_53 ⟨rfl, ?_⟩
      have q : ¬ e - s = 1 := fun q => hc15 (by rw [q]; rfl)
      unfold nvO
      first
      | (rw [if_neg q, if_neg (fun z => hc34 (by rw [z.1]; rfl))]
         rfl)
      | (have z : ¬ 48 < b s := by
           intro z
           rw [show (0 : Int32) = nI 0 by decide, nI_leI (by omega) (by decide)] at hc39
           omega
         rw [if_neg q, if_neg (fun y => z y.2)]
         rfl)
      | (have z : 48 < b s := by
           rw [show (0 : Int32) = nI 0 by decide, nI_leI (by omega) (by decide)] at hc39
           omega
         rw [if_neg q, if_pos ⟨nI_inj (by omega) (by decide) hc34, z⟩, show (10 : Int32) = nI 10 by decide, pk_mul, nI_add]
         rfl)
    · skip
      refine J_iload_4 C dX2_numberOf_37 ?_
      refine J_if_le C 52 dX2_numberOf_39 (by decide) (fun hc39 => ?_) (fun hc39 => ?_)
      · skip
        refine J_iconst C (-1) dX2_numberOf_52 ic_m1 ?_
        refine hQ _ _ _ _ dX2_numberOf_53 ⟨rfl, ?_⟩
        have q : ¬ e - s = 1 := fun q => hc15 (by rw [q]; rfl)
        unfold nvO
        first
        | (rw [if_neg q, if_neg (fun z => hc34 (by rw [z.1]; rfl))]
           rfl)
        | (have z : ¬ 48 < b s := by
             intro z
             rw [show (0 : Int32) = nI 0 by decide, nI_leI (by omega) (by decide)] at hc39
             omega
           rw [if_neg q, if_neg (fun y => z y.2)]
           rfl)
        | (have z : 48 < b s := by
             rw [show (0 : Int32) = nI 0 by decide, nI_leI (by omega) (by decide)] at hc39
             omega
           rw [if_neg q, if_pos ⟨nI_inj (by omega) (by decide) hc34, z⟩, show (10 : Int32) = nI 10 by decide, pk_mul, nI_add]
           rfl)
      · skip
        refine J_bipush C (10) dX2_numberOf_42 bc_10 ?_
        refine J_iload_4 C dX2_numberOf_44 ?_
        refine J_imul C dX2_numberOf_46 ?_
        refine J_iload_3 C dX2_numberOf_47 ?_
        refine J_iadd C dX2_numberOf_48 ?_
        refine J_goto C 53 dX2_numberOf_49 (by decide) ?_
        refine hQ _ _ _ _ dX2_numberOf_53 ⟨rfl, ?_⟩
        have q : ¬ e - s = 1 := fun q => hc15 (by rw [q]; rfl)
        unfold nvO
        first
        | (rw [if_neg q, if_neg (fun z => hc34 (by rw [z.1]; rfl))]
           rfl)
        | (have z : ¬ 48 < b s := by
             intro z
             rw [show (0 : Int32) = nI 0 by decide, nI_leI (by omega) (by decide)] at hc39
             omega
           rw [if_neg q, if_neg (fun y => z y.2)]
           rfl)
        | (have z : 48 < b s := by
             rw [show (0 : Int32) = nI 0 by decide, nI_leI (by omega) (by decide)] at hc39
             omega
           rw [if_neg q, if_pos ⟨nI_inj (by omega) (by decide) hc34, z⟩, show (10 : Int32) = nI 10 by decide, pk_mul, nI_add]
           rfl)
  · skip
    refine J_iload_3 C dX2_numberOf_18 ?_
    refine hQ _ _ _ _ dX2_numberOf_19 ⟨rfl, ?_⟩
    have q : e - s = 1 := nI_inj (by omega) (by decide) hc15
    unfold nvO
    rw [if_pos q, show e - 1 = s by omega]
    rfl
theorem LxX.keep {g g' : Nat → Int32} {T T' : Nat → Nat → Int32} {n : Nat} {b : Nat → Nat} (h : LxX g T n b) (h0 : g' 200 = g 200) (h1 : g' 201 = g 201) (h2 : T' 1 = T 1) : LxX g' T' n b := by
  obtain ⟨x1, x2, x3, x4⟩ := h
  exact ⟨x1, by rw [h0]; exact x2, by rw [h1]; exact x3, by rw [h2]; exact x4⟩
theorem nbT_lt {n i : Nat} {b : Nat → Nat} : nbT n b i < n ∨ n ≤ nbT n b i := by omega
theorem psT_le {n : Nat} {b : Nat → Nat} : ∀ {j : Nat}, (∀ i, i < j → psT n b i < n) → psT n b j ≤ n
  | 0, _ => nbT_le (Nat.zero_le _)
  | j + 1, h => tNx_le (h j (by omega))
theorem eo_dig {n s j : Nat} {b : Nat → Nat} (h0 : isL (b s) = false) (hd : isD (b s) = true) (h1 : s ≤ j) (h2 : j < eoT n b s) : isD (b j) = true := by
  by_cases q : j = s
  · rw [q]; exact hd
  · have := runT_all (p := fun j => smK (b s) (b j)) (show s + 1 ≤ j by omega) h2
    simpa [smK, h0, hd] using this
theorem tkN_1 {b : Nat → Nat} {s e : Nat} (h : tkN b s e = 1) : isL (b s) = false ∧ isD (b s) = true := by
  have := wdN_le (b := b) (s := s) (e := e)
  unfold tkN at h
  split at h
  · omega
  · rename_i q
    split at h
    · rename_i q2
      exact ⟨by simpa using q, q2⟩
    · split at h <;> omega
theorem tU_ne {T : Nat → Nat → Int32} {k i : Nat} {f : Nat → Int32} (h : i ≠ k) : va_up T k f i = T i := by simp [va_up, h]
theorem tU_eq {T : Nat → Nat → Int32} {k : Nat} {f : Nat → Int32} : va_up T k f k = f := by simp [va_up]
abbrev rmX2_split : Room := { frames := 7, cells := 0, slots := 0, locals := 154 }
theorem fX2_split_15 : Cond.fieldLink RX2 15 RX2 (TX2 3).2.1 (TX2 3).2.2.1 ∈ wsX2_split := by decide +kernel
theorem fX2_split_18 : Cond.fieldLink RX2 18 RX2 (TX2 4).2.1 (TX2 4).2.2.1 ∈ wsX2_split := by decide +kernel
theorem fX2_split_30 : Cond.fieldLink RX2 30 RX2 (TX2 1).2.1 (TX2 1).2.2.1 ∈ wsX2_split := by decide +kernel
theorem fX2_split_9 : Cond.fieldLink RX2 9 RX2 (TX2 2).2.1 (TX2 2).2.2.1 ∈ wsX2_split := by decide +kernel
theorem iX2_split_2 : ∀ x ∈ wsX20, x ∈ wsX2_split := by decide +kernel
theorem dm_X2_behindBlanks : yX2_behindBlanks.cls = RX2 ∧ yX2_behindBlanks.cls ≠ "java/lang/invoke/MethodHandle" ∧ yX2_behindBlanks.cls ≠ "java/lang/invoke/VarHandle" ∧ (parseMethodDescriptor yX2_behindBlanks.desc).map (fun d => d.parameters.length) = some 1 := by decide +kernel
theorem dm_X2_endOf : yX2_endOf.cls = RX2 ∧ yX2_endOf.cls ≠ "java/lang/invoke/MethodHandle" ∧ yX2_endOf.cls ≠ "java/lang/invoke/VarHandle" ∧ (parseMethodDescriptor yX2_endOf.desc).map (fun d => d.parameters.length) = some 1 := by decide +kernel
theorem dm_X2_numberOf : yX2_numberOf.cls = RX2 ∧ yX2_numberOf.cls ≠ "java/lang/invoke/MethodHandle" ∧ yX2_numberOf.cls ≠ "java/lang/invoke/VarHandle" ∧ (parseMethodDescriptor yX2_numberOf.desc).map (fun d => d.parameters.length) = some 2 := by decide +kernel
theorem dm_X2_tokenOf : yX2_tokenOf.cls = RX2 ∧ yX2_tokenOf.cls ≠ "java/lang/invoke/MethodHandle" ∧ yX2_tokenOf.cls ≠ "java/lang/invoke/VarHandle" ∧ (parseMethodDescriptor yX2_tokenOf.desc).map (fun d => d.parameters.length) = some 2 := by decide +kernel
theorem sc_200 : (Int16.ofInt (200)).toInt32 = (200) := by decide
set_option maxRecDepth 100000 in
set_option maxHeartbeats 4000000 in
theorem c_X2_split (E : EN) (hM : EM E) (V : SV) (g : Nat → Int32) (h : Nat → Int64) (T : Nat → Nat → Int32) (L : Nat → Nat → Int64) (n : Nat) (b : Nat → Nat) (hX : LxX g T n b) : GtVS E V yX2_split wsX2_split rmX2_split [.ref (eA E 2)] g h T L (fun g2 h2 T2 L2 => g2 = g ∧ h2 = h ∧ L2 = L ∧ (∀ k, k ≠ 3 → k ≠ 4 → k ≠ 5 → T2 k = T k) ∧ ∃ m, TkX T2 n b m) := by
  refine CtSV_of (cc := cX2_split) (nL := 4) RX2 [some (.ref (eA E 2)), none, none, none] ⟨rfl, rfl⟩ (by decide) rfl rfl (Nat.le_of_ble_eq_true rfl) ⟨3, rfl⟩ hM.2 (fun Y C hSP hQ => ?_)
  have hX0 := hX
  have hM0 := hM
  obtain ⟨hS, hNN⟩ := hM
  obtain ⟨x1, x2, x3, x4⟩ := hX
  refine J_iconst C (0) dX2_split_0 ic_0 ?_
  refine J_istore_1 C dX2_split_1 (by decide) trivial ?_
  refine J_aload_0 C dX2_split_2 ?_
  refine J_iconst C (0) dX2_split_3 ic_0 ?_
  refine G_vpi C dX2_split_4 (c_X2_behindBlanks E hM0 g h T L n b hX0 0 (Nat.zero_le _)) gX2_split_X2_behindBlanks rfl dm_X2_behindBlanks rfl rfl (hS _ (by decide)) rfl rfl (Nat.le_of_ble_eq_true rfl) (rmOK_b rfl) (fun r4 hr4 => ?_)
  subst hr4
  refine J_istore_2 C dX2_split_7 (by decide) trivial ?_
  have loop : ∀ (n2 : Nat) (q : Nat) (T2 : Nat → Nat → Int32) (x3 : Option Value), q ≤ 200 → 200 < n2 + q → (∀ k, k ≠ 3 → k ≠ 4 → k ≠ 5 → T2 k = T k) → (∀ j, j < q → psT n b j < n) → (∀ j, j < q → T2 4 j = nI (psT n b j) ∧ T2 3 j = nI (tKn n b (psT n b j)) ∧ T2 5 j = oI (tVo n b (psT n b j))) → J E Y (eN E) 0 0 (wS E g h T2 L) 8 [some (.ref (eA E 2)), some (.int (nI q)), some (.int (nI (psT n b q))), x3] [] := by
    intro n2
    induction n2 with
    | zero =>
      intro q T2 z3 hq0 h2 hT hps hrow
      omega
    | succ n2 ih =>
      intro q T2 z3 hq0 h2 hT hps hrow
      refine J_iload_1 C dX2_split_8 ?_
      refine J_sipush C (200) dX2_split_9 sc_200 ?_
      refine J_icmp_ge C 86 dX2_split_12 (by decide) (fun hc12 => ?_) (fun hc12 => ?_)
      · skip
        refine J_aload_0 C dX2_split_86 ?_
        refine G2_getr C (n := 4) 3 dX2_split_87 fX2_split_15 iX2_split_2 rfl (hS _ (by decide)) rfl rfl ?_
        refine J_iload_1 C dX2_split_90 ?_
        refine J_aload_0 C dX2_split_91 ?_
        refine G2_geti C (n := 201) 1 dX2_split_92 fX2_split_30 iX2_split_2 rfl (hS _ (by decide)) rfl rfl ?_
        refine G_iast C q dX2_split_95 rfl (hS _ (by decide)) rfl (by omega) ?_
        refine J_aload_0 C dX2_split_96 ?_
        refine G2_getr C (n := 3) 2 dX2_split_97 fX2_split_9 iX2_split_2 rfl (hS _ (by decide)) rfl rfl ?_
        refine J_iload_1 C dX2_split_100 ?_
        refine J_iconst C (0) dX2_split_101 ic_0 ?_
        refine G_iast C q dX2_split_102 rfl (hS _ (by decide)) rfl (by omega) ?_
        refine J_aload_0 C dX2_split_103 ?_
        refine G2_getr C (n := 5) 4 dX2_split_104 fX2_split_18 iX2_split_2 rfl (hS _ (by decide)) rfl rfl ?_
        refine J_iload_1 C dX2_split_107 ?_
        refine J_iconst C (0) dX2_split_108 ic_0 ?_
        refine G_iast C q dX2_split_109 rfl (hS _ (by decide)) rfl (by omega) ?_
        refine hQ _ _ _ dX2_split_110 ⟨_, _, _, _, rfl, ?_⟩
        have hend : psT n b q = n := by
          have h1 := psT_le hps
          have h5 := psT_ge (n := n) (b := b) (j := q)
          first
          | (have h3 : n ≤ psT n b q := ge_nI (by omega) (by rw [← x3]; exact hc20)
             omega)
          | (have h3 : 200 ≤ q := ge_nI (m := 200) (by omega) hc12
             omega)
        refine ⟨rfl, rfl, rfl, fun k h3 h4 h5 => by
          rw [tU_ne h5, tU_ne h3, tU_ne h4]
          exact hT k h3 h4 h5, q, by omega, hend, hps, fun j hj => ?_⟩
        by_cases e : j = q
        · subst e
          have hk0 : tKn n b (psT n b j) = 0 := tKn_0.mpr (by omega)
          refine ⟨?_, ?_, ?_⟩
          · rw [tU_ne (by decide), tU_ne (by decide), tU_eq, hend]; simp [upd]; exact x3
          · rw [tU_ne (by decide), tU_eq, hk0]; simp [upd]; rfl
          · rw [tU_eq]
            unfold tVo
            rw [hk0]; simp [upd]; rfl
        · obtain ⟨r1, r2, r3⟩ := hrow j (by omega)
          refine ⟨?_, ?_, ?_⟩
          · rw [tU_ne (by decide), tU_ne (by decide), tU_eq]; simp [upd, e]; exact r1
          · rw [tU_ne (by decide), tU_eq, tU_ne (by decide)]; simp [upd, e]; exact r2
          · rw [tU_eq, tU_ne (by decide), tU_ne (by decide)]; simp [upd, e]; exact r3
      · skip
        have hX2 : LxX g T2 n b := hX0.keep rfl rfl (hT 1 (by decide) (by decide) (by decide))
        refine J_iload_2 C dX2_split_15 ?_
        refine J_aload_0 C dX2_split_16 ?_
        refine G2_geti C (n := 201) 1 dX2_split_17 fX2_split_30 iX2_split_2 rfl (hS _ (by decide)) rfl rfl ?_
        refine J_icmp_ge C 86 dX2_split_20 (by decide) (fun hc20 => ?_) (fun hc20 => ?_)
        · skip
          refine J_aload_0 C dX2_split_86 ?_
          refine G2_getr C (n := 4) 3 dX2_split_87 fX2_split_15 iX2_split_2 rfl (hS _ (by decide)) rfl rfl ?_
          refine J_iload_1 C dX2_split_90 ?_
          refine J_aload_0 C dX2_split_91 ?_
          refine G2_geti C (n := 201) 1 dX2_split_92 fX2_split_30 iX2_split_2 rfl (hS _ (by decide)) rfl rfl ?_
          refine G_iast C q dX2_split_95 rfl (hS _ (by decide)) rfl (by omega) ?_
          refine J_aload_0 C dX2_split_96 ?_
          refine G2_getr C (n := 3) 2 dX2_split_97 fX2_split_9 iX2_split_2 rfl (hS _ (by decide)) rfl rfl ?_
          refine J_iload_1 C dX2_split_100 ?_
          refine J_iconst C (0) dX2_split_101 ic_0 ?_
          refine G_iast C q dX2_split_102 rfl (hS _ (by decide)) rfl (by omega) ?_
          refine J_aload_0 C dX2_split_103 ?_
          refine G2_getr C (n := 5) 4 dX2_split_104 fX2_split_18 iX2_split_2 rfl (hS _ (by decide)) rfl rfl ?_
          refine J_iload_1 C dX2_split_107 ?_
          refine J_iconst C (0) dX2_split_108 ic_0 ?_
          refine G_iast C q dX2_split_109 rfl (hS _ (by decide)) rfl (by omega) ?_
          refine hQ _ _ _ dX2_split_110 ⟨_, _, _, _, rfl, ?_⟩
          have hend : psT n b q = n := by
            have h1 := psT_le hps
            have h5 := psT_ge (n := n) (b := b) (j := q)
            first
            | (have h3 : n ≤ psT n b q := ge_nI (by omega) (by rw [← x3]; exact hc20)
               omega)
            | (have h3 : 200 ≤ q := ge_nI (m := 200) (by omega) hc12
               omega)
          refine ⟨rfl, rfl, rfl, fun k h3 h4 h5 => by
            rw [tU_ne h5, tU_ne h3, tU_ne h4]
            exact hT k h3 h4 h5, q, by omega, hend, hps, fun j hj => ?_⟩
          by_cases e : j = q
          · subst e
            have hk0 : tKn n b (psT n b j) = 0 := tKn_0.mpr (by omega)
            refine ⟨?_, ?_, ?_⟩
            · rw [tU_ne (by decide), tU_ne (by decide), tU_eq, hend]; simp [upd]; exact x3
            · rw [tU_ne (by decide), tU_eq, hk0]; simp [upd]; rfl
            · rw [tU_eq]
              unfold tVo
              rw [hk0]; simp [upd]; rfl
          · obtain ⟨r1, r2, r3⟩ := hrow j (by omega)
            refine ⟨?_, ?_, ?_⟩
            · rw [tU_ne (by decide), tU_ne (by decide), tU_eq]; simp [upd, e]; exact r1
            · rw [tU_ne (by decide), tU_eq, tU_ne (by decide)]; simp [upd, e]; exact r2
            · rw [tU_eq, tU_ne (by decide), tU_ne (by decide)]; simp [upd, e]; exact r3
        · skip
          have hlt : psT n b q < n := lt_nI (by have := psT_le hps; omega) (by rw [← x3]; exact hc20)
          have hq : q < 200 := by have := psT_ge (n := n) (b := b) (j := q); omega
          have htk : tKn n b (psT n b q) = tkN b (psT n b q) (eoT n b (psT n b q)) := by unfold tKn; rw [if_pos hlt]
          refine J_aload_0 C dX2_split_23 ?_
          refine J_iload_2 C dX2_split_24 ?_
          refine G_vpi C dX2_split_25 (c_X2_endOf E hM0 g h T2 L n b hX2 (psT n b q) hlt) gX2_split_X2_endOf rfl dm_X2_endOf rfl rfl (hS _ (by decide)) rfl rfl (Nat.le_of_ble_eq_true rfl) (rmOK_b rfl) (fun r25 hr25 => ?_)
          subst hr25
          refine J_istore_3 C dX2_split_28 (by decide) trivial ?_
          refine J_aload_0 C dX2_split_29 ?_
          refine G2_getr C (n := 4) 3 dX2_split_30 fX2_split_15 iX2_split_2 rfl (hS _ (by decide)) rfl rfl ?_
          refine J_iload_1 C dX2_split_33 ?_
          refine J_iload_2 C dX2_split_34 ?_
          refine G_iast C _ dX2_split_35 rfl (hS _ (by decide)) rfl (by omega) ?_
          refine J_aload_0 C dX2_split_36 ?_
          refine G2_getr C (n := 3) 2 dX2_split_37 fX2_split_9 iX2_split_2 rfl (hS _ (by decide)) rfl rfl ?_
          refine J_iload_1 C dX2_split_40 ?_
          refine J_aload_0 C dX2_split_41 ?_
          refine J_iload_2 C dX2_split_42 ?_
          refine J_iload_3 C dX2_split_43 ?_
          refine G_vpSi C hSP dX2_split_44 (c_X2_tokenOf E hM0 V g h _ L n b (hX2.keep rfl rfl (by rw [tU_ne (by decide)])) (psT n b q) (eoT n b (psT n b q)) eoT_lt (eoT_le hlt)) gX2_split_X2_tokenOf rfl dm_X2_tokenOf rfl rfl (hS _ (by decide)) rfl rfl (Nat.le_of_ble_eq_true rfl) (rmOK_b rfl) (fun r44 hr44 => ?_)
          subst hr44
          refine G_iast C q dX2_split_47 rfl (hS _ (by decide)) rfl (by omega) ?_
          refine J_aload_0 C dX2_split_48 ?_
          refine G2_getr C (n := 5) 4 dX2_split_49 fX2_split_18 iX2_split_2 rfl (hS _ (by decide)) rfl rfl ?_
          refine J_iload_1 C dX2_split_52 ?_
          refine J_aload_0 C dX2_split_53 ?_
          refine G2_getr C (n := 3) 2 dX2_split_54 fX2_split_9 iX2_split_2 rfl (hS _ (by decide)) rfl rfl ?_
          refine J_iload_1 C dX2_split_57 ?_
          refine G_iald C q dX2_split_58 rfl (hS _ (by decide)) rfl (by omega) ?_
          refine J_top (y := nI (tKn n b (psT n b q))) (by rw [tU_eq, htk]; simp [upd]) ?_
          refine J_iconst C (1) dX2_split_59 ic_1 ?_
          refine J_icmp_ne C 72 dX2_split_60 (by decide) (fun hc60 => ?_) (fun hc60 => ?_)
          · skip
            refine J_iconst C (0) dX2_split_72 ic_0 ?_
            refine G_iast C q dX2_split_73 rfl (hS _ (by decide)) rfl (by omega) ?_
            skip
            refine J_iinc_1 C (1) dX2_split_74 (by decide) trivial ic_1 ?_
            refine J_aload_0 C dX2_split_77 ?_
            refine J_iload_3 C dX2_split_78 ?_
            refine G_vpi C dX2_split_79 (c_X2_behindBlanks E hM0 g h _ L n b (hX2.keep rfl rfl (by rw [tU_ne (by decide), tU_ne (by decide), tU_ne (by decide)])) (eoT n b (psT n b q)) (eoT_le hlt)) gX2_split_X2_behindBlanks rfl dm_X2_behindBlanks rfl rfl (hS _ (by decide)) rfl rfl (Nat.le_of_ble_eq_true rfl) (rmOK_b rfl) (fun r79 hr79 => ?_)
            subst hr79
            refine J_istore_2 C dX2_split_82 (by decide) trivial ?_
            refine J_goto C 8 dX2_split_83 (by decide) ?_
            rw [nI_1]
            refine ih (q + 1) _ _ (by omega) (by omega) (fun k h3 h4 h5 => by
              rw [tU_ne h5, tU_ne h3, tU_ne h4]
              exact hT k h3 h4 h5) (fun j hj => by
              by_cases e : j = q
              · rw [e]; exact hlt
              · exact hps j (by omega)) (fun j hj => ?_)
            have hv : ¬ tkN b (psT n b q) (eoT n b (psT n b q)) = 1 ∨ tkN b (psT n b q) (eoT n b (psT n b q)) = 1 := by omega
            by_cases e : j = q
            · subst e
              refine ⟨?_, ?_, ?_⟩
              · rw [tU_ne (by decide), tU_ne (by decide), tU_eq]; simp [upd]
              · rw [tU_ne (by decide), tU_eq, htk]; simp [upd]
              · rw [tU_eq]
                unfold tVo
                first
                | (rw [htk, if_pos hk1]; simp [upd])
                | (rw [if_neg (fun z => hc60 (by rw [z]; rfl))]; simp [upd]; rfl)
            · obtain ⟨r1, r2, r3⟩ := hrow j (by omega)
              refine ⟨?_, ?_, ?_⟩
              · rw [tU_ne (by decide), tU_ne (by decide), tU_eq]; simp [upd, e]; exact r1
              · rw [tU_ne (by decide), tU_eq, tU_ne (by decide)]; simp [upd, e]; exact r2
              · rw [tU_eq, tU_ne (by decide), tU_ne (by decide)]; simp [upd, e]; exact r3
          · skip
            have hk1 : tkN b (psT n b q) (eoT n b (psT n b q)) = 1 := by rw [← htk]; exact nI_inj (by have := tKn_le (n := n) (b := b) (p := psT n b q); omega) (by decide) hc60
            refine J_aload_0 C dX2_split_63 ?_
            refine J_iload_2 C dX2_split_64 ?_
            refine J_iload_3 C dX2_split_65 ?_
            refine G_vpi C dX2_split_66 (c_X2_numberOf E hM0 g h _ L n b (hX2.keep rfl rfl (by rw [tU_ne (by decide), tU_ne (by decide)])) (psT n b q) (eoT n b (psT n b q)) eoT_lt (eoT_le hlt) (fun j h1 h2 => eo_dig (tkN_1 hk1).1 (tkN_1 hk1).2 h1 h2)) gX2_split_X2_numberOf rfl dm_X2_numberOf rfl rfl (hS _ (by decide)) rfl rfl (Nat.le_of_ble_eq_true rfl) (rmOK_b rfl) (fun r66 hr66 => ?_)
            subst hr66
            refine J_goto C 73 dX2_split_69 (by decide) ?_
            refine G_iast C q dX2_split_73 rfl (hS _ (by decide)) rfl (by omega) ?_
            skip
            refine J_iinc_1 C (1) dX2_split_74 (by decide) trivial ic_1 ?_
            refine J_aload_0 C dX2_split_77 ?_
            refine J_iload_3 C dX2_split_78 ?_
            refine G_vpi C dX2_split_79 (c_X2_behindBlanks E hM0 g h _ L n b (hX2.keep rfl rfl (by rw [tU_ne (by decide), tU_ne (by decide), tU_ne (by decide)])) (eoT n b (psT n b q)) (eoT_le hlt)) gX2_split_X2_behindBlanks rfl dm_X2_behindBlanks rfl rfl (hS _ (by decide)) rfl rfl (Nat.le_of_ble_eq_true rfl) (rmOK_b rfl) (fun r79 hr79 => ?_)
            subst hr79
            refine J_istore_2 C dX2_split_82 (by decide) trivial ?_
            refine J_goto C 8 dX2_split_83 (by decide) ?_
            rw [nI_1]
            refine ih (q + 1) _ _ (by omega) (by omega) (fun k h3 h4 h5 => by
              rw [tU_ne h5, tU_ne h3, tU_ne h4]
              exact hT k h3 h4 h5) (fun j hj => by
              by_cases e : j = q
              · rw [e]; exact hlt
              · exact hps j (by omega)) (fun j hj => ?_)
            have hv : ¬ tkN b (psT n b q) (eoT n b (psT n b q)) = 1 ∨ tkN b (psT n b q) (eoT n b (psT n b q)) = 1 := by omega
            by_cases e : j = q
            · subst e
              refine ⟨?_, ?_, ?_⟩
              · rw [tU_ne (by decide), tU_ne (by decide), tU_eq]; simp [upd]
              · rw [tU_ne (by decide), tU_eq, htk]; simp [upd]
              · rw [tU_eq]
                unfold tVo
                first
                | (rw [htk, if_pos hk1]; simp [upd])
                | (rw [if_neg (fun z => hc60 (by rw [z]; rfl))]; simp [upd]; rfl)
            · obtain ⟨r1, r2, r3⟩ := hrow j (by omega)
              refine ⟨?_, ?_, ?_⟩
              · rw [tU_ne (by decide), tU_ne (by decide), tU_eq]; simp [upd, e]; exact r1
              · rw [tU_ne (by decide), tU_eq, tU_ne (by decide)]; simp [upd, e]; exact r2
              · rw [tU_eq, tU_ne (by decide), tU_ne (by decide)]; simp [upd, e]; exact r3
  exact loop 201 0 T _ (by omega) (by omega) (fun _ _ _ _ => rfl) (fun j hj => by omega) (fun j hj => by omega)
