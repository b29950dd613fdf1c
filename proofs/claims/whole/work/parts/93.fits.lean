theorem wy_cg {cf cf' : Nat → Nat → Nat → Option Nat} {ag : Nat → Nat → Bool} {B bg : Nat} : ∀ n, (∀ k, k ≤ n → cf k = cf' k) → wy cf ag B bg n = wy cf' ag B bg n
  | 0, _ => rfl
  | n + 1, h => by
    show acO (cf (n + 1)) (ag (n + 1)) (wy cf ag B bg n) B 256 = acO (cf' (n + 1)) (ag (n + 1)) (wy cf' ag B bg n) B 256
    rw [wy_cg n (fun k hk => h k (by omega)), h (n + 1) (Nat.le_refl _)]
def Ab (c : Nat → Nat → Option Nat) (ag : Nat → Nat → Bool) (B bg n cc i : Nat) : Prop := ∃ s b t, s < 256 ∧ b < B ∧ wy (fun _ => c) ag B bg (cc - 1) s ≠ 0 ∧ c s b = some t ∧ Vn c (wy (fun _ => c) ag B bg) B n (n - cc) t ∧ b.testBit i = true
def FtR (c : Nat → Nat → Option Nat) (ag : Nat → Nat → Bool) (B bg : Nat) (x y : Int32) (r : Int64) : Prop := (¬ ((0 ≤ x ∧ x ≤ 5) ∧ 0 ≤ y ∧ y ≤ x) ∧ r = -1) ∨ ∃ n k, x = nI n ∧ n ≤ 5 ∧ y = nI k ∧ k ≤ n ∧ ((k = 0 ∧ r = lN (smN (wy (fun _ => c) ag B bg n) 256)) ∨ (0 < k ∧ ∃ U, U < 128 ∧ (∀ i, U.testBit i = true ↔ Ab c ag B bg n k i) ∧ r = lN U))
theorem FtR.uni {c : Nat → Nat → Option Nat} {ag : Nat → Nat → Bool} {B bg : Nat} {x y : Int32} {r r' : Int64} (h : FtR c ag B bg x y r) (h' : FtR c ag B bg x y r') : r = r' := by
  rcases h with ⟨a, b⟩ | ⟨n, k, rfl, hn, rfl, hk, h⟩
  · rcases h' with ⟨a', b'⟩ | ⟨n', k', rfl, hn', rfl, hk', h'⟩
    · rw [b, b']
    · exact absurd ⟨⟨nI_pos' (by omega), nI_le hn' (by decide)⟩, nI_pos' (by omega), nI_le hk' (by omega)⟩ a
  · rcases h' with ⟨a', b'⟩ | ⟨n', k', e1, hn', e2, hk', h'⟩
    · exact absurd ⟨⟨nI_pos' (by omega), nI_le hn (by decide)⟩, nI_pos' (by omega), nI_le hk (by omega)⟩ a'
    · have hnn : n = n' := nI_inj (by omega) (by omega) e1
      have hkk : k = k' := nI_inj (by omega) (by omega) e2
      subst hnn
      subst hkk
      rcases h with ⟨z, h⟩ | ⟨z, U, u1, u2, u3⟩
      · rcases h' with ⟨_, h'⟩ | ⟨z', _⟩
        · rw [h, h']
        · omega
      · rcases h' with ⟨z', _⟩ | ⟨_, U', v1, v2, v3⟩
        · omega
        · have : U = U' := by
            apply Nat.eq_of_testBit_eq
            intro i
            rw [Bool.eq_iff_iff, u2, v2]
          rw [u3, v3, this]
theorem nk5 {x y : Int32} (h : (0 ≤ x ∧ x ≤ 5) ∧ 0 ≤ y ∧ y ≤ x) : ∃ n k, x = nI n ∧ n ≤ 5 ∧ y = nI k ∧ k ≤ n := by
  obtain ⟨n, h1, h2⟩ := nI_of2 (x := x) (M := 5) (n := 5) (by decide) (Int32.not_lt.mpr h.1.1) h.1.2
  subst h2
  obtain ⟨k, h3, h4⟩ := nI_of2 (x := y) (M := nI n) (n := n) (nI_toInt (by omega)) (Int32.not_lt.mpr h.2.1) h.2.2
  exact ⟨n, k, rfl, h1, h4, h3⟩
theorem in_k {v k : Int32} : ((0 : Int64) ≤ v.toInt64 ∧ v.toInt64 ≤ k.toInt64) ↔ (0 ≤ v ∧ v ≤ k) := in_i
theorem shlL : ∀ t, t < 7 → (1 : Int64) <<< ((nI t).toInt64 &&& 63) = lN (2 ^ t) := by decide +kernel
theorem orL : ∀ t, t < 7 → ∀ U, U < 128 → lN U ||| lN (2 ^ t) = lN (U ||| 2 ^ t) := by decide +kernel
theorem or0 {x : Int64} : x ||| 0 = x := by simp
abbrev rmX5_fits : Room := { frames := 6, cells := 0, slots := 0, locals := 145 }
theorem kcX5_fits_189 : Cond.constantLong RX5 189 (-1) ∈ wsX5_fits := by decide +kernel
theorem fX5_fits_27 : Cond.fieldLink RX5 27 RX5 (TX5 3).2.1 (TX5 3).2.2.1 ∈ wsX5_fits := by decide +kernel
theorem fX5_fits_59 : Cond.fieldLink RX5 59 RX5 (TX5 9).2.1 (TX5 9).2.2.1 ∈ wsX5_fits := by decide +kernel
theorem iX5_fits_5 : ∀ x ∈ wsX50, x ∈ wsX5_fits := by decide +kernel
theorem dm_X4_aboard : yX4_aboard.cls = RX4 ∧ yX4_aboard.cls ≠ "java/lang/invoke/MethodHandle" ∧ yX4_aboard.cls ≠ "java/lang/invoke/VarHandle" ∧ (parseMethodDescriptor yX4_aboard.desc).map (fun d => d.parameters.length) = some 3 := by decide +kernel
theorem dm_X4_follow : yX4_follow.cls = RX4 ∧ yX4_follow.cls ≠ "java/lang/invoke/MethodHandle" ∧ yX4_follow.cls ≠ "java/lang/invoke/VarHandle" ∧ (parseMethodDescriptor yX4_follow.desc).map (fun d => d.parameters.length) = some 2 := by decide +kernel
theorem dm_X4_waysOf : yX4_waysOf.cls = RX4 ∧ yX4_waysOf.cls ≠ "java/lang/invoke/MethodHandle" ∧ yX4_waysOf.cls ≠ "java/lang/invoke/VarHandle" ∧ (parseMethodDescriptor yX4_waysOf.desc).map (fun d => d.parameters.length) = some 1 := by decide +kernel
set_option maxRecDepth 100000 in
set_option maxHeartbeats 4000000 in
theorem c_X5_fits (E : EN) (hM : EM E) (g : Nat → Int32) (h : Nat → Int64) (T : Nat → Nat → Int32) (L : Nat → Nat → Int64) (m : Nat) (ρ : Nat → Nat → Nat) (hR : RvX g T m ρ) (sn : List (Nat × Nat × Nat)) (hsn : rpS g T sn) (hso : SnOK sn) (ld : Nat) (hld : ld < 1000) (hgl : g 604 = nI ld) (bg : Nat) (hbg : bg < 256) (hgb : g 603 = nI bg) (x y : Int32) : GtL E yX5_fits wsX5_fits rmX5_fits [.ref (eA E 0), .int x, .int y] g h T L (fun r g2 h2 T2 L2 => (FtR (crN m (ρ 2) (ρ 3) ld (2 ^ m - 1)) (agN sn) (2 ^ m) bg x y r ∧ FrL L L2) ∧ g2 = g ∧ h2 = h ∧ T2 = T) := by
  refine CtL_of (cc := cX5_fits) (nL := 3) RX5 [some (.ref (eA E 0)), some (.int x), some (.int y)] ⟨rfl, rfl⟩ (by decide) rfl rfl (Nat.le_of_ble_eq_true rfl) ⟨0, rfl⟩ hM.2 (fun Y C hQ => ?_)
  have hM0 := hM
  obtain ⟨hS, hNN⟩ := hM
  have hm := hR.1
  refine J_iload_1 C dX5_fits_0 ?_
  refine J_if_lt C 18 dX5_fits_1 (by decide) (fun hc1 => ?_) (fun hc1 => ?_)
  · skip
    refine J_ldc2 C kcX5_fits_189 dX5_fits_18 ?_
    refine hQ _ _ _ _ dX5_fits_21 ⟨_, _, _, _, rfl, ?_⟩
    refine ⟨⟨Or.inl ⟨fun ⟨⟨z1, z2⟩, z3, z4⟩ => ?_, rfl⟩, fun _ _ => rfl⟩, rfl, rfl, rfl⟩
    first
    | exact absurd hc1 (Int32.not_lt.mpr z1)
    | exact absurd hc6 (Int32.not_lt.mpr z2)
    | exact absurd hc10 (Int32.not_lt.mpr z3)
    | exact hc15 z4
  · skip
    refine J_iload_1 C dX5_fits_4 ?_
    refine J_iconst C (5) dX5_fits_5 ic_5 ?_
    refine J_icmp_gt C 18 dX5_fits_6 (by decide) (fun hc6 => ?_) (fun hc6 => ?_)
    · skip
      refine J_ldc2 C kcX5_fits_189 dX5_fits_18 ?_
      refine hQ _ _ _ _ dX5_fits_21 ⟨_, _, _, _, rfl, ?_⟩
      refine ⟨⟨Or.inl ⟨fun ⟨⟨z1, z2⟩, z3, z4⟩ => ?_, rfl⟩, fun _ _ => rfl⟩, rfl, rfl, rfl⟩
      first
      | exact absurd hc1 (Int32.not_lt.mpr z1)
      | exact absurd hc6 (Int32.not_lt.mpr z2)
      | exact absurd hc10 (Int32.not_lt.mpr z3)
      | exact hc15 z4
    · skip
      refine J_iload_2 C dX5_fits_9 ?_
      refine J_if_lt C 18 dX5_fits_10 (by decide) (fun hc10 => ?_) (fun hc10 => ?_)
      · skip
        refine J_ldc2 C kcX5_fits_189 dX5_fits_18 ?_
        refine hQ _ _ _ _ dX5_fits_21 ⟨_, _, _, _, rfl, ?_⟩
        refine ⟨⟨Or.inl ⟨fun ⟨⟨z1, z2⟩, z3, z4⟩ => ?_, rfl⟩, fun _ _ => rfl⟩, rfl, rfl, rfl⟩
        first
        | exact absurd hc1 (Int32.not_lt.mpr z1)
        | exact absurd hc6 (Int32.not_lt.mpr z2)
        | exact absurd hc10 (Int32.not_lt.mpr z3)
        | exact hc15 z4
      · skip
        refine J_iload_2 C dX5_fits_13 ?_
        refine J_iload_1 C dX5_fits_14 ?_
        refine J_icmp_le C 22 dX5_fits_15 (by decide) (fun hc15 => ?_) (fun hc15 => ?_)
        · skip
          obtain ⟨n, k, rfl, hn, rfl, hk⟩ := nk5 ⟨⟨Int32.not_lt.mp hc1, Int32.not_lt.mp hc6⟩, Int32.not_lt.mp hc10, hc15⟩
          refine J_aload_0 C dX5_fits_22 ?_
          refine G5_getr C (n := 31) 9 dX5_fits_23 fX5_fits_59 iX5_fits_5 rfl (hS _ (by decide)) rfl rfl ?_
          refine J_aload_0 C dX5_fits_26 ?_
          refine G5_getr C (n := 6) 3 dX5_fits_27 fX5_fits_27 iX5_fits_5 rfl (hS _ (by decide)) rfl rfl ?_
          refine J_iload_1 C dX5_fits_30 ?_
          refine G_vtv C dX5_fits_31 (c_X4_follow E hM0 m ρ g h T L hR sn hsn hso ld hld hgl bg hbg hgb n hn) gX5_fits_X4_follow rfl dm_X4_follow rfl rfl (hS _ (by decide)) rfl rfl (Nat.le_of_ble_eq_true rfl) (rmOK_b rfl) (fun g31 h31 T31 L31 hp31 => ?_)
          obtain ⟨rfl, rfl, rfl, hFL, hrow⟩ := hp31
          refine J_iload_2 C dX5_fits_34 ?_
          refine J_if_ne C 49 dX5_fits_35 (by decide) (fun hc35 => ?_) (fun hc35 => ?_)
          · skip
            have hk0 : 1 ≤ k := Nat.pos_of_ne_zero (fun z => hc35 (by rw [z]; rfl))
            refine J_aload_0 C dX5_fits_49 ?_
            refine G5_getr C (n := 31) 9 dX5_fits_50 fX5_fits_59 iX5_fits_5 rfl (hS _ (by decide)) rfl rfl ?_
            refine J_aload_0 C dX5_fits_53 ?_
            refine G5_getr C (n := 6) 3 dX5_fits_54 fX5_fits_27 iX5_fits_5 rfl (hS _ (by decide)) rfl rfl ?_
            refine J_iload_1 C dX5_fits_57 ?_
            refine J_iload_2 C dX5_fits_58 ?_
            refine G_vti C dX5_fits_59 (c_X4_aboard E hM0 m ρ _ _ _ _ hR ld hld hgl sn bg n k hk0 hk hn hrow) gX5_fits_X4_aboard rfl dm_X4_aboard rfl rfl (hS _ (by decide)) rfl rfl (Nat.le_of_ble_eq_true rfl) (rmOK_b rfl) (fun r59 g59 h59 T59 L59 hp59 => ?_)
            obtain ⟨rfl, rfl, rfl, hFL2, U, rfl, hU, hUb⟩ := hp59
            refine J_i2l C dX5_fits_62 ?_
            refine hQ _ _ _ _ dX5_fits_63 ⟨_, _, _, _, rfl, ?_⟩
            first
            | (have hk0 : k = 0 := nI_inj (by omega) (by decide) hc35
               exact ⟨⟨Or.inr ⟨n, k, rfl, hn, rfl, hk, Or.inl ⟨hk0, rfl⟩⟩, hFL⟩, rfl, rfl, rfl⟩)
            | exact ⟨⟨Or.inr ⟨n, k, rfl, hn, rfl, hk, Or.inr ⟨hk0, U, hU, hUb, nI_l (by omega)⟩⟩, fun c hc => by rw [hFL2 c hc, hFL c hc]⟩, rfl, rfl, rfl⟩
          · skip
            refine J_aload_0 C dX5_fits_38 ?_
            refine G5_getr C (n := 31) 9 dX5_fits_39 fX5_fits_59 iX5_fits_5 rfl (hS _ (by decide)) rfl rfl ?_
            refine J_iload_1 C dX5_fits_42 ?_
            refine G_vpl C dX5_fits_43 (c_X4_waysOf E hM0 _ _ _ _ n hn _ (fun s hs => hrow n s (Nat.le_refl _) hs)) gX5_fits_X4_waysOf rfl dm_X4_waysOf rfl rfl (hS _ (by decide)) rfl rfl (Nat.le_of_ble_eq_true rfl) (rmOK_b rfl) (fun r43 hr43 => ?_)
            subst hr43
            refine J_goto C 63 dX5_fits_46 (by decide) ?_
            refine hQ _ _ _ _ dX5_fits_63 ⟨_, _, _, _, rfl, ?_⟩
            first
            | (have hk0 : k = 0 := nI_inj (by omega) (by decide) hc35
               exact ⟨⟨Or.inr ⟨n, k, rfl, hn, rfl, hk, Or.inl ⟨hk0, rfl⟩⟩, hFL⟩, rfl, rfl, rfl⟩)
            | exact ⟨⟨Or.inr ⟨n, k, rfl, hn, rfl, hk, Or.inr ⟨hk0, U, hU, hUb, nI_l (by omega)⟩⟩, fun c hc => by rw [hFL2 c hc, hFL c hc]⟩, rfl, rfl, rfl⟩
        · skip
          refine J_ldc2 C kcX5_fits_189 dX5_fits_18 ?_
          refine hQ _ _ _ _ dX5_fits_21 ⟨_, _, _, _, rfl, ?_⟩
          refine ⟨⟨Or.inl ⟨fun ⟨⟨z1, z2⟩, z3, z4⟩ => ?_, rfl⟩, fun _ _ => rfl⟩, rfl, rfl, rfl⟩
          first
          | exact absurd hc1 (Int32.not_lt.mpr z1)
          | exact absurd hc6 (Int32.not_lt.mpr z2)
          | exact absurd hc10 (Int32.not_lt.mpr z3)
          | exact hc15 z4
abbrev rmX6_fits : Room := { frames := 5, cells := 0, slots := 0, locals := 117 }
theorem kcX6_fits_120 : Cond.constantLong RX6 120 (-1) ∈ wsX6_fits := by decide +kernel
theorem kcX6_fits_244 : Cond.constantLong RX6 244 (5) ∈ wsX6_fits := by decide +kernel
theorem fX6_fits_82 : Cond.fieldLink RX6 82 RX6 (TX6 2).2.1 (TX6 2).2.2.1 ∈ wsX6_fits := by decide +kernel
theorem iX6_fits_6 : ∀ x ∈ wsX60, x ∈ wsX6_fits := by decide +kernel
theorem dm_X6_fitting : yX6_fitting.cls = RX6 ∧ yX6_fitting.cls ≠ "java/lang/invoke/MethodHandle" ∧ yX6_fitting.cls ≠ "java/lang/invoke/VarHandle" ∧ (parseMethodDescriptor yX6_fitting.desc).map (fun d => d.parameters.length) = some 3 := by decide +kernel
set_option maxRecDepth 100000 in
set_option maxHeartbeats 4000000 in
theorem c_X6_fits (E : EN) (hM : EM E) (g : Nat → Int32) (h : Nat → Int64) (T : Nat → Nat → Int32) (L : Nat → Nat → Int64) (m : Nat) (ρ : Nat → Nat → Nat) (hR : RvM g T m ρ) (sn : List (Nat × Nat × Nat)) (hsn : rpSM g T sn) (hso : SnOK sn) (ld : Nat) (hld : ld < 1000) (hgl : g 4808 = nI ld) (bg : Nat) (hbg : bg < 256) (hgb : g 4810 = nI bg) (x y : Int32) : GtL E yX6_fits wsX6_fits rmX6_fits [.ref (eA E 48), .int x, .int y] g h T L (fun r g2 h2 T2 L2 => (FtR (crN m (ρ 2) (ρ 3) ld (2 ^ m - 1)) (agN sn) (2 ^ m) bg x y r ∧ FrLM L L2) ∧ g2 = g ∧ h2 = h ∧ T2 = T) := by
  refine CtL_of (cc := cX6_fits) (nL := 6) RX6 [some (.ref (eA E 48)), some (.int x), some (.int y), none, none, none] ⟨rfl, rfl⟩ (by decide) rfl rfl (Nat.le_of_ble_eq_true rfl) ⟨3, rfl⟩ hM.2 (fun Y C hQ => ?_)
  have hM0 := hM
  obtain ⟨hS, hNN⟩ := hM
  have hm := hR.1
  have h48 : g 4802 = nI m := hR.2.1
  refine J_iload_1 C dX6_fits_0 ?_
  refine J_i2l C dX6_fits_1 ?_
  refine J_lconst C (0) dX6_fits_2 lc_0 ?_
  refine J_ldc2 C kcX6_fits_244 dX6_fits_3 ?_
  refine G_spi C dX6_fits_6 (c_X6_in E hM0 _ _ _ g h T L) gX6_fits_X6_in rfl dm_X6_in rfl rfl (Nat.le_of_ble_eq_true rfl) (rmOK_b rfl) (fun r6 hr6 => ?_)
  subst hr6
  refine J_if_eq C 23 dX6_fits_9 (by decide) (fun hc9 => ?_) (fun hc9 => ?_)
  · skip
    refine J_ldc2 C kcX6_fits_120 dX6_fits_23 ?_
    refine hQ _ _ _ _ dX6_fits_26 ⟨_, _, _, _, rfl, ?_⟩
    refine ⟨⟨Or.inl ⟨fun ⟨z1, z2⟩ => ?_, rfl⟩, fun _ _ _ => rfl⟩, rfl, rfl, rfl⟩
    first
    | exact absurd (hc20.symm.trans (if_pos (in_i.mpr z2))) (by decide)
    | exact absurd (hc9.symm.trans (if_pos ((in_i (k := 5)).mpr z1))) (by decide)
  · skip
    refine J_iload_2 C dX6_fits_12 ?_
    refine J_i2l C dX6_fits_13 ?_
    refine J_lconst C (0) dX6_fits_14 lc_0 ?_
    refine J_iload_1 C dX6_fits_15 ?_
    refine J_i2l C dX6_fits_16 ?_
    refine G_spi C dX6_fits_17 (c_X6_in E hM0 _ _ _ g h T L) gX6_fits_X6_in rfl dm_X6_in rfl rfl (Nat.le_of_ble_eq_true rfl) (rmOK_b rfl) (fun r17 hr17 => ?_)
    subst hr17
    refine J_if_ne C 27 dX6_fits_20 (by decide) (fun hc20 => ?_) (fun hc20 => ?_)
    · skip
      obtain ⟨n, k, rfl, hn, rfl, hk⟩ := nk5 (x := x) (y := y) ⟨(in_i (k := 5)).mp (Decidable.byContradiction fun z => by
        apply hc9
        exact if_neg z), in_i.mp (Decidable.byContradiction fun z => by
        apply hc20
        exact if_neg z)⟩
      refine J_iload_2 C dX6_fits_27 ?_
      refine J_if_ne C 39 dX6_fits_28 (by decide) (fun hc28 => ?_) (fun hc28 => ?_)
      · skip
        have hk0 : 0 < k := Nat.pos_of_ne_zero (fun z => hc28 (by rw [z]; rfl))
        refine J_lconst C (0) dX6_fits_39 lc_0 ?_
        refine J_lstore_3 C dX6_fits_40 (by decide) trivial ?_
        refine J_iconst C (0) dX6_fits_41 ic_0 ?_
        refine J_istore_5 C dX6_fits_42 (by decide) trivial ?_
        have loop : ∀ (n2 : Nat) (t U : Nat) (L3 : Nat → Nat → Int64), t ≤ m → m < n2 + t → U < 2 ^ t → (∀ i, U.testBit i = true ↔ i < t ∧ Ab (crN m (ρ 2) (ρ 3) ld (2 ^ m - 1)) (agN sn) (2 ^ m) bg n k i) → FrLM L L3 → J E Y (eN E) 0 0 (wS E g h T L3) 44 [some (.ref (eA E 48)), some (.int (nI n)), some (.int (nI k)), some (.long (lN U)), none, some (.int (nI t))] [] := by
          intro n2
          induction n2 with
          | zero =>
            intro t U L3 ht hfu hU hUb hF3
            omega
          | succ n2 ih =>
            intro t U L3 ht hfu hU hUb hF3
            refine J_iload_5 C dX6_fits_44 ?_
            refine J_aload_0 C dX6_fits_46 ?_
            refine G6_geti C (n := 4802) 2 dX6_fits_47 fX6_fits_82 iX6_fits_6 rfl (hS _ (by decide)) rfl rfl ?_
            refine J_top (y := nI m) h48 ?_
            refine J_icmp_ge C 83 dX6_fits_50 (by decide) (fun hc50 => ?_) (fun hc50 => ?_)
            · skip
              refine J_lload_3 C dX6_fits_83 ?_
              refine hQ _ _ _ _ dX6_fits_84 ⟨_, _, _, _, rfl, ?_⟩
              have htm : t = m := by
                have := ge_nI (m := m) (by omega) hc50
                omega
              subst htm
              have h128 := p7 hm
              refine ⟨⟨Or.inr ⟨n, k, rfl, hn, rfl, hk, Or.inr ⟨hk0, U, by omega, fun i => ?_, rfl⟩⟩, hF3⟩, rfl, rfl, rfl⟩
              rw [hUb]
              refine ⟨fun q => q.2, fun q => ⟨?_, q⟩⟩
              obtain ⟨s, b, t2, _, hb, _, _, _, hbi⟩ := q
              exact Nat.lt_of_not_le fun z => by
                rw [Nat.testBit_lt_two_pow (Nat.lt_of_lt_of_le hb (Nat.pow_le_pow_right (by decide) z))] at hbi
                cases hbi
            · skip
              have htm : t < m := lt_nI (m := m) (by omega) hc50
              refine J_lload_3 C dX6_fits_53 ?_
              refine J_aload_0 C dX6_fits_54 ?_
              refine J_iload_1 C dX6_fits_55 ?_
              refine J_iload_2 C dX6_fits_56 ?_
              refine J_iload_5 C dX6_fits_57 ?_
              refine G_vtl C dX6_fits_59 (c_X6_fitting E hM0 m ρ g h T L3 hR sn hsn hso ld hld hgl bg hbg hgb (crN m (ρ 2) (ρ 3) ld (2 ^ m - 1)) rfl n t (nI k) hn (by omega)) gX6_fits_X6_fitting rfl dm_X6_fitting rfl rfl (hS _ (by decide)) rfl rfl (Nat.le_of_ble_eq_true rfl) (rmOK_b rfl) (fun r59 g59 h59 T59 L59 hp59 => ?_)
              obtain ⟨rfl, rfl, rfl, hFL, hrv⟩ := hp59
              have hcf : wy (cfV (crN m (ρ 2) (ρ 3) ld (2 ^ m - 1)) (nI k) t) (agN sn) (2 ^ m) bg n = wy (cfT (crN m (ρ 2) (ρ 3) ld (2 ^ m - 1)) k t) (agN sn) (2 ^ m) bg n := wy_cg n (fun k2 hk2 => by
                funext s b
                unfold cfV cfT
                by_cases e : k2 = k
                · rw [e]; simp
                · have e2 : ¬ nI k2 = nI k := fun q => e (nI_inj (by omega) (by omega) q)
                  simp [e, e2])
              rw [hcf] at hrv
              subst hrv
              have hsm : smN (wy (cfT (crN m (ρ 2) (ρ 3) ld (2 ^ m - 1)) k t) (agN sn) (2 ^ m) bg n) 256 < 2 ^ 63 := by
                have h1 := smN_le (f := wy (cfT (crN m (ρ 2) (ρ 3) ld (2 ^ m - 1)) k t) (agN sn) (2 ^ m) bg n) (M := 1099511627776) (fun s => wy_small (fun k2 => cfT_inj crN_inj) hn) 256
                omega
              have hAb : smN (wy (cfT (crN m (ρ 2) (ρ 3) ld (2 ^ m - 1)) k t) (agN sn) (2 ^ m) bg n) 256 ≠ 0 ↔ Ab (crN m (ρ 2) (ρ 3) ld (2 ^ m - 1)) (agN sn) (2 ^ m) bg n k t := by
                rw [smN_pos]
                exact aboard_iff (fun s b t hs h => (crN_lt hm hs h).1) hk0 hk
              refine J_lconst C (0) dX6_fits_62 lc_0 ?_
              refine J_lcmp C dX6_fits_63 ?_
              refine J_if_le C 74 dX6_fits_64 (by decide) (fun hc64 => ?_) (fun hc64 => ?_)
              · skip
                have hA0 : ¬ Ab (crN m (ρ 2) (ρ 3) ld (2 ^ m - 1)) (agN sn) (2 ^ m) bg n k t := fun q => (hAb.mpr q) ((cmp_lez hsm).mp hc64)
                refine J_lconst C (0) dX6_fits_74 lc_0 ?_
                refine J_lor C dX6_fits_75 ?_
                refine J_topl (y := lN (if smN (wy (cfT (crN m (ρ 2) (ρ 3) ld (2 ^ m - 1)) k t) (agN sn) (2 ^ m) bg n) 256 ≠ 0 then U ||| 2 ^ t else U)) (by
                  first
                  | (rw [if_pos (hAb.mpr hA1)]; exact orL t (by omega) U (by have := Nat.pow_le_pow_right (n := 2) (by decide) (show t ≤ 7 by omega); omega))
                  | (rw [if_neg (fun q => hA0 (hAb.mp q))]; exact or0)) ?_
                refine J_lstore_3 C dX6_fits_76 (by decide) trivial ?_
                refine J_iinc_5 C (1) dX6_fits_77 (by decide) trivial ic_1 ?_
                refine J_goto C 44 dX6_fits_80 (by decide) ?_
                rw [nI_1]
                have h2t : 2 ^ (t + 1) = 2 ^ t + 2 ^ t := by rw [Nat.pow_succ]; omega
                refine ih (t + 1) _ _ (by omega) (by omega) ?_ (fun i => ?_) (fun c h1 h2 => by rw [hFL c h1 h2, hF3 c h1 h2])
                · split
                  · exact Nat.or_lt_two_pow (by omega) (by omega)
                  · omega
                · by_cases hz : smN (wy (cfT (crN m (ρ 2) (ρ 3) ld (2 ^ m - 1)) k t) (agN sn) (2 ^ m) bg n) 256 ≠ 0
                  · rw [if_pos hz, Nat.testBit_or, Nat.testBit_two_pow, Bool.or_eq_true, hUb, decide_eq_true_iff]
                    constructor
                    · rintro (⟨h1, h2⟩ | h1)
                      · exact ⟨by omega, h2⟩
                      · subst h1
                        exact ⟨by omega, hAb.mp hz⟩
                    · rintro ⟨h1, h2⟩
                      by_cases e : t = i
                      · exact Or.inr e
                      · exact Or.inl ⟨by omega, h2⟩
                  · rw [if_neg hz, hUb]
                    constructor
                    · rintro ⟨h1, h2⟩
                      exact ⟨by omega, h2⟩
                    · rintro ⟨h1, h2⟩
                      by_cases e : t = i
                      · subst e
                        exact absurd (hAb.mpr h2) hz
                      · exact ⟨by omega, h2⟩
              · skip
                have hA1 : Ab (crN m (ρ 2) (ρ 3) ld (2 ^ m - 1)) (agN sn) (2 ^ m) bg n k t := hAb.mp (fun q => hc64 ((cmp_lez hsm).mpr q))
                refine J_lconst C (1) dX6_fits_67 lc_1 ?_
                refine J_iload_5 C dX6_fits_68 ?_
                refine J_lshl C dX6_fits_70 ?_
                refine J_topl (y := lN (2 ^ t)) (shlL t (by omega)) ?_
                refine J_goto C 75 dX6_fits_71 (by decide) ?_
                refine J_lor C dX6_fits_75 ?_
                refine J_topl (y := lN (if smN (wy (cfT (crN m (ρ 2) (ρ 3) ld (2 ^ m - 1)) k t) (agN sn) (2 ^ m) bg n) 256 ≠ 0 then U ||| 2 ^ t else U)) (by
                  first
                  | (rw [if_pos (hAb.mpr hA1)]; exact orL t (by omega) U (by have := Nat.pow_le_pow_right (n := 2) (by decide) (show t ≤ 7 by omega); omega))
                  | (rw [if_neg (fun q => hA0 (hAb.mp q))]; exact or0)) ?_
                refine J_lstore_3 C dX6_fits_76 (by decide) trivial ?_
                refine J_iinc_5 C (1) dX6_fits_77 (by decide) trivial ic_1 ?_
                refine J_goto C 44 dX6_fits_80 (by decide) ?_
                rw [nI_1]
                have h2t : 2 ^ (t + 1) = 2 ^ t + 2 ^ t := by rw [Nat.pow_succ]; omega
                refine ih (t + 1) _ _ (by omega) (by omega) ?_ (fun i => ?_) (fun c h1 h2 => by rw [hFL c h1 h2, hF3 c h1 h2])
                · split
                  · exact Nat.or_lt_two_pow (by omega) (by omega)
                  · omega
                · by_cases hz : smN (wy (cfT (crN m (ρ 2) (ρ 3) ld (2 ^ m - 1)) k t) (agN sn) (2 ^ m) bg n) 256 ≠ 0
                  · rw [if_pos hz, Nat.testBit_or, Nat.testBit_two_pow, Bool.or_eq_true, hUb, decide_eq_true_iff]
                    constructor
                    · rintro (⟨h1, h2⟩ | h1)
                      · exact ⟨by omega, h2⟩
                      · subst h1
                        exact ⟨by omega, hAb.mp hz⟩
                    · rintro ⟨h1, h2⟩
                      by_cases e : t = i
                      · exact Or.inr e
                      · exact Or.inl ⟨by omega, h2⟩
                  · rw [if_neg hz, hUb]
                    constructor
                    · rintro ⟨h1, h2⟩
                      exact ⟨by omega, h2⟩
                    · rintro ⟨h1, h2⟩
                      by_cases e : t = i
                      · subst e
                        exact absurd (hAb.mpr h2) hz
                      · exact ⟨by omega, h2⟩
        exact loop (m + 1) 0 0 L (by omega) (by omega) (by decide) (fun i => ⟨fun q => by simp at q, fun q => by omega⟩) (fun _ _ _ => rfl)
      · skip
        refine J_aload_0 C dX6_fits_31 ?_
        refine J_iload_1 C dX6_fits_32 ?_
        refine J_iconst C (-1) dX6_fits_33 ic_m1 ?_
        refine J_iconst C (0) dX6_fits_34 ic_0 ?_
        refine J_top (y := nI 0) rfl ?_
        refine G_vtl C dX6_fits_35 (c_X6_fitting E hM0 m ρ g h T L hR sn hsn hso ld hld hgl bg hbg hgb (crN m (ρ 2) (ρ 3) ld (2 ^ m - 1)) rfl n 0 (-1) hn (by decide)) gX6_fits_X6_fitting rfl dm_X6_fitting rfl rfl (hS _ (by decide)) rfl rfl (Nat.le_of_ble_eq_true rfl) (rmOK_b rfl) (fun r35 g35 h35 T35 L35 hp35 => ?_)
        obtain ⟨rfl, rfl, rfl, hFL, hrv⟩ := hp35
        refine hQ _ _ _ _ dX6_fits_38 ⟨_, _, _, _, rfl, ?_⟩
        have hk0 : k = 0 := nI_inj (by omega) (by decide) hc28
        refine ⟨⟨Or.inr ⟨n, k, rfl, hn, rfl, hk, Or.inl ⟨hk0, ?_⟩⟩, hFL⟩, rfl, rfl, rfl⟩
        rw [hrv, wy_cg (cf' := fun _ => (crN m (ρ 2) (ρ 3) ld (2 ^ m - 1))) n (fun k2 hk2 => by
          funext s b
          unfold cfV
          rw [if_neg (fun q => absurd q.1 (by
            intro z
            have h1 := nI_pos (n := k2) (by omega)
            rw [z] at h1
            exact h1 (by decide)))])]
    · skip
      refine J_ldc2 C kcX6_fits_120 dX6_fits_23 ?_
      refine hQ _ _ _ _ dX6_fits_26 ⟨_, _, _, _, rfl, ?_⟩
      refine ⟨⟨Or.inl ⟨fun ⟨z1, z2⟩ => ?_, rfl⟩, fun _ _ _ => rfl⟩, rfl, rfl, rfl⟩
      first
      | exact absurd (hc20.symm.trans (if_pos (in_i.mpr z2))) (by decide)
      | exact absurd (hc9.symm.trans (if_pos ((in_i (k := 5)).mpr z1))) (by decide)
