theorem sw_inv (f : Nat → va_E) : (fun k => (fun k => f (sg k)) (sg k)) = f := funext (fun k => congrArg f (sg_sg k))
theorem m10_neg : ∀ q, q < 256 → ¬ (0 : Int32) ≤ -10 - nI q := by decide +kernel
def RyX (E : EN) (g : Nat → Int32) (h : Nat → Int64) (T : Nat → Nat → Int32) (L : Nat → Nat → Int64) (n : Nat) (b : Nat → Nat) (r : Int32) (w2 : Nat → va_E) : Prop :=
  (∃ g2 T2, w2 = wS E g2 h T2 L ∧ FrA g g2 T T2 ∧ ∃ q, readS n b = .error q ∧ r = -10 - nI q) ∨
  ∃ g2 T2, (fun k => w2 (sg k)) = wS (eSw E) g2 h T2 L ∧ ∃ s k, readS n b = .ok (s, k) ∧ k ≤ 200 ∧ r = nI k ∧ RsOK s ∧ RvX g2 T2 s.1 s.2.1 ∧ g2 602 = nI s.2.2.1 ∧ g2 603 = nI (stN s) ∧ g2 604 = nI ((s.2.2.2 1).getD 2) ∧ g2 606 = nI ((s.2.2.2 3).getD 5) ∧ g2 2000 = nI (stN s) ∧ g2 2001 = nI ((s.2.2.2 2).getD 9) ∧ g2 2002 = 0 ∧ g2 2003 = g 2003 ∧ g2 2004 = 0 ∧ g2 1 = 0 ∧ g2 3100 = 0 ∧ T2 24 0 = 0 ∧ T2 24 1 = 0 ∧ (∀ k, 4800 ≤ k → g2 k = g k) ∧ ∀ c, 48 ≤ c → T2 c = T c
theorem RsOK.rv {g : Nat → Int32} {T : Nat → Nat → Int32} {s : RS} (hO : RsOK s) (hW : RwX g T s) (hR : ∀ c, c < 2 ^ s.1 → T 18 c = nI (wN (s.2.1 2) c s.1) ∧ T 19 c = if sfN (s.2.1 3) c s.1 = true then 1 else 0) {g2 : Nat → Int32} {T2 : Nat → Nat → Int32} (hg : ∀ k, 600 ≤ k → k < 700 → g2 k = g (k + 700)) (hT : ∀ k, 7 ≤ k → k < 13 → T2 k = T (k + 7)) : RvX g2 T2 s.1 s.2.1 := by
  obtain ⟨w0, w1, w2, w3, w4, w5, w6, w7, w8, w9⟩ := hW
  refine ⟨hO.1, ?_, ?_, ?_, ?_, fun t ht => ?_, fun b hb => ?_, fun b hb => ?_, fun t ht => ?_⟩
  · rw [hg _ (by decide) (by decide)]; exact w0
  · rw [hg _ (by decide) (by decide)]; exact w1
  · rw [hg _ (by decide) (by decide)]; exact w7
  · rw [hg _ (by decide) (by decide)]; exact w8
  · rw [hT 7 (by decide) (by decide), hT 8 (by decide) (by decide), hT 9 (by decide) (by decide), hT 10 (by decide) (by decide)]
    exact w9 t ht
  · rw [hT 11 (by decide) (by decide)]; exact (hR b hb).1
  · rw [hT 12 (by decide) (by decide)]; exact (hR b hb).2
  · obtain ⟨a1, a2, a3, a4, a5, a6⟩ := hO.2.2.1 t ht
    exact ⟨a2, a3, a4, a1, a5⟩
abbrev rmX5_river : Room := { frames := 9, cells := 0, slots := 0, locals := 201 }
theorem fX5_river_13 : Cond.fieldLink RX5 13 RX5 (TX5 1).2.1 (TX5 1).2.2.1 ∈ wsX5_river := by decide +kernel
theorem fX5_river_20 : Cond.fieldLink RX5 20 RX5 (TX5 2).2.1 (TX5 2).2.2.1 ∈ wsX5_river := by decide +kernel
theorem fX5_river_27 : Cond.fieldLink RX5 27 RX5 (TX5 3).2.1 (TX5 3).2.2.1 ∈ wsX5_river := by decide +kernel
theorem fX5_river_31 : Cond.fieldLink RX5 31 RX5 (TX5 4).2.1 (TX5 4).2.2.1 ∈ wsX5_river := by decide +kernel
theorem fX5_river_37 : Cond.fieldLink RX5 37 RX5 (TX5 5).2.1 (TX5 5).2.2.1 ∈ wsX5_river := by decide +kernel
theorem fX5_river_45 : Cond.fieldLink RX5 45 RX5 (TX5 7).2.1 (TX5 7).2.2.1 ∈ wsX5_river := by decide +kernel
theorem fX5_river_59 : Cond.fieldLink RX5 59 RX5 (TX5 9).2.1 (TX5 9).2.2.1 ∈ wsX5_river := by decide +kernel
theorem fX5_river_9 : Cond.fieldLink RX5 9 RX5 (TX5 0).2.1 (TX5 0).2.2.1 ∈ wsX5_river := by decide +kernel
theorem iX5_river_5 : ∀ x ∈ wsX50, x ∈ wsX5_river := by decide +kernel
theorem dm_X0_begin : yX0_begin.cls = RX0 ∧ yX0_begin.cls ≠ "java/lang/invoke/MethodHandle" ∧ yX0_begin.cls ≠ "java/lang/invoke/VarHandle" ∧ (parseMethodDescriptor yX0_begin.desc).map (fun d => d.parameters.length) = some 1 := by decide +kernel
theorem dm_X2_readAll : yX2_readAll.cls = RX2 ∧ yX2_readAll.cls ≠ "java/lang/invoke/MethodHandle" ∧ yX2_readAll.cls ≠ "java/lang/invoke/VarHandle" ∧ (parseMethodDescriptor yX2_readAll.desc).map (fun d => d.parameters.length) = some 3 := by decide +kernel
set_option maxRecDepth 100000 in
set_option maxHeartbeats 4000000 in
theorem c_X5_river (E : EN) (hM : EM E) (V : SV) (g : Nat → Int32) (h : Nat → Int64) (T : Nat → Nat → Int32) (L : Nat → Nat → Int64) (n : Nat) (b : Nat → Nat) (hn : n ≤ 200) (hb : ∀ i, i < n → T 1 i = nI (b i) ∧ b i < 256) (hg1 : g 1 = nI n) : CtIS E V (eN E) (eN E) yX5_river wsX5_river rmX5_river 0 0 [.ref (eA E 0)] (wS E g h T L) (fun r w2 => RyX E g h T L n b r w2) := by
  refine CtSI_of (cc := cX5_river) (nL := 4) RX5 [some (.ref (eA E 0)), none, none, none] ⟨rfl, rfl⟩ (by decide) rfl rfl (Nat.le_of_ble_eq_true rfl) ⟨3, rfl⟩ hM.2 (fun Y C hSP hQ => ?_)
  have hM0 := hM
  obtain ⟨hS, hNN⟩ := hM
  refine J_aload_0 C dX5_river_0 ?_
  refine G5_getr C (n := 2) 2 dX5_river_1 fX5_river_20 iX5_river_5 rfl (hS _ (by decide)) rfl rfl ?_
  refine J_aload_0 C dX5_river_4 ?_
  refine G5_getr C (n := 1) 0 dX5_river_5 fX5_river_9 iX5_river_5 rfl (hS _ (by decide)) rfl rfl ?_
  refine J_aload_0 C dX5_river_8 ?_
  refine G5_geti C (n := 1) 1 dX5_river_9 fX5_river_13 iX5_river_5 rfl (hS _ (by decide)) rfl rfl ?_
  refine J_top (y := nI n) hg1 ?_
  refine J_aload_0 C dX5_river_12 ?_
  refine G5_getr C (n := 13) 4 dX5_river_13 fX5_river_31 iX5_river_5 rfl (hS _ (by decide)) rfl rfl ?_
  refine G_vtSi C hSP dX5_river_16 (c_X2_readAll E hM0 V g h T L n b hn hb) gX5_river_X2_readAll rfl dm_X2_readAll rfl rfl (hS _ (by decide)) rfl rfl (Nat.le_of_ble_eq_true rfl) (rmOK_b rfl) (fun r16 g16 h16 T16 L16 hp16 => ?_)
  obtain ⟨⟨hFA, hres⟩, rfl, rfl⟩ := hp16
  refine J_istore_1 C dX5_river_19 (by decide) trivial ?_
  refine J_iload_1 C dX5_river_20 ?_
  refine J_if_ge C 26 dX5_river_21 (by decide) (fun hc21 => ?_) (fun hc21 => ?_)
  · skip
    obtain ⟨s, k, hrd, hk200, rfl, hsO, hsW, hsR⟩ := hres.resolve_right (fun ⟨q, _, hq, e⟩ => by
      rw [e] at hc21
      exact absurd hc21 (m10_neg q hq))
    refine J_aload_0 C dX5_river_26 ?_
    refine G5_getr C (n := 13) 4 dX5_river_27 fX5_river_31 iX5_river_5 rfl (hS _ (by decide)) rfl rfl ?_
    refine J_astore_2 C dX5_river_30 (by decide) trivial ?_
    refine J_aload_0 C dX5_river_31 ?_
    refine J_aload_0 C dX5_river_32 ?_
    refine G5_getr C (n := 6) 3 dX5_river_33 fX5_river_27 iX5_river_5 rfl (hS _ (by decide)) rfl rfl ?_
    refine J_put C (ty := tyX5 4) 0 4 dX5_river_36 fX5_river_31 iX5_river_5 tyX5 tyX5_ok nmX5 (by rfl) (C.lt (hS 0 (by decide))) rfl (wS_obj (k := 0) (ci := 5) rfl (hS 0 (by decide))) (by decide) rfl rfl (tyX5_ok 4 (by decide)) (by rfl) (by rfl) (by rw [fsG_len]; decide) ?_
    refine J_aload_0 C dX5_river_39 ?_
    refine J_aload_2 C dX5_river_40 ?_
    refine J_put C (ty := tyX5 3) 0 3 dX5_river_41 fX5_river_27 iX5_river_5 tyX5 tyX5_ok nmX5 (by rfl) (C.lt (hS 0 (by decide))) rfl (if_pos rfl) (by decide) rfl rfl (tyX5_ok 3 (by decide)) (by rfl) (by rfl) (by rw [List.length_set, fsG_len]; decide) ?_
    refine J_swap hM0 ?_
    have C := C.sw
    have hQ0 := hQ
    have hS : ∀ k, k < 68 → eS (eSw E) k = true := hS
    obtain ⟨g0, hg0⟩ : ∃ g0, g0 = gsw g16 := ⟨_, rfl⟩
    obtain ⟨T0, hT0⟩ : ∃ T0, T0 = (fun k => T16 (sg k)) := ⟨_, rfl⟩
    rw [← hg0, ← hT0]
    show J (eSw E) Y (eN (eSw E)) 0 0 (wS (eSw E) g0 h16 T0 L16) 44 [some (.ref (eA (eSw E) 0)), some (.int (nI k)), some (.ref (eA E 13)), none] []
    refine J_aload_0 C dX5_river_44 ?_
    refine J_iconst C (0) dX5_river_45 ic_0 ?_
    refine G5_puti C (n := 1) 1 dX5_river_46 fX5_river_13 iX5_river_5 rfl (hS _ (by decide)) rfl (tyX5_ok 1 (by decide)) rfl rfl ?_
    refine J_aload_0 C dX5_river_49 ?_
    refine G5_getr C (n := 20) 5 dX5_river_50 fX5_river_37 iX5_river_5 rfl (hS _ (by decide)) rfl rfl ?_
    refine J_aload_0 C dX5_river_53 ?_
    refine G5_getr C (n := 6) 3 dX5_river_54 fX5_river_27 iX5_river_5 rfl (hS _ (by decide)) rfl rfl ?_
    refine G_vtv C dX5_river_57 (c_X0_begin (eSw E) hM0 _ _ _ _) gX5_river_X0_begin rfl dm_X0_begin rfl rfl (hS _ (by decide)) rfl rfl (Nat.le_of_ble_eq_true rfl) (rmOK_b rfl) (fun g57 h57 T57 L57 hp57 => ?_)
    obtain ⟨rfl, rfl, rfl, rfl⟩ := hp57
    refine J_iconst C (0) dX5_river_60 ic_0 ?_
    refine J_istore_3 C dX5_river_61 (by decide) trivial ?_
    have loop : ∀ (n2 : Nat) (j : Nat) (T3 : Nat → Nat → Int32), j ≤ 2 → 2 < n2 + j → (∀ c, c ≠ 24 → T3 c = T57 c) → (∀ i, i < j → T3 24 i = 0) → J (eSw E) Y (eN (eSw E)) 0 0 (wS (eSw E) (upd (upd (upd (upd (upd g0 1 0) 2000 (upd g0 1 0 603)) 2001 (upd g0 1 0 605)) 2002 0) 2004 0) h57 T3 L57) 62 [some (.ref (eA (eSw E) 0)), some (.int (nI k)), some (.ref (eA E 13)), some (.int (nI j))] [] := by
      intro n2
      induction n2 with
      | zero =>
        intro j T3 hj hfu hT3 hz
        omega
      | succ n2 ih =>
        intro j T3 hj hfu hT3 hz
        refine J_iload_3 C dX5_river_62 ?_
        refine J_iconst C (2) dX5_river_63 ic_2 ?_
        refine J_icmp_ge C 80 dX5_river_64 (by decide) (fun hc64 => ?_) (fun hc64 => ?_)
        · skip
          refine J_aload_0 C dX5_river_80 ?_
          refine G5_getr C (n := 31) 9 dX5_river_81 fX5_river_59 iX5_river_5 rfl (hS _ (by decide)) rfl rfl ?_
          refine G_vtv C dX5_river_84 (c_X4_dropAll (eSw E) hM0 _ _ _ _) gX5_river_X4_dropAll rfl dm_X4_dropAll rfl rfl (hS _ (by decide)) rfl rfl (Nat.le_of_ble_eq_true rfl) (rmOK_b rfl) (fun g84 h84 T84 L84 hp84 => ?_)
          obtain ⟨rfl, rfl, rfl, rfl⟩ := hp84
          refine J_iload_1 C dX5_river_87 ?_
          have hN : 20 ≤ eN E := by have := hM0.2 67 (hM0.1 67 (by decide)); omega
          refine J_sw2 hN ?_
          refine hQ0 _ _ _ _ dX5_river_88 (Or.inr ⟨_, _, sw_inv _, s, k, hrd, hk200, rfl, hsO, ?_⟩)
          have hj2 : j = 2 := by
            have := ge_nI (m := 2) (by decide) hc64
            omega
          subst hj2
          have hgg : ∀ k, 600 ≤ k → k < 700 → g0 k = g16 (k + 700) := fun k h1 h2 => by
            rw [hg0]
            unfold gsw
            rw [if_pos ⟨h1, h2⟩]
          have hT7 : ∀ k, 7 ≤ k → k < 13 → T84 k = T16 (k + 7) := fun k h1 h2 => by
            rw [hT3 k (by omega), hT0]
            show T16 (sg k) = _
            unfold sg
            rw [if_pos (by omega)]
          have hu : ∀ k, 600 ≤ k → k < 700 → upd (upd (upd (upd (upd (upd g0 1 0) 2000 (upd g0 1 0 603)) 2001 (upd g0 1 0 605)) 2002 0) 2004 0) 3100 0 k = g16 (k + 700) := fun k h1 h2 => by
            simp only [upd]
            rw [if_neg (by omega), if_neg (by omega), if_neg (by omega), if_neg (by omega), if_neg (by omega), if_neg (by omega)]
            exact hgg k h1 h2
          refine ⟨hsO.rv hsW hsR hu hT7, ?_, ?_, ?_, ?_, ?_, ?_, by simp [upd], ?_, by simp [upd], by simp [upd], by simp [upd], hz 0 (by decide), hz 1 (by decide), fun k hk => ?_, fun c hc => ?_⟩
          · rw [hu 602 (by decide) (by decide)]; exact hsW.2.2.1
          · rw [hu 603 (by decide) (by decide)]; exact hsW.2.2.2.1
          · rw [hu 604 (by decide) (by decide)]; exact hsW.2.2.2.2.1
          · rw [hu 606 (by decide) (by decide)]; exact hsW.2.2.2.2.2.2.1
          · simp [upd]
            rw [hgg 603 (by decide) (by decide)]; exact hsW.2.2.2.1
          · simp [upd]
            rw [hgg 605 (by decide) (by decide)]; exact hsW.2.2.2.2.2.1
          · simp [upd]
            rw [hg0, gsw_out (by omega)]
            exact hFA.1 2003 (by omega) (by omega)
          · simp only [upd]
            rw [if_neg (by omega), if_neg (by omega), if_neg (by omega), if_neg (by omega), if_neg (by omega), if_neg (by omega), hg0, gsw_out (by omega)]
            exact hFA.1 k (by omega) (by omega)
          · rw [hT3 c (by omega), hT0]
            show T16 (sg c) = _
            rw [sg_big (by omega)]
            exact hFA.2 c (by omega) (by omega)
        · skip
          have hj2 : j < 2 := lt_nI (m := 2) (by omega) hc64
          refine J_aload_0 C dX5_river_67 ?_
          refine G5_getr C (n := 24) 7 dX5_river_68 fX5_river_45 iX5_river_5 rfl (hS _ (by decide)) rfl rfl ?_
          refine J_iload_3 C dX5_river_71 ?_
          refine J_iconst C (0) dX5_river_72 ic_0 ?_
          refine G_zast C j dX5_river_73 rfl (hS _ (by decide)) rfl (by omega) rfl ?_
          refine J_iinc_3 C (1) dX5_river_74 (by decide) trivial ic_1 ?_
          refine J_goto C 62 dX5_river_77 (by decide) ?_
          rw [nI_1]
          refine ih (j + 1) _ (by omega) (by omega) (fun c hc => by rw [tU_ne hc]; exact hT3 c hc) (fun i hi => ?_)
          rw [tU_eq]
          simp only [upd]
          split
          · rfl
          · exact hz i (by omega)
    exact loop 3 0 T57 (by omega) (by omega) (fun _ _ => rfl) (fun i hi => absurd hi (Nat.not_lt_zero i))
  · skip
    refine J_iload_1 C dX5_river_24 ?_
    refine hQ _ _ _ _ dX5_river_25 (Or.inl ⟨_, _, rfl, hFA, ?_⟩)
    rcases hres with ⟨s, k, _, h2, e, _⟩ | ⟨q, h1, h2, h3⟩
    · exact absurd (by rw [e]; exact nI_pos' (by omega)) hc21
    · exact ⟨q, h1, h3⟩
