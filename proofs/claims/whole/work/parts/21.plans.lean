/-! Plans: the class's search, over registers -/
theorem J_ldcw {E : EN} {Y : YN} {cc : ByteArray} {nL : Nat} {own : String} {Ts : List Cond} {R : Room} {N cs ss : Nat} {w : Nat → va_E} {pc : Nat} {lv : List (Option Value)} {st : List Value} (C : Cx E Y cc nL own Ts R) {i : Nat} {v : Int32} (hc : Cond.constant own i v ∈ Ts) (hd : decode cc pc = .ok (.ldc_w i, 3)) (k : J E Y N cs ss w (pc + 3) lv (.int v :: st)) : J E Y N cs ss w pc lv st := fun H locs ls hI hl => lv_ldcw C.1 C.2.1 C.2.2.2.2.1 (C.2.2.2.2.2.1 _ hc) hd (k H locs ls hI hl)
def usI (x y : Int32) : Int32 := (x.toUInt32 >>> (y.toUInt32 &&& Int32.toUInt32 31)).toInt32
def bc1 (x : Int32) : Int32 := x - (usI x 1 &&& 1431655765)
def bc2 (x : Int32) : Int32 := (x &&& 858993459) + (usI x 2 &&& 858993459)
def bc3 (x : Int32) : Int32 := (x + usI x 4) &&& 252645135
def bc4 (x : Int32) : Int32 := x + usI x 8
def bc5 (x : Int32) : Int32 := x + usI x 16
def bcI (x : Int32) : Int32 := bc5 (bc4 (bc3 (bc2 (bc1 x)))) &&& 63
theorem bc_ok : ∀ h, h < 128 → bcI (nI h) = nI (pcN h) := by decide +kernel
theorem pc_le : ∀ h, h < 128 → pcN h ≤ 7 := by decide +kernel
def oI (o : Option Nat) : Int32 := match o with
  | some c => nI c
  | none => (-1)
def adO (l : List BE) (k b n : Nat) (o : Option Nat) : List BE := match o with
  | none => l
  | some t => bAdd l (t, n, k, b)
def rpX (g : Nat → Int32) (T : Nat → Nat → Int32) (l : List BE) : Prop := g 2500 = nI l.length ∧ (∀ (i : Nat) (e : BE), l[i]? = some e → T 26 i = nI e.1 ∧ T 27 i = nI e.2.1 ∧ T 28 i = nI e.2.2.1 ∧ T 29 i = nI e.2.2.2) ∧ (∀ s, s < 256 → T 30 s = if bIn l s = true then 1 else 0)
def FrX (g g2 : Nat → Int32) (T T2 : Nat → Nat → Int32) : Prop := (∀ k, k ≠ 2500 → g2 k = g k) ∧ (∀ k, (k < 26 ∨ 30 < k) → T2 k = T k)
theorem FrX.rf {g : Nat → Int32} {T : Nat → Nat → Int32} : FrX g g T T := ⟨fun _ _ => rfl, fun _ _ => rfl⟩
theorem FrX.tr {g g2 g3 : Nat → Int32} {T T2 T3 : Nat → Nat → Int32} (h : FrX g g2 T T2) (h2 : FrX g2 g3 T2 T3) : FrX g g3 T T3 := ⟨fun k hk => (h2.1 k hk).trans (h.1 k hk), fun k hk => (h2.2 k hk).trans (h.2 k hk)⟩
theorem RvX.fr {g g2 : Nat → Int32} {T T2 : Nat → Nat → Int32} {m : Nat} {ρ : Nat → Nat → Nat} (h : RvX g T m ρ) (hF : FrX g g2 T T2) : RvX g2 T2 m ρ := by
  obtain ⟨h1, h2, h3, h4, h5, h6, h7, h8, h9⟩ := h
  refine ⟨h1, ?_, ?_, ?_, ?_, ?_, ?_, ?_, h9⟩
  · rw [hF.1 600 (by decide)]; exact h2
  · rw [hF.1 601 (by decide)]; exact h3
  · rw [hF.1 611 (by decide)]; exact h4
  · rw [hF.1 612 (by decide)]; exact h5
  · rw [hF.2 7 (by decide), hF.2 8 (by decide), hF.2 9 (by decide), hF.2 10 (by decide)]; exact h6
  · rw [hF.2 11 (by decide)]; exact h7
  · rw [hF.2 12 (by decide)]; exact h8
theorem bIn_app {l : List BE} {e : BE} {s : Nat} : bIn (l ++ [e]) s = (bIn l s || e.1 == s) := by
  unfold bIn
  rw [List.any_append]
  simp
theorem rpX.add {g : Nat → Int32} {T : Nat → Nat → Int32} {l : List BE} (h : rpX g T l) {t k b n : Nat} (ht : t < 256) : rpX (upd g 2500 (g 2500 + 1)) (va_up (va_up (va_up (va_up (va_up T 30 (upd (T 30) t 1)) 26 (upd (T 26) l.length (nI t))) 28 (upd (T 28) l.length (nI k))) 29 (upd (T 29) l.length (nI b))) 27 (upd (T 27) l.length (nI n))) (l ++ [(t, n, k, b)]) := by
  obtain ⟨h1, h2, h3⟩ := h
  refine ⟨?_, ?_, ?_⟩
  · simp only [upd, if_true, h1, List.length_append, List.length_cons, List.length_nil, Nat.zero_add, nI_1]
  · intro i e he
    rcases get_app he with a | ⟨rfl, rfl⟩
    · have hi := get_lt a
      have hne : i ≠ l.length := by omega
      simp [va_up, upd, hne]
      exact h2 i e a
    · simp [va_up, upd]
  · intro s hs
    simp only [va_up, if_true, if_neg (show ¬ (30 : Nat) = 27 by decide), if_neg (show ¬ (30 : Nat) = 29 by decide), if_neg (show ¬ (30 : Nat) = 28 by decide), if_neg (show ¬ (30 : Nat) = 26 by decide), upd, bIn_app]
    by_cases e : s = t
    · subst e
      simp
    · have : (t == s) = false := beq_eq_false_iff_ne.mpr (Ne.symm e)
      rw [if_neg e, h3 s hs]
      simp [this]

abbrev rmJ6_bitCount_0f7a4 : Room := { frames := 0, cells := 0, slots := 0, locals := 0 }
theorem kcJ6_bitCount_0f7a4_265 : Cond.constant RJ6 265 (1431655765) ∈ wsJ6_bitCount_0f7a4 := by decide +kernel
theorem kcJ6_bitCount_0f7a4_266 : Cond.constant RJ6 266 (858993459) ∈ wsJ6_bitCount_0f7a4 := by decide +kernel
theorem kcJ6_bitCount_0f7a4_267 : Cond.constant RJ6 267 (252645135) ∈ wsJ6_bitCount_0f7a4 := by decide +kernel
theorem bc_8 : (Int8.ofInt (8)).toInt32 = (8) := by decide
theorem bc_16 : (Int8.ofInt (16)).toInt32 = (16) := by decide
theorem bc_63 : (Int8.ofInt (63)).toInt32 = (63) := by decide
theorem ic_4 : Int32.ofInt (4) = (4) := by decide
set_option maxRecDepth 100000 in
set_option maxHeartbeats 4000000 in
theorem c_bitCount (E : EN) (hM : EM E) (x : Int32) (g : Nat → Int32) (h : Nat → Int64) (T : Nat → Nat → Int32) (L : Nat → Nat → Int64) : GpI E yJ6_bitCount_0f7a4 wsJ6_bitCount_0f7a4 rmJ6_bitCount_0f7a4 [.int x] g h T L (fun v => v = bcI x) := by
  refine CtI_of (cc := cJ6_bitCount_0f7a4) (nL := 1) RJ6 [some (.int x)] ⟨rfl, rfl⟩ (by decide) rfl rfl (Nat.le_of_ble_eq_true rfl) ⟨0, rfl⟩ hM.2 (fun Y C hQ => ?_)
  refine J_iload_0 C dJ6_bitCount_0f7a4_0 ?_
  refine J_iload_0 C dJ6_bitCount_0f7a4_1 ?_
  refine J_iconst C (1) dJ6_bitCount_0f7a4_2 ic_1 ?_
  refine J_iushr C dJ6_bitCount_0f7a4_3 ?_
  refine J_ldcw C kcJ6_bitCount_0f7a4_265 dJ6_bitCount_0f7a4_4 ?_
  refine J_iand C dJ6_bitCount_0f7a4_7 ?_
  refine J_isub C dJ6_bitCount_0f7a4_8 ?_
  refine J_top (y := bc1 x) rfl ?_
  refine J_istore_0 C dJ6_bitCount_0f7a4_9 (by decide) ?_
  refine J_iload_0 C dJ6_bitCount_0f7a4_10 ?_
  refine J_ldcw C kcJ6_bitCount_0f7a4_266 dJ6_bitCount_0f7a4_11 ?_
  refine J_iand C dJ6_bitCount_0f7a4_14 ?_
  refine J_iload_0 C dJ6_bitCount_0f7a4_15 ?_
  refine J_iconst C (2) dJ6_bitCount_0f7a4_16 ic_2 ?_
  refine J_iushr C dJ6_bitCount_0f7a4_17 ?_
  refine J_ldcw C kcJ6_bitCount_0f7a4_266 dJ6_bitCount_0f7a4_18 ?_
  refine J_iand C dJ6_bitCount_0f7a4_21 ?_
  refine J_iadd C dJ6_bitCount_0f7a4_22 ?_
  refine J_top (y := bc2 (bc1 x)) rfl ?_
  refine J_istore_0 C dJ6_bitCount_0f7a4_23 (by decide) ?_
  refine J_iload_0 C dJ6_bitCount_0f7a4_24 ?_
  refine J_iload_0 C dJ6_bitCount_0f7a4_25 ?_
  refine J_iconst C (4) dJ6_bitCount_0f7a4_26 ic_4 ?_
  refine J_iushr C dJ6_bitCount_0f7a4_27 ?_
  refine J_iadd C dJ6_bitCount_0f7a4_28 ?_
  refine J_ldcw C kcJ6_bitCount_0f7a4_267 dJ6_bitCount_0f7a4_29 ?_
  refine J_iand C dJ6_bitCount_0f7a4_32 ?_
  refine J_top (y := bc3 (bc2 (bc1 x))) rfl ?_
  refine J_istore_0 C dJ6_bitCount_0f7a4_33 (by decide) ?_
  refine J_iload_0 C dJ6_bitCount_0f7a4_34 ?_
  refine J_iload_0 C dJ6_bitCount_0f7a4_35 ?_
  refine J_bipush C (8) dJ6_bitCount_0f7a4_36 bc_8 ?_
  refine J_iushr C dJ6_bitCount_0f7a4_38 ?_
  refine J_iadd C dJ6_bitCount_0f7a4_39 ?_
  refine J_top (y := bc4 (bc3 (bc2 (bc1 x)))) rfl ?_
  refine J_istore_0 C dJ6_bitCount_0f7a4_40 (by decide) ?_
  refine J_iload_0 C dJ6_bitCount_0f7a4_41 ?_
  refine J_iload_0 C dJ6_bitCount_0f7a4_42 ?_
  refine J_bipush C (16) dJ6_bitCount_0f7a4_43 bc_16 ?_
  refine J_iushr C dJ6_bitCount_0f7a4_45 ?_
  refine J_iadd C dJ6_bitCount_0f7a4_46 ?_
  refine J_top (y := bc5 (bc4 (bc3 (bc2 (bc1 x))))) rfl ?_
  refine J_istore_0 C dJ6_bitCount_0f7a4_47 (by decide) ?_
  refine J_iload_0 C dJ6_bitCount_0f7a4_48 ?_
  refine J_bipush C (63) dJ6_bitCount_0f7a4_49 bc_63 ?_
  refine J_iand C dJ6_bitCount_0f7a4_51 ?_
  refine hQ _ _ _ _ dJ6_bitCount_0f7a4_52 ⟨rfl, ?_⟩
  rfl
abbrev rmX3_setsOf : Room := { frames := 1, cells := 0, slots := 0, locals := 20 }
theorem dm_J6_bitCount_0f7a4 : yJ6_bitCount_0f7a4.cls ≠ "java/lang/invoke/MethodHandle" ∧ yJ6_bitCount_0f7a4.cls ≠ "java/lang/invoke/VarHandle" ∧ (parseMethodDescriptor yJ6_bitCount_0f7a4.desc).map (fun d => d.parameters.length) = some 1 := by decide +kernel
set_option maxRecDepth 100000 in
set_option maxHeartbeats 4000000 in
theorem c_X3_setsOf (E : EN) (hM : EM E) (b : Nat) (hb : b < 128) (g : Nat → Int32) (h : Nat → Int64) (T : Nat → Nat → Int32) (L : Nat → Nat → Int64) : GpI E yX3_setsOf wsX3_setsOf rmX3_setsOf [.int (nI b)] g h T L (fun v => v = nI (2 ^ pcN b)) := by
  refine CtI_of (cc := cX3_setsOf) (nL := 1) RX3 [some (.int (nI b))] ⟨rfl, rfl⟩ (by decide) rfl rfl (Nat.le_of_ble_eq_true rfl) ⟨0, rfl⟩ hM.2 (fun Y C hQ => ?_)
  refine J_iconst C (1) dX3_setsOf_0 ic_1 ?_
  refine J_iload_0 C dX3_setsOf_1 ?_
  refine G_spi C dX3_setsOf_2 (c_bitCount E hM (nI b) g h T L) gX3_setsOf_J6_bitCount_0f7a4 rfl dm_J6_bitCount_0f7a4 rfl rfl (Nat.le_of_ble_eq_true rfl) (rmOK_b rfl) (fun r2 hr2 => ?_)
  subst hr2
  refine J_ishl C dX3_setsOf_5 ?_
  refine hQ _ _ _ _ dX3_setsOf_6 ⟨rfl, ?_⟩
  rw [bc_ok b hb]
  exact nI_sh1 _ (by have := pc_le b hb; omega)
abbrev rmX3_nextSet : Room := { frames := 0, cells := 0, slots := 0, locals := 0 }
set_option maxRecDepth 100000 in
set_option maxHeartbeats 4000000 in
theorem c_X3_nextSet (E : EN) (hM : EM E) (b d : Nat) (hb : b < 128) (hd : d < 128) (g : Nat → Int32) (h : Nat → Int64) (T : Nat → Nat → Int32) (L : Nat → Nat → Int64) : GpI E yX3_nextSet wsX3_nextSet rmX3_nextSet [.int (nI b), .int (nI d)] g h T L (fun v => v = nI (nxN b d)) := by
  refine CtI_of (cc := cX3_nextSet) (nL := 2) RX3 [some (.int (nI b)), some (.int (nI d))] ⟨rfl, rfl⟩ (by decide) rfl rfl (Nat.le_of_ble_eq_true rfl) ⟨0, rfl⟩ hM.2 (fun Y C hQ => ?_)
  refine J_iload_0 C dX3_nextSet_0 ?_
  refine J_iload_1 C dX3_nextSet_1 ?_
  refine J_isub C dX3_nextSet_2 ?_
  refine J_iload_1 C dX3_nextSet_3 ?_
  refine J_iand C dX3_nextSet_4 ?_
  refine hQ _ _ _ _ dX3_nextSet_5 ⟨rfl, ?_⟩
  exact nx_int hd hb
abbrev rmX1_add : Room := { frames := 0, cells := 0, slots := 0, locals := 0 }
set_option maxRecDepth 100000 in
set_option maxHeartbeats 4000000 in
theorem c_X1_add0 (E : EN) (hM : EM E) (g : Nat → Int32) (h : Nat → Int64) (T : Nat → Nat → Int32) (L : Nat → Nat → Int64) (l : List BE) (hX : rpX g T l) (k b n : Nat) : GtV E yX1_add wsX1_add rmX1_add [.ref (eA E 25), .int (oI none), .int (nI k), .int (nI b), .int (nI n)] g h T L (fun g2 h2 T2 L2 => h2 = h ∧ L2 = L ∧ FrX g g2 T T2 ∧ rpX g2 T2 (l)) := by
  refine CtV_of (cc := cX1_add) (nL := 5) RX1 [some (.ref (eA E 25)), some (.int (oI none)), some (.int (nI k)), some (.int (nI b)), some (.int (nI n))] ⟨rfl, rfl⟩ (by decide) rfl rfl (Nat.le_of_ble_eq_true rfl) ⟨0, rfl⟩ hM.2 (fun Y hnm C hQ => ?_)
  obtain ⟨hS, hNN⟩ := hM
  refine J_iload_1 C dX1_add_0 ?_
  refine J_if_lt C 30 dX1_add_1 (by decide) (fun hc1 => ?_) (fun hc => absurd (show oI none < 0 by decide) hc)
  refine hQ _ _ _ dX1_add_30 ⟨_, _, _, _, rfl, ?_⟩
  exact ⟨rfl, rfl, FrX.rf, hX⟩
theorem fX1_add_17 : Cond.fieldLink RX1 17 RX1 (TX1 1).2.1 (TX1 1).2.2.1 ∈ wsX1_add := by decide +kernel
theorem fX1_add_21 : Cond.fieldLink RX1 21 RX1 (TX1 2).2.1 (TX1 2).2.2.1 ∈ wsX1_add := by decide +kernel
theorem fX1_add_24 : Cond.fieldLink RX1 24 RX1 (TX1 3).2.1 (TX1 3).2.2.1 ∈ wsX1_add := by decide +kernel
theorem fX1_add_27 : Cond.fieldLink RX1 27 RX1 (TX1 4).2.1 (TX1 4).2.2.1 ∈ wsX1_add := by decide +kernel
theorem fX1_add_30 : Cond.fieldLink RX1 30 RX1 (TX1 5).2.1 (TX1 5).2.2.1 ∈ wsX1_add := by decide +kernel
theorem fX1_add_9 : Cond.fieldLink RX1 9 RX1 (TX1 0).2.1 (TX1 0).2.2.1 ∈ wsX1_add := by decide +kernel
theorem iX1_add_1 : ∀ x ∈ wsX10, x ∈ wsX1_add := by decide +kernel
theorem sc_256 : (Int16.ofInt (256)).toInt32 = (256) := by decide
set_option maxRecDepth 100000 in
set_option maxHeartbeats 4000000 in
theorem c_X1_add1 (E : EN) (hM : EM E) (g : Nat → Int32) (h : Nat → Int64) (T : Nat → Nat → Int32) (L : Nat → Nat → Int64) (l : List BE) (hX : rpX g T l) (t k b n : Nat) (ht : t < 256) (hl : bIn l t = false → l.length < 256) : GtV E yX1_add wsX1_add rmX1_add [.ref (eA E 25), .int (oI (some t)), .int (nI k), .int (nI b), .int (nI n)] g h T L (fun g2 h2 T2 L2 => h2 = h ∧ L2 = L ∧ FrX g g2 T T2 ∧ rpX g2 T2 (bAdd l (t, n, k, b))) := by
  refine CtV_of (cc := cX1_add) (nL := 5) RX1 [some (.ref (eA E 25)), some (.int (nI t)), some (.int (nI k)), some (.int (nI b)), some (.int (nI n))] ⟨rfl, rfl⟩ (by decide) rfl rfl (Nat.le_of_ble_eq_true rfl) ⟨0, rfl⟩ hM.2 (fun Y hnm C hQ => ?_)
  obtain ⟨hS, hNN⟩ := hM
  refine J_iload_1 C dX1_add_0 ?_
  refine J_if_lt C 30 dX1_add_1 (by decide) (fun hc => absurd hc (nI_pos (show t < 2 ^ 31 by omega))) (fun hc1 => ?_)
  refine J_iload_1 C dX1_add_4 ?_
  refine J_sipush C (256) dX1_add_5 sc_256 ?_
  refine J_icmp_ge C 30 dX1_add_8 (by decide) (fun hc => absurd hc (show ¬ (256 : Int32) ≤ nI t from nI_ge (b := 256) ht (by decide))) (fun hc8 => ?_)
  refine J_aload_0 C dX1_add_11 ?_
  refine G1_getr C (n := 30) 5 dX1_add_12 fX1_add_30 iX1_add_1 rfl (hS _ (by decide)) rfl rfl ?_
  refine J_iload_1 C dX1_add_15 ?_
  refine G_zald C t dX1_add_16 rfl (hS _ (by decide)) rfl ht ?_
  refine J_if_ne C 30 dX1_add_17 (by decide) (fun hc17 => ?_) (fun hc17 => ?_)
  · skip
    refine hQ _ _ _ dX1_add_30 ⟨_, _, _, _, rfl, ?_⟩
    have hin : bIn l t = true := by
      rw [hX.2.2 t ht] at hc17
      cases q : bIn l t
      · rw [q] at hc17
        exact absurd rfl hc17
      · rfl
    unfold bAdd
    rw [if_pos hin]
    exact ⟨rfl, rfl, FrX.rf, hX⟩
  · skip
    have hin : bIn l t = false := by
      rw [hX.2.2 t ht] at hc17
      cases q : bIn l t
      · rfl
      · rw [q] at hc17
        exact absurd hc17 (by decide)
    have hlen := hl hin
    refine J_aload_0 C dX1_add_20 ?_
    refine G1_geti C (n := 2500) 0 dX1_add_21 fX1_add_9 iX1_add_1 rfl (hS _ (by decide)) rfl rfl ?_
    refine J_sipush C (256) dX1_add_24 sc_256 ?_
    refine J_icmp_lt C 31 dX1_add_27 (by decide) (fun hc27 => ?_) (fun hc => absurd (show g 2500 < 256 by rw [hX.1]; exact nI_lt (b := 256) hlen (by decide)) hc)
    refine J_aload_0 C dX1_add_31 ?_
    refine G1_getr C (n := 30) 5 dX1_add_32 fX1_add_30 iX1_add_1 rfl (hS _ (by decide)) rfl rfl ?_
    refine J_iload_1 C dX1_add_35 ?_
    refine J_iconst C (1) dX1_add_36 ic_1 ?_
    refine G_zast C t dX1_add_37 rfl (hS _ (by decide)) rfl ht rfl ?_
    refine J_aload_0 C dX1_add_38 ?_
    refine G1_getr C (n := 26) 1 dX1_add_39 fX1_add_17 iX1_add_1 rfl (hS _ (by decide)) rfl rfl ?_
    refine J_aload_0 C dX1_add_42 ?_
    refine G1_geti C (n := 2500) 0 dX1_add_43 fX1_add_9 iX1_add_1 rfl (hS _ (by decide)) rfl rfl ?_
    refine J_iload_1 C dX1_add_46 ?_
    refine G_iast C l.length dX1_add_47 rfl (hS _ (by decide)) hX.1 hlen ?_
    refine J_aload_0 C dX1_add_48 ?_
    refine G1_getr C (n := 28) 3 dX1_add_49 fX1_add_24 iX1_add_1 rfl (hS _ (by decide)) rfl rfl ?_
    refine J_aload_0 C dX1_add_52 ?_
    refine G1_geti C (n := 2500) 0 dX1_add_53 fX1_add_9 iX1_add_1 rfl (hS _ (by decide)) rfl rfl ?_
    refine J_iload_2 C dX1_add_56 ?_
    refine G_iast C l.length dX1_add_57 rfl (hS _ (by decide)) hX.1 hlen ?_
    refine J_aload_0 C dX1_add_58 ?_
    refine G1_getr C (n := 29) 4 dX1_add_59 fX1_add_27 iX1_add_1 rfl (hS _ (by decide)) rfl rfl ?_
    refine J_aload_0 C dX1_add_62 ?_
    refine G1_geti C (n := 2500) 0 dX1_add_63 fX1_add_9 iX1_add_1 rfl (hS _ (by decide)) rfl rfl ?_
    refine J_iload_3 C dX1_add_66 ?_
    refine G_iast C l.length dX1_add_67 rfl (hS _ (by decide)) hX.1 hlen ?_
    refine J_aload_0 C dX1_add_68 ?_
    refine G1_getr C (n := 27) 2 dX1_add_69 fX1_add_21 iX1_add_1 rfl (hS _ (by decide)) rfl rfl ?_
    refine J_aload_0 C dX1_add_72 ?_
    refine G1_geti C (n := 2500) 0 dX1_add_73 fX1_add_9 iX1_add_1 rfl (hS _ (by decide)) rfl rfl ?_
    refine J_iload_4 C dX1_add_76 ?_
    refine G_iast C l.length dX1_add_78 rfl (hS _ (by decide)) hX.1 hlen ?_
    refine J_aload_0 C dX1_add_79 ?_
    refine J_dup C dX1_add_80 ?_
    refine G1_geti C (n := 2500) 0 dX1_add_81 fX1_add_9 iX1_add_1 rfl (hS _ (by decide)) rfl rfl ?_
    refine J_iconst C (1) dX1_add_84 ic_1 ?_
    refine J_iadd C dX1_add_85 ?_
    refine G1_puti C (n := 2500) 0 dX1_add_86 fX1_add_9 iX1_add_1 rfl (hS _ (by decide)) rfl (tyX1_ok 0 (by decide)) rfl rfl ?_
    refine hQ _ _ _ dX1_add_89 ⟨_, _, _, _, rfl, ?_⟩
    unfold bAdd
    rw [if_neg (by rw [hin]; decide)]
    refine ⟨rfl, rfl, ⟨fun i hi => by simp [upd, hi], fun i hi => ?_⟩, hX.add ht⟩
    simp [va_up, show i ≠ 30 by omega, show i ≠ 26 by omega, show i ≠ 28 by omega, show i ≠ 29 by omega, show i ≠ 27 by omega]
theorem c_X1_add (E : EN) (hM : EM E) (g : Nat → Int32) (h : Nat → Int64) (T : Nat → Nat → Int32) (L : Nat → Nat → Int64) (l : List BE) (hX : rpX g T l) (o : Option Nat) (k b n : Nat) (ho : ∀ t, o = some t → t < 256) (hl : ∀ t, o = some t → bIn l t = false → l.length < 256) : GtV E yX1_add wsX1_add rmX1_add [.ref (eA E 25), .int (oI o), .int (nI k), .int (nI b), .int (nI n)] g h T L (fun g2 h2 T2 L2 => h2 = h ∧ L2 = L ∧ FrX g g2 T T2 ∧ rpX g2 T2 (adO l k b n o)) := by
  cases o with
  | none => exact c_X1_add0 E hM g h T L l hX k b n
  | some t => exact c_X1_add1 E hM g h T L l hX t k b n (ho t rfl) (hl t rfl)
abbrev rmX1_goOn : Room := { frames := 3, cells := 0, slots := 0, locals := 66 }
theorem fX1_goOn_17 : Cond.fieldLink RX1 17 RX1 (TX1 1).2.1 (TX1 1).2.2.1 ∈ wsX1_goOn := by decide +kernel
theorem fX1_goOn_21 : Cond.fieldLink RX1 21 RX1 (TX1 2).2.1 (TX1 2).2.2.1 ∈ wsX1_goOn := by decide +kernel
theorem iX1_goOn_1 : ∀ x ∈ wsX10, x ∈ wsX1_goOn := by decide +kernel
theorem dm_X1_add : yX1_add.cls = RX1 ∧ yX1_add.cls ≠ "java/lang/invoke/MethodHandle" ∧ yX1_add.cls ≠ "java/lang/invoke/VarHandle" ∧ (parseMethodDescriptor yX1_add.desc).map (fun d => d.parameters.length) = some 4 := by decide +kernel
theorem dm_X3_crossing : yX3_crossing.cls = RX3 ∧ yX3_crossing.cls ≠ "java/lang/invoke/MethodHandle" ∧ yX3_crossing.cls ≠ "java/lang/invoke/VarHandle" ∧ (parseMethodDescriptor yX3_crossing.desc).map (fun d => d.parameters.length) = some 4 := by decide +kernel
theorem dm_X3_nextSet : yX3_nextSet.cls ≠ "java/lang/invoke/MethodHandle" ∧ yX3_nextSet.cls ≠ "java/lang/invoke/VarHandle" ∧ (parseMethodDescriptor yX3_nextSet.desc).map (fun d => d.parameters.length) = some 2 := by decide +kernel
theorem dm_X3_setsOf : yX3_setsOf.cls ≠ "java/lang/invoke/MethodHandle" ∧ yX3_setsOf.cls ≠ "java/lang/invoke/VarHandle" ∧ (parseMethodDescriptor yX3_setsOf.desc).map (fun d => d.parameters.length) = some 1 := by decide +kernel
set_option maxRecDepth 100000 in
set_option maxHeartbeats 4000000 in
theorem c_X1_goOn (E : EN) (hM : EM E) (m : Nat) (ρ : Nat → Nat → Nat) (g : Nat → Int32) (h : Nat → Int64) (T : Nat → Nat → Int32) (L : Nat → Nat → Int64) (hR : RvX g T m ρ) (l : List BE) (hX : rpX g T l) (k ld th s0 : Nat) (hld : ld < 1000) (e : BE) (he : l[k]? = some e) (hB : BI (crN m (ρ 2) (ρ 3) ld th) (2 ^ m) s0 l k 0) : GtV E yX1_goOn wsX1_goOn rmX1_goOn [.ref (eA E 25), .ref (eA E 6), .int (nI k), .int (nI ld), .int (nI th)] g h T L (fun g2 h2 T2 L2 => h2 = h ∧ L2 = L ∧ FrX g g2 T T2 ∧ rpX g2 T2 (bInn (crN m (ρ 2) (ρ 3) ld th) k l (2 ^ m))) := by
  refine CtV_of (cc := cX1_goOn) (nL := 9) RX1 [some (.ref (eA E 25)), some (.ref (eA E 6)), some (.int (nI k)), some (.int (nI ld)), some (.int (nI th)), none, none, none, none] ⟨rfl, rfl⟩ (by decide) rfl rfl (Nat.le_of_ble_eq_true rfl) ⟨4, rfl⟩ hM.2 (fun Y hnm C hQ => ?_)
  have hM0 := hM
  obtain ⟨hS, hNN⟩ := hM
  have hm := hR.1
  have h7 := p7 hm
  have hk : k < 256 := Nat.lt_of_lt_of_le (get_lt he) hB.len
  have hea := hB.2.2.1 k e he
  have hst := (hX.2.1 k e he).1
  have hcl : ∀ s b t, s < 256 → b < 2 ^ m → (crN m (ρ 2) (ρ 3) ld th) s b = some t → t < 256 := fun s b t hs _ h => (crN_lt hm hs h).1
  obtain ⟨d, hd⟩ : ∃ d, d = hN m e.1 &&& th := ⟨_, rfl⟩
  have hdm : d < 2 ^ m := by rw [hd]; exact Nat.lt_of_le_of_lt Nat.and_le_left hN_lt
  refine J_aload_1 C dX1_goOn_0 ?_
  refine J_aload_0 C dX1_goOn_1 ?_
  refine G1_getr C (n := 26) 1 dX1_goOn_2 fX1_goOn_17 iX1_goOn_1 rfl (hS _ (by decide)) rfl rfl ?_
  refine J_iload_2 C dX1_goOn_5 ?_
  refine G_iald C k dX1_goOn_6 rfl (hS _ (by decide)) rfl hk ?_
  rw [hst]
  refine G_vpi C dX1_goOn_7 (c_X3_atFerry E hM0 m ρ g h T L hR e.1 hea) gX1_goOn_X3_atFerry rfl dm_X3_atFerry rfl rfl (hS _ (by decide)) rfl rfl (Nat.le_of_ble_eq_true rfl) (rmOK_b rfl) (fun r7 hr7 => ?_)
  subst hr7
  refine J_iload_4 C dX1_goOn_10 ?_
  refine J_iand C dX1_goOn_12 ?_
  rw [nI_and, ← hd]
  refine J_istore_5 C dX1_goOn_13 (by decide) trivial ?_
  refine J_iload_5 C dX1_goOn_15 ?_
  refine G_spi C dX1_goOn_17 (c_X3_setsOf E hM0 d (by omega) g h T L) gX1_goOn_X3_setsOf rfl dm_X3_setsOf rfl rfl (Nat.le_of_ble_eq_true rfl) (rmOK_b rfl) (fun r17 hr17 => ?_)
  subst hr17
  refine J_istore_6 C dX1_goOn_20 (by decide) trivial ?_
  refine J_iconst C (0) dX1_goOn_22 ic_0 ?_
  refine J_istore_7 C dX1_goOn_23 (by decide) trivial ?_
  refine J_iconst C (0) dX1_goOn_25 ic_0 ?_
  refine J_istore_8 C dX1_goOn_26 (by decide) trivial ?_
  have hexit : ∀ (g2 : Nat → Int32) (T2 : Nat → Nat → Int32), FrX g g2 T T2 → rpX g2 T2 (bInn (crN m (ρ 2) (ρ 3) ld th) k l (2 ^ m)) → J E Y (eN E) 0 0 (wS E g2 h T2 L) 28 [some (.ref (eA E 25)), some (.ref (eA E 6)), some (.int (nI k)), some (.int (nI ld)), some (.int (nI th)), some (.int (nI d)), some (.int (nI (2 ^ pcN d))), some (.int (nI 0)), some (.int (nI (2 ^ pcN d)))] [] := by
    intro g2 T2 hF hX2
    refine J_iload_8 C dX1_goOn_28 ?_
    refine J_iload_6 C dX1_goOn_30 ?_
    refine J_icmp_ge C 80 dX1_goOn_32 (by decide) (fun _ => ?_) (fun hc => absurd (Int32.le_refl _) hc)
    refine hQ _ _ _ dX1_goOn_80 ⟨_, _, _, _, rfl, rfl, rfl, hF, hX2⟩
  have loop : ∀ (n : Nat) (b : Nat) (g2 : Nat → Int32) (T2 : Nat → Nat → Int32), b &&& d = b → d < n + b → FrX g g2 T T2 → rpX g2 T2 (bInn (crN m (ρ 2) (ρ 3) ld th) k l b) → J E Y (eN E) 0 0 (wS E g2 h T2 L) 28 [some (.ref (eA E 25)), some (.ref (eA E 6)), some (.int (nI k)), some (.int (nI ld)), some (.int (nI th)), some (.int (nI d)), some (.int (nI (2 ^ pcN d))), some (.int (nI b)), some (.int (nI (rkN d b)))] [] := by
    intro n
    induction n with
    | zero =>
      intro b g2 T2 hsub hfu hF hX2
      have : b ≤ d := by rw [← hsub]; exact Nat.and_le_right
      omega
    | succ n ih =>
      intro b g2 T2 hsub hfu hF hX2
      have hbl : b < 2 ^ m := sub_lt hsub hdm
      have hle : (bInn (crN m (ρ 2) (ρ 3) ld th) k l b)[k]? = some e := bInn_pre he b
      have hR2 := hR.fr hF
      have hBb := hB.inn hcl b (by omega)
      have hexit : ∀ (g2 : Nat → Int32) (T2 : Nat → Nat → Int32), FrX g g2 T T2 → rpX g2 T2 (bInn (crN m (ρ 2) (ρ 3) ld th) k l (2 ^ m)) → J E Y (eN E) 0 0 (wS E g2 h T2 L) 28 [some (.ref (eA E 25)), some (.ref (eA E 6)), some (.int (nI k)), some (.int (nI ld)), some (.int (nI th)), some (.int (nI d)), some (.int (nI (2 ^ pcN d))), some (.int (nI 0)), some (.int (nI (2 ^ pcN d)))] [] := by
        intro g2 T2 hF hX2
        refine J_iload_8 C dX1_goOn_28 ?_
        refine J_iload_6 C dX1_goOn_30 ?_
        refine J_icmp_ge C 80 dX1_goOn_32 (by decide) (fun _ => ?_) (fun hc => absurd (Int32.le_refl _) hc)
        refine hQ _ _ _ dX1_goOn_80 ⟨_, _, _, _, rfl, rfl, rfl, hF, hX2⟩
      refine J_iload_8 C dX1_goOn_28 ?_
      refine J_iload_6 C dX1_goOn_30 ?_
      refine J_icmp_ge C 80 dX1_goOn_32 (by decide) (fun hc => absurd hc (show ¬ nI (2 ^ pcN d) ≤ nI (rkN d b) from nI_ge (rk_lt (by omega) hsub) (by have := Nat.pow_le_pow_right (n := 2) (by omega) (pc_le d (by omega)); omega))) (fun hc32 => ?_)
      refine J_aload_0 C dX1_goOn_35 ?_
      refine J_aload_1 C dX1_goOn_36 ?_
      refine J_aload_0 C dX1_goOn_37 ?_
      refine G1_getr C (n := 26) 1 dX1_goOn_38 fX1_goOn_17 iX1_goOn_1 rfl (hS _ (by decide)) rfl rfl ?_
      refine J_iload_2 C dX1_goOn_41 ?_
      refine G_iald C k dX1_goOn_42 rfl (hS _ (by decide)) rfl hk ?_
      rw [(hX2.2.1 k e hle).1]
      refine J_iload_7 C dX1_goOn_43 ?_
      refine J_iload_3 C dX1_goOn_45 ?_
      refine J_iload_4 C dX1_goOn_46 ?_
      refine G_vpi C dX1_goOn_48 (c_X3_crossing E hM0 m ρ g2 h T2 L hR2 e.1 b ld th hea (by omega) hld) gX1_goOn_X3_crossing rfl dm_X3_crossing rfl rfl (hS _ (by decide)) rfl rfl (Nat.le_of_ble_eq_true rfl) (rmOK_b rfl) (fun r48 hr48 => ?_)
      subst hr48
      refine J_iload_2 C dX1_goOn_51 ?_
      refine J_iload_7 C dX1_goOn_52 ?_
      refine J_aload_0 C dX1_goOn_54 ?_
      refine G1_getr C (n := 27) 2 dX1_goOn_55 fX1_goOn_21 iX1_goOn_1 rfl (hS _ (by decide)) rfl rfl ?_
      refine J_iload_2 C dX1_goOn_58 ?_
      refine G_iald C k dX1_goOn_59 rfl (hS _ (by decide)) rfl hk ?_
      rw [(hX2.2.1 k e hle).2.1]
      refine J_iconst C (1) dX1_goOn_60 ic_1 ?_
      refine J_iadd C dX1_goOn_61 ?_
      rw [nI_1]
      refine G_vtv C dX1_goOn_62 (c_X1_add E hM0 g2 h T2 L (bInn (crN m (ρ 2) (ρ 3) ld th) k l b) hX2 ((crN m (ρ 2) (ρ 3) ld th) e.1 b) k b (e.2.1 + 1) (fun t ht => (crN_lt hm hea ht).1) (fun t ht hin => by
    have hB2 := (hBb.step hcl hbl).len
    unfold bStep at hB2
    rw [hle] at hB2
    simp only [ht, bAdd, hin] at hB2
    simp at hB2
    omega)) gX1_goOn_X1_add rfl dm_X1_add rfl rfl (hS _ (by decide)) rfl rfl (Nat.le_of_ble_eq_true rfl) (rmOK_b rfl) (fun g62 h62 T62 L62 hp62 => ?_)
      refine J_iload_7 C dX1_goOn_65 ?_
      refine J_iload_5 C dX1_goOn_67 ?_
      refine G_spi C dX1_goOn_69 (c_X3_nextSet E hM0 b d (by omega) (by omega) g62 h62 T62 L62) gX1_goOn_X3_nextSet rfl dm_X3_nextSet rfl rfl (Nat.le_of_ble_eq_true rfl) (rmOK_b rfl) (fun r69 hr69 => ?_)
      subst hr69
      refine J_istore_7 C dX1_goOn_72 (by decide) trivial ?_
      refine J_iinc_8 C (1) dX1_goOn_74 (by decide) trivial ic_1 ?_
      refine J_goto C 28 dX1_goOn_77 (by decide) ?_
      have hexit : ∀ (g2 : Nat → Int32) (T2 : Nat → Nat → Int32), FrX g g2 T T2 → rpX g2 T2 (bInn (crN m (ρ 2) (ρ 3) ld th) k l (2 ^ m)) → J E Y (eN E) 0 0 (wS E g2 h T2 L) 28 [some (.ref (eA E 25)), some (.ref (eA E 6)), some (.int (nI k)), some (.int (nI ld)), some (.int (nI th)), some (.int (nI d)), some (.int (nI (2 ^ pcN d))), some (.int (nI 0)), some (.int (nI (2 ^ pcN d)))] [] := by
        intro g2 T2 hF hX2
        refine J_iload_8 C dX1_goOn_28 ?_
        refine J_iload_6 C dX1_goOn_30 ?_
        refine J_icmp_ge C 80 dX1_goOn_32 (by decide) (fun _ => ?_) (fun hc => absurd (Int32.le_refl _) hc)
        refine hQ _ _ _ dX1_goOn_80 ⟨_, _, _, _, rfl, rfl, rfl, hF, hX2⟩
      obtain ⟨rfl, rfl, hF3, hX3⟩ := hp62
      have hX4 : rpX g62 T62 (bInn (crN m (ρ 2) (ρ 3) ld th) k l (b + 1)) := by
        have e9 : bInn (crN m (ρ 2) (ρ 3) ld th) k l (b + 1) = adO (bInn (crN m (ρ 2) (ρ 3) ld th) k l b) k b (e.2.1 + 1) ((crN m (ρ 2) (ρ 3) ld th) e.1 b) := by
          show bStep _ (bInn (crN m (ρ 2) (ρ 3) ld th) k l b) k b = _
          unfold bStep
          rw [hle]
          rfl
        rw [e9]
        exact hX3
      rw [nI_1]
      by_cases q : b = d
      · subst q
        rw [nx_end b (by omega), show rkN b b + 1 = 2 ^ pcN b by
          rw [← rk_all b (by omega)]
          show _ = rkN b b + (if b &&& b = b then 1 else 0)
          rw [if_pos hsub]]
        refine hexit g62 T62 (hF.tr hF3) ?_
        have e8 := bInn_skip (c := (crN m (ρ 2) (ρ 3) ld th)) he (2 ^ m - (b + 1)) (b + 1) (fun i h1 h2 => crN_sub (fun h3 => by
          rw [← hd] at h3
          have : i ≤ b := by rw [← h3]; exact Nat.and_le_right
          omega))
        rw [show b + 1 + (2 ^ m - (b + 1)) = 2 ^ m by omega] at e8
        rw [e8]
        exact hX4
      · obtain ⟨a1, a2, a3⟩ := nx_spec (by omega) hsub q
        rw [← rk_next (by omega) hsub q]
        refine ih (nxN b d) g62 T62 a2 (by omega) (hF.tr hF3) ?_
        have e8 := bInn_skip (c := (crN m (ρ 2) (ρ 3) ld th)) he (nxN b d - (b + 1)) (b + 1) (fun i h1 h2 => crN_sub (fun h3 => a3 i (by omega) (by omega) (by rw [hd]; exact h3)))
        rw [show b + 1 + (nxN b d - (b + 1)) = nxN b d by omega] at e8
        rw [e8]
        exact hX4
  exact loop (d + 1) 0 g T (by simp) (by omega) FrX.rf hX
