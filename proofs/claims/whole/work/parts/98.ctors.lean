def gI : Nat → Int32 := fun k => if k = 2003 ∨ k = 4203 ∨ k = 4503 ∨ k = 4814 then 1 else if k = 604 ∨ k = 1304 ∨ k = 4808 then 2 else if k = 605 ∨ k = 1305 ∨ k = 4812 then 9 else if k = 606 ∨ k = 1306 ∨ k = 4809 then 5 else 0
def h0I : Nat → Int64 := fun _ => 0
def L0I : Nat → Nat → Int64 := fun _ _ => 0
def RvI (E : EN) (r : Nat) (w2 : Nat → va_E) : Prop := ∃ T : Nat → Nat → Int32, (∀ k, r ≤ k → k < r + 7 → w2 k = cellG E gI h0I T L0I k) ∧ T (r + 5) 0 = 0 ∧ T (r + 6) 0 = 1
def mo0 (E : EN) (r : Nat) : List Value := [.int 0, .int 0, .int 0, .int 1, .int 0, .ref (eA E (r + 1)), .ref (eA E (r + 2))]
theorem wG_wL {E : EN} {w : Nat → va_E} {r ci : Nat} {fs : List Value} {l : List va_E} {N n K : Nat} (hN : N = r + 1 + l.length) (k : Nat) (hk : k < N + 1 + n) : wG E (wL w r ci fs l) N n K k = wL w r ci fs (l ++ .inl (eC E 4, n, qRow (fun j => if j < n then some (eA E (N + 1 + j)) else none)) :: List.replicate n (.inl (eC E 1, K, .inr (.inl (fun _ => 0))))) k := by
  subst hN
  have h0 : ∀ (e : va_E) (t : List va_E), wL w r ci fs (l ++ e :: t) (r + 1 + l.length) = e := fun e t => by
    rw [wL_at l.length e (by simp)]
  unfold wG
  by_cases e1 : k = r + 1 + l.length
  · rw [if_pos e1, e1, h0]
  · rw [if_neg e1]
    by_cases e2 : r + 1 + l.length < k ∧ k < r + 1 + l.length + 1 + n
    · rw [if_pos e2]
      have e3 : k = r + 1 + (l.length + 1 + (k - r - 1 - l.length - 1)) := by omega
      rw [e3, wL_at (l.length + 1 + (k - r - 1 - l.length - 1)) (.inl (eC E 1, K, .inr (.inl (fun _ => 0))))]
      rw [List.getElem?_append_right (by omega), show l.length + 1 + (k - r - 1 - l.length - 1) - l.length = (k - r - 1 - l.length - 1) + 1 by omega, List.getElem?_cons_succ, List.getElem?_replicate, if_pos (by omega)]
    · rw [if_neg e2, wL_eq, wL_eq]
      by_cases h3 : k < r
      · rw [if_pos h3, if_pos h3]
      · by_cases h4 : k = r
        · rw [if_neg h3, if_pos h4, if_neg h3, if_pos h4]
        · rw [if_neg h3, if_neg h4, if_neg h3, if_neg h4, List.getD_eq_getElem?_getD, List.getD_eq_getElem?_getD, List.getElem?_append_left (by omega)]
abbrev rmX0_init : Room := { frames := 1, cells := 2, slots := 20, locals := 20 }
theorem fX0_init_13 : Cond.fieldLink RX0 13 RX0 (TX0 1).2.1 (TX0 1).2.2.1 ∈ wsX0_init := by decide +kernel
theorem fX0_init_16 : Cond.fieldLink RX0 16 RX0 (TX0 2).2.1 (TX0 2).2.2.1 ∈ wsX0_init := by decide +kernel
theorem fX0_init_19 : Cond.fieldLink RX0 19 RX0 (TX0 3).2.1 (TX0 3).2.2.1 ∈ wsX0_init := by decide +kernel
theorem fX0_init_22 : Cond.fieldLink RX0 22 RX0 (TX0 4).2.1 (TX0 4).2.2.1 ∈ wsX0_init := by decide +kernel
theorem fX0_init_25 : Cond.fieldLink RX0 25 RX0 (TX0 5).2.1 (TX0 5).2.2.1 ∈ wsX0_init := by decide +kernel
theorem fX0_init_29 : Cond.fieldLink RX0 29 RX0 (TX0 6).2.1 (TX0 6).2.2.1 ∈ wsX0_init := by decide +kernel
theorem fX0_init_7 : Cond.fieldLink RX0 7 RX0 (TX0 0).2.1 (TX0 0).2.2.1 ∈ wsX0_init := by decide +kernel
theorem iX0_init_0 : ∀ x ∈ wsX00, x ∈ wsX0_init := by decide +kernel
set_option maxRecDepth 100000 in
set_option maxHeartbeats 4000000 in
theorem c_X0_init (E : EN) (hE : ∀ k, eS E k = true → k < eN E) (r : Nat) (w : Nat → va_E) : CtVZ E (r + 1) (r + 3) yX0_init wsX0_init rmX0_init 2 20 [.ref (eA E r)] (wL w r 0 [.int 0, .int 0, .int 0, .int 0, .int 0, .null, .null] []) (fun w2 => w2 = wL w r 0 (mo0 E r) [.inl (eC E 0, 10, .inl (fun _ => 0)), .inl (eC E 0, 10, .inl (fun _ => 0))]) := by
  refine CtVZ_of (cc := cX0_init) (nL := 1) RX0 [some (.ref (eA E r))] ⟨rfl, rfl⟩ (by decide) rfl rfl (Nat.le_of_ble_eq_true rfl) ⟨0, rfl⟩ hE (fun Y hnm C hZ hQ => ?_)
  refine J_aload_0 C dX0_init_0 ?_
  refine J_objInit C dX0_init_1 (by decide +kernel : Cond.methodLink RX0 1 objectInit ∈ wsX0_init) (by decide +kernel : Cond.instanceMethod objectInit ∈ wsX0_init) (by decide +kernel : Cond.code objectInit ⟨#[0xb1]⟩ 1 none ∈ wsX0_init) (Nat.le_of_ble_eq_true rfl) (Nat.le_of_ble_eq_true rfl) (Nat.le_of_ble_eq_true rfl) ?_
  refine J_aload_0 C dX0_init_4 ?_
  refine J_iconst C (0) dX0_init_5 ic_0 ?_
  refine K_put2 C [.int 0, .int 0, .int 0, .int 0, .int 0, .null, .null] 0 dX0_init_6 fX0_init_7 iX0_init_0 tyX0 tyX0_ok nmX0 rfl rfl (by decide) rfl rfl (hnm.trans rfl) rfl rfl (Nat.le_of_ble_eq_true rfl) rfl ?_
  refine J_aload_0 C dX0_init_9 ?_
  refine J_iconst C (0) dX0_init_10 ic_0 ?_
  refine K_put2 C [.int 0, .int 0, .int 0, .int 0, .int 0, .null, .null] 1 dX0_init_11 fX0_init_13 iX0_init_0 tyX0 tyX0_ok nmX0 rfl rfl (by decide) rfl rfl (hnm.trans rfl) rfl rfl (Nat.le_of_ble_eq_true rfl) rfl ?_
  refine J_aload_0 C dX0_init_14 ?_
  refine J_iconst C (0) dX0_init_15 ic_0 ?_
  refine K_put2 C [.int 0, .int 0, .int 0, .int 0, .int 0, .null, .null] 2 dX0_init_16 fX0_init_16 iX0_init_0 tyX0 tyX0_ok nmX0 rfl rfl (by decide) rfl rfl (hnm.trans rfl) rfl rfl (Nat.le_of_ble_eq_true rfl) rfl ?_
  refine J_aload_0 C dX0_init_19 ?_
  refine J_iconst C (1) dX0_init_20 ic_1 ?_
  refine K_put2 C [.int 0, .int 0, .int 0, .int 1, .int 0, .null, .null] 3 dX0_init_21 fX0_init_19 iX0_init_0 tyX0 tyX0_ok nmX0 rfl rfl (by decide) rfl rfl (hnm.trans rfl) rfl rfl (Nat.le_of_ble_eq_true rfl) rfl ?_
  refine J_aload_0 C dX0_init_24 ?_
  refine J_iconst C (0) dX0_init_25 ic_0 ?_
  refine K_put2 C [.int 0, .int 0, .int 0, .int 1, .int 0, .null, .null] 4 dX0_init_26 fX0_init_22 iX0_init_0 tyX0 tyX0_ok nmX0 rfl rfl (by decide) rfl rfl (hnm.trans rfl) rfl rfl (Nat.le_of_ble_eq_true rfl) rfl ?_
  refine J_aload_0 C dX0_init_29 ?_
  refine J_bipush C (10) dX0_init_30 bc_10 ?_
  refine K_newa2 C .int 0 10 (10, .inl (fun _ => 0)) [.inl (eC E 0, 10, .inl (fun _ => 0))] (r + 1) dX0_init_32 (by decide +kernel : Cond.arrayClass .int ∈ wsX0_init) rfl (fun _ _ => rfl) (fun _ => rfl) rfl (by decide) (by decide) (Nat.le_of_ble_eq_true rfl) (Nat.le_of_ble_eq_true rfl) rfl rfl rfl ?_
  refine K_put2 C [.int 0, .int 0, .int 0, .int 1, .int 0, .ref (eA E (r + 1)), .null] 5 dX0_init_34 fX0_init_25 iX0_init_0 tyX0 tyX0_ok nmX0 rfl rfl (by decide) rfl rfl (hnm.trans rfl) rfl rfl (Nat.le_of_ble_eq_true rfl) rfl ?_
  refine J_aload_0 C dX0_init_37 ?_
  refine J_bipush C (10) dX0_init_38 bc_10 ?_
  refine K_newa2 C .int 0 10 (10, .inl (fun _ => 0)) [.inl (eC E 0, 10, .inl (fun _ => 0)), .inl (eC E 0, 10, .inl (fun _ => 0))] (r + 2) dX0_init_40 (by decide +kernel : Cond.arrayClass .int ∈ wsX0_init) rfl (fun _ _ => rfl) (fun _ => rfl) rfl (by decide) (by decide) (Nat.le_of_ble_eq_true rfl) (Nat.le_of_ble_eq_true rfl) rfl rfl rfl ?_
  refine K_put2 C [.int 0, .int 0, .int 0, .int 1, .int 0, .ref (eA E (r + 1)), .ref (eA E (r + 2))] 6 dX0_init_42 fX0_init_29 iX0_init_0 tyX0 tyX0_ok nmX0 rfl rfl (by decide) rfl rfl (hnm.trans rfl) rfl rfl (Nat.le_of_ble_eq_true rfl) rfl ?_
  refine hQ _ _ _ dX0_init_45 ?_
  exact rfl
abbrev rmX1_init : Room := { frames := 1, cells := 5, slots := 1280, locals := 20 }
theorem fX1_init_17 : Cond.fieldLink RX1 17 RX1 (TX1 1).2.1 (TX1 1).2.2.1 ∈ wsX1_init := by decide +kernel
theorem fX1_init_21 : Cond.fieldLink RX1 21 RX1 (TX1 2).2.1 (TX1 2).2.2.1 ∈ wsX1_init := by decide +kernel
theorem fX1_init_24 : Cond.fieldLink RX1 24 RX1 (TX1 3).2.1 (TX1 3).2.2.1 ∈ wsX1_init := by decide +kernel
theorem fX1_init_27 : Cond.fieldLink RX1 27 RX1 (TX1 4).2.1 (TX1 4).2.2.1 ∈ wsX1_init := by decide +kernel
theorem fX1_init_30 : Cond.fieldLink RX1 30 RX1 (TX1 5).2.1 (TX1 5).2.2.1 ∈ wsX1_init := by decide +kernel
theorem fX1_init_9 : Cond.fieldLink RX1 9 RX1 (TX1 0).2.1 (TX1 0).2.2.1 ∈ wsX1_init := by decide +kernel
theorem iX1_init_1 : ∀ x ∈ wsX10, x ∈ wsX1_init := by decide +kernel
set_option maxRecDepth 100000 in
set_option maxHeartbeats 4000000 in
theorem c_X1_init (E : EN) (hE : ∀ k, eS E k = true → k < eN E)  (w : Nat → va_E) : CtVZ E 26 31 yX1_init wsX1_init rmX1_init 5 1280 [.ref (eA E 25)] (wL w 25 1 [.int 0, .null, .null, .null, .null, .null] []) (fun w2 => w2 = wL w 25 1 [.int 0, .ref (eA E 26), .ref (eA E 27), .ref (eA E 28), .ref (eA E 29), .ref (eA E 30)] [.inl (eC E 0, 256, .inl (fun _ => 0)), .inl (eC E 0, 256, .inl (fun _ => 0)), .inl (eC E 0, 256, .inl (fun _ => 0)), .inl (eC E 0, 256, .inl (fun _ => 0)), .inl (eC E 2, 256, .inl (fun _ => 0))]) := by
  refine CtVZ_of (cc := cX1_init) (nL := 1) RX1 [some (.ref (eA E 25))] ⟨rfl, rfl⟩ (by decide) rfl rfl (Nat.le_of_ble_eq_true rfl) ⟨0, rfl⟩ hE (fun Y hnm C hZ hQ => ?_)
  refine J_aload_0 C dX1_init_0 ?_
  refine J_objInit C dX1_init_1 (by decide +kernel : Cond.methodLink RX1 3 objectInit ∈ wsX1_init) (by decide +kernel : Cond.instanceMethod objectInit ∈ wsX1_init) (by decide +kernel : Cond.code objectInit ⟨#[0xb1]⟩ 1 none ∈ wsX1_init) (Nat.le_of_ble_eq_true rfl) (Nat.le_of_ble_eq_true rfl) (Nat.le_of_ble_eq_true rfl) ?_
  refine J_aload_0 C dX1_init_4 ?_
  refine J_iconst C (0) dX1_init_5 ic_0 ?_
  refine K_put2 C [.int 0, .null, .null, .null, .null, .null] 0 dX1_init_6 fX1_init_9 iX1_init_1 tyX1 tyX1_ok nmX1 rfl rfl (by decide) rfl rfl (hnm.trans rfl) rfl rfl (Nat.le_of_ble_eq_true rfl) rfl ?_
  refine J_aload_0 C dX1_init_9 ?_
  refine J_sipush C (256) dX1_init_10 sc_256 ?_
  refine K_newa2 C .int 0 256 (256, .inl (fun _ => 0)) [.inl (eC E 0, 256, .inl (fun _ => 0))] (26) dX1_init_13 (by decide +kernel : Cond.arrayClass .int ∈ wsX1_init) rfl (fun _ _ => rfl) (fun _ => rfl) rfl (by decide) (by decide) (Nat.le_of_ble_eq_true rfl) (Nat.le_of_ble_eq_true rfl) rfl rfl rfl ?_
  refine K_put2 C [.int 0, .ref (eA E 26), .null, .null, .null, .null] 1 dX1_init_15 fX1_init_17 iX1_init_1 tyX1 tyX1_ok nmX1 rfl rfl (by decide) rfl rfl (hnm.trans rfl) rfl rfl (Nat.le_of_ble_eq_true rfl) rfl ?_
  refine J_aload_0 C dX1_init_18 ?_
  refine J_sipush C (256) dX1_init_19 sc_256 ?_
  refine K_newa2 C .int 0 256 (256, .inl (fun _ => 0)) [.inl (eC E 0, 256, .inl (fun _ => 0)), .inl (eC E 0, 256, .inl (fun _ => 0))] (27) dX1_init_22 (by decide +kernel : Cond.arrayClass .int ∈ wsX1_init) rfl (fun _ _ => rfl) (fun _ => rfl) rfl (by decide) (by decide) (Nat.le_of_ble_eq_true rfl) (Nat.le_of_ble_eq_true rfl) rfl rfl rfl ?_
  refine K_put2 C [.int 0, .ref (eA E 26), .ref (eA E 27), .null, .null, .null] 2 dX1_init_24 fX1_init_21 iX1_init_1 tyX1 tyX1_ok nmX1 rfl rfl (by decide) rfl rfl (hnm.trans rfl) rfl rfl (Nat.le_of_ble_eq_true rfl) rfl ?_
  refine J_aload_0 C dX1_init_27 ?_
  refine J_sipush C (256) dX1_init_28 sc_256 ?_
  refine K_newa2 C .int 0 256 (256, .inl (fun _ => 0)) [.inl (eC E 0, 256, .inl (fun _ => 0)), .inl (eC E 0, 256, .inl (fun _ => 0)), .inl (eC E 0, 256, .inl (fun _ => 0))] (28) dX1_init_31 (by decide +kernel : Cond.arrayClass .int ∈ wsX1_init) rfl (fun _ _ => rfl) (fun _ => rfl) rfl (by decide) (by decide) (Nat.le_of_ble_eq_true rfl) (Nat.le_of_ble_eq_true rfl) rfl rfl rfl ?_
  refine K_put2 C [.int 0, .ref (eA E 26), .ref (eA E 27), .ref (eA E 28), .null, .null] 3 dX1_init_33 fX1_init_24 iX1_init_1 tyX1 tyX1_ok nmX1 rfl rfl (by decide) rfl rfl (hnm.trans rfl) rfl rfl (Nat.le_of_ble_eq_true rfl) rfl ?_
  refine J_aload_0 C dX1_init_36 ?_
  refine J_sipush C (256) dX1_init_37 sc_256 ?_
  refine K_newa2 C .int 0 256 (256, .inl (fun _ => 0)) [.inl (eC E 0, 256, .inl (fun _ => 0)), .inl (eC E 0, 256, .inl (fun _ => 0)), .inl (eC E 0, 256, .inl (fun _ => 0)), .inl (eC E 0, 256, .inl (fun _ => 0))] (29) dX1_init_40 (by decide +kernel : Cond.arrayClass .int ∈ wsX1_init) rfl (fun _ _ => rfl) (fun _ => rfl) rfl (by decide) (by decide) (Nat.le_of_ble_eq_true rfl) (Nat.le_of_ble_eq_true rfl) rfl rfl rfl ?_
  refine K_put2 C [.int 0, .ref (eA E 26), .ref (eA E 27), .ref (eA E 28), .ref (eA E 29), .null] 4 dX1_init_42 fX1_init_27 iX1_init_1 tyX1 tyX1_ok nmX1 rfl rfl (by decide) rfl rfl (hnm.trans rfl) rfl rfl (Nat.le_of_ble_eq_true rfl) rfl ?_
  refine J_aload_0 C dX1_init_45 ?_
  refine J_sipush C (256) dX1_init_46 sc_256 ?_
  refine K_newa2 C .boolean 2 256 (256, .inl (fun _ => 0)) [.inl (eC E 0, 256, .inl (fun _ => 0)), .inl (eC E 0, 256, .inl (fun _ => 0)), .inl (eC E 0, 256, .inl (fun _ => 0)), .inl (eC E 0, 256, .inl (fun _ => 0)), .inl (eC E 2, 256, .inl (fun _ => 0))] (30) dX1_init_49 (by decide +kernel : Cond.arrayClass .boolean ∈ wsX1_init) rfl (fun _ _ => rfl) (fun _ => rfl) rfl (by decide) (by decide) (Nat.le_of_ble_eq_true rfl) (Nat.le_of_ble_eq_true rfl) rfl rfl rfl ?_
  refine K_put2 C [.int 0, .ref (eA E 26), .ref (eA E 27), .ref (eA E 28), .ref (eA E 29), .ref (eA E 30)] 5 dX1_init_51 fX1_init_30 iX1_init_1 tyX1 tyX1_ok nmX1 rfl rfl (by decide) rfl rfl (hnm.trans rfl) rfl rfl (Nat.le_of_ble_eq_true rfl) rfl ?_
  refine hQ _ _ _ dX1_init_54 ?_
  exact rfl
abbrev rmX2_init : Room := { frames := 1, cells := 3, slots := 603, locals := 20 }
theorem fX2_init_15 : Cond.fieldLink RX2 15 RX2 (TX2 3).2.1 (TX2 3).2.2.1 ∈ wsX2_init := by decide +kernel
theorem fX2_init_18 : Cond.fieldLink RX2 18 RX2 (TX2 4).2.1 (TX2 4).2.2.1 ∈ wsX2_init := by decide +kernel
theorem fX2_init_9 : Cond.fieldLink RX2 9 RX2 (TX2 2).2.1 (TX2 2).2.2.1 ∈ wsX2_init := by decide +kernel
theorem iX2_init_2 : ∀ x ∈ wsX20, x ∈ wsX2_init := by decide +kernel
theorem sc_201 : (Int16.ofInt (201)).toInt32 = (201) := by decide
set_option maxRecDepth 100000 in
set_option maxHeartbeats 4000000 in
theorem c_X2_init (E : EN) (hE : ∀ k, eS E k = true → k < eN E)  (w : Nat → va_E) : CtVZ E 3 6 yX2_init wsX2_init rmX2_init 3 603 [.ref (eA E 2)] (wL w 2 2 [.null, .int 0, .null, .null, .null, .int 0, .int 0, .int 0] []) (fun w2 => w2 = wL w 2 2 [.null, .int 0, .ref (eA E 3), .ref (eA E 4), .ref (eA E 5), .int 0, .int 0, .int 0] [.inl (eC E 0, 201, .inl (fun _ => 0)), .inl (eC E 0, 201, .inl (fun _ => 0)), .inl (eC E 0, 201, .inl (fun _ => 0))]) := by
  refine CtVZ_of (cc := cX2_init) (nL := 1) RX2 [some (.ref (eA E 2))] ⟨rfl, rfl⟩ (by decide) rfl rfl (Nat.le_of_ble_eq_true rfl) ⟨0, rfl⟩ hE (fun Y hnm C hZ hQ => ?_)
  refine J_aload_0 C dX2_init_0 ?_
  refine J_objInit C dX2_init_1 (by decide +kernel : Cond.methodLink RX2 3 objectInit ∈ wsX2_init) (by decide +kernel : Cond.instanceMethod objectInit ∈ wsX2_init) (by decide +kernel : Cond.code objectInit ⟨#[0xb1]⟩ 1 none ∈ wsX2_init) (Nat.le_of_ble_eq_true rfl) (Nat.le_of_ble_eq_true rfl) (Nat.le_of_ble_eq_true rfl) ?_
  refine J_aload_0 C dX2_init_4 ?_
  refine J_sipush C (201) dX2_init_5 sc_201 ?_
  refine K_newa2 C .int 0 201 (201, .inl (fun _ => 0)) [.inl (eC E 0, 201, .inl (fun _ => 0))] (3) dX2_init_8 (by decide +kernel : Cond.arrayClass .int ∈ wsX2_init) rfl (fun _ _ => rfl) (fun _ => rfl) rfl (by decide) (by decide) (Nat.le_of_ble_eq_true rfl) (Nat.le_of_ble_eq_true rfl) rfl rfl rfl ?_
  refine K_put2 C [.null, .int 0, .ref (eA E 3), .null, .null, .int 0, .int 0, .int 0] 2 dX2_init_10 fX2_init_9 iX2_init_2 tyX2 tyX2_ok nmX2 rfl rfl (by decide) rfl rfl (hnm.trans rfl) rfl rfl (Nat.le_of_ble_eq_true rfl) rfl ?_
  refine J_aload_0 C dX2_init_13 ?_
  refine J_sipush C (201) dX2_init_14 sc_201 ?_
  refine K_newa2 C .int 0 201 (201, .inl (fun _ => 0)) [.inl (eC E 0, 201, .inl (fun _ => 0)), .inl (eC E 0, 201, .inl (fun _ => 0))] (4) dX2_init_17 (by decide +kernel : Cond.arrayClass .int ∈ wsX2_init) rfl (fun _ _ => rfl) (fun _ => rfl) rfl (by decide) (by decide) (Nat.le_of_ble_eq_true rfl) (Nat.le_of_ble_eq_true rfl) rfl rfl rfl ?_
  refine K_put2 C [.null, .int 0, .ref (eA E 3), .ref (eA E 4), .null, .int 0, .int 0, .int 0] 3 dX2_init_19 fX2_init_15 iX2_init_2 tyX2 tyX2_ok nmX2 rfl rfl (by decide) rfl rfl (hnm.trans rfl) rfl rfl (Nat.le_of_ble_eq_true rfl) rfl ?_
  refine J_aload_0 C dX2_init_22 ?_
  refine J_sipush C (201) dX2_init_23 sc_201 ?_
  refine K_newa2 C .int 0 201 (201, .inl (fun _ => 0)) [.inl (eC E 0, 201, .inl (fun _ => 0)), .inl (eC E 0, 201, .inl (fun _ => 0)), .inl (eC E 0, 201, .inl (fun _ => 0))] (5) dX2_init_26 (by decide +kernel : Cond.arrayClass .int ∈ wsX2_init) rfl (fun _ _ => rfl) (fun _ => rfl) rfl (by decide) (by decide) (Nat.le_of_ble_eq_true rfl) (Nat.le_of_ble_eq_true rfl) rfl rfl rfl ?_
  refine K_put2 C [.null, .int 0, .ref (eA E 3), .ref (eA E 4), .ref (eA E 5), .int 0, .int 0, .int 0] 4 dX2_init_28 fX2_init_18 iX2_init_2 tyX2 tyX2_ok nmX2 rfl rfl (by decide) rfl rfl (hnm.trans rfl) rfl rfl (Nat.le_of_ble_eq_true rfl) rfl ?_
  refine hQ _ _ _ dX2_init_31 ?_
  exact rfl
theorem wL_ne {w : Nat → va_E} {r ci : Nat} {fs : List Value} {a b : List va_E} {e e' : va_E} {l l' : List va_E} {k : Nat} (i : Nat) (hk : k ≠ r + 1 + i) (ha : l = (a ++ e :: b)) (hb : l' = (a ++ e' :: b)) (hi : a.length = i := by rfl) : wL w r ci fs l k = wL w r ci fs l' k := by
  subst ha
  subst hb
  rw [wL_eq, wL_eq]
  by_cases h3 : k < r
  · rw [if_pos h3, if_pos h3]
  · by_cases h4 : k = r
    · rw [if_neg h3, if_pos h4, if_neg h3, if_pos h4]
    · rw [if_neg h3, if_neg h4, if_neg h3, if_neg h4, List.getD_eq_getElem?_getD, List.getD_eq_getElem?_getD]
      by_cases h5 : k - r - 1 < a.length
      · rw [List.getElem?_append_left h5, List.getElem?_append_left h5]
      · rw [List.getElem?_append_right (by omega), List.getElem?_append_right (by omega), show k - r - 1 - a.length = (k - r - 1 - a.length - 1) + 1 by omega, List.getElem?_cons_succ, List.getElem?_cons_succ]
abbrev rmX4_init : Room := { frames := 1, cells := 10, slots := 1566, locals := 20 }
theorem fX4_init_15 : Cond.fieldLink RX4 15 RX4 (TX4 1).2.1 (TX4 1).2.2.1 ∈ wsX4_init := by decide +kernel
theorem fX4_init_19 : Cond.fieldLink RX4 19 RX4 (TX4 2).2.1 (TX4 2).2.2.1 ∈ wsX4_init := by decide +kernel
theorem fX4_init_22 : Cond.fieldLink RX4 22 RX4 (TX4 3).2.1 (TX4 3).2.2.1 ∈ wsX4_init := by decide +kernel
theorem fX4_init_29 : Cond.fieldLink RX4 29 RX4 (TX4 4).2.1 (TX4 4).2.2.1 ∈ wsX4_init := by decide +kernel
theorem fX4_init_9 : Cond.fieldLink RX4 9 RX4 (TX4 0).2.1 (TX4 0).2.2.1 ∈ wsX4_init := by decide +kernel
theorem iX4_init_4 : ∀ x ∈ wsX40, x ∈ wsX4_init := by decide +kernel
set_option maxRecDepth 100000 in
set_option maxHeartbeats 4000000 in
theorem c_X4_init (E : EN) (hE : ∀ k, eS E k = true → k < eN E)  (w : Nat → va_E) : CtVZ E 32 42 yX4_init wsX4_init rmX4_init 10 1566 [.ref (eA E 31)] (wL w 31 4 [.int 0, .null, .null, .null, .null] []) (fun w2 => w2 = wL w 31 4 [.int 0, .ref (eA E 32), .ref (eA E 33), .ref (eA E 34), .ref (eA E 35)] [.inl (eC E 0, 8, .inl (fun _ => 0)), .inl (eC E 0, 8, .inl (fun _ => 0)), .inl (eC E 0, 8, .inl (fun _ => 0)), .inl (eC E 4, 6, qRow (fun j => some (eA E (36 + j)))), .inl (eC E 1, 256, .inr (.inl (fun _ => 0))), .inl (eC E 1, 256, .inr (.inl (fun _ => 0))), .inl (eC E 1, 256, .inr (.inl (fun _ => 0))), .inl (eC E 1, 256, .inr (.inl (fun _ => 0))), .inl (eC E 1, 256, .inr (.inl (fun _ => 0))), .inl (eC E 1, 256, .inr (.inl (fun _ => 0)))]) := by
  refine CtVZ_of (cc := cX4_init) (nL := 1) RX4 [some (.ref (eA E 31))] ⟨rfl, rfl⟩ (by decide) rfl rfl (Nat.le_of_ble_eq_true rfl) ⟨0, rfl⟩ hE (fun Y hnm C hZ hQ => ?_)
  refine J_aload_0 C dX4_init_0 ?_
  refine J_objInit C dX4_init_1 (by decide +kernel : Cond.methodLink RX4 3 objectInit ∈ wsX4_init) (by decide +kernel : Cond.instanceMethod objectInit ∈ wsX4_init) (by decide +kernel : Cond.code objectInit ⟨#[0xb1]⟩ 1 none ∈ wsX4_init) (Nat.le_of_ble_eq_true rfl) (Nat.le_of_ble_eq_true rfl) (Nat.le_of_ble_eq_true rfl) ?_
  refine J_aload_0 C dX4_init_4 ?_
  refine J_iconst C (0) dX4_init_5 ic_0 ?_
  refine K_put2 C [.int 0, .null, .null, .null, .null] 0 dX4_init_6 fX4_init_9 iX4_init_4 tyX4 tyX4_ok nmX4 rfl rfl (by decide) rfl rfl (hnm.trans rfl) rfl rfl (Nat.le_of_ble_eq_true rfl) rfl ?_
  refine J_aload_0 C dX4_init_9 ?_
  refine J_bipush C (8) dX4_init_10 bc_8 ?_
  refine K_newa2 C .int 0 8 (8, .inl (fun _ => 0)) [.inl (eC E 0, 8, .inl (fun _ => 0))] (32) dX4_init_12 (by decide +kernel : Cond.arrayClass .int ∈ wsX4_init) rfl (fun _ _ => rfl) (fun _ => rfl) rfl (by decide) (by decide) (Nat.le_of_ble_eq_true rfl) (Nat.le_of_ble_eq_true rfl) rfl rfl rfl ?_
  refine K_put2 C [.int 0, .ref (eA E 32), .null, .null, .null] 1 dX4_init_14 fX4_init_15 iX4_init_4 tyX4 tyX4_ok nmX4 rfl rfl (by decide) rfl rfl (hnm.trans rfl) rfl rfl (Nat.le_of_ble_eq_true rfl) rfl ?_
  refine J_aload_0 C dX4_init_17 ?_
  refine J_bipush C (8) dX4_init_18 bc_8 ?_
  refine K_newa2 C .int 0 8 (8, .inl (fun _ => 0)) [.inl (eC E 0, 8, .inl (fun _ => 0)), .inl (eC E 0, 8, .inl (fun _ => 0))] (33) dX4_init_20 (by decide +kernel : Cond.arrayClass .int ∈ wsX4_init) rfl (fun _ _ => rfl) (fun _ => rfl) rfl (by decide) (by decide) (Nat.le_of_ble_eq_true rfl) (Nat.le_of_ble_eq_true rfl) rfl rfl rfl ?_
  refine K_put2 C [.int 0, .ref (eA E 32), .ref (eA E 33), .null, .null] 2 dX4_init_22 fX4_init_19 iX4_init_4 tyX4 tyX4_ok nmX4 rfl rfl (by decide) rfl rfl (hnm.trans rfl) rfl rfl (Nat.le_of_ble_eq_true rfl) rfl ?_
  refine J_aload_0 C dX4_init_25 ?_
  refine J_bipush C (8) dX4_init_26 bc_8 ?_
  refine K_newa2 C .int 0 8 (8, .inl (fun _ => 0)) [.inl (eC E 0, 8, .inl (fun _ => 0)), .inl (eC E 0, 8, .inl (fun _ => 0)), .inl (eC E 0, 8, .inl (fun _ => 0))] (34) dX4_init_28 (by decide +kernel : Cond.arrayClass .int ∈ wsX4_init) rfl (fun _ _ => rfl) (fun _ => rfl) rfl (by decide) (by decide) (Nat.le_of_ble_eq_true rfl) (Nat.le_of_ble_eq_true rfl) rfl rfl rfl ?_
  refine K_put2 C [.int 0, .ref (eA E 32), .ref (eA E 33), .ref (eA E 34), .null] 3 dX4_init_30 fX4_init_22 iX4_init_4 tyX4 tyX4_ok nmX4 rfl rfl (by decide) rfl rfl (hnm.trans rfl) rfl rfl (Nat.le_of_ble_eq_true rfl) rfl ?_
  refine J_aload_0 C dX4_init_33 ?_
  refine J_bipush C (6) dX4_init_34 bc_6 ?_
  refine J_sipush C (256) dX4_init_36 sc_256 ?_
  refine J_grid C hZ 6 256 dX4_init_39 (by decide +kernel) (by decide +kernel) (by decide) (by decide) (by decide) (by decide) (by decide) (by decide) (by decide) (Nat.le_of_ble_eq_true rfl) (Nat.le_of_ble_eq_true rfl) ?_
  refine J_wc (fun k hk => wG_wL (by first | rfl | simp) k hk) ?_
  have hq2 : (fun j => some (eA E (35 + 1 + j))) = (fun j => some (eA E (36 + j))) := rfl
  refine J_q 35 (eC E 4) 6 (fun j => if j < 6 then some (eA E (35 + 1 + j)) else none) (fun j => some (eA E (36 + j))) (wL_at 3 _ rfl) (w' := wL w 31 4 _ [.inl (eC E 0, 8, .inl (fun _ => 0)), .inl (eC E 0, 8, .inl (fun _ => 0)), .inl (eC E 0, 8, .inl (fun _ => 0)), .inl (eC E 4, 6, qRow (fun j => some (eA E (36 + j)))), .inl (eC E 1, 256, .inr (.inl (fun _ => 0))), .inl (eC E 1, 256, .inr (.inl (fun _ => 0))), .inl (eC E 1, 256, .inr (.inl (fun _ => 0))), .inl (eC E 1, 256, .inr (.inl (fun _ => 0))), .inl (eC E 1, 256, .inr (.inl (fun _ => 0))), .inl (eC E 1, 256, .inr (.inl (fun _ => 0)))]) (wL_at 3 _ rfl) (fun j hj => if_pos hj) (fun k hk hne => wL_ne 3 (by omega) (a := [.inl (eC E 0, 8, .inl (fun _ => 0)), .inl (eC E 0, 8, .inl (fun _ => 0)), .inl (eC E 0, 8, .inl (fun _ => 0))]) (b := [.inl (eC E 1, 256, .inr (.inl (fun _ => 0))), .inl (eC E 1, 256, .inr (.inl (fun _ => 0))), .inl (eC E 1, 256, .inr (.inl (fun _ => 0))), .inl (eC E 1, 256, .inr (.inl (fun _ => 0))), .inl (eC E 1, 256, .inr (.inl (fun _ => 0))), .inl (eC E 1, 256, .inr (.inl (fun _ => 0)))]) rfl rfl) ?_
  refine K_put2 C [.int 0, .ref (eA E 32), .ref (eA E 33), .ref (eA E 34), .ref (eA E 35)] 4 dX4_init_43 fX4_init_29 iX4_init_4 tyX4 tyX4_ok nmX4 rfl rfl (by decide) rfl rfl (hnm.trans rfl) rfl rfl (Nat.le_of_ble_eq_true rfl) rfl ?_
  refine hQ _ _ _ dX4_init_46 ?_
  exact rfl
