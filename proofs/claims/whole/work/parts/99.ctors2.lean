def eR (E : EN) (w : Nat → va_E) (r : Nat) : EN := (E.1, E.2.1, E.2.2.1, E.2.2.2.1, r + 7, (fun k => decide (r ≤ k ∧ k < r + 7)), w)
def eI (E : EN) (w : Nat → va_E) (n : Nat) : EN := (E.1, E.2.1, E.2.2.1, E.2.2.2.1, n, (fun k => decide (k < n)), w)
theorem Cx.eR {E : EN} {Y : YN} {cc : ByteArray} {nL : Nat} {own : String} {Ts : List Cond} {R : Room} (C : Cx E Y cc nL own Ts R) (w : Nat → va_E) (r : Nat) : Cx (eR E w r) Y cc nL own Ts R := ⟨C.1, C.2.1, C.2.2.1, C.2.2.2.1, C.2.2.2.2.1, C.2.2.2.2.2.1, C.2.2.2.2.2.2.1, C.2.2.2.2.2.2.2.1, C.2.2.2.2.2.2.2.2.1, fun k h => (of_decide_eq_true h).2⟩
theorem Cx.eI {E : EN} {Y : YN} {cc : ByteArray} {nL : Nat} {own : String} {Ts : List Cond} {R : Room} (C : Cx E Y cc nL own Ts R) (w : Nat → va_E) (n : Nat) : Cx (eI E w n) Y cc nL own Ts R := ⟨C.1, C.2.1, C.2.2.1, C.2.2.2.1, C.2.2.2.2.1, C.2.2.2.2.2.1, C.2.2.2.2.2.2.1, C.2.2.2.2.2.2.2.1, C.2.2.2.2.2.2.2.2.1, fun k h => of_decide_eq_true h⟩
theorem eR_s {E : EN} {w : Nat → va_E} {r k : Nat} (h : r ≤ k ∧ k < r + 7) : eS (eR E w r) k = true := decide_eq_true h
theorem eI_s {E : EN} {w : Nat → va_E} {n k : Nat} (h : k < n) : eS (eI E w n) k = true := decide_eq_true h
theorem J_eR {E : EN} {Y : YN} {N cs ss : Nat} {w w0 : Nat → va_E} {r : Nat} {pc : Nat} {lv : List (Option Value)} {st : List Value} (k : J (eR E w0 r) Y N cs ss w pc lv st) : J E Y N cs ss w pc lv st := k
theorem J_eI {E : EN} {Y : YN} {N cs ss : Nat} {w w0 : Nat → va_E} {n : Nat} {pc : Nat} {lv : List (Option Value)} {st : List Value} (k : J (eI E w0 n) Y N cs ss w pc lv st) : J E Y N cs ss w pc lv st := k
theorem J_eR2 {E : EN} {Y : YN} {N cs ss : Nat} {w w0 : Nat → va_E} {r : Nat} {pc : Nat} {lv : List (Option Value)} {st : List Value} (k : J E Y N cs ss w pc lv st) : J (eR E w0 r) Y N cs ss w pc lv st := k
theorem J_eI2 {E : EN} {Y : YN} {N cs ss : Nat} {w w0 : Nat → va_E} {n : Nat} {pc : Nat} {lv : List (Option Value)} {st : List Value} (k : J E Y N cs ss w pc lv st) : J (eI E w0 n) Y N cs ss w pc lv st := k
abbrev rmX6_init : Room := { frames := 1, cells := 19, slots := 1907, locals := 20 }
theorem fX6_init_13 : Cond.fieldLink RX6 13 RX6 (TX6 4).2.1 (TX6 4).2.2.1 ∈ wsX6_init := by decide +kernel
theorem fX6_init_16 : Cond.fieldLink RX6 16 RX6 (TX6 5).2.1 (TX6 5).2.2.1 ∈ wsX6_init := by decide +kernel
theorem fX6_init_19 : Cond.fieldLink RX6 19 RX6 (TX6 6).2.1 (TX6 6).2.2.1 ∈ wsX6_init := by decide +kernel
theorem fX6_init_22 : Cond.fieldLink RX6 22 RX6 (TX6 7).2.1 (TX6 7).2.2.1 ∈ wsX6_init := by decide +kernel
theorem fX6_init_25 : Cond.fieldLink RX6 25 RX6 (TX6 8).2.1 (TX6 8).2.2.1 ∈ wsX6_init := by decide +kernel
theorem fX6_init_29 : Cond.fieldLink RX6 29 RX6 (TX6 9).2.1 (TX6 9).2.2.1 ∈ wsX6_init := by decide +kernel
theorem fX6_init_32 : Cond.fieldLink RX6 32 RX6 (TX6 12).2.1 (TX6 12).2.2.1 ∈ wsX6_init := by decide +kernel
theorem fX6_init_35 : Cond.fieldLink RX6 35 RX6 (TX6 14).2.1 (TX6 14).2.2.1 ∈ wsX6_init := by decide +kernel
theorem fX6_init_38 : Cond.fieldLink RX6 38 RX6 (TX6 16).2.1 (TX6 16).2.2.1 ∈ wsX6_init := by decide +kernel
theorem fX6_init_41 : Cond.fieldLink RX6 41 RX6 (TX6 18).2.1 (TX6 18).2.2.1 ∈ wsX6_init := by decide +kernel
theorem fX6_init_44 : Cond.fieldLink RX6 44 RX6 (TX6 19).2.1 (TX6 19).2.2.1 ∈ wsX6_init := by decide +kernel
theorem fX6_init_47 : Cond.fieldLink RX6 47 RX6 (TX6 20).2.1 (TX6 20).2.2.1 ∈ wsX6_init := by decide +kernel
theorem fX6_init_50 : Cond.fieldLink RX6 50 RX6 (TX6 21).2.1 (TX6 21).2.2.1 ∈ wsX6_init := by decide +kernel
theorem fX6_init_53 : Cond.fieldLink RX6 53 RX6 (TX6 29).2.1 (TX6 29).2.2.1 ∈ wsX6_init := by decide +kernel
theorem fX6_init_56 : Cond.fieldLink RX6 56 RX6 (TX6 30).2.1 (TX6 30).2.2.1 ∈ wsX6_init := by decide +kernel
theorem fX6_init_59 : Cond.fieldLink RX6 59 RX6 (TX6 31).2.1 (TX6 31).2.2.1 ∈ wsX6_init := by decide +kernel
theorem fX6_init_62 : Cond.fieldLink RX6 62 RX6 (TX6 32).2.1 (TX6 32).2.2.1 ∈ wsX6_init := by decide +kernel
theorem fX6_init_65 : Cond.fieldLink RX6 65 RX6 (TX6 33).2.1 (TX6 33).2.2.1 ∈ wsX6_init := by decide +kernel
theorem fX6_init_68 : Cond.fieldLink RX6 68 RX6 (TX6 35).2.1 (TX6 35).2.2.1 ∈ wsX6_init := by decide +kernel
theorem fX6_init_7 : Cond.fieldLink RX6 7 RX6 (TX6 0).2.1 (TX6 0).2.2.1 ∈ wsX6_init := by decide +kernel
theorem fX6_init_72 : Cond.fieldLink RX6 72 RX6 (TX6 36).2.1 (TX6 36).2.2.1 ∈ wsX6_init := by decide +kernel
theorem fX6_init_75 : Cond.fieldLink RX6 75 RX6 (TX6 37).2.1 (TX6 37).2.2.1 ∈ wsX6_init := by decide +kernel
theorem fX6_init_79 : Cond.fieldLink RX6 79 RX6 (TX6 38).2.1 (TX6 38).2.2.1 ∈ wsX6_init := by decide +kernel
theorem iX6_init_6 : ∀ x ∈ wsX60, x ∈ wsX6_init := by decide +kernel
theorem bc_28 : (Int8.ofInt (28)).toInt32 = (28) := by decide
theorem bc_60 : (Int8.ofInt (60)).toInt32 = (60) := by decide
set_option maxRecDepth 100000 in
set_option maxHeartbeats 4000000 in
theorem c_X6_init (E : EN) (hE : ∀ k, eS E k = true → k < eN E)  (w : Nat → va_E) : CtVZ E 49 68 yX6_init wsX6_init rmX6_init 19 1907 [.ref (eA E 48)] (wL w 48 6 [.null, .int 0, .int 0, .int 0, .null, .null, .null, .null, .int 0, .int 0, .int 0, .int 0, .int 0, .int 0, .int 0, .int 0, .null, .int 0, .null, .null, .null, .null, .long 0, .int 0, .int 0, .int 0, .long 0, .int 0, .int 0, .null, .null, .null, .null, .null, .int 0, .null, .null, .null, .null] []) (fun w2 => w2 = wL w 48 6 [.ref (eA E 49), .int 0, .int 0, .int 0, .ref (eA E 50), .ref (eA E 51), .ref (eA E 52), .ref (eA E 53), .int 2, .int 5, .int 0, .int 0, .int 9, .int 0, .int 1, .int 0, .ref (eA E 54), .int 0, .ref (eA E 55), .ref (eA E 56), .ref (eA E 57), .ref (eA E 58), .long 0, .int 0, .int 0, .int 0, .long 0, .int 0, .int 0, .ref (eA E 59), .ref (eA E 60), .ref (eA E 61), .ref (eA E 62), .ref (eA E 63), .int 0, .ref (eA E 64), .ref (eA E 65), .ref (eA E 66), .ref (eA E 67)] [.inl (eC E 0, 200, .inl (fun _ => 0)), .inl (eC E 0, 7, .inl (fun _ => 0)), .inl (eC E 0, 7, .inl (fun _ => 0)), .inl (eC E 0, 7, .inl (fun _ => 0)), .inl (eC E 0, 7, .inl (fun _ => 0)), .inl (eC E 0, 20, .inl (fun _ => 0)), .inl (eC E 0, 8, .inl (fun _ => 0)), .inl (eC E 0, 8, .inl (fun _ => 0)), .inl (eC E 0, 8, .inl (fun _ => 0)), .inl (eC E 0, 60, .inl (fun _ => 0)), .inl (eC E 0, 28, .inl (fun _ => 0)), .inl (eC E 0, 7, .inl (fun _ => 0)), .inl (eC E 0, 4, .inl (fun _ => 0)), .inl (eC E 0, 256, .inl (fun _ => 0)), .inl (eC E 0, 256, .inl (fun _ => 0)), .inl (eC E 2, 256, .inl (fun _ => 0)), .inl (eC E 0, 256, .inl (fun _ => 0)), .inl (eC E 1, 256, .inr (.inl (fun _ => 0))), .inl (eC E 1, 256, .inr (.inl (fun _ => 0)))]) := by
  refine CtVZ_of (cc := cX6_init) (nL := 1) RX6 [some (.ref (eA E 48))] ⟨rfl, rfl⟩ (by decide) rfl rfl (Nat.le_of_ble_eq_true rfl) ⟨0, rfl⟩ hE (fun Y hnm C hZ hQ => ?_)
  refine J_aload_0 C dX6_init_0 ?_
  refine J_objInit C dX6_init_1 (by decide +kernel : Cond.methodLink RX6 1 objectInit ∈ wsX6_init) (by decide +kernel : Cond.instanceMethod objectInit ∈ wsX6_init) (by decide +kernel : Cond.code objectInit ⟨#[0xb1]⟩ 1 none ∈ wsX6_init) (Nat.le_of_ble_eq_true rfl) (Nat.le_of_ble_eq_true rfl) (Nat.le_of_ble_eq_true rfl) ?_
  refine J_aload_0 C dX6_init_4 ?_
  refine J_sipush C (200) dX6_init_5 sc_200 ?_
  refine K_newa2 C .int 0 200 (200, .inl (fun _ => 0)) [.inl (eC E 0, 200, .inl (fun _ => 0))] (49) dX6_init_8 (by decide +kernel : Cond.arrayClass .int ∈ wsX6_init) rfl (fun _ _ => rfl) (fun _ => rfl) rfl (by decide) (by decide) (Nat.le_of_ble_eq_true rfl) (Nat.le_of_ble_eq_true rfl) rfl rfl rfl ?_
  refine K_put2 C [.ref (eA E 49), .int 0, .int 0, .int 0, .null, .null, .null, .null, .int 0, .int 0, .int 0, .int 0, .int 0, .int 0, .int 0, .int 0, .null, .int 0, .null, .null, .null, .null, .long 0, .int 0, .int 0, .int 0, .long 0, .int 0, .int 0, .null, .null, .null, .null, .null, .int 0, .null, .null, .null, .null] 0 dX6_init_10 fX6_init_7 iX6_init_6 tyX6 tyX6_ok nmX6 rfl rfl (by decide) rfl rfl (hnm.trans rfl) rfl rfl (Nat.le_of_ble_eq_true rfl) rfl ?_
  refine J_aload_0 C dX6_init_13 ?_
  refine J_bipush C (7) dX6_init_14 bc_7 ?_
  refine K_newa2 C .int 0 7 (7, .inl (fun _ => 0)) [.inl (eC E 0, 200, .inl (fun _ => 0)), .inl (eC E 0, 7, .inl (fun _ => 0))] (50) dX6_init_16 (by decide +kernel : Cond.arrayClass .int ∈ wsX6_init) rfl (fun _ _ => rfl) (fun _ => rfl) rfl (by decide) (by decide) (Nat.le_of_ble_eq_true rfl) (Nat.le_of_ble_eq_true rfl) rfl rfl rfl ?_
  refine K_put2 C [.ref (eA E 49), .int 0, .int 0, .int 0, .ref (eA E 50), .null, .null, .null, .int 0, .int 0, .int 0, .int 0, .int 0, .int 0, .int 0, .int 0, .null, .int 0, .null, .null, .null, .null, .long 0, .int 0, .int 0, .int 0, .long 0, .int 0, .int 0, .null, .null, .null, .null, .null, .int 0, .null, .null, .null, .null] 4 dX6_init_18 fX6_init_13 iX6_init_6 tyX6 tyX6_ok nmX6 rfl rfl (by decide) rfl rfl (hnm.trans rfl) rfl rfl (Nat.le_of_ble_eq_true rfl) rfl ?_
  refine J_aload_0 C dX6_init_21 ?_
  refine J_bipush C (7) dX6_init_22 bc_7 ?_
  refine K_newa2 C .int 0 7 (7, .inl (fun _ => 0)) [.inl (eC E 0, 200, .inl (fun _ => 0)), .inl (eC E 0, 7, .inl (fun _ => 0)), .inl (eC E 0, 7, .inl (fun _ => 0))] (51) dX6_init_24 (by decide +kernel : Cond.arrayClass .int ∈ wsX6_init) rfl (fun _ _ => rfl) (fun _ => rfl) rfl (by decide) (by decide) (Nat.le_of_ble_eq_true rfl) (Nat.le_of_ble_eq_true rfl) rfl rfl rfl ?_
  refine K_put2 C [.ref (eA E 49), .int 0, .int 0, .int 0, .ref (eA E 50), .ref (eA E 51), .null, .null, .int 0, .int 0, .int 0, .int 0, .int 0, .int 0, .int 0, .int 0, .null, .int 0, .null, .null, .null, .null, .long 0, .int 0, .int 0, .int 0, .long 0, .int 0, .int 0, .null, .null, .null, .null, .null, .int 0, .null, .null, .null, .null] 5 dX6_init_26 fX6_init_16 iX6_init_6 tyX6 tyX6_ok nmX6 rfl rfl (by decide) rfl rfl (hnm.trans rfl) rfl rfl (Nat.le_of_ble_eq_true rfl) rfl ?_
  refine J_aload_0 C dX6_init_29 ?_
  refine J_bipush C (7) dX6_init_30 bc_7 ?_
  refine K_newa2 C .int 0 7 (7, .inl (fun _ => 0)) [.inl (eC E 0, 200, .inl (fun _ => 0)), .inl (eC E 0, 7, .inl (fun _ => 0)), .inl (eC E 0, 7, .inl (fun _ => 0)), .inl (eC E 0, 7, .inl (fun _ => 0))] (52) dX6_init_32 (by decide +kernel : Cond.arrayClass .int ∈ wsX6_init) rfl (fun _ _ => rfl) (fun _ => rfl) rfl (by decide) (by decide) (Nat.le_of_ble_eq_true rfl) (Nat.le_of_ble_eq_true rfl) rfl rfl rfl ?_
  refine K_put2 C [.ref (eA E 49), .int 0, .int 0, .int 0, .ref (eA E 50), .ref (eA E 51), .ref (eA E 52), .null, .int 0, .int 0, .int 0, .int 0, .int 0, .int 0, .int 0, .int 0, .null, .int 0, .null, .null, .null, .null, .long 0, .int 0, .int 0, .int 0, .long 0, .int 0, .int 0, .null, .null, .null, .null, .null, .int 0, .null, .null, .null, .null] 6 dX6_init_34 fX6_init_19 iX6_init_6 tyX6 tyX6_ok nmX6 rfl rfl (by decide) rfl rfl (hnm.trans rfl) rfl rfl (Nat.le_of_ble_eq_true rfl) rfl ?_
  refine J_aload_0 C dX6_init_37 ?_
  refine J_bipush C (7) dX6_init_38 bc_7 ?_
  refine K_newa2 C .int 0 7 (7, .inl (fun _ => 0)) [.inl (eC E 0, 200, .inl (fun _ => 0)), .inl (eC E 0, 7, .inl (fun _ => 0)), .inl (eC E 0, 7, .inl (fun _ => 0)), .inl (eC E 0, 7, .inl (fun _ => 0)), .inl (eC E 0, 7, .inl (fun _ => 0))] (53) dX6_init_40 (by decide +kernel : Cond.arrayClass .int ∈ wsX6_init) rfl (fun _ _ => rfl) (fun _ => rfl) rfl (by decide) (by decide) (Nat.le_of_ble_eq_true rfl) (Nat.le_of_ble_eq_true rfl) rfl rfl rfl ?_
  refine K_put2 C [.ref (eA E 49), .int 0, .int 0, .int 0, .ref (eA E 50), .ref (eA E 51), .ref (eA E 52), .ref (eA E 53), .int 0, .int 0, .int 0, .int 0, .int 0, .int 0, .int 0, .int 0, .null, .int 0, .null, .null, .null, .null, .long 0, .int 0, .int 0, .int 0, .long 0, .int 0, .int 0, .null, .null, .null, .null, .null, .int 0, .null, .null, .null, .null] 7 dX6_init_42 fX6_init_22 iX6_init_6 tyX6 tyX6_ok nmX6 rfl rfl (by decide) rfl rfl (hnm.trans rfl) rfl rfl (Nat.le_of_ble_eq_true rfl) rfl ?_
  refine J_aload_0 C dX6_init_45 ?_
  refine J_iconst C (2) dX6_init_46 ic_2 ?_
  refine K_put2 C [.ref (eA E 49), .int 0, .int 0, .int 0, .ref (eA E 50), .ref (eA E 51), .ref (eA E 52), .ref (eA E 53), .int 2, .int 0, .int 0, .int 0, .int 0, .int 0, .int 0, .int 0, .null, .int 0, .null, .null, .null, .null, .long 0, .int 0, .int 0, .int 0, .long 0, .int 0, .int 0, .null, .null, .null, .null, .null, .int 0, .null, .null, .null, .null] 8 dX6_init_47 fX6_init_25 iX6_init_6 tyX6 tyX6_ok nmX6 rfl rfl (by decide) rfl rfl (hnm.trans rfl) rfl rfl (Nat.le_of_ble_eq_true rfl) rfl ?_
  refine J_aload_0 C dX6_init_50 ?_
  refine J_iconst C (5) dX6_init_51 ic_5 ?_
  refine K_put2 C [.ref (eA E 49), .int 0, .int 0, .int 0, .ref (eA E 50), .ref (eA E 51), .ref (eA E 52), .ref (eA E 53), .int 2, .int 5, .int 0, .int 0, .int 0, .int 0, .int 0, .int 0, .null, .int 0, .null, .null, .null, .null, .long 0, .int 0, .int 0, .int 0, .long 0, .int 0, .int 0, .null, .null, .null, .null, .null, .int 0, .null, .null, .null, .null] 9 dX6_init_52 fX6_init_29 iX6_init_6 tyX6 tyX6_ok nmX6 rfl rfl (by decide) rfl rfl (hnm.trans rfl) rfl rfl (Nat.le_of_ble_eq_true rfl) rfl ?_
  refine J_aload_0 C dX6_init_55 ?_
  refine J_bipush C (9) dX6_init_56 bc_9 ?_
  refine K_put2 C [.ref (eA E 49), .int 0, .int 0, .int 0, .ref (eA E 50), .ref (eA E 51), .ref (eA E 52), .ref (eA E 53), .int 2, .int 5, .int 0, .int 0, .int 9, .int 0, .int 0, .int 0, .null, .int 0, .null, .null, .null, .null, .long 0, .int 0, .int 0, .int 0, .long 0, .int 0, .int 0, .null, .null, .null, .null, .null, .int 0, .null, .null, .null, .null] 12 dX6_init_58 fX6_init_32 iX6_init_6 tyX6 tyX6_ok nmX6 rfl rfl (by decide) rfl rfl (hnm.trans rfl) rfl rfl (Nat.le_of_ble_eq_true rfl) rfl ?_
  refine J_aload_0 C dX6_init_61 ?_
  refine J_iconst C (1) dX6_init_62 ic_1 ?_
  refine K_put2 C [.ref (eA E 49), .int 0, .int 0, .int 0, .ref (eA E 50), .ref (eA E 51), .ref (eA E 52), .ref (eA E 53), .int 2, .int 5, .int 0, .int 0, .int 9, .int 0, .int 1, .int 0, .null, .int 0, .null, .null, .null, .null, .long 0, .int 0, .int 0, .int 0, .long 0, .int 0, .int 0, .null, .null, .null, .null, .null, .int 0, .null, .null, .null, .null] 14 dX6_init_63 fX6_init_35 iX6_init_6 tyX6 tyX6_ok nmX6 rfl rfl (by decide) rfl rfl (hnm.trans rfl) rfl rfl (Nat.le_of_ble_eq_true rfl) rfl ?_
  refine J_aload_0 C dX6_init_66 ?_
  refine J_bipush C (20) dX6_init_67 bc_20 ?_
  refine K_newa2 C .int 0 20 (20, .inl (fun _ => 0)) [.inl (eC E 0, 200, .inl (fun _ => 0)), .inl (eC E 0, 7, .inl (fun _ => 0)), .inl (eC E 0, 7, .inl (fun _ => 0)), .inl (eC E 0, 7, .inl (fun _ => 0)), .inl (eC E 0, 7, .inl (fun _ => 0)), .inl (eC E 0, 20, .inl (fun _ => 0))] (54) dX6_init_69 (by decide +kernel : Cond.arrayClass .int ∈ wsX6_init) rfl (fun _ _ => rfl) (fun _ => rfl) rfl (by decide) (by decide) (Nat.le_of_ble_eq_true rfl) (Nat.le_of_ble_eq_true rfl) rfl rfl rfl ?_
  refine K_put2 C [.ref (eA E 49), .int 0, .int 0, .int 0, .ref (eA E 50), .ref (eA E 51), .ref (eA E 52), .ref (eA E 53), .int 2, .int 5, .int 0, .int 0, .int 9, .int 0, .int 1, .int 0, .ref (eA E 54), .int 0, .null, .null, .null, .null, .long 0, .int 0, .int 0, .int 0, .long 0, .int 0, .int 0, .null, .null, .null, .null, .null, .int 0, .null, .null, .null, .null] 16 dX6_init_71 fX6_init_38 iX6_init_6 tyX6 tyX6_ok nmX6 rfl rfl (by decide) rfl rfl (hnm.trans rfl) rfl rfl (Nat.le_of_ble_eq_true rfl) rfl ?_
  refine J_aload_0 C dX6_init_74 ?_
  refine J_bipush C (8) dX6_init_75 bc_8 ?_
  refine K_newa2 C .int 0 8 (8, .inl (fun _ => 0)) [.inl (eC E 0, 200, .inl (fun _ => 0)), .inl (eC E 0, 7, .inl (fun _ => 0)), .inl (eC E 0, 7, .inl (fun _ => 0)), .inl (eC E 0, 7, .inl (fun _ => 0)), .inl (eC E 0, 7, .inl (fun _ => 0)), .inl (eC E 0, 20, .inl (fun _ => 0)), .inl (eC E 0, 8, .inl (fun _ => 0))] (55) dX6_init_77 (by decide +kernel : Cond.arrayClass .int ∈ wsX6_init) rfl (fun _ _ => rfl) (fun _ => rfl) rfl (by decide) (by decide) (Nat.le_of_ble_eq_true rfl) (Nat.le_of_ble_eq_true rfl) rfl rfl rfl ?_
  refine K_put2 C [.ref (eA E 49), .int 0, .int 0, .int 0, .ref (eA E 50), .ref (eA E 51), .ref (eA E 52), .ref (eA E 53), .int 2, .int 5, .int 0, .int 0, .int 9, .int 0, .int 1, .int 0, .ref (eA E 54), .int 0, .ref (eA E 55), .null, .null, .null, .long 0, .int 0, .int 0, .int 0, .long 0, .int 0, .int 0, .null, .null, .null, .null, .null, .int 0, .null, .null, .null, .null] 18 dX6_init_79 fX6_init_41 iX6_init_6 tyX6 tyX6_ok nmX6 rfl rfl (by decide) rfl rfl (hnm.trans rfl) rfl rfl (Nat.le_of_ble_eq_true rfl) rfl ?_
  refine J_aload_0 C dX6_init_82 ?_
  refine J_bipush C (8) dX6_init_83 bc_8 ?_
  refine K_newa2 C .int 0 8 (8, .inl (fun _ => 0)) [.inl (eC E 0, 200, .inl (fun _ => 0)), .inl (eC E 0, 7, .inl (fun _ => 0)), .inl (eC E 0, 7, .inl (fun _ => 0)), .inl (eC E 0, 7, .inl (fun _ => 0)), .inl (eC E 0, 7, .inl (fun _ => 0)), .inl (eC E 0, 20, .inl (fun _ => 0)), .inl (eC E 0, 8, .inl (fun _ => 0)), .inl (eC E 0, 8, .inl (fun _ => 0))] (56) dX6_init_85 (by decide +kernel : Cond.arrayClass .int ∈ wsX6_init) rfl (fun _ _ => rfl) (fun _ => rfl) rfl (by decide) (by decide) (Nat.le_of_ble_eq_true rfl) (Nat.le_of_ble_eq_true rfl) rfl rfl rfl ?_
  refine K_put2 C [.ref (eA E 49), .int 0, .int 0, .int 0, .ref (eA E 50), .ref (eA E 51), .ref (eA E 52), .ref (eA E 53), .int 2, .int 5, .int 0, .int 0, .int 9, .int 0, .int 1, .int 0, .ref (eA E 54), .int 0, .ref (eA E 55), .ref (eA E 56), .null, .null, .long 0, .int 0, .int 0, .int 0, .long 0, .int 0, .int 0, .null, .null, .null, .null, .null, .int 0, .null, .null, .null, .null] 19 dX6_init_87 fX6_init_44 iX6_init_6 tyX6 tyX6_ok nmX6 rfl rfl (by decide) rfl rfl (hnm.trans rfl) rfl rfl (Nat.le_of_ble_eq_true rfl) rfl ?_
  refine J_aload_0 C dX6_init_90 ?_
  refine J_bipush C (8) dX6_init_91 bc_8 ?_
  refine K_newa2 C .int 0 8 (8, .inl (fun _ => 0)) [.inl (eC E 0, 200, .inl (fun _ => 0)), .inl (eC E 0, 7, .inl (fun _ => 0)), .inl (eC E 0, 7, .inl (fun _ => 0)), .inl (eC E 0, 7, .inl (fun _ => 0)), .inl (eC E 0, 7, .inl (fun _ => 0)), .inl (eC E 0, 20, .inl (fun _ => 0)), .inl (eC E 0, 8, .inl (fun _ => 0)), .inl (eC E 0, 8, .inl (fun _ => 0)), .inl (eC E 0, 8, .inl (fun _ => 0))] (57) dX6_init_93 (by decide +kernel : Cond.arrayClass .int ∈ wsX6_init) rfl (fun _ _ => rfl) (fun _ => rfl) rfl (by decide) (by decide) (Nat.le_of_ble_eq_true rfl) (Nat.le_of_ble_eq_true rfl) rfl rfl rfl ?_
  refine K_put2 C [.ref (eA E 49), .int 0, .int 0, .int 0, .ref (eA E 50), .ref (eA E 51), .ref (eA E 52), .ref (eA E 53), .int 2, .int 5, .int 0, .int 0, .int 9, .int 0, .int 1, .int 0, .ref (eA E 54), .int 0, .ref (eA E 55), .ref (eA E 56), .ref (eA E 57), .null, .long 0, .int 0, .int 0, .int 0, .long 0, .int 0, .int 0, .null, .null, .null, .null, .null, .int 0, .null, .null, .null, .null] 20 dX6_init_95 fX6_init_47 iX6_init_6 tyX6 tyX6_ok nmX6 rfl rfl (by decide) rfl rfl (hnm.trans rfl) rfl rfl (Nat.le_of_ble_eq_true rfl) rfl ?_
  refine J_aload_0 C dX6_init_98 ?_
  refine J_bipush C (60) dX6_init_99 bc_60 ?_
  refine K_newa2 C .int 0 60 (60, .inl (fun _ => 0)) [.inl (eC E 0, 200, .inl (fun _ => 0)), .inl (eC E 0, 7, .inl (fun _ => 0)), .inl (eC E 0, 7, .inl (fun _ => 0)), .inl (eC E 0, 7, .inl (fun _ => 0)), .inl (eC E 0, 7, .inl (fun _ => 0)), .inl (eC E 0, 20, .inl (fun _ => 0)), .inl (eC E 0, 8, .inl (fun _ => 0)), .inl (eC E 0, 8, .inl (fun _ => 0)), .inl (eC E 0, 8, .inl (fun _ => 0)), .inl (eC E 0, 60, .inl (fun _ => 0))] (58) dX6_init_101 (by decide +kernel : Cond.arrayClass .int ∈ wsX6_init) rfl (fun _ _ => rfl) (fun _ => rfl) rfl (by decide) (by decide) (Nat.le_of_ble_eq_true rfl) (Nat.le_of_ble_eq_true rfl) rfl rfl rfl ?_
  refine K_put2 C [.ref (eA E 49), .int 0, .int 0, .int 0, .ref (eA E 50), .ref (eA E 51), .ref (eA E 52), .ref (eA E 53), .int 2, .int 5, .int 0, .int 0, .int 9, .int 0, .int 1, .int 0, .ref (eA E 54), .int 0, .ref (eA E 55), .ref (eA E 56), .ref (eA E 57), .ref (eA E 58), .long 0, .int 0, .int 0, .int 0, .long 0, .int 0, .int 0, .null, .null, .null, .null, .null, .int 0, .null, .null, .null, .null] 21 dX6_init_103 fX6_init_50 iX6_init_6 tyX6 tyX6_ok nmX6 rfl rfl (by decide) rfl rfl (hnm.trans rfl) rfl rfl (Nat.le_of_ble_eq_true rfl) rfl ?_
  refine J_aload_0 C dX6_init_106 ?_
  refine J_bipush C (28) dX6_init_107 bc_28 ?_
  refine K_newa2 C .int 0 28 (28, .inl (fun _ => 0)) [.inl (eC E 0, 200, .inl (fun _ => 0)), .inl (eC E 0, 7, .inl (fun _ => 0)), .inl (eC E 0, 7, .inl (fun _ => 0)), .inl (eC E 0, 7, .inl (fun _ => 0)), .inl (eC E 0, 7, .inl (fun _ => 0)), .inl (eC E 0, 20, .inl (fun _ => 0)), .inl (eC E 0, 8, .inl (fun _ => 0)), .inl (eC E 0, 8, .inl (fun _ => 0)), .inl (eC E 0, 8, .inl (fun _ => 0)), .inl (eC E 0, 60, .inl (fun _ => 0)), .inl (eC E 0, 28, .inl (fun _ => 0))] (59) dX6_init_109 (by decide +kernel : Cond.arrayClass .int ∈ wsX6_init) rfl (fun _ _ => rfl) (fun _ => rfl) rfl (by decide) (by decide) (Nat.le_of_ble_eq_true rfl) (Nat.le_of_ble_eq_true rfl) rfl rfl rfl ?_
  refine K_put2 C [.ref (eA E 49), .int 0, .int 0, .int 0, .ref (eA E 50), .ref (eA E 51), .ref (eA E 52), .ref (eA E 53), .int 2, .int 5, .int 0, .int 0, .int 9, .int 0, .int 1, .int 0, .ref (eA E 54), .int 0, .ref (eA E 55), .ref (eA E 56), .ref (eA E 57), .ref (eA E 58), .long 0, .int 0, .int 0, .int 0, .long 0, .int 0, .int 0, .ref (eA E 59), .null, .null, .null, .null, .int 0, .null, .null, .null, .null] 29 dX6_init_111 fX6_init_53 iX6_init_6 tyX6 tyX6_ok nmX6 rfl rfl (by decide) rfl rfl (hnm.trans rfl) rfl rfl (Nat.le_of_ble_eq_true rfl) rfl ?_
  refine J_aload_0 C dX6_init_114 ?_
  refine J_bipush C (7) dX6_init_115 bc_7 ?_
  refine K_newa2 C .int 0 7 (7, .inl (fun _ => 0)) [.inl (eC E 0, 200, .inl (fun _ => 0)), .inl (eC E 0, 7, .inl (fun _ => 0)), .inl (eC E 0, 7, .inl (fun _ => 0)), .inl (eC E 0, 7, .inl (fun _ => 0)), .inl (eC E 0, 7, .inl (fun _ => 0)), .inl (eC E 0, 20, .inl (fun _ => 0)), .inl (eC E 0, 8, .inl (fun _ => 0)), .inl (eC E 0, 8, .inl (fun _ => 0)), .inl (eC E 0, 8, .inl (fun _ => 0)), .inl (eC E 0, 60, .inl (fun _ => 0)), .inl (eC E 0, 28, .inl (fun _ => 0)), .inl (eC E 0, 7, .inl (fun _ => 0))] (60) dX6_init_117 (by decide +kernel : Cond.arrayClass .int ∈ wsX6_init) rfl (fun _ _ => rfl) (fun _ => rfl) rfl (by decide) (by decide) (Nat.le_of_ble_eq_true rfl) (Nat.le_of_ble_eq_true rfl) rfl rfl rfl ?_
  refine K_put2 C [.ref (eA E 49), .int 0, .int 0, .int 0, .ref (eA E 50), .ref (eA E 51), .ref (eA E 52), .ref (eA E 53), .int 2, .int 5, .int 0, .int 0, .int 9, .int 0, .int 1, .int 0, .ref (eA E 54), .int 0, .ref (eA E 55), .ref (eA E 56), .ref (eA E 57), .ref (eA E 58), .long 0, .int 0, .int 0, .int 0, .long 0, .int 0, .int 0, .ref (eA E 59), .ref (eA E 60), .null, .null, .null, .int 0, .null, .null, .null, .null] 30 dX6_init_119 fX6_init_56 iX6_init_6 tyX6 tyX6_ok nmX6 rfl rfl (by decide) rfl rfl (hnm.trans rfl) rfl rfl (Nat.le_of_ble_eq_true rfl) rfl ?_
  refine J_aload_0 C dX6_init_122 ?_
  refine J_iconst C (4) dX6_init_123 ic_4 ?_
  refine K_newa2 C .int 0 4 (4, .inl (fun _ => 0)) [.inl (eC E 0, 200, .inl (fun _ => 0)), .inl (eC E 0, 7, .inl (fun _ => 0)), .inl (eC E 0, 7, .inl (fun _ => 0)), .inl (eC E 0, 7, .inl (fun _ => 0)), .inl (eC E 0, 7, .inl (fun _ => 0)), .inl (eC E 0, 20, .inl (fun _ => 0)), .inl (eC E 0, 8, .inl (fun _ => 0)), .inl (eC E 0, 8, .inl (fun _ => 0)), .inl (eC E 0, 8, .inl (fun _ => 0)), .inl (eC E 0, 60, .inl (fun _ => 0)), .inl (eC E 0, 28, .inl (fun _ => 0)), .inl (eC E 0, 7, .inl (fun _ => 0)), .inl (eC E 0, 4, .inl (fun _ => 0))] (61) dX6_init_124 (by decide +kernel : Cond.arrayClass .int ∈ wsX6_init) rfl (fun _ _ => rfl) (fun _ => rfl) rfl (by decide) (by decide) (Nat.le_of_ble_eq_true rfl) (Nat.le_of_ble_eq_true rfl) rfl rfl rfl ?_
  refine K_put2 C [.ref (eA E 49), .int 0, .int 0, .int 0, .ref (eA E 50), .ref (eA E 51), .ref (eA E 52), .ref (eA E 53), .int 2, .int 5, .int 0, .int 0, .int 9, .int 0, .int 1, .int 0, .ref (eA E 54), .int 0, .ref (eA E 55), .ref (eA E 56), .ref (eA E 57), .ref (eA E 58), .long 0, .int 0, .int 0, .int 0, .long 0, .int 0, .int 0, .ref (eA E 59), .ref (eA E 60), .ref (eA E 61), .null, .null, .int 0, .null, .null, .null, .null] 31 dX6_init_126 fX6_init_59 iX6_init_6 tyX6 tyX6_ok nmX6 rfl rfl (by decide) rfl rfl (hnm.trans rfl) rfl rfl (Nat.le_of_ble_eq_true rfl) rfl ?_
  refine J_aload_0 C dX6_init_129 ?_
  refine J_sipush C (256) dX6_init_130 sc_256 ?_
  refine K_newa2 C .int 0 256 (256, .inl (fun _ => 0)) [.inl (eC E 0, 200, .inl (fun _ => 0)), .inl (eC E 0, 7, .inl (fun _ => 0)), .inl (eC E 0, 7, .inl (fun _ => 0)), .inl (eC E 0, 7, .inl (fun _ => 0)), .inl (eC E 0, 7, .inl (fun _ => 0)), .inl (eC E 0, 20, .inl (fun _ => 0)), .inl (eC E 0, 8, .inl (fun _ => 0)), .inl (eC E 0, 8, .inl (fun _ => 0)), .inl (eC E 0, 8, .inl (fun _ => 0)), .inl (eC E 0, 60, .inl (fun _ => 0)), .inl (eC E 0, 28, .inl (fun _ => 0)), .inl (eC E 0, 7, .inl (fun _ => 0)), .inl (eC E 0, 4, .inl (fun _ => 0)), .inl (eC E 0, 256, .inl (fun _ => 0))] (62) dX6_init_133 (by decide +kernel : Cond.arrayClass .int ∈ wsX6_init) rfl (fun _ _ => rfl) (fun _ => rfl) rfl (by decide) (by decide) (Nat.le_of_ble_eq_true rfl) (Nat.le_of_ble_eq_true rfl) rfl rfl rfl ?_
  refine K_put2 C [.ref (eA E 49), .int 0, .int 0, .int 0, .ref (eA E 50), .ref (eA E 51), .ref (eA E 52), .ref (eA E 53), .int 2, .int 5, .int 0, .int 0, .int 9, .int 0, .int 1, .int 0, .ref (eA E 54), .int 0, .ref (eA E 55), .ref (eA E 56), .ref (eA E 57), .ref (eA E 58), .long 0, .int 0, .int 0, .int 0, .long 0, .int 0, .int 0, .ref (eA E 59), .ref (eA E 60), .ref (eA E 61), .ref (eA E 62), .null, .int 0, .null, .null, .null, .null] 32 dX6_init_135 fX6_init_62 iX6_init_6 tyX6 tyX6_ok nmX6 rfl rfl (by decide) rfl rfl (hnm.trans rfl) rfl rfl (Nat.le_of_ble_eq_true rfl) rfl ?_
  refine J_aload_0 C dX6_init_138 ?_
  refine J_sipush C (256) dX6_init_139 sc_256 ?_
  refine K_newa2 C .int 0 256 (256, .inl (fun _ => 0)) [.inl (eC E 0, 200, .inl (fun _ => 0)), .inl (eC E 0, 7, .inl (fun _ => 0)), .inl (eC E 0, 7, .inl (fun _ => 0)), .inl (eC E 0, 7, .inl (fun _ => 0)), .inl (eC E 0, 7, .inl (fun _ => 0)), .inl (eC E 0, 20, .inl (fun _ => 0)), .inl (eC E 0, 8, .inl (fun _ => 0)), .inl (eC E 0, 8, .inl (fun _ => 0)), .inl (eC E 0, 8, .inl (fun _ => 0)), .inl (eC E 0, 60, .inl (fun _ => 0)), .inl (eC E 0, 28, .inl (fun _ => 0)), .inl (eC E 0, 7, .inl (fun _ => 0)), .inl (eC E 0, 4, .inl (fun _ => 0)), .inl (eC E 0, 256, .inl (fun _ => 0)), .inl (eC E 0, 256, .inl (fun _ => 0))] (63) dX6_init_142 (by decide +kernel : Cond.arrayClass .int ∈ wsX6_init) rfl (fun _ _ => rfl) (fun _ => rfl) rfl (by decide) (by decide) (Nat.le_of_ble_eq_true rfl) (Nat.le_of_ble_eq_true rfl) rfl rfl rfl ?_
  refine K_put2 C [.ref (eA E 49), .int 0, .int 0, .int 0, .ref (eA E 50), .ref (eA E 51), .ref (eA E 52), .ref (eA E 53), .int 2, .int 5, .int 0, .int 0, .int 9, .int 0, .int 1, .int 0, .ref (eA E 54), .int 0, .ref (eA E 55), .ref (eA E 56), .ref (eA E 57), .ref (eA E 58), .long 0, .int 0, .int 0, .int 0, .long 0, .int 0, .int 0, .ref (eA E 59), .ref (eA E 60), .ref (eA E 61), .ref (eA E 62), .ref (eA E 63), .int 0, .null, .null, .null, .null] 33 dX6_init_144 fX6_init_65 iX6_init_6 tyX6 tyX6_ok nmX6 rfl rfl (by decide) rfl rfl (hnm.trans rfl) rfl rfl (Nat.le_of_ble_eq_true rfl) rfl ?_
  refine J_aload_0 C dX6_init_147 ?_
  refine J_sipush C (256) dX6_init_148 sc_256 ?_
  refine K_newa2 C .boolean 2 256 (256, .inl (fun _ => 0)) [.inl (eC E 0, 200, .inl (fun _ => 0)), .inl (eC E 0, 7, .inl (fun _ => 0)), .inl (eC E 0, 7, .inl (fun _ => 0)), .inl (eC E 0, 7, .inl (fun _ => 0)), .inl (eC E 0, 7, .inl (fun _ => 0)), .inl (eC E 0, 20, .inl (fun _ => 0)), .inl (eC E 0, 8, .inl (fun _ => 0)), .inl (eC E 0, 8, .inl (fun _ => 0)), .inl (eC E 0, 8, .inl (fun _ => 0)), .inl (eC E 0, 60, .inl (fun _ => 0)), .inl (eC E 0, 28, .inl (fun _ => 0)), .inl (eC E 0, 7, .inl (fun _ => 0)), .inl (eC E 0, 4, .inl (fun _ => 0)), .inl (eC E 0, 256, .inl (fun _ => 0)), .inl (eC E 0, 256, .inl (fun _ => 0)), .inl (eC E 2, 256, .inl (fun _ => 0))] (64) dX6_init_151 (by decide +kernel : Cond.arrayClass .boolean ∈ wsX6_init) rfl (fun _ _ => rfl) (fun _ => rfl) rfl (by decide) (by decide) (Nat.le_of_ble_eq_true rfl) (Nat.le_of_ble_eq_true rfl) rfl rfl rfl ?_
  refine K_put2 C [.ref (eA E 49), .int 0, .int 0, .int 0, .ref (eA E 50), .ref (eA E 51), .ref (eA E 52), .ref (eA E 53), .int 2, .int 5, .int 0, .int 0, .int 9, .int 0, .int 1, .int 0, .ref (eA E 54), .int 0, .ref (eA E 55), .ref (eA E 56), .ref (eA E 57), .ref (eA E 58), .long 0, .int 0, .int 0, .int 0, .long 0, .int 0, .int 0, .ref (eA E 59), .ref (eA E 60), .ref (eA E 61), .ref (eA E 62), .ref (eA E 63), .int 0, .ref (eA E 64), .null, .null, .null] 35 dX6_init_153 fX6_init_68 iX6_init_6 tyX6 tyX6_ok nmX6 rfl rfl (by decide) rfl rfl (hnm.trans rfl) rfl rfl (Nat.le_of_ble_eq_true rfl) rfl ?_
  refine J_aload_0 C dX6_init_156 ?_
  refine J_sipush C (256) dX6_init_157 sc_256 ?_
  refine K_newa2 C .int 0 256 (256, .inl (fun _ => 0)) [.inl (eC E 0, 200, .inl (fun _ => 0)), .inl (eC E 0, 7, .inl (fun _ => 0)), .inl (eC E 0, 7, .inl (fun _ => 0)), .inl (eC E 0, 7, .inl (fun _ => 0)), .inl (eC E 0, 7, .inl (fun _ => 0)), .inl (eC E 0, 20, .inl (fun _ => 0)), .inl (eC E 0, 8, .inl (fun _ => 0)), .inl (eC E 0, 8, .inl (fun _ => 0)), .inl (eC E 0, 8, .inl (fun _ => 0)), .inl (eC E 0, 60, .inl (fun _ => 0)), .inl (eC E 0, 28, .inl (fun _ => 0)), .inl (eC E 0, 7, .inl (fun _ => 0)), .inl (eC E 0, 4, .inl (fun _ => 0)), .inl (eC E 0, 256, .inl (fun _ => 0)), .inl (eC E 0, 256, .inl (fun _ => 0)), .inl (eC E 2, 256, .inl (fun _ => 0)), .inl (eC E 0, 256, .inl (fun _ => 0))] (65) dX6_init_160 (by decide +kernel : Cond.arrayClass .int ∈ wsX6_init) rfl (fun _ _ => rfl) (fun _ => rfl) rfl (by decide) (by decide) (Nat.le_of_ble_eq_true rfl) (Nat.le_of_ble_eq_true rfl) rfl rfl rfl ?_
  refine K_put2 C [.ref (eA E 49), .int 0, .int 0, .int 0, .ref (eA E 50), .ref (eA E 51), .ref (eA E 52), .ref (eA E 53), .int 2, .int 5, .int 0, .int 0, .int 9, .int 0, .int 1, .int 0, .ref (eA E 54), .int 0, .ref (eA E 55), .ref (eA E 56), .ref (eA E 57), .ref (eA E 58), .long 0, .int 0, .int 0, .int 0, .long 0, .int 0, .int 0, .ref (eA E 59), .ref (eA E 60), .ref (eA E 61), .ref (eA E 62), .ref (eA E 63), .int 0, .ref (eA E 64), .ref (eA E 65), .null, .null] 36 dX6_init_162 fX6_init_72 iX6_init_6 tyX6 tyX6_ok nmX6 rfl rfl (by decide) rfl rfl (hnm.trans rfl) rfl rfl (Nat.le_of_ble_eq_true rfl) rfl ?_
  refine J_aload_0 C dX6_init_165 ?_
  refine J_sipush C (256) dX6_init_166 sc_256 ?_
  refine K_newa2 C .long 1 256 (256, .inr (.inl (fun _ => 0))) [.inl (eC E 0, 200, .inl (fun _ => 0)), .inl (eC E 0, 7, .inl (fun _ => 0)), .inl (eC E 0, 7, .inl (fun _ => 0)), .inl (eC E 0, 7, .inl (fun _ => 0)), .inl (eC E 0, 7, .inl (fun _ => 0)), .inl (eC E 0, 20, .inl (fun _ => 0)), .inl (eC E 0, 8, .inl (fun _ => 0)), .inl (eC E 0, 8, .inl (fun _ => 0)), .inl (eC E 0, 8, .inl (fun _ => 0)), .inl (eC E 0, 60, .inl (fun _ => 0)), .inl (eC E 0, 28, .inl (fun _ => 0)), .inl (eC E 0, 7, .inl (fun _ => 0)), .inl (eC E 0, 4, .inl (fun _ => 0)), .inl (eC E 0, 256, .inl (fun _ => 0)), .inl (eC E 0, 256, .inl (fun _ => 0)), .inl (eC E 2, 256, .inl (fun _ => 0)), .inl (eC E 0, 256, .inl (fun _ => 0)), .inl (eC E 1, 256, .inr (.inl (fun _ => 0)))] (66) dX6_init_169 (by decide +kernel : Cond.arrayClass .long ∈ wsX6_init) rfl (fun _ _ => rfl) (fun _ => rfl) rfl (by decide) (by decide) (Nat.le_of_ble_eq_true rfl) (Nat.le_of_ble_eq_true rfl) rfl rfl rfl ?_
  refine K_put2 C [.ref (eA E 49), .int 0, .int 0, .int 0, .ref (eA E 50), .ref (eA E 51), .ref (eA E 52), .ref (eA E 53), .int 2, .int 5, .int 0, .int 0, .int 9, .int 0, .int 1, .int 0, .ref (eA E 54), .int 0, .ref (eA E 55), .ref (eA E 56), .ref (eA E 57), .ref (eA E 58), .long 0, .int 0, .int 0, .int 0, .long 0, .int 0, .int 0, .ref (eA E 59), .ref (eA E 60), .ref (eA E 61), .ref (eA E 62), .ref (eA E 63), .int 0, .ref (eA E 64), .ref (eA E 65), .ref (eA E 66), .null] 37 dX6_init_171 fX6_init_75 iX6_init_6 tyX6 tyX6_ok nmX6 rfl rfl (by decide) rfl rfl (hnm.trans rfl) rfl rfl (Nat.le_of_ble_eq_true rfl) rfl ?_
  refine J_aload_0 C dX6_init_174 ?_
  refine J_sipush C (256) dX6_init_175 sc_256 ?_
  refine K_newa2 C .long 1 256 (256, .inr (.inl (fun _ => 0))) [.inl (eC E 0, 200, .inl (fun _ => 0)), .inl (eC E 0, 7, .inl (fun _ => 0)), .inl (eC E 0, 7, .inl (fun _ => 0)), .inl (eC E 0, 7, .inl (fun _ => 0)), .inl (eC E 0, 7, .inl (fun _ => 0)), .inl (eC E 0, 20, .inl (fun _ => 0)), .inl (eC E 0, 8, .inl (fun _ => 0)), .inl (eC E 0, 8, .inl (fun _ => 0)), .inl (eC E 0, 8, .inl (fun _ => 0)), .inl (eC E 0, 60, .inl (fun _ => 0)), .inl (eC E 0, 28, .inl (fun _ => 0)), .inl (eC E 0, 7, .inl (fun _ => 0)), .inl (eC E 0, 4, .inl (fun _ => 0)), .inl (eC E 0, 256, .inl (fun _ => 0)), .inl (eC E 0, 256, .inl (fun _ => 0)), .inl (eC E 2, 256, .inl (fun _ => 0)), .inl (eC E 0, 256, .inl (fun _ => 0)), .inl (eC E 1, 256, .inr (.inl (fun _ => 0))), .inl (eC E 1, 256, .inr (.inl (fun _ => 0)))] (67) dX6_init_178 (by decide +kernel : Cond.arrayClass .long ∈ wsX6_init) rfl (fun _ _ => rfl) (fun _ => rfl) rfl (by decide) (by decide) (Nat.le_of_ble_eq_true rfl) (Nat.le_of_ble_eq_true rfl) rfl rfl rfl ?_
  refine K_put2 C [.ref (eA E 49), .int 0, .int 0, .int 0, .ref (eA E 50), .ref (eA E 51), .ref (eA E 52), .ref (eA E 53), .int 2, .int 5, .int 0, .int 0, .int 9, .int 0, .int 1, .int 0, .ref (eA E 54), .int 0, .ref (eA E 55), .ref (eA E 56), .ref (eA E 57), .ref (eA E 58), .long 0, .int 0, .int 0, .int 0, .long 0, .int 0, .int 0, .ref (eA E 59), .ref (eA E 60), .ref (eA E 61), .ref (eA E 62), .ref (eA E 63), .int 0, .ref (eA E 64), .ref (eA E 65), .ref (eA E 66), .ref (eA E 67)] 38 dX6_init_180 fX6_init_79 iX6_init_6 tyX6 tyX6_ok nmX6 rfl rfl (by decide) rfl rfl (hnm.trans rfl) rfl rfl (Nat.le_of_ble_eq_true rfl) rfl ?_
  refine hQ _ _ _ dX6_init_183 ?_
  exact rfl
abbrev rmX3_init : Room := { frames := 1, cells := 6, slots := 284, locals := 23 }
theorem fX3_init_13 : Cond.fieldLink RX3 13 RX3 (TX3 8).2.1 (TX3 8).2.2.1 ∈ wsX3_init := by decide +kernel
theorem fX3_init_16 : Cond.fieldLink RX3 16 RX3 (TX3 9).2.1 (TX3 9).2.2.1 ∈ wsX3_init := by decide +kernel
theorem fX3_init_19 : Cond.fieldLink RX3 19 RX3 (TX3 10).2.1 (TX3 10).2.2.1 ∈ wsX3_init := by decide +kernel
theorem fX3_init_22 : Cond.fieldLink RX3 22 RX3 (TX3 13).2.1 (TX3 13).2.2.1 ∈ wsX3_init := by decide +kernel
theorem fX3_init_25 : Cond.fieldLink RX3 25 RX3 (TX3 14).2.1 (TX3 14).2.2.1 ∈ wsX3_init := by decide +kernel
theorem fX3_init_9 : Cond.fieldLink RX3 9 RX3 (TX3 7).2.1 (TX3 7).2.2.1 ∈ wsX3_init := by decide +kernel
theorem iX3_init_3 : ∀ x ∈ wsX30, x ∈ wsX3_init := by decide +kernel
set_option maxRecDepth 100000 in
set_option maxHeartbeats 4000000 in
theorem c_X3_init_6 (E : EN) (hE : ∀ k, eS E k = true → k < eN E)  (w : Nat → va_E) : CtVZ E 7 13 yX3_init wsX3_init rmX3_init 6 284 [.ref (eA E 6)] (wL w 6 3 [.int 0, .int 0, .int 0, .int 0, .int 0, .int 0, .int 0, .null, .null, .null, .null, .int 0, .int 0, .null, .null] []) (fun w2 => (∀ k, k < 6 → w2 k = w k) ∧ RvI E 6 w2) := by
  refine CtVZ_of (cc := cX3_init) (nL := 1) RX3 [some (.ref (eA E 6))] ⟨rfl, rfl⟩ (by decide) rfl rfl (Nat.le_of_ble_eq_true rfl) ⟨0, rfl⟩ hE (fun Y hnm C hZ hQ => ?_)
  refine J_aload_0 C dX3_init_0 ?_
  refine J_objInit C dX3_init_1 (by decide +kernel : Cond.methodLink RX3 3 objectInit ∈ wsX3_init) (by decide +kernel : Cond.instanceMethod objectInit ∈ wsX3_init) (by decide +kernel : Cond.code objectInit ⟨#[0xb1]⟩ 1 none ∈ wsX3_init) (Nat.le_of_ble_eq_true rfl) (Nat.le_of_ble_eq_true rfl) (Nat.le_of_ble_eq_true rfl) ?_
  refine J_aload_0 C dX3_init_4 ?_
  refine J_bipush C (7) dX3_init_5 bc_7 ?_
  refine K_newa2 C .int 0 7 (7, .inl (fun _ => 0)) [.inl (eC E 0, 7, .inl (fun _ => 0))] (7) dX3_init_7 (by decide +kernel : Cond.arrayClass .int ∈ wsX3_init) rfl (fun _ _ => rfl) (fun _ => rfl) rfl (by decide) (by decide) (Nat.le_of_ble_eq_true rfl) (Nat.le_of_ble_eq_true rfl) rfl rfl rfl ?_
  refine K_put2 C [.int 0, .int 0, .int 0, .int 0, .int 0, .int 0, .int 0, .ref (eA E 7), .null, .null, .null, .int 0, .int 0, .null, .null] 7 dX3_init_9 fX3_init_9 iX3_init_3 tyX3 tyX3_ok nmX3 rfl rfl (by decide) rfl rfl (hnm.trans rfl) rfl rfl (Nat.le_of_ble_eq_true rfl) rfl ?_
  refine J_aload_0 C dX3_init_12 ?_
  refine J_bipush C (7) dX3_init_13 bc_7 ?_
  refine K_newa2 C .int 0 7 (7, .inl (fun _ => 0)) [.inl (eC E 0, 7, .inl (fun _ => 0)), .inl (eC E 0, 7, .inl (fun _ => 0))] (8) dX3_init_15 (by decide +kernel : Cond.arrayClass .int ∈ wsX3_init) rfl (fun _ _ => rfl) (fun _ => rfl) rfl (by decide) (by decide) (Nat.le_of_ble_eq_true rfl) (Nat.le_of_ble_eq_true rfl) rfl rfl rfl ?_
  refine K_put2 C [.int 0, .int 0, .int 0, .int 0, .int 0, .int 0, .int 0, .ref (eA E 7), .ref (eA E 8), .null, .null, .int 0, .int 0, .null, .null] 8 dX3_init_17 fX3_init_13 iX3_init_3 tyX3 tyX3_ok nmX3 rfl rfl (by decide) rfl rfl (hnm.trans rfl) rfl rfl (Nat.le_of_ble_eq_true rfl) rfl ?_
  refine J_aload_0 C dX3_init_20 ?_
  refine J_bipush C (7) dX3_init_21 bc_7 ?_
  refine K_newa2 C .int 0 7 (7, .inl (fun _ => 0)) [.inl (eC E 0, 7, .inl (fun _ => 0)), .inl (eC E 0, 7, .inl (fun _ => 0)), .inl (eC E 0, 7, .inl (fun _ => 0))] (9) dX3_init_23 (by decide +kernel : Cond.arrayClass .int ∈ wsX3_init) rfl (fun _ _ => rfl) (fun _ => rfl) rfl (by decide) (by decide) (Nat.le_of_ble_eq_true rfl) (Nat.le_of_ble_eq_true rfl) rfl rfl rfl ?_
  refine K_put2 C [.int 0, .int 0, .int 0, .int 0, .int 0, .int 0, .int 0, .ref (eA E 7), .ref (eA E 8), .ref (eA E 9), .null, .int 0, .int 0, .null, .null] 9 dX3_init_25 fX3_init_16 iX3_init_3 tyX3 tyX3_ok nmX3 rfl rfl (by decide) rfl rfl (hnm.trans rfl) rfl rfl (Nat.le_of_ble_eq_true rfl) rfl ?_
  refine J_aload_0 C dX3_init_28 ?_
  refine J_bipush C (7) dX3_init_29 bc_7 ?_
  refine K_newa2 C .int 0 7 (7, .inl (fun _ => 0)) [.inl (eC E 0, 7, .inl (fun _ => 0)), .inl (eC E 0, 7, .inl (fun _ => 0)), .inl (eC E 0, 7, .inl (fun _ => 0)), .inl (eC E 0, 7, .inl (fun _ => 0))] (10) dX3_init_31 (by decide +kernel : Cond.arrayClass .int ∈ wsX3_init) rfl (fun _ _ => rfl) (fun _ => rfl) rfl (by decide) (by decide) (Nat.le_of_ble_eq_true rfl) (Nat.le_of_ble_eq_true rfl) rfl rfl rfl ?_
  refine K_put2 C [.int 0, .int 0, .int 0, .int 0, .int 0, .int 0, .int 0, .ref (eA E 7), .ref (eA E 8), .ref (eA E 9), .ref (eA E 10), .int 0, .int 0, .null, .null] 10 dX3_init_33 fX3_init_19 iX3_init_3 tyX3 tyX3_ok nmX3 rfl rfl (by decide) rfl rfl (hnm.trans rfl) rfl rfl (Nat.le_of_ble_eq_true rfl) rfl ?_
  refine J_aload_0 C dX3_init_36 ?_
  refine J_sipush C (128) dX3_init_37 sc_128 ?_
  refine K_newa2 C .int 0 128 (128, .inl (fun _ => 0)) [.inl (eC E 0, 7, .inl (fun _ => 0)), .inl (eC E 0, 7, .inl (fun _ => 0)), .inl (eC E 0, 7, .inl (fun _ => 0)), .inl (eC E 0, 7, .inl (fun _ => 0)), .inl (eC E 0, 128, .inl (fun _ => 0))] (11) dX3_init_40 (by decide +kernel : Cond.arrayClass .int ∈ wsX3_init) rfl (fun _ _ => rfl) (fun _ => rfl) rfl (by decide) (by decide) (Nat.le_of_ble_eq_true rfl) (Nat.le_of_ble_eq_true rfl) rfl rfl rfl ?_
  refine K_put2 C [.int 0, .int 0, .int 0, .int 0, .int 0, .int 0, .int 0, .ref (eA E 7), .ref (eA E 8), .ref (eA E 9), .ref (eA E 10), .int 0, .int 0, .ref (eA E 11), .null] 13 dX3_init_42 fX3_init_22 iX3_init_3 tyX3 tyX3_ok nmX3 rfl rfl (by decide) rfl rfl (hnm.trans rfl) rfl rfl (Nat.le_of_ble_eq_true rfl) rfl ?_
  refine J_aload_0 C dX3_init_45 ?_
  refine J_sipush C (128) dX3_init_46 sc_128 ?_
  refine K_newa2 C .boolean 2 128 (128, .inl (fun _ => 0)) [.inl (eC E 0, 7, .inl (fun _ => 0)), .inl (eC E 0, 7, .inl (fun _ => 0)), .inl (eC E 0, 7, .inl (fun _ => 0)), .inl (eC E 0, 7, .inl (fun _ => 0)), .inl (eC E 0, 128, .inl (fun _ => 0)), .inl (eC E 2, 128, .inl (fun _ => 0))] (12) dX3_init_49 (by decide +kernel : Cond.arrayClass .boolean ∈ wsX3_init) rfl (fun _ _ => rfl) (fun _ => rfl) rfl (by decide) (by decide) (Nat.le_of_ble_eq_true rfl) (Nat.le_of_ble_eq_true rfl) rfl rfl rfl ?_
  refine K_put2 C [.int 0, .int 0, .int 0, .int 0, .int 0, .int 0, .int 0, .ref (eA E 7), .ref (eA E 8), .ref (eA E 9), .ref (eA E 10), .int 0, .int 0, .ref (eA E 11), .ref (eA E 12)] 14 dX3_init_51 fX3_init_25 iX3_init_3 tyX3 tyX3_ok nmX3 rfl rfl (by decide) rfl rfl (hnm.trans rfl) rfl rfl (Nat.le_of_ble_eq_true rfl) rfl ?_
  have hw : ∀ k, k < 13 → wL w 6 3 [.int 0, .int 0, .int 0, .int 0, .int 0, .int 0, .int 0, .ref (eA E 7), .ref (eA E 8), .ref (eA E 9), .ref (eA E 10), .int 0, .int 0, .ref (eA E 11), .ref (eA E 12)] [.inl (eC E 0, 7, .inl (fun _ => 0)), .inl (eC E 0, 7, .inl (fun _ => 0)), .inl (eC E 0, 7, .inl (fun _ => 0)), .inl (eC E 0, 7, .inl (fun _ => 0)), .inl (eC E 0, 128, .inl (fun _ => 0)), .inl (eC E 2, 128, .inl (fun _ => 0))] k = wS (eR E w 6) (fun _ => 0) h0I (fun _ _ => 0) L0I k := fun k hk => by
    by_cases h6 : k < 6
    · rw [wL_lt h6]
      unfold wS
      rw [if_neg (by show ¬ decide (6 ≤ k ∧ k < 6 + 7) = true; simp; omega)]
      rfl
    · rcases (show k = 6 ∨ k = 7 ∨ k = 8 ∨ k = 9 ∨ k = 10 ∨ k = 11 ∨ k = 12 by omega) with rfl | rfl | rfl | rfl | rfl | rfl | rfl
      · exact wL_r.trans (wS_obj (E := eR E w 6) (g := fun _ => 0) (h := h0I) (T := fun _ _ => 0) (L := L0I) (k := 6) (ci := 3) rfl (eR_s (by decide))).symm
      · exact (wL_at 0 _ rfl).trans (wS_int (E := eR E w 6) (k := 7) (n := 7) rfl (eR_s (by decide))).symm
      · exact (wL_at 1 _ rfl).trans (wS_int (E := eR E w 6) (k := 8) (n := 7) rfl (eR_s (by decide))).symm
      · exact (wL_at 2 _ rfl).trans (wS_int (E := eR E w 6) (k := 9) (n := 7) rfl (eR_s (by decide))).symm
      · exact (wL_at 3 _ rfl).trans (wS_int (E := eR E w 6) (k := 10) (n := 7) rfl (eR_s (by decide))).symm
      · exact (wL_at 4 _ rfl).trans (wS_int (E := eR E w 6) (k := 11) (n := 128) rfl (eR_s (by decide))).symm
      · exact (wL_at 5 _ rfl).trans (wS_bool (E := eR E w 6) (k := 12) (n := 128) rfl (eR_s (by decide))).symm
  refine J_wc hw ?_
  refine J_eR (w0 := w) (r := 6) ?_
  have C := C.eR w 6
  have hNN : ∀ k, eS (eR E w 6) k = true → k < eN (eR E w 6) := fun k h => (of_decide_eq_true h).2
  have hsr : ∀ k, 6 ≤ k ∧ k < 13 → eS (eR E w 6) k = true := fun k h => decide_eq_true h
  show J (eR E w 6) Y (eN (eR E w 6)) 6 284 (wS (eR E w 6) (fun _ => 0) h0I (fun _ _ => 0) L0I) 54 [some (.ref (eA (eR E w 6) 6))] []
  refine J_aload_0 C dX3_init_54 ?_
  refine G_vtv C dX3_init_55 (c_X3_beginAnew_6 (eR E w 6) (hsr 6 (by decide)) hNN _ _ _ _) gX3_init_X3_beginAnew rfl dm_X3_beginAnew rfl rfl (hsr 6 (by decide)) rfl rfl (Nat.le_of_ble_eq_true rfl) (rmOK_b rfl) (fun g1 h1 T1 L1 hp1 => ?_)
  obtain ⟨⟨q0, q1, q2, q3, q4, q5, q6, q7, q8⟩, -, rfl, rfl, rfl⟩ := hp1
  refine J_aload_0 C dX3_init_58 ?_
  refine G_vtv C dX3_init_59 (c_X3_settle_6 (eR E w 6) hsr hNN _ _ _ _ 0 (fun _ => 0) (fun _ => 0) (by decide) q0 (fun t ht => absurd ht (Nat.not_lt_zero t)) (fun a b ha => absurd ha (Nat.not_lt_zero a)) (fun a ha => absurd ha (Nat.not_lt_zero a))) gX3_init_X3_settle rfl dm_X3_settle rfl rfl (hsr 6 (by decide)) rfl rfl (Nat.le_of_ble_eq_true rfl) (rmOK_b rfl) (fun g2 h2 T2 L2 hp2 => ?_)
  obtain ⟨rfl, hT, hb, rfl, rfl⟩ := hp2
  refine J_eR2 ?_
  refine hQ _ _ _ dX3_init_62 ⟨fun k hk => ?_, T2, fun k h1 h2 => ?_, (hb 0 (by decide)).1, (hb 0 (by decide)).2⟩
  · unfold wS
    rw [if_neg (by show ¬ decide (6 ≤ k ∧ k < 6 + 7) = true; simp; omega)]
    rfl
  · rcases (show k = 6 ∨ k = 7 ∨ k = 8 ∨ k = 9 ∨ k = 10 ∨ k = 11 ∨ k = 12 by omega) with rfl | rfl | rfl | rfl | rfl | rfl | rfl
    · refine (wS_obj (E := eR E w 6) (k := 6) (ci := 3) rfl (eR_s (by decide))).trans ?_
      show (Sum.inr (3, fsG (eA E) g2 h0I 6 0 (dsc 3)) : va_E) = Sum.inr (3, fsG (eA E) gI h0I 6 0 (dsc 3))
      have hfs : fsG (eA E) g2 h0I 6 0 (dsc 3) = fsG (eA E) gI h0I 6 0 (dsc 3) := by
        simp only [dsc, fsG, Nat.reduceMul, Nat.reduceAdd, q0, q1, q2, q3, q4, q5, q6, q7, q8]
        rfl
      rw [hfs]
    · exact (wS_int (E := eR E w 6) (k := 7) (n := 7) rfl (eR_s (by decide)))
    · exact (wS_int (E := eR E w 6) (k := 8) (n := 7) rfl (eR_s (by decide)))
    · exact (wS_int (E := eR E w 6) (k := 9) (n := 7) rfl (eR_s (by decide)))
    · exact (wS_int (E := eR E w 6) (k := 10) (n := 7) rfl (eR_s (by decide)))
    · exact (wS_int (E := eR E w 6) (k := 11) (n := 128) rfl (eR_s (by decide)))
    · exact (wS_bool (E := eR E w 6) (k := 12) (n := 128) rfl (eR_s (by decide)))
set_option maxRecDepth 100000 in
set_option maxHeartbeats 4000000 in
theorem c_X3_init_13 (E : EN) (hE : ∀ k, eS E k = true → k < eN E)  (w : Nat → va_E) : CtVZ E 14 20 yX3_init wsX3_init rmX3_init 6 284 [.ref (eA E 13)] (wL w 13 3 [.int 0, .int 0, .int 0, .int 0, .int 0, .int 0, .int 0, .null, .null, .null, .null, .int 0, .int 0, .null, .null] []) (fun w2 => (∀ k, k < 13 → w2 k = w k) ∧ RvI E 13 w2) := by
  refine CtVZ_of (cc := cX3_init) (nL := 1) RX3 [some (.ref (eA E 13))] ⟨rfl, rfl⟩ (by decide) rfl rfl (Nat.le_of_ble_eq_true rfl) ⟨0, rfl⟩ hE (fun Y hnm C hZ hQ => ?_)
  refine J_aload_0 C dX3_init_0 ?_
  refine J_objInit C dX3_init_1 (by decide +kernel : Cond.methodLink RX3 3 objectInit ∈ wsX3_init) (by decide +kernel : Cond.instanceMethod objectInit ∈ wsX3_init) (by decide +kernel : Cond.code objectInit ⟨#[0xb1]⟩ 1 none ∈ wsX3_init) (Nat.le_of_ble_eq_true rfl) (Nat.le_of_ble_eq_true rfl) (Nat.le_of_ble_eq_true rfl) ?_
  refine J_aload_0 C dX3_init_4 ?_
  refine J_bipush C (7) dX3_init_5 bc_7 ?_
  refine K_newa2 C .int 0 7 (7, .inl (fun _ => 0)) [.inl (eC E 0, 7, .inl (fun _ => 0))] (14) dX3_init_7 (by decide +kernel : Cond.arrayClass .int ∈ wsX3_init) rfl (fun _ _ => rfl) (fun _ => rfl) rfl (by decide) (by decide) (Nat.le_of_ble_eq_true rfl) (Nat.le_of_ble_eq_true rfl) rfl rfl rfl ?_
  refine K_put2 C [.int 0, .int 0, .int 0, .int 0, .int 0, .int 0, .int 0, .ref (eA E 14), .null, .null, .null, .int 0, .int 0, .null, .null] 7 dX3_init_9 fX3_init_9 iX3_init_3 tyX3 tyX3_ok nmX3 rfl rfl (by decide) rfl rfl (hnm.trans rfl) rfl rfl (Nat.le_of_ble_eq_true rfl) rfl ?_
  refine J_aload_0 C dX3_init_12 ?_
  refine J_bipush C (7) dX3_init_13 bc_7 ?_
  refine K_newa2 C .int 0 7 (7, .inl (fun _ => 0)) [.inl (eC E 0, 7, .inl (fun _ => 0)), .inl (eC E 0, 7, .inl (fun _ => 0))] (15) dX3_init_15 (by decide +kernel : Cond.arrayClass .int ∈ wsX3_init) rfl (fun _ _ => rfl) (fun _ => rfl) rfl (by decide) (by decide) (Nat.le_of_ble_eq_true rfl) (Nat.le_of_ble_eq_true rfl) rfl rfl rfl ?_
  refine K_put2 C [.int 0, .int 0, .int 0, .int 0, .int 0, .int 0, .int 0, .ref (eA E 14), .ref (eA E 15), .null, .null, .int 0, .int 0, .null, .null] 8 dX3_init_17 fX3_init_13 iX3_init_3 tyX3 tyX3_ok nmX3 rfl rfl (by decide) rfl rfl (hnm.trans rfl) rfl rfl (Nat.le_of_ble_eq_true rfl) rfl ?_
  refine J_aload_0 C dX3_init_20 ?_
  refine J_bipush C (7) dX3_init_21 bc_7 ?_
  refine K_newa2 C .int 0 7 (7, .inl (fun _ => 0)) [.inl (eC E 0, 7, .inl (fun _ => 0)), .inl (eC E 0, 7, .inl (fun _ => 0)), .inl (eC E 0, 7, .inl (fun _ => 0))] (16) dX3_init_23 (by decide +kernel : Cond.arrayClass .int ∈ wsX3_init) rfl (fun _ _ => rfl) (fun _ => rfl) rfl (by decide) (by decide) (Nat.le_of_ble_eq_true rfl) (Nat.le_of_ble_eq_true rfl) rfl rfl rfl ?_
  refine K_put2 C [.int 0, .int 0, .int 0, .int 0, .int 0, .int 0, .int 0, .ref (eA E 14), .ref (eA E 15), .ref (eA E 16), .null, .int 0, .int 0, .null, .null] 9 dX3_init_25 fX3_init_16 iX3_init_3 tyX3 tyX3_ok nmX3 rfl rfl (by decide) rfl rfl (hnm.trans rfl) rfl rfl (Nat.le_of_ble_eq_true rfl) rfl ?_
  refine J_aload_0 C dX3_init_28 ?_
  refine J_bipush C (7) dX3_init_29 bc_7 ?_
  refine K_newa2 C .int 0 7 (7, .inl (fun _ => 0)) [.inl (eC E 0, 7, .inl (fun _ => 0)), .inl (eC E 0, 7, .inl (fun _ => 0)), .inl (eC E 0, 7, .inl (fun _ => 0)), .inl (eC E 0, 7, .inl (fun _ => 0))] (17) dX3_init_31 (by decide +kernel : Cond.arrayClass .int ∈ wsX3_init) rfl (fun _ _ => rfl) (fun _ => rfl) rfl (by decide) (by decide) (Nat.le_of_ble_eq_true rfl) (Nat.le_of_ble_eq_true rfl) rfl rfl rfl ?_
  refine K_put2 C [.int 0, .int 0, .int 0, .int 0, .int 0, .int 0, .int 0, .ref (eA E 14), .ref (eA E 15), .ref (eA E 16), .ref (eA E 17), .int 0, .int 0, .null, .null] 10 dX3_init_33 fX3_init_19 iX3_init_3 tyX3 tyX3_ok nmX3 rfl rfl (by decide) rfl rfl (hnm.trans rfl) rfl rfl (Nat.le_of_ble_eq_true rfl) rfl ?_
  refine J_aload_0 C dX3_init_36 ?_
  refine J_sipush C (128) dX3_init_37 sc_128 ?_
  refine K_newa2 C .int 0 128 (128, .inl (fun _ => 0)) [.inl (eC E 0, 7, .inl (fun _ => 0)), .inl (eC E 0, 7, .inl (fun _ => 0)), .inl (eC E 0, 7, .inl (fun _ => 0)), .inl (eC E 0, 7, .inl (fun _ => 0)), .inl (eC E 0, 128, .inl (fun _ => 0))] (18) dX3_init_40 (by decide +kernel : Cond.arrayClass .int ∈ wsX3_init) rfl (fun _ _ => rfl) (fun _ => rfl) rfl (by decide) (by decide) (Nat.le_of_ble_eq_true rfl) (Nat.le_of_ble_eq_true rfl) rfl rfl rfl ?_
  refine K_put2 C [.int 0, .int 0, .int 0, .int 0, .int 0, .int 0, .int 0, .ref (eA E 14), .ref (eA E 15), .ref (eA E 16), .ref (eA E 17), .int 0, .int 0, .ref (eA E 18), .null] 13 dX3_init_42 fX3_init_22 iX3_init_3 tyX3 tyX3_ok nmX3 rfl rfl (by decide) rfl rfl (hnm.trans rfl) rfl rfl (Nat.le_of_ble_eq_true rfl) rfl ?_
  refine J_aload_0 C dX3_init_45 ?_
  refine J_sipush C (128) dX3_init_46 sc_128 ?_
  refine K_newa2 C .boolean 2 128 (128, .inl (fun _ => 0)) [.inl (eC E 0, 7, .inl (fun _ => 0)), .inl (eC E 0, 7, .inl (fun _ => 0)), .inl (eC E 0, 7, .inl (fun _ => 0)), .inl (eC E 0, 7, .inl (fun _ => 0)), .inl (eC E 0, 128, .inl (fun _ => 0)), .inl (eC E 2, 128, .inl (fun _ => 0))] (19) dX3_init_49 (by decide +kernel : Cond.arrayClass .boolean ∈ wsX3_init) rfl (fun _ _ => rfl) (fun _ => rfl) rfl (by decide) (by decide) (Nat.le_of_ble_eq_true rfl) (Nat.le_of_ble_eq_true rfl) rfl rfl rfl ?_
  refine K_put2 C [.int 0, .int 0, .int 0, .int 0, .int 0, .int 0, .int 0, .ref (eA E 14), .ref (eA E 15), .ref (eA E 16), .ref (eA E 17), .int 0, .int 0, .ref (eA E 18), .ref (eA E 19)] 14 dX3_init_51 fX3_init_25 iX3_init_3 tyX3 tyX3_ok nmX3 rfl rfl (by decide) rfl rfl (hnm.trans rfl) rfl rfl (Nat.le_of_ble_eq_true rfl) rfl ?_
  have hw : ∀ k, k < 20 → wL w 13 3 [.int 0, .int 0, .int 0, .int 0, .int 0, .int 0, .int 0, .ref (eA E 14), .ref (eA E 15), .ref (eA E 16), .ref (eA E 17), .int 0, .int 0, .ref (eA E 18), .ref (eA E 19)] [.inl (eC E 0, 7, .inl (fun _ => 0)), .inl (eC E 0, 7, .inl (fun _ => 0)), .inl (eC E 0, 7, .inl (fun _ => 0)), .inl (eC E 0, 7, .inl (fun _ => 0)), .inl (eC E 0, 128, .inl (fun _ => 0)), .inl (eC E 2, 128, .inl (fun _ => 0))] k = wS (eR E w 13) (fun _ => 0) h0I (fun _ _ => 0) L0I k := fun k hk => by
    by_cases h6 : k < 13
    · rw [wL_lt h6]
      unfold wS
      rw [if_neg (by show ¬ decide (13 ≤ k ∧ k < 13 + 7) = true; simp; omega)]
      rfl
    · rcases (show k = 13 ∨ k = 14 ∨ k = 15 ∨ k = 16 ∨ k = 17 ∨ k = 18 ∨ k = 19 by omega) with rfl | rfl | rfl | rfl | rfl | rfl | rfl
      · exact wL_r.trans (wS_obj (E := eR E w 13) (g := fun _ => 0) (h := h0I) (T := fun _ _ => 0) (L := L0I) (k := 13) (ci := 3) rfl (eR_s (by decide))).symm
      · exact (wL_at 0 _ rfl).trans (wS_int (E := eR E w 13) (k := 14) (n := 7) rfl (eR_s (by decide))).symm
      · exact (wL_at 1 _ rfl).trans (wS_int (E := eR E w 13) (k := 15) (n := 7) rfl (eR_s (by decide))).symm
      · exact (wL_at 2 _ rfl).trans (wS_int (E := eR E w 13) (k := 16) (n := 7) rfl (eR_s (by decide))).symm
      · exact (wL_at 3 _ rfl).trans (wS_int (E := eR E w 13) (k := 17) (n := 7) rfl (eR_s (by decide))).symm
      · exact (wL_at 4 _ rfl).trans (wS_int (E := eR E w 13) (k := 18) (n := 128) rfl (eR_s (by decide))).symm
      · exact (wL_at 5 _ rfl).trans (wS_bool (E := eR E w 13) (k := 19) (n := 128) rfl (eR_s (by decide))).symm
  refine J_wc hw ?_
  refine J_eR (w0 := w) (r := 13) ?_
  have C := C.eR w 13
  have hNN : ∀ k, eS (eR E w 13) k = true → k < eN (eR E w 13) := fun k h => (of_decide_eq_true h).2
  have hsr : ∀ k, 13 ≤ k ∧ k < 20 → eS (eR E w 13) k = true := fun k h => decide_eq_true h
  show J (eR E w 13) Y (eN (eR E w 13)) 6 284 (wS (eR E w 13) (fun _ => 0) h0I (fun _ _ => 0) L0I) 54 [some (.ref (eA (eR E w 13) 13))] []
  refine J_aload_0 C dX3_init_54 ?_
  refine G_vtv C dX3_init_55 (c_X3_beginAnew_13 (eR E w 13) (hsr 13 (by decide)) hNN _ _ _ _) gX3_init_X3_beginAnew rfl dm_X3_beginAnew rfl rfl (hsr 13 (by decide)) rfl rfl (Nat.le_of_ble_eq_true rfl) (rmOK_b rfl) (fun g1 h1 T1 L1 hp1 => ?_)
  obtain ⟨⟨q0, q1, q2, q3, q4, q5, q6, q7, q8⟩, -, rfl, rfl, rfl⟩ := hp1
  refine J_aload_0 C dX3_init_58 ?_
  refine G_vtv C dX3_init_59 (c_X3_settle_13 (eR E w 13) hsr hNN _ _ _ _ 0 (fun _ => 0) (fun _ => 0) (by decide) q0 (fun t ht => absurd ht (Nat.not_lt_zero t)) (fun a b ha => absurd ha (Nat.not_lt_zero a)) (fun a ha => absurd ha (Nat.not_lt_zero a))) gX3_init_X3_settle rfl dm_X3_settle rfl rfl (hsr 13 (by decide)) rfl rfl (Nat.le_of_ble_eq_true rfl) (rmOK_b rfl) (fun g2 h2 T2 L2 hp2 => ?_)
  obtain ⟨rfl, hT, hb, rfl, rfl⟩ := hp2
  refine J_eR2 ?_
  refine hQ _ _ _ dX3_init_62 ⟨fun k hk => ?_, T2, fun k h1 h2 => ?_, (hb 0 (by decide)).1, (hb 0 (by decide)).2⟩
  · unfold wS
    rw [if_neg (by show ¬ decide (13 ≤ k ∧ k < 13 + 7) = true; simp; omega)]
    rfl
  · rcases (show k = 13 ∨ k = 14 ∨ k = 15 ∨ k = 16 ∨ k = 17 ∨ k = 18 ∨ k = 19 by omega) with rfl | rfl | rfl | rfl | rfl | rfl | rfl
    · refine (wS_obj (E := eR E w 13) (k := 13) (ci := 3) rfl (eR_s (by decide))).trans ?_
      show (Sum.inr (3, fsG (eA E) g2 h0I 13 0 (dsc 3)) : va_E) = Sum.inr (3, fsG (eA E) gI h0I 13 0 (dsc 3))
      have hfs : fsG (eA E) g2 h0I 13 0 (dsc 3) = fsG (eA E) gI h0I 13 0 (dsc 3) := by
        simp only [dsc, fsG, Nat.reduceMul, Nat.reduceAdd, q0, q1, q2, q3, q4, q5, q6, q7, q8]
        rfl
      rw [hfs]
    · exact (wS_int (E := eR E w 13) (k := 14) (n := 7) rfl (eR_s (by decide)))
    · exact (wS_int (E := eR E w 13) (k := 15) (n := 7) rfl (eR_s (by decide)))
    · exact (wS_int (E := eR E w 13) (k := 16) (n := 7) rfl (eR_s (by decide)))
    · exact (wS_int (E := eR E w 13) (k := 17) (n := 7) rfl (eR_s (by decide)))
    · exact (wS_int (E := eR E w 13) (k := 18) (n := 128) rfl (eR_s (by decide)))
    · exact (wS_bool (E := eR E w 13) (k := 19) (n := 128) rfl (eR_s (by decide)))
