/-! Sightings, over registers -/
section
variable {E : EN} {Y : YN} {cc : ByteArray} {nL : Nat} {own : String} {Ts : List Cond} {R : Room} {cs ss : Nat} {g : Nat → Int32} {h : Nat → Int64} {T : Nat → Nat → Int32} {L : Nat → Nat → Int64} {pc : Nat} {lv : List (Option Value)} {st : List Value}
theorem G_llen (C : Cx E Y cc nL own Ts R) {k n : Nat} (hd : decode cc pc = .ok (.arraylength, 1)) (hk : kd k = (2, n)) (hs : eS E k = true) (kk : J E Y (eN E) cs ss (wS E g h T L) (pc + 1) lv (.int (nI n) :: st)) : J E Y (eN E) cs ss (wS E g h T L) pc lv (.ref (eA E k) :: st) := by
  intro H locs ls hI hls
  exact va_alen C.1 C.2.1 C.2.2.2.2.2.2.1 hI.1 k 1 (x := (n, .inr (.inl (L k)))) (by rw [wsF_get _ _ (C.lt hs), wS_long hk hs]) rfl rfl hd (kk H locs ls hI hls)
theorem G_gald (C : Cx E Y cc nL own Ts R) {k n m : Nat} {i : Int32} (j : Nat) (hd : decode cc pc = .ok (.aaload, 1)) (hk : kd k = (5, n)) (hs : eS E k = true) (hi : i = nI j) (hj : j < n) (hm : 36 + j = m) (kk : J E Y (eN E) cs ss (wS E g h T L) (pc + 1) lv (.ref (eA E m) :: st)) : J E Y (eN E) cs ss (wS E g h T L) pc lv (.int i :: .ref (eA E k) :: st) := by
  intro H locs ls hI hls
  have hn := kd_small k
  rw [hk] at hn
  obtain ⟨h1, h2⟩ := vpn hi hj hn
  have he : (wsF (eN E) (eA E) (wS E g h T L))[k]? = some (eA E k, .inl (eC E 4, n, .inr (.inr (.inr (.inr (fun j => some (eA E (36 + j)))))))) := by rw [wsF_get _ _ (C.lt hs), wS_grid hk hs]
  refine W.aald C.1 C.2.1 (hI.1 k _ he) ((C.2.2.2.2.2.2.1.2 4 _ rfl).1 n (fun j => va_rf (some (eA E (36 + j))))) rfl (fun q => by cases q) (by show ¬ (i < 0 ∨ (arrV _ _ _).slots.size ≤ _); rw [arrV_size]; exact h1) (v := .ref (eA E m)) ?_ rfl rfl hd (kk H locs ls hI hls)
  rw [h2]
  show (arrV (eC E 4) n (fun j => va_rf (some (eA E (36 + j))))).slots[j]? = _
  simp [arrV, hj, va_rf, hm]
end
def rpS (g : Nat → Int32) (T : Nat → Nat → Int32) (sn : List (Nat × Nat × Nat)) : Prop := g 3100 = nI sn.length ∧ ∀ (i : Nat) (q : Nat × Nat × Nat), sn[i]? = some q → T 32 i = nI q.1 ∧ T 33 i = nI q.2.1 ∧ T 34 i = nI q.2.2
def SnOK (sn : List (Nat × Nat × Nat)) : Prop := sn.length ≤ 8 ∧ ∀ (i : Nat) (q : Nat × Nat × Nat), sn[i]? = some q → q.1 ≤ 5 ∧ q.2.1 < 7 ∧ q.2.2 ≤ 1
theorem agN_iff {sn : List (Nat × Nat × Nat)} {c s : Nat} : agN sn c s = true ↔ ∀ (i : Nat) (q : Nat × Nat × Nat), sn[i]? = some q → q.1 = c → (if s.testBit q.2.1 = true then 1 else 0) = q.2.2 := by
  unfold agN
  rw [List.all_eq_true]
  constructor
  · intro h i q hq hc
    have := h q (List.mem_of_getElem? hq)
    simpa [hc] using this
  · intro h q hq
    obtain ⟨i, hi⟩ := List.getElem?_of_mem hq
    by_cases hc : q.1 = c
    · have := h i q hi hc
      simp [hc, this]
    · simp [hc]
theorem kd36 : ∀ j, j < 6 → kd (36 + j) = (2, 256) := by decide
theorem nI_b {a b : Bool} : True := trivial

abbrev rmX4_dropAll : Room := { frames := 0, cells := 0, slots := 0, locals := 0 }
theorem fX4_dropAll_9 : Cond.fieldLink RX4 9 RX4 (TX4 0).2.1 (TX4 0).2.2.1 ∈ wsX4_dropAll := by decide +kernel
theorem iX4_dropAll_4 : ∀ x ∈ wsX40, x ∈ wsX4_dropAll := by decide +kernel
set_option maxRecDepth 100000 in
set_option maxHeartbeats 4000000 in
theorem c_X4_dropAll (E : EN) (hM : EM E) (g : Nat → Int32) (h : Nat → Int64) (T : Nat → Nat → Int32) (L : Nat → Nat → Int64) : GtV E yX4_dropAll wsX4_dropAll rmX4_dropAll [.ref (eA E 31)] g h T L (fun g2 h2 T2 L2 => g2 = upd g 3100 0 ∧ h2 = h ∧ T2 = T ∧ L2 = L) := by
  refine CtV_of (cc := cX4_dropAll) (nL := 1) RX4 [some (.ref (eA E 31))] ⟨rfl, rfl⟩ (by decide) rfl rfl (Nat.le_of_ble_eq_true rfl) ⟨0, rfl⟩ hM.2 (fun Y hnm C hQ => ?_)
  have hM0 := hM
  obtain ⟨hS, hNN⟩ := hM
  refine J_aload_0 C dX4_dropAll_0 ?_
  refine J_iconst C (0) dX4_dropAll_1 ic_0 ?_
  refine G4_puti C (n := 3100) 0 dX4_dropAll_2 fX4_dropAll_9 iX4_dropAll_4 rfl (hS _ (by decide)) rfl (tyX4_ok 0 (by decide)) rfl rfl ?_
  refine hQ _ _ _ dX4_dropAll_5 ⟨_, _, _, _, rfl, ?_⟩
  exact ⟨rfl, rfl, rfl, rfl⟩
abbrev rmX4_add : Room := { frames := 0, cells := 0, slots := 0, locals := 0 }
theorem fX4_add_15 : Cond.fieldLink RX4 15 RX4 (TX4 1).2.1 (TX4 1).2.2.1 ∈ wsX4_add := by decide +kernel
theorem fX4_add_19 : Cond.fieldLink RX4 19 RX4 (TX4 2).2.1 (TX4 2).2.2.1 ∈ wsX4_add := by decide +kernel
theorem fX4_add_22 : Cond.fieldLink RX4 22 RX4 (TX4 3).2.1 (TX4 3).2.2.1 ∈ wsX4_add := by decide +kernel
theorem fX4_add_9 : Cond.fieldLink RX4 9 RX4 (TX4 0).2.1 (TX4 0).2.2.1 ∈ wsX4_add := by decide +kernel
theorem iX4_add_4 : ∀ x ∈ wsX40, x ∈ wsX4_add := by decide +kernel
set_option maxRecDepth 100000 in
set_option maxHeartbeats 4000000 in
theorem c_X4_add (E : EN) (hM : EM E) (g : Nat → Int32) (h : Nat → Int64) (T : Nat → Nat → Int32) (L : Nat → Nat → Int64) (n : Nat) (hn : n < 8) (hg : g 3100 = nI n) (c t b : Nat) : GtV E yX4_add wsX4_add rmX4_add [.ref (eA E 31), .int (nI c), .int (nI t), .int (nI b)] g h T L (fun g2 h2 T2 L2 => g2 = upd g 3100 (nI (n + 1)) ∧ h2 = h ∧ T2 = va_up (va_up (va_up T 32 (upd (T 32) n (nI c))) 33 (upd (T 33) n (nI t))) 34 (upd (T 34) n (nI b)) ∧ L2 = L) := by
  refine CtV_of (cc := cX4_add) (nL := 4) RX4 [some (.ref (eA E 31)), some (.int (nI c)), some (.int (nI t)), some (.int (nI b))] ⟨rfl, rfl⟩ (by decide) rfl rfl (Nat.le_of_ble_eq_true rfl) ⟨0, rfl⟩ hM.2 (fun Y hnm C hQ => ?_)
  have hM0 := hM
  obtain ⟨hS, hNN⟩ := hM
  refine J_aload_0 C dX4_add_0 ?_
  refine G4_geti C (n := 3100) 0 dX4_add_1 fX4_add_9 iX4_add_4 rfl (hS _ (by decide)) rfl rfl ?_
  refine J_bipush C (8) dX4_add_4 bc_8 ?_
  refine J_icmp_lt C 10 dX4_add_6 (by decide) (fun hc6 => ?_) (fun hc => absurd (show g 3100 < 8 by rw [hg]; exact nI_lt (b := 8) hn (by decide)) hc)
  refine J_aload_0 C dX4_add_10 ?_
  refine G4_getr C (n := 32) 1 dX4_add_11 fX4_add_15 iX4_add_4 rfl (hS _ (by decide)) rfl rfl ?_
  refine J_aload_0 C dX4_add_14 ?_
  refine G4_geti C (n := 3100) 0 dX4_add_15 fX4_add_9 iX4_add_4 rfl (hS _ (by decide)) rfl rfl ?_
  refine J_iload_1 C dX4_add_18 ?_
  refine G_iast C n dX4_add_19 rfl (hS _ (by decide)) hg hn ?_
  refine J_aload_0 C dX4_add_20 ?_
  refine G4_getr C (n := 33) 2 dX4_add_21 fX4_add_19 iX4_add_4 rfl (hS _ (by decide)) rfl rfl ?_
  refine J_aload_0 C dX4_add_24 ?_
  refine G4_geti C (n := 3100) 0 dX4_add_25 fX4_add_9 iX4_add_4 rfl (hS _ (by decide)) rfl rfl ?_
  refine J_iload_2 C dX4_add_28 ?_
  refine G_iast C n dX4_add_29 rfl (hS _ (by decide)) hg hn ?_
  refine J_aload_0 C dX4_add_30 ?_
  refine G4_getr C (n := 34) 3 dX4_add_31 fX4_add_22 iX4_add_4 rfl (hS _ (by decide)) rfl rfl ?_
  refine J_aload_0 C dX4_add_34 ?_
  refine G4_geti C (n := 3100) 0 dX4_add_35 fX4_add_9 iX4_add_4 rfl (hS _ (by decide)) rfl rfl ?_
  refine J_iload_3 C dX4_add_38 ?_
  refine G_iast C n dX4_add_39 rfl (hS _ (by decide)) hg hn ?_
  refine J_aload_0 C dX4_add_40 ?_
  refine J_dup C dX4_add_41 ?_
  refine G4_geti C (n := 3100) 0 dX4_add_42 fX4_add_9 iX4_add_4 rfl (hS _ (by decide)) rfl rfl ?_
  refine J_iconst C (1) dX4_add_45 ic_1 ?_
  refine J_iadd C dX4_add_46 ?_
  refine G4_puti C (n := 3100) 0 dX4_add_47 fX4_add_9 iX4_add_4 rfl (hS _ (by decide)) rfl (tyX4_ok 0 (by decide)) rfl rfl ?_
  refine hQ _ _ _ dX4_add_50 ⟨_, _, _, _, rfl, ?_⟩
  rw [hg, nI_1]
  exact ⟨rfl, rfl, rfl, rfl⟩
abbrev rmX4_agrees : Room := { frames := 0, cells := 0, slots := 0, locals := 0 }
theorem fX4_agrees_15 : Cond.fieldLink RX4 15 RX4 (TX4 1).2.1 (TX4 1).2.2.1 ∈ wsX4_agrees := by decide +kernel
theorem fX4_agrees_19 : Cond.fieldLink RX4 19 RX4 (TX4 2).2.1 (TX4 2).2.2.1 ∈ wsX4_agrees := by decide +kernel
theorem fX4_agrees_22 : Cond.fieldLink RX4 22 RX4 (TX4 3).2.1 (TX4 3).2.2.1 ∈ wsX4_agrees := by decide +kernel
theorem fX4_agrees_9 : Cond.fieldLink RX4 9 RX4 (TX4 0).2.1 (TX4 0).2.2.1 ∈ wsX4_agrees := by decide +kernel
theorem iX4_agrees_4 : ∀ x ∈ wsX40, x ∈ wsX4_agrees := by decide +kernel
set_option maxRecDepth 100000 in
set_option maxHeartbeats 4000000 in
theorem c_X4_agrees (E : EN) (hM : EM E) (g : Nat → Int32) (h : Nat → Int64) (T : Nat → Nat → Int32) (L : Nat → Nat → Int64) (sn : List (Nat × Nat × Nat)) (hsn : rpS g T sn) (hso : SnOK sn) (c s : Nat) (hc : c < 1000) (hs : s < 256) : GpI E yX4_agrees wsX4_agrees rmX4_agrees [.ref (eA E 31), .int (nI c), .int (nI s)] g h T L (fun r => r = if agN sn c s = true then 1 else 0) := by
  refine CtZ_of (cc := cX4_agrees) (nL := 4) RX4 [some (.ref (eA E 31)), some (.int (nI c)), some (.int (nI s)), none] ⟨rfl, rfl⟩ (by decide) rfl rfl (Nat.le_of_ble_eq_true rfl) ⟨1, rfl⟩ hM.2 (fun Y C hQ => ?_)
  have hM0 := hM
  obtain ⟨hS, hNN⟩ := hM
  have hl8 := hso.1
  refine J_iconst C (0) dX4_agrees_0 ic_0 ?_
  refine J_istore_3 C dX4_agrees_1 (by decide) trivial ?_
  have loop : ∀ (n : Nat) (k : Nat), k ≤ sn.length → sn.length < n + k → (∀ (i : Nat) (q : Nat × Nat × Nat), i < k → sn[i]? = some q → q.1 = c → (if s.testBit q.2.1 = true then 1 else 0) = q.2.2) → J E Y (eN E) 0 0 (wS E g h T L) 2 [some (.ref (eA E 31)), some (.int (nI c)), some (.int (nI s)), some (.int (nI k))] [] := by
    intro n
    induction n with
    | zero =>
      intro k h1 h2 hp
      omega
    | succ n ih =>
      intro k h1 h2 hp
      refine J_iload_3 C dX4_agrees_2 ?_
      refine J_aload_0 C dX4_agrees_3 ?_
      refine G4_geti C (n := 3100) 0 dX4_agrees_4 fX4_agrees_9 iX4_agrees_4 rfl (hS _ (by decide)) rfl rfl ?_
      refine J_icmp_ge C 47 dX4_agrees_7 (by decide) (fun hc7 => ?_) (fun hc7 => ?_)
      · skip
        refine J_iconst C (1) dX4_agrees_47 ic_1 ?_
        refine hQ _ _ _ _ dX4_agrees_48 rfl ⟨rfl, ?_⟩
        have hk : sn.length ≤ k := by
          rw [hsn.1] at hc7
          exact ge_nI (by omega) hc7
        rw [if_pos (agN_iff.mpr (fun i q hq hc' => hp i q (by have := (List.getElem?_eq_some_iff.mp hq).1; omega) hq hc'))]
      · skip
        have hkl : k < sn.length := by
          rw [hsn.1] at hc7
          exact lt_nI (by omega) hc7
        obtain ⟨q, hq⟩ : ∃ q, sn[k]? = some q := ⟨_, List.getElem?_eq_getElem hkl⟩
        obtain ⟨q1, q2, q3⟩ := hsn.2 k q hq
        obtain ⟨o1, o2, o3⟩ := hso.2 k q hq
        refine J_aload_0 C dX4_agrees_10 ?_
        refine G4_getr C (n := 32) 1 dX4_agrees_11 fX4_agrees_15 iX4_agrees_4 rfl (hS _ (by decide)) rfl rfl ?_
        refine J_iload_3 C dX4_agrees_14 ?_
        refine G_iald C k dX4_agrees_15 rfl (hS _ (by decide)) rfl (by omega) ?_
        rw [q1]
        refine J_iload_1 C dX4_agrees_16 ?_
        refine J_icmp_ne C 41 dX4_agrees_17 (by decide) (fun hc17 => ?_) (fun hc17 => ?_)
        · skip
          refine J_iinc_3 C (1) dX4_agrees_41 (by decide) trivial ic_1 ?_
          refine J_goto C 2 dX4_agrees_44 (by decide) ?_
          rw [nI_1]
          refine ih (k + 1) (by omega) (by omega) (fun i q' hi hq' hc' => ?_)
          by_cases e : i = k
          · subst e
            rw [hq] at hq'
            cases hq'
            first
            | exact absurd (by rw [hc']) hc17
            | (by_cases z : s.testBit q.2.1 = true
               · rw [if_pos z] at hc36 ⊢
                 exact nI_inj (by omega) (by omega) hc36
               · rw [if_neg z] at hc36 ⊢
                 exact nI_inj (by omega) (by omega) hc36)
          · exact hp i q' (by omega) hq' hc'
        · skip
          refine J_iload_2 C dX4_agrees_20 ?_
          refine J_aload_0 C dX4_agrees_21 ?_
          refine G4_getr C (n := 33) 2 dX4_agrees_22 fX4_agrees_19 iX4_agrees_4 rfl (hS _ (by decide)) rfl rfl ?_
          refine J_iload_3 C dX4_agrees_25 ?_
          refine G_iald C k dX4_agrees_26 rfl (hS _ (by decide)) rfl (by omega) ?_
          rw [q2]
          refine J_ishr C dX4_agrees_27 ?_
          refine J_iconst C (1) dX4_agrees_28 ic_1 ?_
          refine J_iand C dX4_agrees_29 ?_
          rw [bit_i (by omega) (by omega)]
          refine J_aload_0 C dX4_agrees_30 ?_
          refine G4_getr C (n := 34) 3 dX4_agrees_31 fX4_agrees_22 iX4_agrees_4 rfl (hS _ (by decide)) rfl rfl ?_
          refine J_iload_3 C dX4_agrees_34 ?_
          refine G_iald C k dX4_agrees_35 rfl (hS _ (by decide)) rfl (by omega) ?_
          rw [q3]
          refine J_icmp_eq C 41 dX4_agrees_36 (by decide) (fun hc36 => ?_) (fun hc36 => ?_)
          · skip
            refine J_iinc_3 C (1) dX4_agrees_41 (by decide) trivial ic_1 ?_
            refine J_goto C 2 dX4_agrees_44 (by decide) ?_
            rw [nI_1]
            refine ih (k + 1) (by omega) (by omega) (fun i q' hi hq' hc' => ?_)
            by_cases e : i = k
            · subst e
              rw [hq] at hq'
              cases hq'
              first
              | exact absurd (by rw [hc']) hc17
              | (by_cases z : s.testBit q.2.1 = true
                 · rw [if_pos z] at hc36 ⊢
                   exact nI_inj (by omega) (by omega) hc36
                 · rw [if_neg z] at hc36 ⊢
                   exact nI_inj (by omega) (by omega) hc36)
            · exact hp i q' (by omega) hq' hc'
          · skip
            refine J_iconst C (0) dX4_agrees_39 ic_0 ?_
            refine hQ _ _ _ _ dX4_agrees_40 rfl ⟨rfl, ?_⟩
            have e : ¬ agN sn c s = true := by
              intro h9
              have h8 := agN_iff.mp h9 k q hq (nI_inj (by omega) (by omega) hc17)
              apply hc36
              by_cases z : s.testBit q.2.1 = true
              · rw [if_pos z] at h8 ⊢
                rw [← h8]; rfl
              · rw [if_neg z] at h8 ⊢
                rw [← h8]; rfl
            rw [if_neg e]
  exact loop (sn.length + 1) 0 (by omega) (by omega) (fun i q hi => by omega)
abbrev rmJ7_fill_d0a16 : Room := { frames := 0, cells := 0, slots := 0, locals := 0 }
set_option maxRecDepth 100000 in
set_option maxHeartbeats 4000000 in
theorem c_fill (E : EN) (hE : ∀ k, eS E k = true → k < eN E) (q : Nat) (hq : kd q = (2, 256)) (hs : eS E q = true) (v : Int64) (g : Nat → Int32) (h : Nat → Int64) (T : Nat → Nat → Int32) (L : Nat → Nat → Int64) : GtV E yJ7_fill_d0a16 wsJ7_fill_d0a16 rmJ7_fill_d0a16 [.ref (eA E q), .long v] g h T L (fun g2 h2 T2 L2 => g2 = g ∧ h2 = h ∧ T2 = T ∧ (∀ k, k ≠ q → L2 k = L k) ∧ ∀ j, j < 256 → L2 q j = v) := by
  refine CtV_of (cc := cJ7_fill_d0a16) (nL := 5) RJ7 [some (.ref (eA E q)), some (.long v), none, none, none] ⟨rfl, rfl⟩ (by decide) rfl rfl (Nat.le_of_ble_eq_true rfl) ⟨2, rfl⟩ hE (fun Y hnm C hQ => ?_)
  refine J_iconst C (0) dJ7_fill_d0a16_0 ic_0 ?_
  refine J_istore_3 C dJ7_fill_d0a16_1 (by decide) trivial ?_
  refine J_aload_0 C dJ7_fill_d0a16_2 ?_
  refine G_llen C dJ7_fill_d0a16_3 hq hs ?_
  refine J_istore_4 C dJ7_fill_d0a16_4 (by decide) trivial ?_
  have loop : ∀ (n : Nat) (k : Nat) (L2 : Nat → Nat → Int64), k ≤ 256 → 256 < n + k → (∀ i, i ≠ q → L2 i = L i) → (∀ j, j < k → L2 q j = v) → J E Y (eN E) 0 0 (wS E g h T L2) 6 [some (.ref (eA E q)), some (.long v), none, some (.int (nI k)), some (.int (nI 256))] [] := by
    intro n
    induction n with
    | zero =>
      intro k L2 h1 h2 hL hz
      omega
    | succ n ih =>
      intro k L2 h1 h2 hL hz
      refine J_iload_3 C dJ7_fill_d0a16_6 ?_
      refine J_iload_4 C dJ7_fill_d0a16_7 ?_
      refine J_icmp_ge C 22 dJ7_fill_d0a16_9 (by decide) (fun hc9 => ?_) (fun hc9 => ?_)
      · skip
        refine hQ _ _ _ dJ7_fill_d0a16_22 ⟨_, _, _, _, rfl, ?_⟩
        have hk : k = 256 := by
          have := ge_nI (m := 256) (by omega) hc9
          omega
        subst hk
        exact ⟨rfl, rfl, rfl, hL, hz⟩
      · skip
        have hk : k < 256 := lt_nI (m := 256) (by omega) hc9
        refine J_aload_0 C dJ7_fill_d0a16_12 ?_
        refine J_iload_3 C dJ7_fill_d0a16_13 ?_
        refine J_lload_1 C dJ7_fill_d0a16_14 ?_
        refine G_last C k dJ7_fill_d0a16_15 hq hs rfl hk ?_
        refine J_iinc_3 C (1) dJ7_fill_d0a16_16 (by decide) trivial ic_1 ?_
        refine J_goto C 6 dJ7_fill_d0a16_19 (by decide) ?_
        rw [nI_1]
        refine ih (k + 1) _ (by omega) (by omega) (fun i hi => by simp [va_up, hi]; exact hL i hi) (fun j hj => ?_)
        by_cases e : j = k
        · subst e
          simp [va_up, vp_updL]
        · simp [va_up, vp_updL, e]
          exact hz j (by omega)
  exact loop 257 0 L (by omega) (by omega) (fun _ _ => rfl) (fun j hj => by omega)
abbrev rmX4_followFrom : Room := { frames := 3, cells := 0, slots := 0, locals := 66 }
theorem fX4_followFrom_29 : Cond.fieldLink RX4 29 RX4 (TX4 4).2.1 (TX4 4).2.2.1 ∈ wsX4_followFrom := by decide +kernel
theorem fX4_followFrom_56 : Cond.fieldLink RX4 56 RX3 (TX3 4).2.1 (TX3 4).2.2.1 ∈ wsX4_followFrom := by decide +kernel
theorem fX4_followFrom_59 : Cond.fieldLink RX4 59 RX3 (TX3 1).2.1 (TX3 1).2.2.1 ∈ wsX4_followFrom := by decide +kernel
theorem iX4_followFrom_3 : ∀ x ∈ wsX30, x ∈ wsX4_followFrom := by decide +kernel
theorem iX4_followFrom_4 : ∀ x ∈ wsX40, x ∈ wsX4_followFrom := by decide +kernel
theorem dm_X4_agrees : yX4_agrees.cls = RX4 ∧ yX4_agrees.cls ≠ "java/lang/invoke/MethodHandle" ∧ yX4_agrees.cls ≠ "java/lang/invoke/VarHandle" ∧ (parseMethodDescriptor yX4_agrees.desc).map (fun d => d.parameters.length) = some 2 := by decide +kernel
set_option maxRecDepth 100000 in
set_option maxHeartbeats 4000000 in
theorem c_X4_followFrom (E : EN) (hM : EM E) (m : Nat) (ρ : Nat → Nat → Nat) (g : Nat → Int32) (h : Nat → Int64) (T : Nat → Nat → Int32) (L : Nat → Nat → Int64) (hR : RvX g T m ρ) (sn : List (Nat × Nat × Nat)) (hsn : rpS g T sn) (hso : SnOK sn) (ld : Nat) (hld : ld < 1000) (hgl : g 604 = nI ld) (s kk ws : Nat) (A : Nat → Nat) (hs : s < 256) (hkk : kk < 5) (hws : L (36 + kk) s = lN ws) (hA : ∀ t, t < 256 → L (36 + (kk + 1)) t = lN (A t)) : GtV E yX4_followFrom wsX4_followFrom rmX4_followFrom [.ref (eA E 31), .ref (eA E 6), .int (nI s), .int (nI (kk + 1))] g h T L (fun g2 h2 T2 L2 => g2 = g ∧ h2 = h ∧ T2 = T ∧ (∀ k, k ≠ 36 + (kk + 1) → L2 k = L k) ∧ ∀ t, t < 256 → L2 (36 + (kk + 1)) t = lN (acI (crN m (ρ 2) (ρ 3) ld (2 ^ m - 1)) (agN sn (kk + 1)) ws s A (2 ^ m) t)) := by
  refine CtV_of (cc := cX4_followFrom) (nL := 9) RX4 [some (.ref (eA E 31)), some (.ref (eA E 6)), some (.int (nI s)), some (.int (nI (kk + 1))), none, none, none, none, none] ⟨rfl, rfl⟩ (by decide) rfl rfl (Nat.le_of_ble_eq_true rfl) ⟨5, rfl⟩ hM.2 (fun Y hnm C hQ => ?_)
  have hM0 := hM
  obtain ⟨hS, hNN⟩ := hM
  have hm := hR.1
  have h7 := p7 hm
  have hcl : ∀ s b t, s < 256 → (crN m (ρ 2) (ρ 3) ld (2 ^ m - 1)) s b = some t → t < 256 := fun s b t hs h => (crN_lt hm hs h).1
  obtain ⟨d, hd⟩ : ∃ d, d = hN m s &&& (2 ^ m - 1) := ⟨_, rfl⟩
  have hdm : d < 2 ^ m := by rw [hd]; exact Nat.lt_of_le_of_lt Nat.and_le_left hN_lt
  have hdd : hN m s = d := by rw [hd, hN_all]
  refine J_aload_1 C dX4_followFrom_0 ?_
  refine J_iload_2 C dX4_followFrom_1 ?_
  refine G_vpi C dX4_followFrom_2 (c_X3_atFerry E hM0 m ρ g h T L hR s hs) gX4_followFrom_X3_atFerry rfl dm_X3_atFerry rfl rfl (hS _ (by decide)) rfl rfl (Nat.le_of_ble_eq_true rfl) (rmOK_b rfl) (fun r2 hr2 => ?_)
  subst hr2
  rw [hdd]
  refine J_istore_4 C dX4_followFrom_5 (by decide) trivial ?_
  refine J_iload_4 C dX4_followFrom_7 ?_
  refine G_spi C dX4_followFrom_9 (c_X3_setsOf E hM0 d (by omega) g h T L) gX4_followFrom_X3_setsOf rfl dm_X3_setsOf rfl rfl (Nat.le_of_ble_eq_true rfl) (rmOK_b rfl) (fun r9 hr9 => ?_)
  subst hr9
  refine J_istore_5 C dX4_followFrom_12 (by decide) trivial ?_
  refine J_iconst C (0) dX4_followFrom_14 ic_0 ?_
  refine J_istore_6 C dX4_followFrom_15 (by decide) trivial ?_
  refine J_iconst C (0) dX4_followFrom_17 ic_0 ?_
  refine J_istore_7 C dX4_followFrom_18 (by decide) trivial ?_
  have hexit : ∀ (L2 : Nat → Nat → Int64) (x8 : Option Value), (∀ k, k ≠ 36 + (kk + 1) → L2 k = L k) → (∀ t, t < 256 → L2 (36 + (kk + 1)) t = lN (acI (crN m (ρ 2) (ρ 3) ld (2 ^ m - 1)) (agN sn (kk + 1)) ws s A (2 ^ m) t)) → J E Y (eN E) 0 0 (wS E g h T L2) 20 [some (.ref (eA E 31)), some (.ref (eA E 6)), some (.int (nI s)), some (.int (nI (kk + 1))), some (.int (nI d)), some (.int (nI (2 ^ pcN d))), some (.int (nI 0)), some (.int (nI (2 ^ pcN d))), x8] [] := by
    intro L2 x8 hL2 hA2
    refine J_iload_7 C dX4_followFrom_20 ?_
    refine J_iload_5 C dX4_followFrom_22 ?_
    refine J_icmp_ge C 96 dX4_followFrom_24 (by decide) (fun _ => ?_) (fun hc => absurd (Int32.le_refl _) hc)
    refine hQ _ _ _ dX4_followFrom_96 ⟨_, _, _, _, rfl, rfl, rfl, rfl, hL2, hA2⟩
  have loop : ∀ (n : Nat) (b : Nat) (L2 : Nat → Nat → Int64) (x8 : Option Value), b &&& d = b → d < n + b → (∀ k, k ≠ 36 + (kk + 1) → L2 k = L k) → (∀ t, t < 256 → L2 (36 + (kk + 1)) t = lN (acI (crN m (ρ 2) (ρ 3) ld (2 ^ m - 1)) (agN sn (kk + 1)) ws s A b t)) → J E Y (eN E) 0 0 (wS E g h T L2) 20 [some (.ref (eA E 31)), some (.ref (eA E 6)), some (.int (nI s)), some (.int (nI (kk + 1))), some (.int (nI d)), some (.int (nI (2 ^ pcN d))), some (.int (nI b)), some (.int (nI (rkN d b))), x8] [] := by
    intro n
    induction n with
    | zero =>
      intro b L2 x8 hsub hfu hL2 hA2
      have : b ≤ d := by rw [← hsub]; exact Nat.and_le_right
      omega
    | succ n ih =>
      intro b L2 x8 hsub hfu hL2 hA2
      have hbl : b < 2 ^ m := sub_lt hsub hdm
      have hexit : ∀ (L2 : Nat → Nat → Int64) (x8 : Option Value), (∀ k, k ≠ 36 + (kk + 1) → L2 k = L k) → (∀ t, t < 256 → L2 (36 + (kk + 1)) t = lN (acI (crN m (ρ 2) (ρ 3) ld (2 ^ m - 1)) (agN sn (kk + 1)) ws s A (2 ^ m) t)) → J E Y (eN E) 0 0 (wS E g h T L2) 20 [some (.ref (eA E 31)), some (.ref (eA E 6)), some (.int (nI s)), some (.int (nI (kk + 1))), some (.int (nI d)), some (.int (nI (2 ^ pcN d))), some (.int (nI 0)), some (.int (nI (2 ^ pcN d))), x8] [] := by
        intro L2 x8 hL2 hA2
        refine J_iload_7 C dX4_followFrom_20 ?_
        refine J_iload_5 C dX4_followFrom_22 ?_
        refine J_icmp_ge C 96 dX4_followFrom_24 (by decide) (fun _ => ?_) (fun hc => absurd (Int32.le_refl _) hc)
        refine hQ _ _ _ dX4_followFrom_96 ⟨_, _, _, _, rfl, rfl, rfl, rfl, hL2, hA2⟩
      refine J_iload_7 C dX4_followFrom_20 ?_
      refine J_iload_5 C dX4_followFrom_22 ?_
      refine J_icmp_ge C 96 dX4_followFrom_24 (by decide) (fun hc => absurd hc (show ¬ nI (2 ^ pcN d) ≤ nI (rkN d b) from nI_ge (rk_lt (by omega) hsub) (by have := Nat.pow_le_pow_right (n := 2) (by omega) (pc_le d (by omega)); omega))) (fun hc24 => ?_)
      refine J_aload_1 C dX4_followFrom_27 ?_
      refine J_iload_2 C dX4_followFrom_28 ?_
      refine J_iload_6 C dX4_followFrom_29 ?_
      refine J_aload_1 C dX4_followFrom_31 ?_
      refine G3_geti C (n := 604) 4 dX4_followFrom_32 fX4_followFrom_56 iX4_followFrom_3 rfl (hS _ (by decide)) rfl rfl ?_
      refine J_aload_1 C dX4_followFrom_35 ?_
      refine G3_geti C (n := 601) 1 dX4_followFrom_36 fX4_followFrom_59 iX4_followFrom_3 rfl (hS _ (by decide)) rfl rfl ?_
      rw [hgl, hR.2.2.1]
      refine G_vpi C dX4_followFrom_39 (c_X3_crossing E hM0 m ρ g h T L2 hR s b ld (2 ^ m - 1) hs (by omega) hld) gX4_followFrom_X3_crossing rfl dm_X3_crossing rfl rfl (hS _ (by decide)) rfl rfl (Nat.le_of_ble_eq_true rfl) (rmOK_b rfl) (fun r39 hr39 => ?_)
      subst hr39
      refine J_top (y := oI ((crN m (ρ 2) (ρ 3) ld (2 ^ m - 1)) s b)) rfl ?_
      have hlt := fun t (ht : (crN m (ρ 2) (ρ 3) ld (2 ^ m - 1)) s b = some t) => (crN_lt hm hs ht).1
      refine J_istore_8 C dX4_followFrom_42 (by decide) trivial ?_
      refine J_iload_8 C dX4_followFrom_44 ?_
      refine J_if_lt C 81 dX4_followFrom_46 (by decide) (fun hc46 => ?_) (fun hc46 => ?_)
      · skip
        refine J_iload_6 C dX4_followFrom_81 ?_
        refine J_iload_4 C dX4_followFrom_83 ?_
        refine G_spi C dX4_followFrom_85 (c_X3_nextSet E hM0 b d (by omega) (by omega) _ _ _ _) gX4_followFrom_X3_nextSet rfl dm_X3_nextSet rfl rfl (Nat.le_of_ble_eq_true rfl) (rmOK_b rfl) (fun r85 hr85 => ?_)
        subst hr85
        refine J_istore_6 C dX4_followFrom_88 (by decide) trivial ?_
        refine J_iinc_7 C (1) dX4_followFrom_90 (by decide) trivial ic_1 ?_
        refine J_goto C 20 dX4_followFrom_93 (by decide) ?_
        have hexit : ∀ (L2 : Nat → Nat → Int64) (x8 : Option Value), (∀ k, k ≠ 36 + (kk + 1) → L2 k = L k) → (∀ t, t < 256 → L2 (36 + (kk + 1)) t = lN (acI (crN m (ρ 2) (ρ 3) ld (2 ^ m - 1)) (agN sn (kk + 1)) ws s A (2 ^ m) t)) → J E Y (eN E) 0 0 (wS E g h T L2) 20 [some (.ref (eA E 31)), some (.ref (eA E 6)), some (.int (nI s)), some (.int (nI (kk + 1))), some (.int (nI d)), some (.int (nI (2 ^ pcN d))), some (.int (nI 0)), some (.int (nI (2 ^ pcN d))), x8] [] := by
          intro L2 x8 hL2 hA2
          refine J_iload_7 C dX4_followFrom_20 ?_
          refine J_iload_5 C dX4_followFrom_22 ?_
          refine J_icmp_ge C 96 dX4_followFrom_24 (by decide) (fun _ => ?_) (fun hc => absurd (Int32.le_refl _) hc)
          refine hQ _ _ _ dX4_followFrom_96 ⟨_, _, _, _, rfl, rfl, rfl, rfl, hL2, hA2⟩
        rw [nI_1]
        have hgo : ∀ L4 : Nat → Nat → Int64, (∀ k, k ≠ 36 + (kk + 1) → L4 k = L k) → (∀ t, t < 256 → L4 (36 + (kk + 1)) t = lN (acI (crN m (ρ 2) (ρ 3) ld (2 ^ m - 1)) (agN sn (kk + 1)) ws s A (b + 1) t)) → J E Y (eN E) 0 0 (wS E g h T L4) 20 [some (.ref (eA E 31)), some (.ref (eA E 6)), some (.int (nI s)), some (.int (nI (kk + 1))), some (.int (nI d)), some (.int (nI (2 ^ pcN d))), some (.int (nI (nxN b d))), some (.int (nI (rkN d b + 1))), some (.int (oI ((crN m (ρ 2) (ρ 3) ld (2 ^ m - 1)) s b)))] [] := by
          intro L4 hL4 hA4
          by_cases q : b = d
          · subst q
            rw [nx_end b (by omega), show rkN b b + 1 = 2 ^ pcN b by
              rw [← rk_all b (by omega)]
              show _ = rkN b b + (if b &&& b = b then 1 else 0)
              rw [if_pos hsub]]
            refine hexit L4 _ hL4 (fun t ht9 => ?_)
            have e8 := acI_skip (c := (crN m (ρ 2) (ρ 3) ld (2 ^ m - 1))) (ok := agN sn (kk + 1)) (ws := ws) (s := s) (a := A) (2 ^ m - (b + 1)) (b + 1) (fun i h1 h2 => crN_sub (fun h3 => by
              rw [hdd] at h3
              have e7 : b &&& (2 ^ m - 1) = b := by rw [Nat.and_two_pow_sub_one_eq_mod, Nat.mod_eq_of_lt hdm]
              rw [e7] at h3
              have : i ≤ b := by rw [← h3]; exact Nat.and_le_right
              omega))
            rw [show b + 1 + (2 ^ m - (b + 1)) = 2 ^ m by omega] at e8
            rw [e8]
            exact hA4 t ht9
          · obtain ⟨a1, a2, a3⟩ := nx_spec (by omega) hsub q
            rw [← rk_next (by omega) hsub q]
            refine ih (nxN b d) L4 _ a2 (by omega) hL4 (fun t ht9 => ?_)
            have e8 := acI_skip (c := (crN m (ρ 2) (ρ 3) ld (2 ^ m - 1))) (ok := agN sn (kk + 1)) (ws := ws) (s := s) (a := A) (nxN b d - (b + 1)) (b + 1) (fun i h1 h2 => crN_sub (fun h3 => a3 i (by omega) (by omega) (by rw [hd]; exact h3)))
            rw [show b + 1 + (nxN b d - (b + 1)) = nxN b d by omega] at e8
            rw [e8]
            exact hA4 t ht9
        have hst : ∀ t', acI (crN m (ρ 2) (ρ 3) ld (2 ^ m - 1)) (agN sn (kk + 1)) ws s A (b + 1) t' = acI (crN m (ρ 2) (ρ 3) ld (2 ^ m - 1)) (agN sn (kk + 1)) ws s A b t' + (if (crN m (ρ 2) (ρ 3) ld (2 ^ m - 1)) s b = some t' ∧ agN sn (kk + 1) t' = true then ws else 0) := fun t' => acS_at
        first
        | (refine hgo L2 hL2 (fun t' ht' => ?_)
           rw [hst, (oI_neg hlt).mp hc46, if_neg (fun q => by cases q.1)]
           exact hA2 t' ht')
        | (rw [← hto]
           refine hgo L2 hL2 (fun t' ht' => ?_)
           have : ¬ agN sn (kk + 1) t = true := by
             intro q
             rw [if_pos q] at hc56
             exact absurd hc56 (by decide)
           rw [hst, hto, if_neg (fun q => by
             have e9 := Option.some.inj q.1
             rw [← e9] at q
             exact this q.2)]
           exact hA2 t' ht')
        | (rw [← hto]
           refine hgo _ (fun k hk => by simp [va_up, hk]; exact hL2 k hk) (fun t' ht' => ?_)
           have hag : agN sn (kk + 1) t = true := by
             by_cases q : agN sn (kk + 1) t = true
             · exact q
             · rw [if_neg q] at hc56
               exact absurd rfl hc56
           rw [hst, hto]
           simp only [va_up, if_true, vp_updL]
           by_cases e : t' = t
           · subst e
             rw [if_pos rfl, if_pos ⟨rfl, hag⟩]
           · rw [if_neg e, if_neg (fun q => e (Option.some.inj q.1).symm)]
             exact hA2 t' ht')
      · skip
        obtain ⟨t, hto⟩ : ∃ t, (crN m (ρ 2) (ρ 3) ld (2 ^ m - 1)) s b = some t := by
          cases q : (crN m (ρ 2) (ρ 3) ld (2 ^ m - 1)) s b with
          | none => exact absurd ((oI_neg hlt).mpr q) hc46
          | some t => exact ⟨t, rfl⟩
        rw [hto]
        have ht := hlt t hto
        refine J_aload_0 C dX4_followFrom_49 ?_
        refine J_iload_3 C dX4_followFrom_50 ?_
        refine J_iload_8 C dX4_followFrom_51 ?_
        refine G_vpi C dX4_followFrom_53 (c_X4_agrees E hM0 g h T L2 sn hsn hso (kk + 1) t (by omega) ht) gX4_followFrom_X4_agrees rfl dm_X4_agrees rfl rfl (hS _ (by decide)) rfl rfl (Nat.le_of_ble_eq_true rfl) (rmOK_b rfl) (fun r53 hr53 => ?_)
        subst hr53
        refine J_if_eq C 81 dX4_followFrom_56 (by decide) (fun hc56 => ?_) (fun hc56 => ?_)
        · skip
          refine J_iload_6 C dX4_followFrom_81 ?_
          refine J_iload_4 C dX4_followFrom_83 ?_
          refine G_spi C dX4_followFrom_85 (c_X3_nextSet E hM0 b d (by omega) (by omega) _ _ _ _) gX4_followFrom_X3_nextSet rfl dm_X3_nextSet rfl rfl (Nat.le_of_ble_eq_true rfl) (rmOK_b rfl) (fun r85 hr85 => ?_)
          subst hr85
          refine J_istore_6 C dX4_followFrom_88 (by decide) trivial ?_
          refine J_iinc_7 C (1) dX4_followFrom_90 (by decide) trivial ic_1 ?_
          refine J_goto C 20 dX4_followFrom_93 (by decide) ?_
          have hexit : ∀ (L2 : Nat → Nat → Int64) (x8 : Option Value), (∀ k, k ≠ 36 + (kk + 1) → L2 k = L k) → (∀ t, t < 256 → L2 (36 + (kk + 1)) t = lN (acI (crN m (ρ 2) (ρ 3) ld (2 ^ m - 1)) (agN sn (kk + 1)) ws s A (2 ^ m) t)) → J E Y (eN E) 0 0 (wS E g h T L2) 20 [some (.ref (eA E 31)), some (.ref (eA E 6)), some (.int (nI s)), some (.int (nI (kk + 1))), some (.int (nI d)), some (.int (nI (2 ^ pcN d))), some (.int (nI 0)), some (.int (nI (2 ^ pcN d))), x8] [] := by
            intro L2 x8 hL2 hA2
            refine J_iload_7 C dX4_followFrom_20 ?_
            refine J_iload_5 C dX4_followFrom_22 ?_
            refine J_icmp_ge C 96 dX4_followFrom_24 (by decide) (fun _ => ?_) (fun hc => absurd (Int32.le_refl _) hc)
            refine hQ _ _ _ dX4_followFrom_96 ⟨_, _, _, _, rfl, rfl, rfl, rfl, hL2, hA2⟩
          rw [nI_1]
          have hgo : ∀ L4 : Nat → Nat → Int64, (∀ k, k ≠ 36 + (kk + 1) → L4 k = L k) → (∀ t, t < 256 → L4 (36 + (kk + 1)) t = lN (acI (crN m (ρ 2) (ρ 3) ld (2 ^ m - 1)) (agN sn (kk + 1)) ws s A (b + 1) t)) → J E Y (eN E) 0 0 (wS E g h T L4) 20 [some (.ref (eA E 31)), some (.ref (eA E 6)), some (.int (nI s)), some (.int (nI (kk + 1))), some (.int (nI d)), some (.int (nI (2 ^ pcN d))), some (.int (nI (nxN b d))), some (.int (nI (rkN d b + 1))), some (.int (oI ((crN m (ρ 2) (ρ 3) ld (2 ^ m - 1)) s b)))] [] := by
            intro L4 hL4 hA4
            by_cases q : b = d
            · subst q
              rw [nx_end b (by omega), show rkN b b + 1 = 2 ^ pcN b by
                rw [← rk_all b (by omega)]
                show _ = rkN b b + (if b &&& b = b then 1 else 0)
                rw [if_pos hsub]]
              refine hexit L4 _ hL4 (fun t ht9 => ?_)
              have e8 := acI_skip (c := (crN m (ρ 2) (ρ 3) ld (2 ^ m - 1))) (ok := agN sn (kk + 1)) (ws := ws) (s := s) (a := A) (2 ^ m - (b + 1)) (b + 1) (fun i h1 h2 => crN_sub (fun h3 => by
                rw [hdd] at h3
                have e7 : b &&& (2 ^ m - 1) = b := by rw [Nat.and_two_pow_sub_one_eq_mod, Nat.mod_eq_of_lt hdm]
                rw [e7] at h3
                have : i ≤ b := by rw [← h3]; exact Nat.and_le_right
                omega))
              rw [show b + 1 + (2 ^ m - (b + 1)) = 2 ^ m by omega] at e8
              rw [e8]
              exact hA4 t ht9
            · obtain ⟨a1, a2, a3⟩ := nx_spec (by omega) hsub q
              rw [← rk_next (by omega) hsub q]
              refine ih (nxN b d) L4 _ a2 (by omega) hL4 (fun t ht9 => ?_)
              have e8 := acI_skip (c := (crN m (ρ 2) (ρ 3) ld (2 ^ m - 1))) (ok := agN sn (kk + 1)) (ws := ws) (s := s) (a := A) (nxN b d - (b + 1)) (b + 1) (fun i h1 h2 => crN_sub (fun h3 => a3 i (by omega) (by omega) (by rw [hd]; exact h3)))
              rw [show b + 1 + (nxN b d - (b + 1)) = nxN b d by omega] at e8
              rw [e8]
              exact hA4 t ht9
          have hst : ∀ t', acI (crN m (ρ 2) (ρ 3) ld (2 ^ m - 1)) (agN sn (kk + 1)) ws s A (b + 1) t' = acI (crN m (ρ 2) (ρ 3) ld (2 ^ m - 1)) (agN sn (kk + 1)) ws s A b t' + (if (crN m (ρ 2) (ρ 3) ld (2 ^ m - 1)) s b = some t' ∧ agN sn (kk + 1) t' = true then ws else 0) := fun t' => acS_at
          first
          | (refine hgo L2 hL2 (fun t' ht' => ?_)
             rw [hst, (oI_neg hlt).mp hc46, if_neg (fun q => by cases q.1)]
             exact hA2 t' ht')
          | (rw [← hto]
             refine hgo L2 hL2 (fun t' ht' => ?_)
             have : ¬ agN sn (kk + 1) t = true := by
               intro q
               rw [if_pos q] at hc56
               exact absurd hc56 (by decide)
             rw [hst, hto, if_neg (fun q => by
               have e9 := Option.some.inj q.1
               rw [← e9] at q
               exact this q.2)]
             exact hA2 t' ht')
          | (rw [← hto]
             refine hgo _ (fun k hk => by simp [va_up, hk]; exact hL2 k hk) (fun t' ht' => ?_)
             have hag : agN sn (kk + 1) t = true := by
               by_cases q : agN sn (kk + 1) t = true
               · exact q
               · rw [if_neg q] at hc56
                 exact absurd rfl hc56
             rw [hst, hto]
             simp only [va_up, if_true, vp_updL]
             by_cases e : t' = t
             · subst e
               rw [if_pos rfl, if_pos ⟨rfl, hag⟩]
             · rw [if_neg e, if_neg (fun q => e (Option.some.inj q.1).symm)]
               exact hA2 t' ht')
        · skip
          refine J_aload_0 C dX4_followFrom_59 ?_
          refine G4_getr C (n := 35) 4 dX4_followFrom_60 fX4_followFrom_29 iX4_followFrom_4 rfl (hS _ (by decide)) rfl rfl ?_
          refine J_iload_3 C dX4_followFrom_63 ?_
          refine G_gald C (m := 36 + (kk + 1)) (kk + 1) dX4_followFrom_64 rfl (hS _ (by decide)) rfl (by omega) rfl ?_
          refine J_iload_8 C dX4_followFrom_65 ?_
          refine J_dup2 C dX4_followFrom_67 ?_
          refine G_lald C t dX4_followFrom_68 (kd36 (kk + 1) (by omega)) (hS _ (by omega)) rfl ht ?_
          rw [hA2 t ht]
          refine J_aload_0 C dX4_followFrom_69 ?_
          refine G4_getr C (n := 35) 4 dX4_followFrom_70 fX4_followFrom_29 iX4_followFrom_4 rfl (hS _ (by decide)) rfl rfl ?_
          refine J_iload_3 C dX4_followFrom_73 ?_
          refine J_iconst C (1) dX4_followFrom_74 ic_1 ?_
          refine J_isub C dX4_followFrom_75 ?_
          refine G_gald C (m := 36 + kk) kk dX4_followFrom_76 rfl (hS _ (by decide)) (nI_pred kk) (by omega) rfl ?_
          refine J_iload_2 C dX4_followFrom_77 ?_
          refine G_lald C s dX4_followFrom_78 (kd36 kk (by omega)) (hS _ (by omega)) rfl hs ?_
          rw [hL2 (36 + kk) (by omega), hws]
          refine J_ladd C dX4_followFrom_79 ?_
          rw [lN_add]
          refine G_last C t dX4_followFrom_80 (kd36 (kk + 1) (by omega)) (hS _ (by omega)) rfl ht ?_
          refine J_iload_6 C dX4_followFrom_81 ?_
          refine J_iload_4 C dX4_followFrom_83 ?_
          refine G_spi C dX4_followFrom_85 (c_X3_nextSet E hM0 b d (by omega) (by omega) _ _ _ _) gX4_followFrom_X3_nextSet rfl dm_X3_nextSet rfl rfl (Nat.le_of_ble_eq_true rfl) (rmOK_b rfl) (fun r85 hr85 => ?_)
          subst hr85
          refine J_istore_6 C dX4_followFrom_88 (by decide) trivial ?_
          refine J_iinc_7 C (1) dX4_followFrom_90 (by decide) trivial ic_1 ?_
          refine J_goto C 20 dX4_followFrom_93 (by decide) ?_
          have hexit : ∀ (L2 : Nat → Nat → Int64) (x8 : Option Value), (∀ k, k ≠ 36 + (kk + 1) → L2 k = L k) → (∀ t, t < 256 → L2 (36 + (kk + 1)) t = lN (acI (crN m (ρ 2) (ρ 3) ld (2 ^ m - 1)) (agN sn (kk + 1)) ws s A (2 ^ m) t)) → J E Y (eN E) 0 0 (wS E g h T L2) 20 [some (.ref (eA E 31)), some (.ref (eA E 6)), some (.int (nI s)), some (.int (nI (kk + 1))), some (.int (nI d)), some (.int (nI (2 ^ pcN d))), some (.int (nI 0)), some (.int (nI (2 ^ pcN d))), x8] [] := by
            intro L2 x8 hL2 hA2
            refine J_iload_7 C dX4_followFrom_20 ?_
            refine J_iload_5 C dX4_followFrom_22 ?_
            refine J_icmp_ge C 96 dX4_followFrom_24 (by decide) (fun _ => ?_) (fun hc => absurd (Int32.le_refl _) hc)
            refine hQ _ _ _ dX4_followFrom_96 ⟨_, _, _, _, rfl, rfl, rfl, rfl, hL2, hA2⟩
          rw [nI_1]
          have hgo : ∀ L4 : Nat → Nat → Int64, (∀ k, k ≠ 36 + (kk + 1) → L4 k = L k) → (∀ t, t < 256 → L4 (36 + (kk + 1)) t = lN (acI (crN m (ρ 2) (ρ 3) ld (2 ^ m - 1)) (agN sn (kk + 1)) ws s A (b + 1) t)) → J E Y (eN E) 0 0 (wS E g h T L4) 20 [some (.ref (eA E 31)), some (.ref (eA E 6)), some (.int (nI s)), some (.int (nI (kk + 1))), some (.int (nI d)), some (.int (nI (2 ^ pcN d))), some (.int (nI (nxN b d))), some (.int (nI (rkN d b + 1))), some (.int (oI ((crN m (ρ 2) (ρ 3) ld (2 ^ m - 1)) s b)))] [] := by
            intro L4 hL4 hA4
            by_cases q : b = d
            · subst q
              rw [nx_end b (by omega), show rkN b b + 1 = 2 ^ pcN b by
                rw [← rk_all b (by omega)]
                show _ = rkN b b + (if b &&& b = b then 1 else 0)
                rw [if_pos hsub]]
              refine hexit L4 _ hL4 (fun t ht9 => ?_)
              have e8 := acI_skip (c := (crN m (ρ 2) (ρ 3) ld (2 ^ m - 1))) (ok := agN sn (kk + 1)) (ws := ws) (s := s) (a := A) (2 ^ m - (b + 1)) (b + 1) (fun i h1 h2 => crN_sub (fun h3 => by
                rw [hdd] at h3
                have e7 : b &&& (2 ^ m - 1) = b := by rw [Nat.and_two_pow_sub_one_eq_mod, Nat.mod_eq_of_lt hdm]
                rw [e7] at h3
                have : i ≤ b := by rw [← h3]; exact Nat.and_le_right
                omega))
              rw [show b + 1 + (2 ^ m - (b + 1)) = 2 ^ m by omega] at e8
              rw [e8]
              exact hA4 t ht9
            · obtain ⟨a1, a2, a3⟩ := nx_spec (by omega) hsub q
              rw [← rk_next (by omega) hsub q]
              refine ih (nxN b d) L4 _ a2 (by omega) hL4 (fun t ht9 => ?_)
              have e8 := acI_skip (c := (crN m (ρ 2) (ρ 3) ld (2 ^ m - 1))) (ok := agN sn (kk + 1)) (ws := ws) (s := s) (a := A) (nxN b d - (b + 1)) (b + 1) (fun i h1 h2 => crN_sub (fun h3 => a3 i (by omega) (by omega) (by rw [hd]; exact h3)))
              rw [show b + 1 + (nxN b d - (b + 1)) = nxN b d by omega] at e8
              rw [e8]
              exact hA4 t ht9
          have hst : ∀ t', acI (crN m (ρ 2) (ρ 3) ld (2 ^ m - 1)) (agN sn (kk + 1)) ws s A (b + 1) t' = acI (crN m (ρ 2) (ρ 3) ld (2 ^ m - 1)) (agN sn (kk + 1)) ws s A b t' + (if (crN m (ρ 2) (ρ 3) ld (2 ^ m - 1)) s b = some t' ∧ agN sn (kk + 1) t' = true then ws else 0) := fun t' => acS_at
          first
          | (refine hgo L2 hL2 (fun t' ht' => ?_)
             rw [hst, (oI_neg hlt).mp hc46, if_neg (fun q => by cases q.1)]
             exact hA2 t' ht')
          | (rw [← hto]
             refine hgo L2 hL2 (fun t' ht' => ?_)
             have : ¬ agN sn (kk + 1) t = true := by
               intro q
               rw [if_pos q] at hc56
               exact absurd hc56 (by decide)
             rw [hst, hto, if_neg (fun q => by
               have e9 := Option.some.inj q.1
               rw [← e9] at q
               exact this q.2)]
             exact hA2 t' ht')
          | (rw [← hto]
             refine hgo _ (fun k hk => by simp [va_up, hk]; exact hL2 k hk) (fun t' ht' => ?_)
             have hag : agN sn (kk + 1) t = true := by
               by_cases q : agN sn (kk + 1) t = true
               · exact q
               · rw [if_neg q] at hc56
                 exact absurd rfl hc56
             rw [hst, hto]
             simp only [va_up, if_true, vp_updL]
             by_cases e : t' = t
             · subst e
               rw [if_pos rfl, if_pos ⟨rfl, hag⟩]
             · rw [if_neg e, if_neg (fun q => e (Option.some.inj q.1).symm)]
               exact hA2 t' ht')
  exact loop (d + 1) 0 L _ (by simp) (by omega) (fun _ _ => rfl) hA
