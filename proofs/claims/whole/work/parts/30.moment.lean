/-! a moment: standing, days, ice, lot, what may be undone -/
abbrev MO : Type := Nat × Nat × Nat × Int32 × List (Nat × Nat)
def MomX (g : Nat → Int32) (T : Nat → Nat → Int32) (b : Nat) (μ : MO) : Prop := g (100 * b + 0) = nI μ.1 ∧ g (100 * b + 1) = nI μ.2.1 ∧ g (100 * b + 2) = nI μ.2.2.1 ∧ g (100 * b + 3) = μ.2.2.2.1 ∧ g (100 * b + 4) = nI μ.2.2.2.2.length ∧ ∀ (i : Nat) (q : Nat × Nat), μ.2.2.2.2[i]? = some q → T (b + 1) i = nI q.1 ∧ T (b + 2) i = nI q.2
def MoOK (μ : MO) : Prop := μ.1 < 256 ∧ μ.2.1 ≤ 20 ∧ μ.2.2.1 ≤ 9 ∧ μ.2.2.2.2.length ≤ 10 ∧ ∀ (i : Nat) (q : Nat × Nat), μ.2.2.2.2[i]? = some q → q.1 < 256 ∧ q.2 ≤ 20
def dropU (u : List (Nat × Nat)) : List (Nat × Nat) := if u.length = 10 then u.drop 1 else u
def pushU (u : List (Nat × Nat)) (x : Nat × Nat) : List (Nat × Nat) := dropU u ++ [x]
theorem dropU_len {u : List (Nat × Nat)} (h : u.length ≤ 10) : (dropU u).length ≤ 9 := by
  unfold dropU
  split
  · simp; omega
  · omega
theorem gapp {u : List (Nat × Nat)} {e x : Nat × Nat} {i : Nat} (h : (u ++ [e])[i]? = some x) : u[i]? = some x ∨ (i = u.length ∧ x = e) := by
  by_cases hi : i < u.length
  · rw [List.getElem?_append_left hi] at h
    exact Or.inl h
  · rw [List.getElem?_append_right (by omega)] at h
    have h1 : i - u.length < 1 := (List.getElem?_eq_some_iff.mp h).1
    have h2 : i - u.length = 0 := by omega
    rw [h2] at h
    simp at h
    exact Or.inr ⟨by omega, h.symm⟩
theorem MoOK.push {μ : MO} (h : MoOK μ) {s d i : Nat} {c : Int32} (hs : s < 256) (hd : d ≤ 20) (hi : i ≤ 9) : MoOK (s, d, i, c, pushU μ.2.2.2.2 (μ.1, μ.2.1)) := by
  obtain ⟨h1, h2, h3, h4, h5⟩ := h
  have hl := dropU_len h4
  refine ⟨hs, hd, hi, by unfold pushU; simp; omega, fun j q hq => ?_⟩
  rcases gapp hq with a | ⟨-, rfl⟩
  · unfold dropU at a
    split at a
    · rw [List.getElem?_drop] at a
      exact h5 _ q a
    · exact h5 _ q a
  · exact ⟨h1, h2⟩
section
variable {E : EN} {Y : YN} {cc : ByteArray} {nL : Nat} {own : String} {Ts : List Cond} {R : Room} {N cs ss : Nat} {w : Nat → va_E} {pc : Nat} {lv : List (Option Value)} {st : List Value}
theorem J_mmin (C : Cx E Y cc nL own Ts R) {index : Nat} {x y : Int32} (hd : decode cc pc = .ok (.invokestatic index, 3)) (h1 : Cond.methodLink own index Lib.Math.min.name ∈ Ts) (h2 : Cond.static Lib.Math.min.name ∈ Ts) (h3 : Cond.initialized "java/lang/Math" ∈ Ts) (h4 : Cond.code Lib.Math.min.name Lib.Math.min.code 2 (some .int) ∈ Ts) (hf : 1 ≤ R.frames) (hl : (st.map fun v => v.category).sum + 13 ≤ R.locals) (hc : cs ≤ R.cells) (hs : ss ≤ R.slots) (kk : J E Y N cs ss w (pc + 3) lv (.int (if y < x then y else x) :: st)) : J E Y N cs ss w pc lv (.int y :: .int x :: st) := by
  intro H locs ls hI hls
  have hts := C.2.2.2.2.2.1
  have hR := C.2.2.2.2.2.2.2.1
  exact va_mmin C.1 C.2.1 (C.2.2.1.trans hls.1.symm) C.2.2.2.2.1 (hts _ h1) (hts _ h2) (hts _ h3) (hts _ h4) (by rw [hR]; exact hf) (by rw [hR]; exact hl) (by rw [hR]; exact hc) (by rw [hR]; exact hs) hd (kk H locs ls hI hls)
theorem J_mmax (C : Cx E Y cc nL own Ts R) {index : Nat} {x y : Int32} (hd : decode cc pc = .ok (.invokestatic index, 3)) (h1 : Cond.methodLink own index Lib.Math.max.name ∈ Ts) (h2 : Cond.static Lib.Math.max.name ∈ Ts) (h3 : Cond.initialized "java/lang/Math" ∈ Ts) (h4 : Cond.code Lib.Math.max.name Lib.Math.max.code 2 (some .int) ∈ Ts) (hf : 1 ≤ R.frames) (hl : (st.map fun v => v.category).sum + 13 ≤ R.locals) (hc : cs ≤ R.cells) (hs : ss ≤ R.slots) (kk : J E Y N cs ss w (pc + 3) lv (.int (if x < y then y else x) :: st)) : J E Y N cs ss w pc lv (.int y :: .int x :: st) := by
  intro H locs ls hI hls
  have hts := C.2.2.2.2.2.1
  have hR := C.2.2.2.2.2.2.2.1
  exact va_mmax C.1 C.2.1 (C.2.2.1.trans hls.1.symm) C.2.2.2.2.1 (hts _ h1) (hts _ h2) (hts _ h3) (hts _ h4) (by rw [hR]; exact hf) (by rw [hR]; exact hl) (by rw [hR]; exact hc) (by rw [hR]; exact hs) hd (kk H locs ls hI hls)
end
def fzN (i : Nat) : Nat := if i < 9 then i + 1 else 9
theorem fz_ok : ∀ i, i ≤ 9 → (if (9 : Int32) < nI i + 1 then (9 : Int32) else nI i + 1) = nI (fzN i) := by decide
theorem th_ok : ∀ i, i ≤ 9 → (if nI i - 1 < (0 : Int32) then (0 : Int32) else nI i - 1) = nI (i - 1) := by decide
def lcg (c : Int32) : Int32 := c * 1103515245 + 12345
def drw (c : Int32) : Int32 := usI c 16 - usI c 16 / 10 * 10

abbrev rmX0_bankOf : Room := { frames := 0, cells := 0, slots := 0, locals := 0 }
theorem fX0_bankOf_7 : Cond.fieldLink RX0 7 RX0 (TX0 0).2.1 (TX0 0).2.2.1 ∈ wsX0_bankOf := by decide +kernel
theorem iX0_bankOf_0 : ∀ x ∈ wsX00, x ∈ wsX0_bankOf := by decide +kernel
theorem bc_7 : (Int8.ofInt (7)).toInt32 = (7) := by decide
set_option maxRecDepth 100000 in
set_option maxHeartbeats 4000000 in
theorem c_X0_bankOf (E : EN) (hM : EM E) (t s : Nat) (ht : t < 7) (hs : s < 256) (g : Nat → Int32) (h : Nat → Int64) (T : Nat → Nat → Int32) (L : Nat → Nat → Int64) (hg : g 2000 = nI s) : GpI E yX0_bankOf wsX0_bankOf rmX0_bankOf [.ref (eA E 20), .int (nI t)] g h T L (fun r => r = if s.testBit t = true then 1 else 0) := by
  refine CtI_of (cc := cX0_bankOf) (nL := 2) RX0 [some (.ref (eA E 20)), some (.int (nI t))] ⟨rfl, rfl⟩ (by decide) rfl rfl (Nat.le_of_ble_eq_true rfl) ⟨0, rfl⟩ hM.2 (fun Y C hQ => ?_)
  obtain ⟨hS, hNN⟩ := hM
  refine J_iload_1 C dX0_bankOf_0 ?_
  refine J_if_lt C 25 dX0_bankOf_1 (by decide) (fun hc => absurd hc (nI_pos (show t < 2 ^ 31 by omega))) (fun hc1 => ?_)
  refine J_iload_1 C dX0_bankOf_4 ?_
  refine J_bipush C (7) dX0_bankOf_5 bc_7 ?_
  refine J_icmp_ge C 25 dX0_bankOf_7 (by decide) (fun hc => absurd hc (show ¬ (7 : Int32) ≤ nI t from nI_ge (b := 7) ht (by decide))) (fun hc7 => ?_)
  refine J_aload_0 C dX0_bankOf_10 ?_
  refine G0_geti C (n := 2000) 0 dX0_bankOf_11 fX0_bankOf_7 iX0_bankOf_0 rfl (hS _ (by decide)) rfl rfl ?_
  refine J_iconst C (1) dX0_bankOf_14 ic_1 ?_
  refine J_iload_1 C dX0_bankOf_15 ?_
  refine J_ishl C dX0_bankOf_16 ?_
  refine J_iand C dX0_bankOf_17 ?_
  rw [hg, nI_sh1 t (by omega), nI_and]
  refine J_if_eq C 25 dX0_bankOf_18 (by decide) (fun hc18 => ?_) (fun hc18 => ?_)
  · skip
    refine J_iconst C (0) dX0_bankOf_25 ic_0 ?_
    refine hQ _ _ _ _ dX0_bankOf_26 ⟨rfl, ?_⟩
    rw [nI_z (Nat.lt_of_le_of_lt Nat.and_le_left (by omega)), tb_iff] at hc18
    cases q : s.testBit t
    · first
      | rfl
      | exact absurd q hc18
    · first
      | rfl
      | (rw [q] at hc18; cases hc18)
  · skip
    refine J_iconst C (1) dX0_bankOf_21 ic_1 ?_
    refine J_goto C 26 dX0_bankOf_22 (by decide) ?_
    refine hQ _ _ _ _ dX0_bankOf_26 ⟨rfl, ?_⟩
    rw [nI_z (Nat.lt_of_le_of_lt Nat.and_le_left (by omega)), tb_iff] at hc18
    cases q : s.testBit t
    · first
      | rfl
      | exact absurd q hc18
    · first
      | rfl
      | (rw [q] at hc18; cases hc18)
abbrev rmX0_draw : Room := { frames := 0, cells := 0, slots := 0, locals := 0 }
theorem kcX0_draw_38 : Cond.constant RX0 38 (1103515245) ∈ wsX0_draw := by decide +kernel
theorem fX0_draw_19 : Cond.fieldLink RX0 19 RX0 (TX0 3).2.1 (TX0 3).2.2.1 ∈ wsX0_draw := by decide +kernel
theorem iX0_draw_0 : ∀ x ∈ wsX00, x ∈ wsX0_draw := by decide +kernel
theorem bc_10 : (Int8.ofInt (10)).toInt32 = (10) := by decide
theorem sc_12345 : (Int16.ofInt (12345)).toInt32 = (12345) := by decide
set_option maxRecDepth 100000 in
set_option maxHeartbeats 4000000 in
theorem c_X0_draw (E : EN) (hM : EM E) (g : Nat → Int32) (h : Nat → Int64) (T : Nat → Nat → Int32) (L : Nat → Nat → Int64) : GtI E yX0_draw wsX0_draw rmX0_draw [.ref (eA E 20)] g h T L (fun r g2 h2 T2 L2 => r = drw (lcg (g 2003)) ∧ g2 = upd g 2003 (lcg (g 2003)) ∧ h2 = h ∧ T2 = T ∧ L2 = L) := by
  refine CtI_of (cc := cX0_draw) (nL := 1) RX0 [some (.ref (eA E 20))] ⟨rfl, rfl⟩ (by decide) rfl rfl (Nat.le_of_ble_eq_true rfl) ⟨0, rfl⟩ hM.2 (fun Y C hQ => ?_)
  obtain ⟨hS, hNN⟩ := hM
  refine J_aload_0 C dX0_draw_0 ?_
  refine J_aload_0 C dX0_draw_1 ?_
  refine G0_geti C (n := 2003) 3 dX0_draw_2 fX0_draw_19 iX0_draw_0 rfl (hS _ (by decide)) rfl rfl ?_
  refine J_ldc C kcX0_draw_38 dX0_draw_5 ?_
  refine J_imul C dX0_draw_7 ?_
  refine J_sipush C (12345) dX0_draw_8 sc_12345 ?_
  refine J_iadd C dX0_draw_11 ?_
  refine J_top (y := lcg (g 2003)) rfl ?_
  refine G0_puti C (n := 2003) 3 dX0_draw_12 fX0_draw_19 iX0_draw_0 rfl (hS _ (by decide)) rfl (tyX0_ok 3 (by decide)) rfl rfl ?_
  refine J_aload_0 C dX0_draw_15 ?_
  refine G0_geti C (n := 2003) 3 dX0_draw_16 fX0_draw_19 iX0_draw_0 rfl (hS _ (by decide)) rfl rfl ?_
  refine J_top (y := lcg (g 2003)) (by simp [upd]) ?_
  refine J_bipush C (16) dX0_draw_19 bc_16 ?_
  refine J_iushr C dX0_draw_21 ?_
  refine J_top (y := usI (lcg (g 2003)) 16) rfl ?_
  refine J_bipush C (10) dX0_draw_22 bc_10 ?_
  refine J_irem C dX0_draw_24 (by decide) ?_
  refine hQ _ _ _ _ dX0_draw_25 ⟨_, _, _, _, rfl, ?_⟩
  exact ⟨rfl, rfl, rfl, rfl, rfl⟩
abbrev rmX0_freeze : Room := { frames := 1, cells := 0, slots := 0, locals := 30 }
theorem mmX0_freeze_1 : Cond.methodLink RX0 39 Lib.Math.min.name ∈ wsX0_freeze := by decide +kernel
theorem mmX0_freeze_2 : Cond.static Lib.Math.min.name ∈ wsX0_freeze := by decide +kernel
theorem mmX0_freeze_3 : Cond.initialized "java/lang/Math" ∈ wsX0_freeze := by decide +kernel
theorem mmX0_freeze_4 : Cond.code Lib.Math.min.name Lib.Math.min.code 2 (some .int) ∈ wsX0_freeze := by decide +kernel
theorem fX0_freeze_16 : Cond.fieldLink RX0 16 RX0 (TX0 2).2.1 (TX0 2).2.2.1 ∈ wsX0_freeze := by decide +kernel
theorem iX0_freeze_0 : ∀ x ∈ wsX00, x ∈ wsX0_freeze := by decide +kernel
theorem bc_9 : (Int8.ofInt (9)).toInt32 = (9) := by decide
set_option maxRecDepth 100000 in
set_option maxHeartbeats 4000000 in
theorem c_X0_freeze (E : EN) (hM : EM E) (i : Nat) (hi : i ≤ 9) (g : Nat → Int32) (h : Nat → Int64) (T : Nat → Nat → Int32) (L : Nat → Nat → Int64) (hg : g 2002 = nI i) : GtV E yX0_freeze wsX0_freeze rmX0_freeze [.ref (eA E 20)] g h T L (fun g2 h2 T2 L2 => g2 = upd g 2002 (nI (fzN i)) ∧ h2 = h ∧ T2 = T ∧ L2 = L) := by
  refine CtV_of (cc := cX0_freeze) (nL := 1) RX0 [some (.ref (eA E 20))] ⟨rfl, rfl⟩ (by decide) rfl rfl (Nat.le_of_ble_eq_true rfl) ⟨0, rfl⟩ hM.2 (fun Y hnm C hQ => ?_)
  obtain ⟨hS, hNN⟩ := hM
  refine J_aload_0 C dX0_freeze_0 ?_
  refine J_aload_0 C dX0_freeze_1 ?_
  refine G0_geti C (n := 2002) 2 dX0_freeze_2 fX0_freeze_16 iX0_freeze_0 rfl (hS _ (by decide)) rfl rfl ?_
  refine J_iconst C (1) dX0_freeze_5 ic_1 ?_
  refine J_iadd C dX0_freeze_6 ?_
  refine J_bipush C (9) dX0_freeze_7 bc_9 ?_
  rw [hg]
  refine J_mmin C dX0_freeze_9 mmX0_freeze_1 mmX0_freeze_2 mmX0_freeze_3 mmX0_freeze_4 (Nat.le_of_ble_eq_true rfl) (Nat.le_of_ble_eq_true rfl) (Nat.le_of_ble_eq_true rfl) (Nat.le_of_ble_eq_true rfl) ?_
  rw [fz_ok i hi]
  refine G0_puti C (n := 2002) 2 dX0_freeze_12 fX0_freeze_16 iX0_freeze_0 rfl (hS _ (by decide)) rfl (tyX0_ok 2 (by decide)) rfl rfl ?_
  refine hQ _ _ _ dX0_freeze_15 ⟨_, _, _, _, rfl, rfl, rfl, rfl, rfl⟩
abbrev rmX0_thaw : Room := { frames := 1, cells := 0, slots := 0, locals := 30 }
theorem mmX0_thaw_1 : Cond.methodLink RX0 45 Lib.Math.max.name ∈ wsX0_thaw := by decide +kernel
theorem mmX0_thaw_2 : Cond.static Lib.Math.max.name ∈ wsX0_thaw := by decide +kernel
theorem mmX0_thaw_3 : Cond.initialized "java/lang/Math" ∈ wsX0_thaw := by decide +kernel
theorem mmX0_thaw_4 : Cond.code Lib.Math.max.name Lib.Math.max.code 2 (some .int) ∈ wsX0_thaw := by decide +kernel
theorem fX0_thaw_16 : Cond.fieldLink RX0 16 RX0 (TX0 2).2.1 (TX0 2).2.2.1 ∈ wsX0_thaw := by decide +kernel
theorem iX0_thaw_0 : ∀ x ∈ wsX00, x ∈ wsX0_thaw := by decide +kernel
set_option maxRecDepth 100000 in
set_option maxHeartbeats 4000000 in
theorem c_X0_thaw (E : EN) (hM : EM E) (i : Nat) (hi : i ≤ 9) (g : Nat → Int32) (h : Nat → Int64) (T : Nat → Nat → Int32) (L : Nat → Nat → Int64) (hg : g 2002 = nI i) : GtV E yX0_thaw wsX0_thaw rmX0_thaw [.ref (eA E 20)] g h T L (fun g2 h2 T2 L2 => g2 = upd g 2002 (nI (i - 1)) ∧ h2 = h ∧ T2 = T ∧ L2 = L) := by
  refine CtV_of (cc := cX0_thaw) (nL := 1) RX0 [some (.ref (eA E 20))] ⟨rfl, rfl⟩ (by decide) rfl rfl (Nat.le_of_ble_eq_true rfl) ⟨0, rfl⟩ hM.2 (fun Y hnm C hQ => ?_)
  obtain ⟨hS, hNN⟩ := hM
  refine J_aload_0 C dX0_thaw_0 ?_
  refine J_aload_0 C dX0_thaw_1 ?_
  refine G0_geti C (n := 2002) 2 dX0_thaw_2 fX0_thaw_16 iX0_thaw_0 rfl (hS _ (by decide)) rfl rfl ?_
  refine J_iconst C (1) dX0_thaw_5 ic_1 ?_
  refine J_isub C dX0_thaw_6 ?_
  refine J_iconst C (0) dX0_thaw_7 ic_0 ?_
  rw [hg]
  refine J_mmax C dX0_thaw_8 mmX0_thaw_1 mmX0_thaw_2 mmX0_thaw_3 mmX0_thaw_4 (Nat.le_of_ble_eq_true rfl) (Nat.le_of_ble_eq_true rfl) (Nat.le_of_ble_eq_true rfl) (Nat.le_of_ble_eq_true rfl) ?_
  rw [th_ok i hi]
  refine G0_puti C (n := 2002) 2 dX0_thaw_11 fX0_thaw_16 iX0_thaw_0 rfl (hS _ (by decide)) rfl (tyX0_ok 2 (by decide)) rfl rfl ?_
  refine hQ _ _ _ dX0_thaw_14 ⟨_, _, _, _, rfl, rfl, rfl, rfl, rfl⟩
abbrev rmX0_loseOldest : Room := { frames := 0, cells := 0, slots := 0, locals := 0 }
theorem fX0_loseOldest_22 : Cond.fieldLink RX0 22 RX0 (TX0 4).2.1 (TX0 4).2.2.1 ∈ wsX0_loseOldest := by decide +kernel
theorem fX0_loseOldest_25 : Cond.fieldLink RX0 25 RX0 (TX0 5).2.1 (TX0 5).2.2.1 ∈ wsX0_loseOldest := by decide +kernel
theorem fX0_loseOldest_29 : Cond.fieldLink RX0 29 RX0 (TX0 6).2.1 (TX0 6).2.2.1 ∈ wsX0_loseOldest := by decide +kernel
theorem iX0_loseOldest_0 : ∀ x ∈ wsX00, x ∈ wsX0_loseOldest := by decide +kernel
set_option maxRecDepth 100000 in
set_option maxHeartbeats 4000000 in
theorem c_X0_loseOldest (E : EN) (hM : EM E) (g : Nat → Int32) (h : Nat → Int64) (T : Nat → Nat → Int32) (L : Nat → Nat → Int64) : GtV E yX0_loseOldest wsX0_loseOldest rmX0_loseOldest [.ref (eA E 20)] g h T L (fun g2 h2 T2 L2 => g2 = upd g 2004 9 ∧ h2 = h ∧ L2 = L ∧ (∀ k, k ≠ 21 → k ≠ 22 → T2 k = T k) ∧ ∀ j, j < 9 → T2 21 j = T 21 (j + 1) ∧ T2 22 j = T 22 (j + 1)) := by
  refine CtV_of (cc := cX0_loseOldest) (nL := 2) RX0 [some (.ref (eA E 20)), none] ⟨rfl, rfl⟩ (by decide) rfl rfl (Nat.le_of_ble_eq_true rfl) ⟨1, rfl⟩ hM.2 (fun Y hnm C hQ => ?_)
  obtain ⟨hS, hNN⟩ := hM
  refine J_iconst C (1) dX0_loseOldest_0 ic_1 ?_
  refine J_istore_1 C dX0_loseOldest_1 (by decide) trivial ?_
  have loop : ∀ (n : Nat) (k : Nat) (T2 : Nat → Nat → Int32), 1 ≤ k → k ≤ 10 → 10 < n + k → (∀ i, i ≠ 21 → i ≠ 22 → T2 i = T i) → (∀ j, T2 21 j = (if j + 1 < k then T 21 (j + 1) else T 21 j) ∧ T2 22 j = (if j + 1 < k then T 22 (j + 1) else T 22 j)) → J E Y (eN E) 0 0 (wS E g h T2 L) 2 [some (.ref (eA E 20)), some (.int (nI k))] [] := by
    intro n
    induction n with
    | zero =>
      intro k T2 h0 h1 h2 hT hz
      omega
    | succ n ih =>
      intro k T2 h0 h1 h2 hT hz
      refine J_iload_1 C dX0_loseOldest_2 ?_
      refine J_bipush C (10) dX0_loseOldest_3 bc_10 ?_
      refine J_icmp_ge C 42 dX0_loseOldest_5 (by decide) (fun hc5 => ?_) (fun hc5 => ?_)
      · skip
        refine J_aload_0 C dX0_loseOldest_42 ?_
        refine J_bipush C (9) dX0_loseOldest_43 bc_9 ?_
        refine G0_puti C (n := 2004) 4 dX0_loseOldest_45 fX0_loseOldest_22 iX0_loseOldest_0 rfl (hS _ (by decide)) rfl (tyX0_ok 4 (by decide)) rfl rfl ?_
        refine hQ _ _ _ dX0_loseOldest_48 ⟨_, _, _, _, rfl, ?_⟩
        have hk : k = 10 := by
          have := ge_nI (m := 10) (by omega) hc5
          omega
        subst hk
        refine ⟨rfl, rfl, rfl, hT, fun j hj => ?_⟩
        have := hz j
        rw [if_pos (by omega), if_pos (by omega)] at this
        exact this
      · skip
        have hk : k < 10 := lt_nI (m := 10) (by omega) hc5
        obtain ⟨i, rfl⟩ : ∃ i, k = i + 1 := ⟨k - 1, by omega⟩
        have hsub : nI (i + 1) - 1 = nI i := nI_pred i
        refine J_aload_0 C dX0_loseOldest_8 ?_
        refine G0_getr C (n := 21) 5 dX0_loseOldest_9 fX0_loseOldest_25 iX0_loseOldest_0 rfl (hS _ (by decide)) rfl rfl ?_
        refine J_iload_1 C dX0_loseOldest_12 ?_
        refine J_iconst C (1) dX0_loseOldest_13 ic_1 ?_
        refine J_isub C dX0_loseOldest_14 ?_
        refine J_aload_0 C dX0_loseOldest_15 ?_
        refine G0_getr C (n := 21) 5 dX0_loseOldest_16 fX0_loseOldest_25 iX0_loseOldest_0 rfl (hS _ (by decide)) rfl rfl ?_
        refine J_iload_1 C dX0_loseOldest_19 ?_
        refine G_iald C (i + 1) dX0_loseOldest_20 rfl (hS _ (by decide)) rfl hk ?_
        refine G_iast C i dX0_loseOldest_21 rfl (hS _ (by decide)) hsub (by omega) ?_
        refine J_aload_0 C dX0_loseOldest_22 ?_
        refine G0_getr C (n := 22) 6 dX0_loseOldest_23 fX0_loseOldest_29 iX0_loseOldest_0 rfl (hS _ (by decide)) rfl rfl ?_
        refine J_iload_1 C dX0_loseOldest_26 ?_
        refine J_iconst C (1) dX0_loseOldest_27 ic_1 ?_
        refine J_isub C dX0_loseOldest_28 ?_
        refine J_aload_0 C dX0_loseOldest_29 ?_
        refine G0_getr C (n := 22) 6 dX0_loseOldest_30 fX0_loseOldest_29 iX0_loseOldest_0 rfl (hS _ (by decide)) rfl rfl ?_
        refine J_iload_1 C dX0_loseOldest_33 ?_
        refine G_iald C (i + 1) dX0_loseOldest_34 rfl (hS _ (by decide)) rfl hk ?_
        refine G_iast C i dX0_loseOldest_35 rfl (hS _ (by decide)) hsub (by omega) ?_
        refine J_iinc_1 C (1) dX0_loseOldest_36 (by decide) trivial ic_1 ?_
        refine J_goto C 2 dX0_loseOldest_39 (by decide) ?_
        rw [nI_1]
        refine ih (i + 1 + 1) _ (by omega) (by omega) (by omega) (fun q hq hq2 => by simp [va_up, hq, hq2]; exact hT q hq hq2) (fun j => ?_)
        have e1 : T2 21 (i + 1) = T 21 (i + 1) := by
          have h9 := (hz (i + 1)).1
          rwa [if_neg (show ¬ i + 1 + 1 < i + 1 by omega)] at h9
        have e2 : T2 22 (i + 1) = T 22 (i + 1) := by
          have h9 := (hz (i + 1)).2
          rwa [if_neg (show ¬ i + 1 + 1 < i + 1 by omega)] at h9
        have e3 := hz j
        by_cases q : j = i
        · subst q
          simp only [va_up, upd, if_true, if_neg (show ¬ (21 : Nat) = 22 by decide), if_neg (show ¬ (22 : Nat) = 21 by decide), if_pos (show j + 1 < j + 1 + 1 by omega)]
          exact ⟨e1, e2⟩
        · simp only [va_up, upd, if_true, if_neg (show ¬ (21 : Nat) = 22 by decide), if_neg (show ¬ (22 : Nat) = 21 by decide), if_neg q]
          rw [e3.1, e3.2]
          by_cases q2 : j + 1 < i + 1
          · rw [if_pos q2, if_pos q2, if_pos (show j + 1 < i + 1 + 1 by omega), if_pos (show j + 1 < i + 1 + 1 by omega)]
            exact ⟨rfl, rfl⟩
          · rw [if_neg q2, if_neg q2, if_neg (show ¬ j + 1 < i + 1 + 1 by omega), if_neg (show ¬ j + 1 < i + 1 + 1 by omega)]
            exact ⟨rfl, rfl⟩
  exact loop 11 1 T (by omega) (by omega) (by omega) (fun _ _ _ => rfl) (fun j => by simp)
abbrev rmX0_remember : Room := { frames := 1, cells := 0, slots := 0, locals := 21 }
theorem fX0_remember_13 : Cond.fieldLink RX0 13 RX0 (TX0 1).2.1 (TX0 1).2.2.1 ∈ wsX0_remember := by decide +kernel
theorem fX0_remember_22 : Cond.fieldLink RX0 22 RX0 (TX0 4).2.1 (TX0 4).2.2.1 ∈ wsX0_remember := by decide +kernel
theorem fX0_remember_25 : Cond.fieldLink RX0 25 RX0 (TX0 5).2.1 (TX0 5).2.2.1 ∈ wsX0_remember := by decide +kernel
theorem fX0_remember_29 : Cond.fieldLink RX0 29 RX0 (TX0 6).2.1 (TX0 6).2.2.1 ∈ wsX0_remember := by decide +kernel
theorem fX0_remember_7 : Cond.fieldLink RX0 7 RX0 (TX0 0).2.1 (TX0 0).2.2.1 ∈ wsX0_remember := by decide +kernel
theorem iX0_remember_0 : ∀ x ∈ wsX00, x ∈ wsX0_remember := by decide +kernel
theorem dm_X0_loseOldest : yX0_loseOldest.cls = RX0 ∧ yX0_loseOldest.cls ≠ "java/lang/invoke/MethodHandle" ∧ yX0_loseOldest.cls ≠ "java/lang/invoke/VarHandle" ∧ (parseMethodDescriptor yX0_loseOldest.desc).map (fun d => d.parameters.length) = some 0 := by decide +kernel
set_option maxRecDepth 100000 in
set_option maxHeartbeats 4000000 in
theorem c_X0_remember (E : EN) (hM : EM E) (g : Nat → Int32) (h : Nat → Int64) (T : Nat → Nat → Int32) (L : Nat → Nat → Int64) (μ : MO) (hmu : MomX g T 20 μ) (hok : MoOK μ) : GtV E yX0_remember wsX0_remember rmX0_remember [.ref (eA E 20)] g h T L (fun g2 h2 T2 L2 => h2 = h ∧ L2 = L ∧ (∀ k, k ≠ 2004 → g2 k = g k) ∧ (∀ k, k ≠ 21 → k ≠ 22 → T2 k = T k) ∧ MomX g2 T2 20 (μ.1, μ.2.1, μ.2.2.1, μ.2.2.2.1, pushU μ.2.2.2.2 (μ.1, μ.2.1))) := by
  refine CtV_of (cc := cX0_remember) (nL := 1) RX0 [some (.ref (eA E 20))] ⟨rfl, rfl⟩ (by decide) rfl rfl (Nat.le_of_ble_eq_true rfl) ⟨0, rfl⟩ hM.2 (fun Y hnm C hQ => ?_)
  have hM0 := hM
  obtain ⟨hS, hNN⟩ := hM
  obtain ⟨a1, a2, a3, a4, a5, a6⟩ := hmu
  obtain ⟨b1, b2, b3, b4, b5⟩ := hok
  refine J_aload_0 C dX0_remember_0 ?_
  have hcut : ∀ (u : List (Nat × Nat)) (g1 : Nat → Int32) (T1 : Nat → Nat → Int32), u = dropU μ.2.2.2.2 → (∀ k, k ≠ 2004 → g1 k = g k) → (∀ k, k ≠ 21 → k ≠ 22 → T1 k = T k) → g1 2004 = nI u.length → (∀ (i : Nat) (q : Nat × Nat), u[i]? = some q → T1 21 i = nI q.1 ∧ T1 22 i = nI q.2) → J E Y (eN E) 0 0 (wS E g1 h T1 L) 13 [some (.ref (eA E 20))] [] := by
    intro u g1 T1 hu hg1 hT1 hl1 hr1
    have hul : u.length ≤ 9 := by rw [hu]; exact dropU_len b4
    refine J_aload_0 C dX0_remember_13 ?_
    refine G0_getr C (n := 21) 5 dX0_remember_14 fX0_remember_25 iX0_remember_0 rfl (hS _ (by decide)) rfl rfl ?_
    refine J_aload_0 C dX0_remember_17 ?_
    refine G0_geti C (n := 2004) 4 dX0_remember_18 fX0_remember_22 iX0_remember_0 rfl (hS _ (by decide)) rfl rfl ?_
    refine J_aload_0 C dX0_remember_21 ?_
    refine G0_geti C (n := 2000) 0 dX0_remember_22 fX0_remember_7 iX0_remember_0 rfl (hS _ (by decide)) rfl rfl ?_
    refine G_iast C u.length dX0_remember_25 rfl (hS _ (by decide)) hl1 (by omega) ?_
    refine J_aload_0 C dX0_remember_26 ?_
    refine G0_getr C (n := 22) 6 dX0_remember_27 fX0_remember_29 iX0_remember_0 rfl (hS _ (by decide)) rfl rfl ?_
    refine J_aload_0 C dX0_remember_30 ?_
    refine G0_geti C (n := 2004) 4 dX0_remember_31 fX0_remember_22 iX0_remember_0 rfl (hS _ (by decide)) rfl rfl ?_
    refine J_aload_0 C dX0_remember_34 ?_
    refine G0_geti C (n := 2001) 1 dX0_remember_35 fX0_remember_13 iX0_remember_0 rfl (hS _ (by decide)) rfl rfl ?_
    refine G_iast C u.length dX0_remember_38 rfl (hS _ (by decide)) hl1 (by omega) ?_
    refine J_aload_0 C dX0_remember_39 ?_
    refine J_dup C dX0_remember_40 ?_
    refine G0_geti C (n := 2004) 4 dX0_remember_41 fX0_remember_22 iX0_remember_0 rfl (hS _ (by decide)) rfl rfl ?_
    refine J_iconst C (1) dX0_remember_44 ic_1 ?_
    refine J_iadd C dX0_remember_45 ?_
    refine G0_puti C (n := 2004) 4 dX0_remember_46 fX0_remember_22 iX0_remember_0 rfl (hS _ (by decide)) rfl (tyX0_ok 4 (by decide)) rfl rfl ?_
    refine hQ _ _ _ dX0_remember_49 ⟨_, _, _, _, rfl, ?_⟩
    refine ⟨rfl, rfl, fun k hk => by simp [upd, hk]; exact hg1 k hk, fun k hk hk2 => by simp [va_up, hk, hk2]; exact hT1 k hk hk2, ?_, ?_, ?_, ?_, ?_, ?_⟩
    · simp [upd]; exact (hg1 2000 (by decide)).trans a1
    · simp [upd]; exact (hg1 2001 (by decide)).trans a2
    · simp [upd]; exact (hg1 2002 (by decide)).trans a3
    · simp [upd]; exact (hg1 2003 (by decide)).trans a4
    · simp only [upd, if_true, hl1, nI_1]
      unfold pushU
      rw [← hu]
      simp
    · intro i q hq
      unfold pushU at hq
      rw [← hu] at hq
      rcases gapp hq with a | ⟨rfl, rfl⟩
      · have hi := (List.getElem?_eq_some_iff.mp a).1
        have hne : i ≠ u.length := by omega
        simp [va_up, upd, hne]
        exact hr1 i q a
      · simp [va_up, upd]
        exact ⟨(hg1 2000 (by decide)).trans a1, (hg1 2001 (by decide)).trans a2⟩
  refine G0_geti C (n := 2004) 4 dX0_remember_1 fX0_remember_22 iX0_remember_0 rfl (hS _ (by decide)) rfl rfl ?_
  refine J_bipush C (10) dX0_remember_4 bc_10 ?_
  refine J_icmp_lt C 13 dX0_remember_6 (by decide) (fun hc6 => ?_) (fun hc6 => ?_)
  · skip
    first
    | (have hl : μ.2.2.2.2.length < 10 := by
         rw [show g 2004 = nI μ.2.2.2.2.length from a5] at hc6
         exact (nI_ltI (b := 10) (by omega) (by decide)).mp hc6
       refine hcut μ.2.2.2.2 g T ?_ (fun _ _ => rfl) (fun _ _ _ => rfl) a5 a6
       unfold dropU
       rw [if_neg (by omega)])
    | (have hl : μ.2.2.2.2.length = 10 := by
         have : ¬ μ.2.2.2.2.length < 10 := by
           intro q
           rw [show g 2004 = nI μ.2.2.2.2.length from a5] at hc6
           exact hc6 (nI_lt (b := 10) q (by decide))
         omega
       obtain ⟨rfl, rfl, rfl, k4, k5⟩ := hp10
       refine hcut (μ.2.2.2.2.drop 1) _ _ ?_ (fun k hk => by simp [upd, hk]) k4 ?_ ?_
       · unfold dropU
         rw [if_pos hl]
       · simp [upd, hl]
         rfl
       · intro i q hq
         rw [List.getElem?_drop] at hq
         have hi : 1 + i < 10 := by
           have := (List.getElem?_eq_some_iff.mp hq).1
           omega
         rw [(k5 i (by omega)).1, (k5 i (by omega)).2, show i + 1 = 1 + i by omega]
         exact a6 (1 + i) q hq)
  · skip
    refine J_aload_0 C dX0_remember_9 ?_
    refine G_vtv C dX0_remember_10 (c_X0_loseOldest E hM0 g h T L) gX0_remember_X0_loseOldest rfl dm_X0_loseOldest rfl rfl (hS _ (by decide)) rfl rfl (Nat.le_of_ble_eq_true rfl) (rmOK_b rfl) (fun g10 h10 T10 L10 hp10 => ?_)
    first
    | (have hl : μ.2.2.2.2.length < 10 := by
         rw [show g 2004 = nI μ.2.2.2.2.length from a5] at hc6
         exact (nI_ltI (b := 10) (by omega) (by decide)).mp hc6
       refine hcut μ.2.2.2.2 g T ?_ (fun _ _ => rfl) (fun _ _ _ => rfl) a5 a6
       unfold dropU
       rw [if_neg (by omega)])
    | (have hl : μ.2.2.2.2.length = 10 := by
         have : ¬ μ.2.2.2.2.length < 10 := by
           intro q
           rw [show g 2004 = nI μ.2.2.2.2.length from a5] at hc6
           exact hc6 (nI_lt (b := 10) q (by decide))
         omega
       obtain ⟨rfl, rfl, rfl, k4, k5⟩ := hp10
       refine hcut (μ.2.2.2.2.drop 1) _ _ ?_ (fun k hk => by simp [upd, hk]) k4 ?_ ?_
       · unfold dropU
         rw [if_pos hl]
       · simp [upd, hl]
         rfl
       · intro i q hq
         rw [List.getElem?_drop] at hq
         have hi : 1 + i < 10 := by
           have := (List.getElem?_eq_some_iff.mp hq).1
           omega
         rw [(k5 i (by omega)).1, (k5 i (by omega)).2, show i + 1 = 1 + i by omega]
         exact a6 (1 + i) q hq)
abbrev rmX0_recall : Room := { frames := 0, cells := 0, slots := 0, locals := 0 }
theorem fX0_recall_13 : Cond.fieldLink RX0 13 RX0 (TX0 1).2.1 (TX0 1).2.2.1 ∈ wsX0_recall := by decide +kernel
theorem fX0_recall_22 : Cond.fieldLink RX0 22 RX0 (TX0 4).2.1 (TX0 4).2.2.1 ∈ wsX0_recall := by decide +kernel
theorem fX0_recall_25 : Cond.fieldLink RX0 25 RX0 (TX0 5).2.1 (TX0 5).2.2.1 ∈ wsX0_recall := by decide +kernel
theorem fX0_recall_29 : Cond.fieldLink RX0 29 RX0 (TX0 6).2.1 (TX0 6).2.2.1 ∈ wsX0_recall := by decide +kernel
theorem fX0_recall_7 : Cond.fieldLink RX0 7 RX0 (TX0 0).2.1 (TX0 0).2.2.1 ∈ wsX0_recall := by decide +kernel
theorem iX0_recall_0 : ∀ x ∈ wsX00, x ∈ wsX0_recall := by decide +kernel
set_option maxRecDepth 100000 in
set_option maxHeartbeats 4000000 in
theorem c_X0_recall (E : EN) (hM : EM E) (g : Nat → Int32) (h : Nat → Int64) (T : Nat → Nat → Int32) (L : Nat → Nat → Int64) (μ : MO) (hmu : MomX g T 20 μ) (u : List (Nat × Nat)) (x : Nat × Nat) (hu : μ.2.2.2.2 = u ++ [x]) (hl : u.length ≤ 9) : GtV E yX0_recall wsX0_recall rmX0_recall [.ref (eA E 20)] g h T L (fun g2 h2 T2 L2 => h2 = h ∧ L2 = L ∧ T2 = T ∧ (∀ k, k ≠ 2000 → k ≠ 2001 → k ≠ 2004 → g2 k = g k) ∧ MomX g2 T2 20 (x.1, x.2, μ.2.2.1, μ.2.2.2.1, u)) := by
  refine CtV_of (cc := cX0_recall) (nL := 1) RX0 [some (.ref (eA E 20))] ⟨rfl, rfl⟩ (by decide) rfl rfl (Nat.le_of_ble_eq_true rfl) ⟨0, rfl⟩ hM.2 (fun Y hnm C hQ => ?_)
  obtain ⟨hS, hNN⟩ := hM
  obtain ⟨a1, a2, a3, a4, a5, a6⟩ := hmu
  rw [hu] at a5 a6
  have hlen : g 2004 = nI (u.length + 1) := by
    have e9 : g 2004 = nI (u ++ [x]).length := a5
    rw [e9]
    simp
  have hx := a6 u.length x (by simp)
  have hsub : g 2004 - 1 = nI u.length := by rw [hlen]; exact nI_pred _
  refine J_aload_0 C dX0_recall_0 ?_
  refine G0_geti C (n := 2004) 4 dX0_recall_1 fX0_recall_22 iX0_recall_0 rfl (hS _ (by decide)) rfl rfl ?_
  refine J_if_gt C 8 dX0_recall_4 (by decide) (fun hc4 => ?_) (fun hc => absurd (show (0 : Int32) < g 2004 by rw [hlen]; exact nI_lt (a := 0) (by omega) (by omega)) hc)
  refine J_aload_0 C dX0_recall_8 ?_
  refine J_dup C dX0_recall_9 ?_
  refine G0_geti C (n := 2004) 4 dX0_recall_10 fX0_recall_22 iX0_recall_0 rfl (hS _ (by decide)) rfl rfl ?_
  refine J_iconst C (1) dX0_recall_13 ic_1 ?_
  refine J_isub C dX0_recall_14 ?_
  refine G0_puti C (n := 2004) 4 dX0_recall_15 fX0_recall_22 iX0_recall_0 rfl (hS _ (by decide)) rfl (tyX0_ok 4 (by decide)) rfl rfl ?_
  refine J_aload_0 C dX0_recall_18 ?_
  refine J_aload_0 C dX0_recall_19 ?_
  refine G0_getr C (n := 21) 5 dX0_recall_20 fX0_recall_25 iX0_recall_0 rfl (hS _ (by decide)) rfl rfl ?_
  refine J_aload_0 C dX0_recall_23 ?_
  refine G0_geti C (n := 2004) 4 dX0_recall_24 fX0_recall_22 iX0_recall_0 rfl (hS _ (by decide)) rfl rfl ?_
  refine G_iald C u.length dX0_recall_27 rfl (hS _ (by decide)) (by simp [upd]; exact hsub) (by omega) ?_
  refine G0_puti C (n := 2000) 0 dX0_recall_28 fX0_recall_7 iX0_recall_0 rfl (hS _ (by decide)) rfl (tyX0_ok 0 (by decide)) rfl rfl ?_
  refine J_aload_0 C dX0_recall_31 ?_
  refine J_aload_0 C dX0_recall_32 ?_
  refine G0_getr C (n := 22) 6 dX0_recall_33 fX0_recall_29 iX0_recall_0 rfl (hS _ (by decide)) rfl rfl ?_
  refine J_aload_0 C dX0_recall_36 ?_
  refine G0_geti C (n := 2004) 4 dX0_recall_37 fX0_recall_22 iX0_recall_0 rfl (hS _ (by decide)) rfl rfl ?_
  refine G_iald C u.length dX0_recall_40 rfl (hS _ (by decide)) (by simp [upd]; exact hsub) (by omega) ?_
  refine G0_puti C (n := 2001) 1 dX0_recall_41 fX0_recall_13 iX0_recall_0 rfl (hS _ (by decide)) rfl (tyX0_ok 1 (by decide)) rfl rfl ?_
  refine hQ _ _ _ dX0_recall_44 ⟨_, _, _, _, rfl, ?_⟩
  refine ⟨rfl, rfl, rfl, fun k h1 h2 h3 => by simp [upd, h1, h2, h3], ?_, ?_, ?_, ?_, ?_, ?_⟩
  · simp [upd]; exact hx.1
  · simp [upd]; exact hx.2
  · simp [upd]; exact a3
  · simp [upd]; exact a4
  · simp [upd]; exact hsub
  · intro i q hq
    exact a6 i q (by rw [List.getElem?_append_left (List.getElem?_eq_some_iff.mp hq).1]; exact hq)
abbrev rmX0_becomeLike : Room := { frames := 0, cells := 0, slots := 0, locals := 0 }
theorem fX0_becomeLike_13 : Cond.fieldLink RX0 13 RX0 (TX0 1).2.1 (TX0 1).2.2.1 ∈ wsX0_becomeLike := by decide +kernel
theorem fX0_becomeLike_16 : Cond.fieldLink RX0 16 RX0 (TX0 2).2.1 (TX0 2).2.2.1 ∈ wsX0_becomeLike := by decide +kernel
theorem fX0_becomeLike_19 : Cond.fieldLink RX0 19 RX0 (TX0 3).2.1 (TX0 3).2.2.1 ∈ wsX0_becomeLike := by decide +kernel
theorem fX0_becomeLike_22 : Cond.fieldLink RX0 22 RX0 (TX0 4).2.1 (TX0 4).2.2.1 ∈ wsX0_becomeLike := by decide +kernel
theorem fX0_becomeLike_25 : Cond.fieldLink RX0 25 RX0 (TX0 5).2.1 (TX0 5).2.2.1 ∈ wsX0_becomeLike := by decide +kernel
theorem fX0_becomeLike_29 : Cond.fieldLink RX0 29 RX0 (TX0 6).2.1 (TX0 6).2.2.1 ∈ wsX0_becomeLike := by decide +kernel
theorem fX0_becomeLike_7 : Cond.fieldLink RX0 7 RX0 (TX0 0).2.1 (TX0 0).2.2.1 ∈ wsX0_becomeLike := by decide +kernel
theorem iX0_becomeLike_0 : ∀ x ∈ wsX00, x ∈ wsX0_becomeLike := by decide +kernel
set_option maxRecDepth 100000 in
set_option maxHeartbeats 4000000 in
theorem c_X0_becomeLike (E : EN) (hE : ∀ k, eS E k = true → k < eN E) (x y : Nat) (hx : kd x = (0, 0)) (hy : kd y = (0, 0)) (hx1 : kd (x + 1) = (1, 10)) (hx2 : kd (x + 2) = (1, 10)) (hy1 : kd (y + 1) = (1, 10)) (hy2 : kd (y + 2) = (1, 10)) (hS : ∀ k, k < 68 → eS E k = true) (hx9 : x + 2 < 68) (hy9 : y + 2 < 68) (hxy : x + 2 < y ∨ y + 2 < x) (g : Nat → Int32) (h : Nat → Int64) (T : Nat → Nat → Int32) (L : Nat → Nat → Int64) : GtV E yX0_becomeLike wsX0_becomeLike rmX0_becomeLike [.ref (eA E x), .ref (eA E y)] g h T L (fun g2 h2 T2 L2 => h2 = h ∧ L2 = L ∧ (∀ k, k < 100 * x ∨ 100 * x + 4 < k → g2 k = g k) ∧ (∀ j, j ≤ 4 → g2 (100 * x + j) = g (100 * y + j)) ∧ (∀ k, k ≠ x + 1 → k ≠ x + 2 → T2 k = T k) ∧ ∀ j, j < 10 → T2 (x + 1) j = T (y + 1) j ∧ T2 (x + 2) j = T (y + 2) j) := by
  refine CtV_of (cc := cX0_becomeLike) (nL := 3) RX0 [some (.ref (eA E x)), some (.ref (eA E y)), none] ⟨rfl, rfl⟩ (by decide) rfl rfl (Nat.le_of_ble_eq_true rfl) ⟨1, rfl⟩ hE (fun Y hnm C hQ => ?_)
  refine J_aload_0 C dX0_becomeLike_0 ?_
  refine J_aload_1 C dX0_becomeLike_1 ?_
  refine G0_geti C (n := 100 * y + 0) 0 dX0_becomeLike_2 fX0_becomeLike_7 iX0_becomeLike_0 hy (hS _ (by omega)) rfl rfl ?_
  refine G0_puti C (n := 100 * x + 0) 0 dX0_becomeLike_5 fX0_becomeLike_7 iX0_becomeLike_0 hx (hS _ (by omega)) rfl (tyX0_ok 0 (by decide)) rfl rfl ?_
  refine J_aload_0 C dX0_becomeLike_8 ?_
  refine J_aload_1 C dX0_becomeLike_9 ?_
  refine G0_geti C (n := 100 * y + 1) 1 dX0_becomeLike_10 fX0_becomeLike_13 iX0_becomeLike_0 hy (hS _ (by omega)) rfl rfl ?_
  refine G0_puti C (n := 100 * x + 1) 1 dX0_becomeLike_13 fX0_becomeLike_13 iX0_becomeLike_0 hx (hS _ (by omega)) rfl (tyX0_ok 1 (by decide)) rfl rfl ?_
  refine J_aload_0 C dX0_becomeLike_16 ?_
  refine J_aload_1 C dX0_becomeLike_17 ?_
  refine G0_geti C (n := 100 * y + 2) 2 dX0_becomeLike_18 fX0_becomeLike_16 iX0_becomeLike_0 hy (hS _ (by omega)) rfl rfl ?_
  refine G0_puti C (n := 100 * x + 2) 2 dX0_becomeLike_21 fX0_becomeLike_16 iX0_becomeLike_0 hx (hS _ (by omega)) rfl (tyX0_ok 2 (by decide)) rfl rfl ?_
  refine J_aload_0 C dX0_becomeLike_24 ?_
  refine J_aload_1 C dX0_becomeLike_25 ?_
  refine G0_geti C (n := 100 * y + 3) 3 dX0_becomeLike_26 fX0_becomeLike_19 iX0_becomeLike_0 hy (hS _ (by omega)) rfl rfl ?_
  refine G0_puti C (n := 100 * x + 3) 3 dX0_becomeLike_29 fX0_becomeLike_19 iX0_becomeLike_0 hx (hS _ (by omega)) rfl (tyX0_ok 3 (by decide)) rfl rfl ?_
  refine J_aload_0 C dX0_becomeLike_32 ?_
  refine J_aload_1 C dX0_becomeLike_33 ?_
  refine G0_geti C (n := 100 * y + 4) 4 dX0_becomeLike_34 fX0_becomeLike_22 iX0_becomeLike_0 hy (hS _ (by omega)) rfl rfl ?_
  refine G0_puti C (n := 100 * x + 4) 4 dX0_becomeLike_37 fX0_becomeLike_22 iX0_becomeLike_0 hx (hS _ (by omega)) rfl (tyX0_ok 4 (by decide)) rfl rfl ?_
  obtain ⟨g9, hg9e⟩ : ∃ g9, g9 = upd (upd (upd (upd (upd g (100 * x + 0) (g (100 * y + 0))) (100 * x + 1) (upd g (100 * x + 0) (g (100 * y + 0)) (100 * y + 1))) (100 * x + 2) (upd (upd g (100 * x + 0) (g (100 * y + 0))) (100 * x + 1) (upd g (100 * x + 0) (g (100 * y + 0)) (100 * y + 1)) (100 * y + 2))) (100 * x + 3) (upd (upd (upd g (100 * x + 0) (g (100 * y + 0))) (100 * x + 1) (upd g (100 * x + 0) (g (100 * y + 0)) (100 * y + 1))) (100 * x + 2) (upd (upd g (100 * x + 0) (g (100 * y + 0))) (100 * x + 1) (upd g (100 * x + 0) (g (100 * y + 0)) (100 * y + 1)) (100 * y + 2)) (100 * y + 3))) (100 * x + 4) (upd (upd (upd (upd g (100 * x + 0) (g (100 * y + 0))) (100 * x + 1) (upd g (100 * x + 0) (g (100 * y + 0)) (100 * y + 1))) (100 * x + 2) (upd (upd g (100 * x + 0) (g (100 * y + 0))) (100 * x + 1) (upd g (100 * x + 0) (g (100 * y + 0)) (100 * y + 1)) (100 * y + 2))) (100 * x + 3) (upd (upd (upd g (100 * x + 0) (g (100 * y + 0))) (100 * x + 1) (upd g (100 * x + 0) (g (100 * y + 0)) (100 * y + 1))) (100 * x + 2) (upd (upd g (100 * x + 0) (g (100 * y + 0))) (100 * x + 1) (upd g (100 * x + 0) (g (100 * y + 0)) (100 * y + 1)) (100 * y + 2)) (100 * y + 3)) (100 * y + 4)) := ⟨_, rfl⟩
  rw [← hg9e]
  have hg9 : (∀ k, k < 100 * x ∨ 100 * x + 4 < k → g9 k = g k) ∧ (∀ j, j ≤ 4 → g9 (100 * x + j) = g (100 * y + j)) := by
    subst hg9e
    have hyx : ∀ j i, j ≤ 4 → i ≤ 4 → ¬ 100 * y + j = 100 * x + i := fun j i _ _ => by omega
    constructor
    · intro k hk
      simp only [upd]
      rw [if_neg (by omega), if_neg (by omega), if_neg (by omega), if_neg (by omega), if_neg (by omega)]
    · intro j hj
      have : j = 0 ∨ j = 1 ∨ j = 2 ∨ j = 3 ∨ j = 4 := by omega
      rcases this with rfl | rfl | rfl | rfl | rfl
      · rw [pk_un (show 100 * x + 0 ≠ 100 * x + 4 by omega), pk_un (show 100 * x + 0 ≠ 100 * x + 3 by omega), pk_un (show 100 * x + 0 ≠ 100 * x + 2 by omega), pk_un (show 100 * x + 0 ≠ 100 * x + 1 by omega), pk_us]
      · rw [pk_un (show 100 * x + 1 ≠ 100 * x + 4 by omega), pk_un (show 100 * x + 1 ≠ 100 * x + 3 by omega), pk_un (show 100 * x + 1 ≠ 100 * x + 2 by omega), pk_us, pk_un (show 100 * y + 1 ≠ 100 * x + 0 by omega)]
      · rw [pk_un (show 100 * x + 2 ≠ 100 * x + 4 by omega), pk_un (show 100 * x + 2 ≠ 100 * x + 3 by omega), pk_us, pk_un (show 100 * y + 2 ≠ 100 * x + 1 by omega), pk_un (show 100 * y + 2 ≠ 100 * x + 0 by omega)]
      · rw [pk_un (show 100 * x + 3 ≠ 100 * x + 4 by omega), pk_us, pk_un (show 100 * y + 3 ≠ 100 * x + 2 by omega), pk_un (show 100 * y + 3 ≠ 100 * x + 1 by omega), pk_un (show 100 * y + 3 ≠ 100 * x + 0 by omega)]
      · rw [pk_us, pk_un (show 100 * y + 4 ≠ 100 * x + 3 by omega), pk_un (show 100 * y + 4 ≠ 100 * x + 2 by omega), pk_un (show 100 * y + 4 ≠ 100 * x + 1 by omega), pk_un (show 100 * y + 4 ≠ 100 * x + 0 by omega)]
  refine J_iconst C (0) dX0_becomeLike_40 ic_0 ?_
  refine J_istore_2 C dX0_becomeLike_41 (by decide) trivial ?_
  have loop : ∀ (n : Nat) (k : Nat) (T2 : Nat → Nat → Int32), k ≤ 10 → 10 < n + k → (∀ i, i ≠ x + 1 → i ≠ x + 2 → T2 i = T i) → (∀ j, j < k → T2 (x + 1) j = T (y + 1) j ∧ T2 (x + 2) j = T (y + 2) j) → J E Y (eN E) 0 0 (wS E g9 h T2 L) 42 [some (.ref (eA E x)), some (.ref (eA E y)), some (.int (nI k))] [] := by
    intro n
    induction n with
    | zero =>
      intro k T2 h1 h2 hT hz
      omega
    | succ n ih =>
      intro k T2 h1 h2 hT hz
      refine J_iload_2 C dX0_becomeLike_42 ?_
      refine J_bipush C (10) dX0_becomeLike_43 bc_10 ?_
      refine J_icmp_ge C 78 dX0_becomeLike_45 (by decide) (fun hc45 => ?_) (fun hc45 => ?_)
      · skip
        refine hQ _ _ _ dX0_becomeLike_78 ⟨_, _, _, _, rfl, ?_⟩
        have hk : k = 10 := by
          have := ge_nI (m := 10) (by omega) hc45
          omega
        subst hk
        exact ⟨rfl, rfl, hg9.1, hg9.2, hT, hz⟩
      · skip
        have hk : k < 10 := lt_nI (m := 10) (by omega) hc45
        refine J_aload_0 C dX0_becomeLike_48 ?_
        refine G0_getr C (n := x + 1) 5 dX0_becomeLike_49 fX0_becomeLike_25 iX0_becomeLike_0 hx (hS _ (by omega)) rfl rfl ?_
        refine J_iload_2 C dX0_becomeLike_52 ?_
        refine J_aload_1 C dX0_becomeLike_53 ?_
        refine G0_getr C (n := y + 1) 5 dX0_becomeLike_54 fX0_becomeLike_25 iX0_becomeLike_0 hy (hS _ (by omega)) rfl rfl ?_
        refine J_iload_2 C dX0_becomeLike_57 ?_
        refine G_iald C k dX0_becomeLike_58 hy1 (hS _ (by omega)) rfl hk ?_
        refine G_iast C k dX0_becomeLike_59 hx1 (hS _ (by omega)) rfl hk ?_
        refine J_aload_0 C dX0_becomeLike_60 ?_
        refine G0_getr C (n := x + 2) 6 dX0_becomeLike_61 fX0_becomeLike_29 iX0_becomeLike_0 hx (hS _ (by omega)) rfl rfl ?_
        refine J_iload_2 C dX0_becomeLike_64 ?_
        refine J_aload_1 C dX0_becomeLike_65 ?_
        refine G0_getr C (n := y + 2) 6 dX0_becomeLike_66 fX0_becomeLike_29 iX0_becomeLike_0 hy (hS _ (by omega)) rfl rfl ?_
        refine J_iload_2 C dX0_becomeLike_69 ?_
        refine G_iald C k dX0_becomeLike_70 hy2 (hS _ (by omega)) rfl hk ?_
        refine G_iast C k dX0_becomeLike_71 hx2 (hS _ (by omega)) rfl hk ?_
        refine J_iinc_2 C (1) dX0_becomeLike_72 (by decide) trivial ic_1 ?_
        refine J_goto C 42 dX0_becomeLike_75 (by decide) ?_
        rw [nI_1]
        refine ih (k + 1) _ (by omega) (by omega) (fun q hq hq2 => by simp [va_up, hq, hq2]; exact hT q hq hq2) (fun j hj => ?_)
        have e1 := hT (y + 1) (by omega) (by omega)
        have e2 := hT (y + 2) (by omega) (by omega)
        simp only [va_up, upd, if_true, if_neg (show ¬ x + 1 = x + 2 by omega), if_neg (show ¬ y + 2 = x + 1 by omega), if_neg (show ¬ x + 2 = x + 1 by omega)]
        rw [e1, e2]
        by_cases q : j = k
        · subst q
          rw [if_pos rfl, if_pos rfl]
          exact ⟨rfl, rfl⟩
        · rw [if_neg q, if_neg q]
          exact hz j (by omega)
  exact loop 11 0 T (by omega) (by omega) (fun _ _ _ => rfl) (fun j hj => by omega)
