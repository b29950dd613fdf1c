/-! a river as it is told: how many things, what is known of each, how many pairs, what was told of ferry, load, days and frost -/
abbrev RS := Nat × (Nat → Nat → Nat) × Nat × (Nat → Option Nat)
def addT (s : RS) (bk wa re we : Nat) : RS := (s.1 + 1, fun k i => if i = s.1 then [wa, re, we, 0, bk].getD k 0 else s.2.1 k i, s.2.2.1, s.2.2.2)
def addP (s : RS) (a b : Nat) : RS := (s.1, fun k i => if k = 3 then (s.2.1 3 i ||| (if i = a then 2 ^ b else 0)) ||| (if i = b then 2 ^ a else 0) else s.2.1 k i, s.2.2.1 + 1, s.2.2.2)
def setO (s : RS) (i v : Nat) : RS := (s.1, s.2.1, s.2.2.1, fun j => if j = i then some v else s.2.2.2 j)
def rs0 : RS := (0, fun _ _ => 0, 0, fun _ => none)
def stN (s : RS) : Nat := bsN (s.2.1 4) 1 s.1 ||| (if s.2.2.2 0 = some 1 then 128 else 0)
def RsOK (s : RS) : Prop := s.1 ≤ 7 ∧ s.2.2.1 ≤ 8 ∧ (∀ t, t < s.1 → s.2.1 0 t ≤ 2 ∧ s.2.1 1 t ≤ 9 ∧ 1 ≤ s.2.1 2 t ∧ s.2.1 2 t ≤ 9 ∧ s.2.1 3 t < 2 ^ s.1 ∧ s.2.1 4 t ≤ 1) ∧
  (∀ a b, a < s.1 → b < s.1 → (s.2.1 3 a).testBit b = (s.2.1 3 b).testBit a) ∧ (∀ a, a < s.1 → (s.2.1 3 a).testBit a = false) ∧
  (∀ v, s.2.2.2 0 = some v → v ≤ 1) ∧ (∀ v, s.2.2.2 1 = some v → 1 ≤ v ∧ v ≤ 20) ∧ (∀ v, s.2.2.2 2 = some v → v ≤ 20) ∧ (∀ v, s.2.2.2 3 = some v → v ≤ 9)
def RwX (g : Nat → Int32) (T : Nat → Nat → Int32) (s : RS) : Prop := g 1300 = nI s.1 ∧ g 1301 = nI (2 ^ s.1 - 1) ∧ g 1302 = nI s.2.2.1 ∧ g 1303 = nI (stN s) ∧ g 1304 = nI ((s.2.2.2 1).getD 2) ∧ g 1305 = nI ((s.2.2.2 2).getD 9) ∧ g 1306 = nI ((s.2.2.2 3).getD 5) ∧
  g 1311 = nI (bsN (s.2.1 0) 0 s.1) ∧ g 1312 = nI (bsN (s.2.1 0) 1 s.1) ∧ ∀ t, t < s.1 → T 14 t = nI (s.2.1 0 t) ∧ T 15 t = nI (s.2.1 1 t) ∧ T 16 t = nI (s.2.1 2 t) ∧ T 17 t = nI (s.2.1 3 t)
theorem rs0_ok : RsOK rs0 := by
  refine ⟨by decide, by decide, fun t ht => absurd ht (by simp [rs0]), fun a b ha => absurd ha (by simp [rs0]), fun a ha => absurd ha (by simp [rs0]), ?_, ?_, ?_, ?_⟩ <;> (intro v h; cases h)
theorem RwX.keep {g g2 : Nat → Int32} {T T2 : Nat → Nat → Int32} {s : RS} (h : RwX g T s) (hg : ∀ k, 1300 ≤ k → k < 1400 → g2 k = g k) (hT : ∀ k, 14 ≤ k → k < 18 → T2 k = T k) : RwX g2 T2 s := by
  obtain ⟨h0, h1, h2, h3, h4, h5, h6, h7, h8, h9⟩ := h
  refine ⟨?_, ?_, ?_, ?_, ?_, ?_, ?_, ?_, ?_, ?_⟩
  · rw [hg _ (by decide) (by decide)]; exact h0
  · rw [hg _ (by decide) (by decide)]; exact h1
  · rw [hg _ (by decide) (by decide)]; exact h2
  · rw [hg _ (by decide) (by decide)]; exact h3
  · rw [hg _ (by decide) (by decide)]; exact h4
  · rw [hg _ (by decide) (by decide)]; exact h5
  · rw [hg _ (by decide) (by decide)]; exact h6
  · rw [hg _ (by decide) (by decide)]; exact h7
  · rw [hg _ (by decide) (by decide)]; exact h8
  · intro t ht
    rw [hT 14 (by decide) (by decide), hT 15 (by decide) (by decide), hT 16 (by decide) (by decide), hT 17 (by decide) (by decide)]
    exact h9 t ht
theorem bsN_congr {f f' : Nat → Nat} {v : Nat} : ∀ {m : Nat}, (∀ t, t < m → f t = f' t) → bsN f v m = bsN f' v m
  | 0, _ => rfl
  | m + 1, h => by
    have := bsN_congr (f := f) (f' := f') (v := v) (m := m) (fun t ht => h t (by omega))
    simp only [bsN, this, h m (by omega)]
theorem bsN_hd {f : Nat → Nat} {x v m : Nat} : bsN (fun i => if i = m then x else f i) v m = bsN f v m := bsN_congr (fun t ht => by rw [if_neg (by omega)])
theorem addT_ok {s : RS} {bk wa re we : Nat} (h : RsOK s) (hs : s.1 < 7) (h1 : bk ≤ 1) (h2 : wa ≤ 2) (h3 : re ≤ 9) (h4 : 1 ≤ we) (h5 : we ≤ 9) : RsOK (addT s bk wa re we) := by
  obtain ⟨a1, a2, a3, a4, a5, a6⟩ := h
  have hz : ∀ x, x < s.1 → (s.2.1 3 x).testBit s.1 = false := fun x hx => Nat.testBit_lt_two_pow (a3 x hx).2.2.2.2.1
  refine ⟨hs, a2, fun t ht => ?_, fun a b ha hb => ?_, fun a ha => ?_, a6⟩
  · have hp := Nat.two_pow_pos (s.1 + 1)
    simp only [addT] at ht ⊢
    by_cases e : t = s.1
    · simp only [e, if_true]
      exact ⟨h2, h3, h4, h5, hp, h1⟩
    · simp only [if_neg e]
      obtain ⟨q1, q2, q3, q4, q5, q6⟩ := a3 t (by omega)
      refine ⟨q1, q2, q3, q4, ?_, q6⟩
      rw [Nat.pow_succ]
      omega
  · simp only [addT] at ha hb ⊢
    by_cases e : a = s.1
    · by_cases e2 : b = s.1
      · rw [e, e2]
      · simp only [e, if_true, if_neg e2, hz b (by omega)]
        simp
    · by_cases e2 : b = s.1
      · simp only [e2, if_true, if_neg e, hz a (by omega)]
        simp
      · simp only [if_neg e, if_neg e2]
        exact a4 a b (by omega) (by omega)
  · simp only [addT] at ha ⊢
    by_cases e : a = s.1
    · simp [e]
    · simp only [if_neg e]
      exact a5 a (by omega)
theorem addP_ok {s : RS} {a b : Nat} (h : RsOK s) (ha : a < s.1) (hb : b < s.1) (hab : a ≠ b) (hp : s.2.2.1 < 8) : RsOK (addP s a b) := by
  obtain ⟨a1, a2, a3, a4, a5, a6⟩ := h
  have hl : ∀ x, x < s.1 → 2 ^ x < 2 ^ s.1 := fun x hx => Nat.pow_lt_pow_right (by decide) hx
  have h0 := Nat.two_pow_pos s.1
  refine ⟨a1, hp, fun t ht => ?_, fun x y hx hy => ?_, fun x hx => ?_, a6⟩
  · obtain ⟨q1, q2, q3, q4, q5, q6⟩ := a3 t ht
    refine ⟨q1, q2, q3, q4, ?_, q6⟩
    simp only [addP, if_true]
    refine Nat.or_lt_two_pow (Nat.or_lt_two_pow q5 ?_) ?_
    · split
      · exact hl b hb
      · exact h0
    · split
      · exact hl a ha
      · exact h0
  · simp only [addP, if_true, Nat.testBit_or] at hx hy ⊢
    rw [a4 x y hx hy]
    by_cases e1 : x = a <;> by_cases e2 : x = b <;> by_cases e3 : y = a <;> by_cases e4 : y = b <;> simp_all [Nat.testBit_two_pow] <;> omega
  · simp only [addP, if_true, Nat.testBit_or] at hx ⊢
    rw [a5 x hx]
    by_cases e1 : x = a <;> by_cases e2 : x = b <;> simp_all [Nat.testBit_two_pow] <;> omega
theorem allN : ∀ m, m < 7 → 2 ^ (m + 1) - 1 = (2 ^ m - 1) ||| 2 ^ m := by decide
abbrev rmX3_addThing : Room := { frames := 0, cells := 0, slots := 0, locals := 0 }
theorem fX3_addThing_13 : Cond.fieldLink RX3 13 RX3 (TX3 8).2.1 (TX3 8).2.2.1 ∈ wsX3_addThing := by decide +kernel
theorem fX3_addThing_16 : Cond.fieldLink RX3 16 RX3 (TX3 9).2.1 (TX3 9).2.2.1 ∈ wsX3_addThing := by decide +kernel
theorem fX3_addThing_19 : Cond.fieldLink RX3 19 RX3 (TX3 10).2.1 (TX3 10).2.2.1 ∈ wsX3_addThing := by decide +kernel
theorem fX3_addThing_35 : Cond.fieldLink RX3 35 RX3 (TX3 0).2.1 (TX3 0).2.2.1 ∈ wsX3_addThing := by decide +kernel
theorem fX3_addThing_39 : Cond.fieldLink RX3 39 RX3 (TX3 1).2.1 (TX3 1).2.2.1 ∈ wsX3_addThing := by decide +kernel
theorem fX3_addThing_45 : Cond.fieldLink RX3 45 RX3 (TX3 3).2.1 (TX3 3).2.2.1 ∈ wsX3_addThing := by decide +kernel
theorem fX3_addThing_57 : Cond.fieldLink RX3 57 RX3 (TX3 11).2.1 (TX3 11).2.2.1 ∈ wsX3_addThing := by decide +kernel
theorem fX3_addThing_60 : Cond.fieldLink RX3 60 RX3 (TX3 12).2.1 (TX3 12).2.2.1 ∈ wsX3_addThing := by decide +kernel
theorem fX3_addThing_9 : Cond.fieldLink RX3 9 RX3 (TX3 7).2.1 (TX3 7).2.2.1 ∈ wsX3_addThing := by decide +kernel
theorem iX3_addThing_3 : ∀ x ∈ wsX30, x ∈ wsX3_addThing := by decide +kernel
set_option maxRecDepth 100000 in
set_option maxHeartbeats 4000000 in
theorem c_X3_addThing (E : EN) (hM : EM E) (g : Nat → Int32) (h : Nat → Int64) (T : Nat → Nat → Int32) (L : Nat → Nat → Int64) (s : RS) (hW : RwX g T s) (hO : RsOK s) (hs : s.1 < 7) (bk wa re we : Nat) (hb : bk ≤ 1) (hw : wa ≤ 2) : GtV E yX3_addThing wsX3_addThing rmX3_addThing [.ref (eA E 13), .int (nI bk), .int (nI wa), .int (nI re), .int (nI we)] g h T L (fun g2 h2 T2 L2 => RwX g2 T2 (addT s bk wa re we) ∧ (∀ k, (k < 1300 ∨ 1400 ≤ k) → g2 k = g k) ∧ (∀ k, (k < 14 ∨ 17 < k) → T2 k = T k) ∧ h2 = h ∧ L2 = L) := by
  refine CtV_of (cc := cX3_addThing) (nL := 6) RX3 [some (.ref (eA E 13)), some (.int (nI bk)), some (.int (nI wa)), some (.int (nI re)), some (.int (nI we)), none] ⟨rfl, rfl⟩ (by decide) rfl rfl (Nat.le_of_ble_eq_true rfl) ⟨1, rfl⟩ hM.2 (fun Y hnm C hQ => ?_)
  have hM0 := hM
  obtain ⟨hS, hNN⟩ := hM
  obtain ⟨w0, w1, w2, w3, w4, w5, w6, w7, w8, w9⟩ := hW
  have hm := hO.1
  have hp7 := p7 hm
  refine J_aload_0 C dX3_addThing_0 ?_
  refine G3_geti C (n := 1300) 0 dX3_addThing_1 fX3_addThing_35 iX3_addThing_3 rfl (hS _ (by decide)) rfl rfl ?_
  refine J_bipush C (7) dX3_addThing_4 bc_7 ?_
  refine J_icmp_lt C 10 dX3_addThing_6 (by decide) (fun hc6 => ?_) (fun hc => absurd (show g 1300 < 7 by rw [w0]; exact nI_lt (b := 7) hs (by decide)) hc)
  refine J_iconst C (1) dX3_addThing_10 ic_1 ?_
  refine J_aload_0 C dX3_addThing_11 ?_
  refine G3_geti C (n := 1300) 0 dX3_addThing_12 fX3_addThing_35 iX3_addThing_3 rfl (hS _ (by decide)) rfl rfl ?_
  refine J_ishl C dX3_addThing_15 ?_
  refine J_top (y := nI (2 ^ s.1)) (by rw [w0]; exact nI_sh1 s.1 (by omega)) ?_
  refine J_istore_5 C dX3_addThing_16 (by decide) trivial ?_
  refine J_aload_0 C dX3_addThing_18 ?_
  refine G3_getr C (n := 14) 7 dX3_addThing_19 fX3_addThing_9 iX3_addThing_3 rfl (hS _ (by decide)) rfl rfl ?_
  refine J_aload_0 C dX3_addThing_22 ?_
  refine G3_geti C (n := 1300) 0 dX3_addThing_23 fX3_addThing_35 iX3_addThing_3 rfl (hS _ (by decide)) rfl rfl ?_
  refine J_iload_2 C dX3_addThing_26 ?_
  refine G_iast C s.1 dX3_addThing_27 rfl (hS _ (by decide)) w0 hs ?_
  refine J_aload_0 C dX3_addThing_28 ?_
  refine G3_getr C (n := 15) 8 dX3_addThing_29 fX3_addThing_13 iX3_addThing_3 rfl (hS _ (by decide)) rfl rfl ?_
  refine J_aload_0 C dX3_addThing_32 ?_
  refine G3_geti C (n := 1300) 0 dX3_addThing_33 fX3_addThing_35 iX3_addThing_3 rfl (hS _ (by decide)) rfl rfl ?_
  refine J_iload_3 C dX3_addThing_36 ?_
  refine G_iast C s.1 dX3_addThing_37 rfl (hS _ (by decide)) w0 hs ?_
  refine J_aload_0 C dX3_addThing_38 ?_
  refine G3_getr C (n := 16) 9 dX3_addThing_39 fX3_addThing_16 iX3_addThing_3 rfl (hS _ (by decide)) rfl rfl ?_
  refine J_aload_0 C dX3_addThing_42 ?_
  refine G3_geti C (n := 1300) 0 dX3_addThing_43 fX3_addThing_35 iX3_addThing_3 rfl (hS _ (by decide)) rfl rfl ?_
  refine J_iload_4 C dX3_addThing_46 ?_
  refine G_iast C s.1 dX3_addThing_48 rfl (hS _ (by decide)) w0 hs ?_
  refine J_aload_0 C dX3_addThing_49 ?_
  refine G3_getr C (n := 17) 10 dX3_addThing_50 fX3_addThing_19 iX3_addThing_3 rfl (hS _ (by decide)) rfl rfl ?_
  refine J_aload_0 C dX3_addThing_53 ?_
  refine G3_geti C (n := 1300) 0 dX3_addThing_54 fX3_addThing_35 iX3_addThing_3 rfl (hS _ (by decide)) rfl rfl ?_
  refine J_iconst C (0) dX3_addThing_57 ic_0 ?_
  refine G_iast C s.1 dX3_addThing_58 rfl (hS _ (by decide)) w0 hs ?_
  refine J_aload_0 C dX3_addThing_59 ?_
  refine J_dup C dX3_addThing_60 ?_
  refine G3_geti C (n := 1303) 3 dX3_addThing_61 fX3_addThing_45 iX3_addThing_3 rfl (hS _ (by decide)) rfl rfl ?_
  refine J_iload_1 C dX3_addThing_64 ?_
  refine J_iconst C (1) dX3_addThing_65 ic_1 ?_
  refine J_icmp_ne C 74 dX3_addThing_66 (by decide) (fun hc66 => ?_) (fun hc66 => ?_)
  · skip
    refine J_iconst C (0) dX3_addThing_74 ic_0 ?_
    refine J_top (y := nI (if bk = 1 then 2 ^ s.1 else 0)) (by first | rw [if_pos (nI_inj (by omega) (by decide) hc66)] | (rw [if_neg (fun q => hc66 (by rw [q]; rfl))]; rfl)) ?_
    refine J_ior C dX3_addThing_75 ?_
    rw [w3, nI_or]
    refine G3_puti C (n := 1303) 3 dX3_addThing_76 fX3_addThing_45 iX3_addThing_3 rfl (hS _ (by decide)) rfl (tyX3_ok 3 (by decide)) rfl rfl ?_
    refine J_aload_0 C dX3_addThing_79 ?_
    refine J_dup C dX3_addThing_80 ?_
    refine G3_geti C (n := 1311) 11 dX3_addThing_81 fX3_addThing_57 iX3_addThing_3 rfl (hS _ (by decide)) rfl rfl ?_
    refine J_iload_2 C dX3_addThing_84 ?_
    refine J_if_ne C 93 dX3_addThing_85 (by decide) (fun hc85 => ?_) (fun hc85 => ?_)
    · skip
      refine J_iconst C (0) dX3_addThing_93 ic_0 ?_
      refine J_top (y := nI (if wa = 0 then 2 ^ s.1 else 0)) (by first | rw [if_pos (nI_inj (by omega) (by decide) hc85)] | (rw [if_neg (fun q => hc85 (by rw [q]; rfl))]; rfl)) ?_
      refine J_ior C dX3_addThing_94 ?_
      refine J_top (y := nI (bsN (s.2.1 0) 0 s.1 ||| (if wa = 0 then 2 ^ s.1 else 0))) (show g 1311 ||| nI _ = _ by rw [w7, nI_or]) ?_
      refine G3_puti C (n := 1311) 11 dX3_addThing_95 fX3_addThing_57 iX3_addThing_3 rfl (hS _ (by decide)) rfl (tyX3_ok 11 (by decide)) rfl rfl ?_
      refine J_aload_0 C dX3_addThing_98 ?_
      refine J_dup C dX3_addThing_99 ?_
      refine G3_geti C (n := 1312) 12 dX3_addThing_100 fX3_addThing_60 iX3_addThing_3 rfl (hS _ (by decide)) rfl rfl ?_
      refine J_iload_2 C dX3_addThing_103 ?_
      refine J_iconst C (1) dX3_addThing_104 ic_1 ?_
      refine J_icmp_ne C 113 dX3_addThing_105 (by decide) (fun hc105 => ?_) (fun hc105 => ?_)
      · skip
        refine J_iconst C (0) dX3_addThing_113 ic_0 ?_
        refine J_top (y := nI (if wa = 1 then 2 ^ s.1 else 0)) (by first | rw [if_pos (nI_inj (by omega) (by decide) hc105)] | (rw [if_neg (fun q => hc105 (by rw [q]; rfl))]; rfl)) ?_
        refine J_ior C dX3_addThing_114 ?_
        refine J_top (y := nI (bsN (s.2.1 0) 1 s.1 ||| (if wa = 1 then 2 ^ s.1 else 0))) (show g 1312 ||| nI _ = _ by rw [w8, nI_or]) ?_
        refine G3_puti C (n := 1312) 12 dX3_addThing_115 fX3_addThing_60 iX3_addThing_3 rfl (hS _ (by decide)) rfl (tyX3_ok 12 (by decide)) rfl rfl ?_
        refine J_aload_0 C dX3_addThing_118 ?_
        refine J_dup C dX3_addThing_119 ?_
        refine G3_geti C (n := 1301) 1 dX3_addThing_120 fX3_addThing_39 iX3_addThing_3 rfl (hS _ (by decide)) rfl rfl ?_
        refine J_iload_5 C dX3_addThing_123 ?_
        refine J_ior C dX3_addThing_125 ?_
        refine J_top (y := nI (2 ^ (s.1 + 1) - 1)) (show g 1301 ||| nI (2 ^ s.1) = _ by rw [w1, nI_or, ← allN s.1 (by omega)]) ?_
        refine G3_puti C (n := 1301) 1 dX3_addThing_126 fX3_addThing_39 iX3_addThing_3 rfl (hS _ (by decide)) rfl (tyX3_ok 1 (by decide)) rfl rfl ?_
        refine J_aload_0 C dX3_addThing_129 ?_
        refine J_dup C dX3_addThing_130 ?_
        refine G3_geti C (n := 1300) 0 dX3_addThing_131 fX3_addThing_35 iX3_addThing_3 rfl (hS _ (by decide)) rfl rfl ?_
        refine J_iconst C (1) dX3_addThing_134 ic_1 ?_
        refine J_iadd C dX3_addThing_135 ?_
        refine J_top (y := nI (s.1 + 1)) (show g 1300 + 1 = _ by rw [w0, nI_1]) ?_
        refine G3_puti C (n := 1300) 0 dX3_addThing_136 fX3_addThing_35 iX3_addThing_3 rfl (hS _ (by decide)) rfl (tyX3_ok 0 (by decide)) rfl rfl ?_
        refine hQ _ _ _ dX3_addThing_139 ⟨_, _, _, _, rfl, ?_⟩
        refine ⟨?_, fun k hk => ?_, fun k hk => ?_, rfl, rfl⟩
        · refine ⟨by simp [upd, addT], by simp [upd, addT], by simp [upd, addT]; exact w2, ?_, by simp [upd, addT]; exact w4, by simp [upd, addT]; exact w5, by simp [upd, addT]; exact w6, ?_, ?_, fun t ht => ?_⟩
          · simp only [upd, addT, stN, bsN]
            simp only [if_true, show ¬ (1303 : Nat) = 1300 by decide, show ¬ (1303 : Nat) = 1301 by decide, show ¬ (1303 : Nat) = 1312 by decide, show ¬ (1303 : Nat) = 1311 by decide, if_false]
            simp only [List.getD_cons_succ, List.getD_cons_zero]
            rw [bsN_hd, Nat.or_assoc, Nat.or_assoc, Nat.or_comm (if bk = 1 then _ else _)]
            rfl
          · simp only [upd, addT, bsN]
            simp only [if_true, show ¬ (1311 : Nat) = 1300 by decide, show ¬ (1311 : Nat) = 1301 by decide, show ¬ (1311 : Nat) = 1312 by decide, if_false]
            simp only [List.getD_cons_succ, List.getD_cons_zero]
            rw [bsN_hd]
          · simp only [upd, addT, bsN]
            simp only [if_true, show ¬ (1312 : Nat) = 1300 by decide, show ¬ (1312 : Nat) = 1301 by decide, if_false]
            simp only [List.getD_cons_succ, List.getD_cons_zero]
            rw [bsN_hd]
          · by_cases e : t = s.1
            · subst e
              simp [addT, va_up, upd]
              rfl
            · obtain ⟨q1, q2, q3, q4⟩ := w9 t (by simp only [addT] at ht; omega)
              simp [addT, va_up, upd, e]
              exact ⟨q1, q2, q3, q4⟩
        · simp only [upd]
          repeat rw [if_neg (by omega)]
        · simp only [va_up]
          repeat rw [if_neg (by omega)]
      · skip
        refine J_iload_5 C dX3_addThing_108 ?_
        refine J_goto C 114 dX3_addThing_110 (by decide) ?_
        refine J_top (y := nI (if wa = 1 then 2 ^ s.1 else 0)) (by first | rw [if_pos (nI_inj (by omega) (by decide) hc105)] | (rw [if_neg (fun q => hc105 (by rw [q]; rfl))]; rfl)) ?_
        refine J_ior C dX3_addThing_114 ?_
        refine J_top (y := nI (bsN (s.2.1 0) 1 s.1 ||| (if wa = 1 then 2 ^ s.1 else 0))) (show g 1312 ||| nI _ = _ by rw [w8, nI_or]) ?_
        refine G3_puti C (n := 1312) 12 dX3_addThing_115 fX3_addThing_60 iX3_addThing_3 rfl (hS _ (by decide)) rfl (tyX3_ok 12 (by decide)) rfl rfl ?_
        refine J_aload_0 C dX3_addThing_118 ?_
        refine J_dup C dX3_addThing_119 ?_
        refine G3_geti C (n := 1301) 1 dX3_addThing_120 fX3_addThing_39 iX3_addThing_3 rfl (hS _ (by decide)) rfl rfl ?_
        refine J_iload_5 C dX3_addThing_123 ?_
        refine J_ior C dX3_addThing_125 ?_
        refine J_top (y := nI (2 ^ (s.1 + 1) - 1)) (show g 1301 ||| nI (2 ^ s.1) = _ by rw [w1, nI_or, ← allN s.1 (by omega)]) ?_
        refine G3_puti C (n := 1301) 1 dX3_addThing_126 fX3_addThing_39 iX3_addThing_3 rfl (hS _ (by decide)) rfl (tyX3_ok 1 (by decide)) rfl rfl ?_
        refine J_aload_0 C dX3_addThing_129 ?_
        refine J_dup C dX3_addThing_130 ?_
        refine G3_geti C (n := 1300) 0 dX3_addThing_131 fX3_addThing_35 iX3_addThing_3 rfl (hS _ (by decide)) rfl rfl ?_
        refine J_iconst C (1) dX3_addThing_134 ic_1 ?_
        refine J_iadd C dX3_addThing_135 ?_
        refine J_top (y := nI (s.1 + 1)) (show g 1300 + 1 = _ by rw [w0, nI_1]) ?_
        refine G3_puti C (n := 1300) 0 dX3_addThing_136 fX3_addThing_35 iX3_addThing_3 rfl (hS _ (by decide)) rfl (tyX3_ok 0 (by decide)) rfl rfl ?_
        refine hQ _ _ _ dX3_addThing_139 ⟨_, _, _, _, rfl, ?_⟩
        refine ⟨?_, fun k hk => ?_, fun k hk => ?_, rfl, rfl⟩
        · refine ⟨by simp [upd, addT], by simp [upd, addT], by simp [upd, addT]; exact w2, ?_, by simp [upd, addT]; exact w4, by simp [upd, addT]; exact w5, by simp [upd, addT]; exact w6, ?_, ?_, fun t ht => ?_⟩
          · simp only [upd, addT, stN, bsN]
            simp only [if_true, show ¬ (1303 : Nat) = 1300 by decide, show ¬ (1303 : Nat) = 1301 by decide, show ¬ (1303 : Nat) = 1312 by decide, show ¬ (1303 : Nat) = 1311 by decide, if_false]
            simp only [List.getD_cons_succ, List.getD_cons_zero]
            rw [bsN_hd, Nat.or_assoc, Nat.or_assoc, Nat.or_comm (if bk = 1 then _ else _)]
            rfl
          · simp only [upd, addT, bsN]
            simp only [if_true, show ¬ (1311 : Nat) = 1300 by decide, show ¬ (1311 : Nat) = 1301 by decide, show ¬ (1311 : Nat) = 1312 by decide, if_false]
            simp only [List.getD_cons_succ, List.getD_cons_zero]
            rw [bsN_hd]
          · simp only [upd, addT, bsN]
            simp only [if_true, show ¬ (1312 : Nat) = 1300 by decide, show ¬ (1312 : Nat) = 1301 by decide, if_false]
            simp only [List.getD_cons_succ, List.getD_cons_zero]
            rw [bsN_hd]
          · by_cases e : t = s.1
            · subst e
              simp [addT, va_up, upd]
              rfl
            · obtain ⟨q1, q2, q3, q4⟩ := w9 t (by simp only [addT] at ht; omega)
              simp [addT, va_up, upd, e]
              exact ⟨q1, q2, q3, q4⟩
        · simp only [upd]
          repeat rw [if_neg (by omega)]
        · simp only [va_up]
          repeat rw [if_neg (by omega)]
    · skip
      refine J_iload_5 C dX3_addThing_88 ?_
      refine J_goto C 94 dX3_addThing_90 (by decide) ?_
      refine J_top (y := nI (if wa = 0 then 2 ^ s.1 else 0)) (by first | rw [if_pos (nI_inj (by omega) (by decide) hc85)] | (rw [if_neg (fun q => hc85 (by rw [q]; rfl))]; rfl)) ?_
      refine J_ior C dX3_addThing_94 ?_
      refine J_top (y := nI (bsN (s.2.1 0) 0 s.1 ||| (if wa = 0 then 2 ^ s.1 else 0))) (show g 1311 ||| nI _ = _ by rw [w7, nI_or]) ?_
      refine G3_puti C (n := 1311) 11 dX3_addThing_95 fX3_addThing_57 iX3_addThing_3 rfl (hS _ (by decide)) rfl (tyX3_ok 11 (by decide)) rfl rfl ?_
      refine J_aload_0 C dX3_addThing_98 ?_
      refine J_dup C dX3_addThing_99 ?_
      refine G3_geti C (n := 1312) 12 dX3_addThing_100 fX3_addThing_60 iX3_addThing_3 rfl (hS _ (by decide)) rfl rfl ?_
      refine J_iload_2 C dX3_addThing_103 ?_
      refine J_iconst C (1) dX3_addThing_104 ic_1 ?_
      refine J_icmp_ne C 113 dX3_addThing_105 (by decide) (fun hc105 => ?_) (fun hc105 => ?_)
      · skip
        refine J_iconst C (0) dX3_addThing_113 ic_0 ?_
        refine J_top (y := nI (if wa = 1 then 2 ^ s.1 else 0)) (by first | rw [if_pos (nI_inj (by omega) (by decide) hc105)] | (rw [if_neg (fun q => hc105 (by rw [q]; rfl))]; rfl)) ?_
        refine J_ior C dX3_addThing_114 ?_
        refine J_top (y := nI (bsN (s.2.1 0) 1 s.1 ||| (if wa = 1 then 2 ^ s.1 else 0))) (show g 1312 ||| nI _ = _ by rw [w8, nI_or]) ?_
        refine G3_puti C (n := 1312) 12 dX3_addThing_115 fX3_addThing_60 iX3_addThing_3 rfl (hS _ (by decide)) rfl (tyX3_ok 12 (by decide)) rfl rfl ?_
        refine J_aload_0 C dX3_addThing_118 ?_
        refine J_dup C dX3_addThing_119 ?_
        refine G3_geti C (n := 1301) 1 dX3_addThing_120 fX3_addThing_39 iX3_addThing_3 rfl (hS _ (by decide)) rfl rfl ?_
        refine J_iload_5 C dX3_addThing_123 ?_
        refine J_ior C dX3_addThing_125 ?_
        refine J_top (y := nI (2 ^ (s.1 + 1) - 1)) (show g 1301 ||| nI (2 ^ s.1) = _ by rw [w1, nI_or, ← allN s.1 (by omega)]) ?_
        refine G3_puti C (n := 1301) 1 dX3_addThing_126 fX3_addThing_39 iX3_addThing_3 rfl (hS _ (by decide)) rfl (tyX3_ok 1 (by decide)) rfl rfl ?_
        refine J_aload_0 C dX3_addThing_129 ?_
        refine J_dup C dX3_addThing_130 ?_
        refine G3_geti C (n := 1300) 0 dX3_addThing_131 fX3_addThing_35 iX3_addThing_3 rfl (hS _ (by decide)) rfl rfl ?_
        refine J_iconst C (1) dX3_addThing_134 ic_1 ?_
        refine J_iadd C dX3_addThing_135 ?_
        refine J_top (y := nI (s.1 + 1)) (show g 1300 + 1 = _ by rw [w0, nI_1]) ?_
        refine G3_puti C (n := 1300) 0 dX3_addThing_136 fX3_addThing_35 iX3_addThing_3 rfl (hS _ (by decide)) rfl (tyX3_ok 0 (by decide)) rfl rfl ?_
        refine hQ _ _ _ dX3_addThing_139 ⟨_, _, _, _, rfl, ?_⟩
        refine ⟨?_, fun k hk => ?_, fun k hk => ?_, rfl, rfl⟩
        · refine ⟨by simp [upd, addT], by simp [upd, addT], by simp [upd, addT]; exact w2, ?_, by simp [upd, addT]; exact w4, by simp [upd, addT]; exact w5, by simp [upd, addT]; exact w6, ?_, ?_, fun t ht => ?_⟩
          · simp only [upd, addT, stN, bsN]
            simp only [if_true, show ¬ (1303 : Nat) = 1300 by decide, show ¬ (1303 : Nat) = 1301 by decide, show ¬ (1303 : Nat) = 1312 by decide, show ¬ (1303 : Nat) = 1311 by decide, if_false]
            simp only [List.getD_cons_succ, List.getD_cons_zero]
            rw [bsN_hd, Nat.or_assoc, Nat.or_assoc, Nat.or_comm (if bk = 1 then _ else _)]
            rfl
          · simp only [upd, addT, bsN]
            simp only [if_true, show ¬ (1311 : Nat) = 1300 by decide, show ¬ (1311 : Nat) = 1301 by decide, show ¬ (1311 : Nat) = 1312 by decide, if_false]
            simp only [List.getD_cons_succ, List.getD_cons_zero]
            rw [bsN_hd]
          · simp only [upd, addT, bsN]
            simp only [if_true, show ¬ (1312 : Nat) = 1300 by decide, show ¬ (1312 : Nat) = 1301 by decide, if_false]
            simp only [List.getD_cons_succ, List.getD_cons_zero]
            rw [bsN_hd]
          · by_cases e : t = s.1
            · subst e
              simp [addT, va_up, upd]
              rfl
            · obtain ⟨q1, q2, q3, q4⟩ := w9 t (by simp only [addT] at ht; omega)
              simp [addT, va_up, upd, e]
              exact ⟨q1, q2, q3, q4⟩
        · simp only [upd]
          repeat rw [if_neg (by omega)]
        · simp only [va_up]
          repeat rw [if_neg (by omega)]
      · skip
        refine J_iload_5 C dX3_addThing_108 ?_
        refine J_goto C 114 dX3_addThing_110 (by decide) ?_
        refine J_top (y := nI (if wa = 1 then 2 ^ s.1 else 0)) (by first | rw [if_pos (nI_inj (by omega) (by decide) hc105)] | (rw [if_neg (fun q => hc105 (by rw [q]; rfl))]; rfl)) ?_
        refine J_ior C dX3_addThing_114 ?_
        refine J_top (y := nI (bsN (s.2.1 0) 1 s.1 ||| (if wa = 1 then 2 ^ s.1 else 0))) (show g 1312 ||| nI _ = _ by rw [w8, nI_or]) ?_
        refine G3_puti C (n := 1312) 12 dX3_addThing_115 fX3_addThing_60 iX3_addThing_3 rfl (hS _ (by decide)) rfl (tyX3_ok 12 (by decide)) rfl rfl ?_
        refine J_aload_0 C dX3_addThing_118 ?_
        refine J_dup C dX3_addThing_119 ?_
        refine G3_geti C (n := 1301) 1 dX3_addThing_120 fX3_addThing_39 iX3_addThing_3 rfl (hS _ (by decide)) rfl rfl ?_
        refine J_iload_5 C dX3_addThing_123 ?_
        refine J_ior C dX3_addThing_125 ?_
        refine J_top (y := nI (2 ^ (s.1 + 1) - 1)) (show g 1301 ||| nI (2 ^ s.1) = _ by rw [w1, nI_or, ← allN s.1 (by omega)]) ?_
        refine G3_puti C (n := 1301) 1 dX3_addThing_126 fX3_addThing_39 iX3_addThing_3 rfl (hS _ (by decide)) rfl (tyX3_ok 1 (by decide)) rfl rfl ?_
        refine J_aload_0 C dX3_addThing_129 ?_
        refine J_dup C dX3_addThing_130 ?_
        refine G3_geti C (n := 1300) 0 dX3_addThing_131 fX3_addThing_35 iX3_addThing_3 rfl (hS _ (by decide)) rfl rfl ?_
        refine J_iconst C (1) dX3_addThing_134 ic_1 ?_
        refine J_iadd C dX3_addThing_135 ?_
        refine J_top (y := nI (s.1 + 1)) (show g 1300 + 1 = _ by rw [w0, nI_1]) ?_
        refine G3_puti C (n := 1300) 0 dX3_addThing_136 fX3_addThing_35 iX3_addThing_3 rfl (hS _ (by decide)) rfl (tyX3_ok 0 (by decide)) rfl rfl ?_
        refine hQ _ _ _ dX3_addThing_139 ⟨_, _, _, _, rfl, ?_⟩
        refine ⟨?_, fun k hk => ?_, fun k hk => ?_, rfl, rfl⟩
        · refine ⟨by simp [upd, addT], by simp [upd, addT], by simp [upd, addT]; exact w2, ?_, by simp [upd, addT]; exact w4, by simp [upd, addT]; exact w5, by simp [upd, addT]; exact w6, ?_, ?_, fun t ht => ?_⟩
          · simp only [upd, addT, stN, bsN]
            simp only [if_true, show ¬ (1303 : Nat) = 1300 by decide, show ¬ (1303 : Nat) = 1301 by decide, show ¬ (1303 : Nat) = 1312 by decide, show ¬ (1303 : Nat) = 1311 by decide, if_false]
            simp only [List.getD_cons_succ, List.getD_cons_zero]
            rw [bsN_hd, Nat.or_assoc, Nat.or_assoc, Nat.or_comm (if bk = 1 then _ else _)]
            rfl
          · simp only [upd, addT, bsN]
            simp only [if_true, show ¬ (1311 : Nat) = 1300 by decide, show ¬ (1311 : Nat) = 1301 by decide, show ¬ (1311 : Nat) = 1312 by decide, if_false]
            simp only [List.getD_cons_succ, List.getD_cons_zero]
            rw [bsN_hd]
          · simp only [upd, addT, bsN]
            simp only [if_true, show ¬ (1312 : Nat) = 1300 by decide, show ¬ (1312 : Nat) = 1301 by decide, if_false]
            simp only [List.getD_cons_succ, List.getD_cons_zero]
            rw [bsN_hd]
          · by_cases e : t = s.1
            · subst e
              simp [addT, va_up, upd]
              rfl
            · obtain ⟨q1, q2, q3, q4⟩ := w9 t (by simp only [addT] at ht; omega)
              simp [addT, va_up, upd, e]
              exact ⟨q1, q2, q3, q4⟩
        · simp only [upd]
          repeat rw [if_neg (by omega)]
        · simp only [va_up]
          repeat rw [if_neg (by omega)]
  · skip
    refine J_iload_5 C dX3_addThing_69 ?_
    refine J_goto C 75 dX3_addThing_71 (by decide) ?_
    refine J_top (y := nI (if bk = 1 then 2 ^ s.1 else 0)) (by first | rw [if_pos (nI_inj (by omega) (by decide) hc66)] | (rw [if_neg (fun q => hc66 (by rw [q]; rfl))]; rfl)) ?_
    refine J_ior C dX3_addThing_75 ?_
    rw [w3, nI_or]
    refine G3_puti C (n := 1303) 3 dX3_addThing_76 fX3_addThing_45 iX3_addThing_3 rfl (hS _ (by decide)) rfl (tyX3_ok 3 (by decide)) rfl rfl ?_
    refine J_aload_0 C dX3_addThing_79 ?_
    refine J_dup C dX3_addThing_80 ?_
    refine G3_geti C (n := 1311) 11 dX3_addThing_81 fX3_addThing_57 iX3_addThing_3 rfl (hS _ (by decide)) rfl rfl ?_
    refine J_iload_2 C dX3_addThing_84 ?_
    refine J_if_ne C 93 dX3_addThing_85 (by decide) (fun hc85 => ?_) (fun hc85 => ?_)
    · skip
      refine J_iconst C (0) dX3_addThing_93 ic_0 ?_
      refine J_top (y := nI (if wa = 0 then 2 ^ s.1 else 0)) (by first | rw [if_pos (nI_inj (by omega) (by decide) hc85)] | (rw [if_neg (fun q => hc85 (by rw [q]; rfl))]; rfl)) ?_
      refine J_ior C dX3_addThing_94 ?_
      refine J_top (y := nI (bsN (s.2.1 0) 0 s.1 ||| (if wa = 0 then 2 ^ s.1 else 0))) (show g 1311 ||| nI _ = _ by rw [w7, nI_or]) ?_
      refine G3_puti C (n := 1311) 11 dX3_addThing_95 fX3_addThing_57 iX3_addThing_3 rfl (hS _ (by decide)) rfl (tyX3_ok 11 (by decide)) rfl rfl ?_
      refine J_aload_0 C dX3_addThing_98 ?_
      refine J_dup C dX3_addThing_99 ?_
      refine G3_geti C (n := 1312) 12 dX3_addThing_100 fX3_addThing_60 iX3_addThing_3 rfl (hS _ (by decide)) rfl rfl ?_
      refine J_iload_2 C dX3_addThing_103 ?_
      refine J_iconst C (1) dX3_addThing_104 ic_1 ?_
      refine J_icmp_ne C 113 dX3_addThing_105 (by decide) (fun hc105 => ?_) (fun hc105 => ?_)
      · skip
        refine J_iconst C (0) dX3_addThing_113 ic_0 ?_
        refine J_top (y := nI (if wa = 1 then 2 ^ s.1 else 0)) (by first | rw [if_pos (nI_inj (by omega) (by decide) hc105)] | (rw [if_neg (fun q => hc105 (by rw [q]; rfl))]; rfl)) ?_
        refine J_ior C dX3_addThing_114 ?_
        refine J_top (y := nI (bsN (s.2.1 0) 1 s.1 ||| (if wa = 1 then 2 ^ s.1 else 0))) (show g 1312 ||| nI _ = _ by rw [w8, nI_or]) ?_
        refine G3_puti C (n := 1312) 12 dX3_addThing_115 fX3_addThing_60 iX3_addThing_3 rfl (hS _ (by decide)) rfl (tyX3_ok 12 (by decide)) rfl rfl ?_
        refine J_aload_0 C dX3_addThing_118 ?_
        refine J_dup C dX3_addThing_119 ?_
        refine G3_geti C (n := 1301) 1 dX3_addThing_120 fX3_addThing_39 iX3_addThing_3 rfl (hS _ (by decide)) rfl rfl ?_
        refine J_iload_5 C dX3_addThing_123 ?_
        refine J_ior C dX3_addThing_125 ?_
        refine J_top (y := nI (2 ^ (s.1 + 1) - 1)) (show g 1301 ||| nI (2 ^ s.1) = _ by rw [w1, nI_or, ← allN s.1 (by omega)]) ?_
        refine G3_puti C (n := 1301) 1 dX3_addThing_126 fX3_addThing_39 iX3_addThing_3 rfl (hS _ (by decide)) rfl (tyX3_ok 1 (by decide)) rfl rfl ?_
        refine J_aload_0 C dX3_addThing_129 ?_
        refine J_dup C dX3_addThing_130 ?_
        refine G3_geti C (n := 1300) 0 dX3_addThing_131 fX3_addThing_35 iX3_addThing_3 rfl (hS _ (by decide)) rfl rfl ?_
        refine J_iconst C (1) dX3_addThing_134 ic_1 ?_
        refine J_iadd C dX3_addThing_135 ?_
        refine J_top (y := nI (s.1 + 1)) (show g 1300 + 1 = _ by rw [w0, nI_1]) ?_
        refine G3_puti C (n := 1300) 0 dX3_addThing_136 fX3_addThing_35 iX3_addThing_3 rfl (hS _ (by decide)) rfl (tyX3_ok 0 (by decide)) rfl rfl ?_
        refine hQ _ _ _ dX3_addThing_139 ⟨_, _, _, _, rfl, ?_⟩
        refine ⟨?_, fun k hk => ?_, fun k hk => ?_, rfl, rfl⟩
        · refine ⟨by simp [upd, addT], by simp [upd, addT], by simp [upd, addT]; exact w2, ?_, by simp [upd, addT]; exact w4, by simp [upd, addT]; exact w5, by simp [upd, addT]; exact w6, ?_, ?_, fun t ht => ?_⟩
          · simp only [upd, addT, stN, bsN]
            simp only [if_true, show ¬ (1303 : Nat) = 1300 by decide, show ¬ (1303 : Nat) = 1301 by decide, show ¬ (1303 : Nat) = 1312 by decide, show ¬ (1303 : Nat) = 1311 by decide, if_false]
            simp only [List.getD_cons_succ, List.getD_cons_zero]
            rw [bsN_hd, Nat.or_assoc, Nat.or_assoc, Nat.or_comm (if bk = 1 then _ else _)]
            rfl
          · simp only [upd, addT, bsN]
            simp only [if_true, show ¬ (1311 : Nat) = 1300 by decide, show ¬ (1311 : Nat) = 1301 by decide, show ¬ (1311 : Nat) = 1312 by decide, if_false]
            simp only [List.getD_cons_succ, List.getD_cons_zero]
            rw [bsN_hd]
          · simp only [upd, addT, bsN]
            simp only [if_true, show ¬ (1312 : Nat) = 1300 by decide, show ¬ (1312 : Nat) = 1301 by decide, if_false]
            simp only [List.getD_cons_succ, List.getD_cons_zero]
            rw [bsN_hd]
          · by_cases e : t = s.1
            · subst e
              simp [addT, va_up, upd]
              rfl
            · obtain ⟨q1, q2, q3, q4⟩ := w9 t (by simp only [addT] at ht; omega)
              simp [addT, va_up, upd, e]
              exact ⟨q1, q2, q3, q4⟩
        · simp only [upd]
          repeat rw [if_neg (by omega)]
        · simp only [va_up]
          repeat rw [if_neg (by omega)]
      · skip
        refine J_iload_5 C dX3_addThing_108 ?_
        refine J_goto C 114 dX3_addThing_110 (by decide) ?_
        refine J_top (y := nI (if wa = 1 then 2 ^ s.1 else 0)) (by first | rw [if_pos (nI_inj (by omega) (by decide) hc105)] | (rw [if_neg (fun q => hc105 (by rw [q]; rfl))]; rfl)) ?_
        refine J_ior C dX3_addThing_114 ?_
        refine J_top (y := nI (bsN (s.2.1 0) 1 s.1 ||| (if wa = 1 then 2 ^ s.1 else 0))) (show g 1312 ||| nI _ = _ by rw [w8, nI_or]) ?_
        refine G3_puti C (n := 1312) 12 dX3_addThing_115 fX3_addThing_60 iX3_addThing_3 rfl (hS _ (by decide)) rfl (tyX3_ok 12 (by decide)) rfl rfl ?_
        refine J_aload_0 C dX3_addThing_118 ?_
        refine J_dup C dX3_addThing_119 ?_
        refine G3_geti C (n := 1301) 1 dX3_addThing_120 fX3_addThing_39 iX3_addThing_3 rfl (hS _ (by decide)) rfl rfl ?_
        refine J_iload_5 C dX3_addThing_123 ?_
        refine J_ior C dX3_addThing_125 ?_
        refine J_top (y := nI (2 ^ (s.1 + 1) - 1)) (show g 1301 ||| nI (2 ^ s.1) = _ by rw [w1, nI_or, ← allN s.1 (by omega)]) ?_
        refine G3_puti C (n := 1301) 1 dX3_addThing_126 fX3_addThing_39 iX3_addThing_3 rfl (hS _ (by decide)) rfl (tyX3_ok 1 (by decide)) rfl rfl ?_
        refine J_aload_0 C dX3_addThing_129 ?_
        refine J_dup C dX3_addThing_130 ?_
        refine G3_geti C (n := 1300) 0 dX3_addThing_131 fX3_addThing_35 iX3_addThing_3 rfl (hS _ (by decide)) rfl rfl ?_
        refine J_iconst C (1) dX3_addThing_134 ic_1 ?_
        refine J_iadd C dX3_addThing_135 ?_
        refine J_top (y := nI (s.1 + 1)) (show g 1300 + 1 = _ by rw [w0, nI_1]) ?_
        refine G3_puti C (n := 1300) 0 dX3_addThing_136 fX3_addThing_35 iX3_addThing_3 rfl (hS _ (by decide)) rfl (tyX3_ok 0 (by decide)) rfl rfl ?_
        refine hQ _ _ _ dX3_addThing_139 ⟨_, _, _, _, rfl, ?_⟩
        refine ⟨?_, fun k hk => ?_, fun k hk => ?_, rfl, rfl⟩
        · refine ⟨by simp [upd, addT], by simp [upd, addT], by simp [upd, addT]; exact w2, ?_, by simp [upd, addT]; exact w4, by simp [upd, addT]; exact w5, by simp [upd, addT]; exact w6, ?_, ?_, fun t ht => ?_⟩
          · simp only [upd, addT, stN, bsN]
            simp only [if_true, show ¬ (1303 : Nat) = 1300 by decide, show ¬ (1303 : Nat) = 1301 by decide, show ¬ (1303 : Nat) = 1312 by decide, show ¬ (1303 : Nat) = 1311 by decide, if_false]
            simp only [List.getD_cons_succ, List.getD_cons_zero]
            rw [bsN_hd, Nat.or_assoc, Nat.or_assoc, Nat.or_comm (if bk = 1 then _ else _)]
            rfl
          · simp only [upd, addT, bsN]
            simp only [if_true, show ¬ (1311 : Nat) = 1300 by decide, show ¬ (1311 : Nat) = 1301 by decide, show ¬ (1311 : Nat) = 1312 by decide, if_false]
            simp only [List.getD_cons_succ, List.getD_cons_zero]
            rw [bsN_hd]
          · simp only [upd, addT, bsN]
            simp only [if_true, show ¬ (1312 : Nat) = 1300 by decide, show ¬ (1312 : Nat) = 1301 by decide, if_false]
            simp only [List.getD_cons_succ, List.getD_cons_zero]
            rw [bsN_hd]
          · by_cases e : t = s.1
            · subst e
              simp [addT, va_up, upd]
              rfl
            · obtain ⟨q1, q2, q3, q4⟩ := w9 t (by simp only [addT] at ht; omega)
              simp [addT, va_up, upd, e]
              exact ⟨q1, q2, q3, q4⟩
        · simp only [upd]
          repeat rw [if_neg (by omega)]
        · simp only [va_up]
          repeat rw [if_neg (by omega)]
    · skip
      refine J_iload_5 C dX3_addThing_88 ?_
      refine J_goto C 94 dX3_addThing_90 (by decide) ?_
      refine J_top (y := nI (if wa = 0 then 2 ^ s.1 else 0)) (by first | rw [if_pos (nI_inj (by omega) (by decide) hc85)] | (rw [if_neg (fun q => hc85 (by rw [q]; rfl))]; rfl)) ?_
      refine J_ior C dX3_addThing_94 ?_
      refine J_top (y := nI (bsN (s.2.1 0) 0 s.1 ||| (if wa = 0 then 2 ^ s.1 else 0))) (show g 1311 ||| nI _ = _ by rw [w7, nI_or]) ?_
      refine G3_puti C (n := 1311) 11 dX3_addThing_95 fX3_addThing_57 iX3_addThing_3 rfl (hS _ (by decide)) rfl (tyX3_ok 11 (by decide)) rfl rfl ?_
      refine J_aload_0 C dX3_addThing_98 ?_
      refine J_dup C dX3_addThing_99 ?_
      refine G3_geti C (n := 1312) 12 dX3_addThing_100 fX3_addThing_60 iX3_addThing_3 rfl (hS _ (by decide)) rfl rfl ?_
      refine J_iload_2 C dX3_addThing_103 ?_
      refine J_iconst C (1) dX3_addThing_104 ic_1 ?_
      refine J_icmp_ne C 113 dX3_addThing_105 (by decide) (fun hc105 => ?_) (fun hc105 => ?_)
      · skip
        refine J_iconst C (0) dX3_addThing_113 ic_0 ?_
        refine J_top (y := nI (if wa = 1 then 2 ^ s.1 else 0)) (by first | rw [if_pos (nI_inj (by omega) (by decide) hc105)] | (rw [if_neg (fun q => hc105 (by rw [q]; rfl))]; rfl)) ?_
        refine J_ior C dX3_addThing_114 ?_
        refine J_top (y := nI (bsN (s.2.1 0) 1 s.1 ||| (if wa = 1 then 2 ^ s.1 else 0))) (show g 1312 ||| nI _ = _ by rw [w8, nI_or]) ?_
        refine G3_puti C (n := 1312) 12 dX3_addThing_115 fX3_addThing_60 iX3_addThing_3 rfl (hS _ (by decide)) rfl (tyX3_ok 12 (by decide)) rfl rfl ?_
        refine J_aload_0 C dX3_addThing_118 ?_
        refine J_dup C dX3_addThing_119 ?_
        refine G3_geti C (n := 1301) 1 dX3_addThing_120 fX3_addThing_39 iX3_addThing_3 rfl (hS _ (by decide)) rfl rfl ?_
        refine J_iload_5 C dX3_addThing_123 ?_
        refine J_ior C dX3_addThing_125 ?_
        refine J_top (y := nI (2 ^ (s.1 + 1) - 1)) (show g 1301 ||| nI (2 ^ s.1) = _ by rw [w1, nI_or, ← allN s.1 (by omega)]) ?_
        refine G3_puti C (n := 1301) 1 dX3_addThing_126 fX3_addThing_39 iX3_addThing_3 rfl (hS _ (by decide)) rfl (tyX3_ok 1 (by decide)) rfl rfl ?_
        refine J_aload_0 C dX3_addThing_129 ?_
        refine J_dup C dX3_addThing_130 ?_
        refine G3_geti C (n := 1300) 0 dX3_addThing_131 fX3_addThing_35 iX3_addThing_3 rfl (hS _ (by decide)) rfl rfl ?_
        refine J_iconst C (1) dX3_addThing_134 ic_1 ?_
        refine J_iadd C dX3_addThing_135 ?_
        refine J_top (y := nI (s.1 + 1)) (show g 1300 + 1 = _ by rw [w0, nI_1]) ?_
        refine G3_puti C (n := 1300) 0 dX3_addThing_136 fX3_addThing_35 iX3_addThing_3 rfl (hS _ (by decide)) rfl (tyX3_ok 0 (by decide)) rfl rfl ?_
        refine hQ _ _ _ dX3_addThing_139 ⟨_, _, _, _, rfl, ?_⟩
        refine ⟨?_, fun k hk => ?_, fun k hk => ?_, rfl, rfl⟩
        · refine ⟨by simp [upd, addT], by simp [upd, addT], by simp [upd, addT]; exact w2, ?_, by simp [upd, addT]; exact w4, by simp [upd, addT]; exact w5, by simp [upd, addT]; exact w6, ?_, ?_, fun t ht => ?_⟩
          · simp only [upd, addT, stN, bsN]
            simp only [if_true, show ¬ (1303 : Nat) = 1300 by decide, show ¬ (1303 : Nat) = 1301 by decide, show ¬ (1303 : Nat) = 1312 by decide, show ¬ (1303 : Nat) = 1311 by decide, if_false]
            simp only [List.getD_cons_succ, List.getD_cons_zero]
            rw [bsN_hd, Nat.or_assoc, Nat.or_assoc, Nat.or_comm (if bk = 1 then _ else _)]
            rfl
          · simp only [upd, addT, bsN]
            simp only [if_true, show ¬ (1311 : Nat) = 1300 by decide, show ¬ (1311 : Nat) = 1301 by decide, show ¬ (1311 : Nat) = 1312 by decide, if_false]
            simp only [List.getD_cons_succ, List.getD_cons_zero]
            rw [bsN_hd]
          · simp only [upd, addT, bsN]
            simp only [if_true, show ¬ (1312 : Nat) = 1300 by decide, show ¬ (1312 : Nat) = 1301 by decide, if_false]
            simp only [List.getD_cons_succ, List.getD_cons_zero]
            rw [bsN_hd]
          · by_cases e : t = s.1
            · subst e
              simp [addT, va_up, upd]
              rfl
            · obtain ⟨q1, q2, q3, q4⟩ := w9 t (by simp only [addT] at ht; omega)
              simp [addT, va_up, upd, e]
              exact ⟨q1, q2, q3, q4⟩
        · simp only [upd]
          repeat rw [if_neg (by omega)]
        · simp only [va_up]
          repeat rw [if_neg (by omega)]
      · skip
        refine J_iload_5 C dX3_addThing_108 ?_
        refine J_goto C 114 dX3_addThing_110 (by decide) ?_
        refine J_top (y := nI (if wa = 1 then 2 ^ s.1 else 0)) (by first | rw [if_pos (nI_inj (by omega) (by decide) hc105)] | (rw [if_neg (fun q => hc105 (by rw [q]; rfl))]; rfl)) ?_
        refine J_ior C dX3_addThing_114 ?_
        refine J_top (y := nI (bsN (s.2.1 0) 1 s.1 ||| (if wa = 1 then 2 ^ s.1 else 0))) (show g 1312 ||| nI _ = _ by rw [w8, nI_or]) ?_
        refine G3_puti C (n := 1312) 12 dX3_addThing_115 fX3_addThing_60 iX3_addThing_3 rfl (hS _ (by decide)) rfl (tyX3_ok 12 (by decide)) rfl rfl ?_
        refine J_aload_0 C dX3_addThing_118 ?_
        refine J_dup C dX3_addThing_119 ?_
        refine G3_geti C (n := 1301) 1 dX3_addThing_120 fX3_addThing_39 iX3_addThing_3 rfl (hS _ (by decide)) rfl rfl ?_
        refine J_iload_5 C dX3_addThing_123 ?_
        refine J_ior C dX3_addThing_125 ?_
        refine J_top (y := nI (2 ^ (s.1 + 1) - 1)) (show g 1301 ||| nI (2 ^ s.1) = _ by rw [w1, nI_or, ← allN s.1 (by omega)]) ?_
        refine G3_puti C (n := 1301) 1 dX3_addThing_126 fX3_addThing_39 iX3_addThing_3 rfl (hS _ (by decide)) rfl (tyX3_ok 1 (by decide)) rfl rfl ?_
        refine J_aload_0 C dX3_addThing_129 ?_
        refine J_dup C dX3_addThing_130 ?_
        refine G3_geti C (n := 1300) 0 dX3_addThing_131 fX3_addThing_35 iX3_addThing_3 rfl (hS _ (by decide)) rfl rfl ?_
        refine J_iconst C (1) dX3_addThing_134 ic_1 ?_
        refine J_iadd C dX3_addThing_135 ?_
        refine J_top (y := nI (s.1 + 1)) (show g 1300 + 1 = _ by rw [w0, nI_1]) ?_
        refine G3_puti C (n := 1300) 0 dX3_addThing_136 fX3_addThing_35 iX3_addThing_3 rfl (hS _ (by decide)) rfl (tyX3_ok 0 (by decide)) rfl rfl ?_
        refine hQ _ _ _ dX3_addThing_139 ⟨_, _, _, _, rfl, ?_⟩
        refine ⟨?_, fun k hk => ?_, fun k hk => ?_, rfl, rfl⟩
        · refine ⟨by simp [upd, addT], by simp [upd, addT], by simp [upd, addT]; exact w2, ?_, by simp [upd, addT]; exact w4, by simp [upd, addT]; exact w5, by simp [upd, addT]; exact w6, ?_, ?_, fun t ht => ?_⟩
          · simp only [upd, addT, stN, bsN]
            simp only [if_true, show ¬ (1303 : Nat) = 1300 by decide, show ¬ (1303 : Nat) = 1301 by decide, show ¬ (1303 : Nat) = 1312 by decide, show ¬ (1303 : Nat) = 1311 by decide, if_false]
            simp only [List.getD_cons_succ, List.getD_cons_zero]
            rw [bsN_hd, Nat.or_assoc, Nat.or_assoc, Nat.or_comm (if bk = 1 then _ else _)]
            rfl
          · simp only [upd, addT, bsN]
            simp only [if_true, show ¬ (1311 : Nat) = 1300 by decide, show ¬ (1311 : Nat) = 1301 by decide, show ¬ (1311 : Nat) = 1312 by decide, if_false]
            simp only [List.getD_cons_succ, List.getD_cons_zero]
            rw [bsN_hd]
          · simp only [upd, addT, bsN]
            simp only [if_true, show ¬ (1312 : Nat) = 1300 by decide, show ¬ (1312 : Nat) = 1301 by decide, if_false]
            simp only [List.getD_cons_succ, List.getD_cons_zero]
            rw [bsN_hd]
          · by_cases e : t = s.1
            · subst e
              simp [addT, va_up, upd]
              rfl
            · obtain ⟨q1, q2, q3, q4⟩ := w9 t (by simp only [addT] at ht; omega)
              simp [addT, va_up, upd, e]
              exact ⟨q1, q2, q3, q4⟩
        · simp only [upd]
          repeat rw [if_neg (by omega)]
        · simp only [va_up]
          repeat rw [if_neg (by omega)]
abbrev rmX3_addPair : Room := { frames := 1, cells := 0, slots := 0, locals := 21 }
theorem fX3_addPair_19 : Cond.fieldLink RX3 19 RX3 (TX3 10).2.1 (TX3 10).2.2.1 ∈ wsX3_addPair := by decide +kernel
theorem fX3_addPair_42 : Cond.fieldLink RX3 42 RX3 (TX3 2).2.1 (TX3 2).2.2.1 ∈ wsX3_addPair := by decide +kernel
theorem iX3_addPair_3 : ∀ x ∈ wsX30, x ∈ wsX3_addPair := by decide +kernel
theorem dm_X3_has : yX3_has.cls = RX3 ∧ yX3_has.cls ≠ "java/lang/invoke/MethodHandle" ∧ yX3_has.cls ≠ "java/lang/invoke/VarHandle" ∧ (parseMethodDescriptor yX3_has.desc).map (fun d => d.parameters.length) = some 1 := by decide +kernel
set_option maxRecDepth 100000 in
set_option maxHeartbeats 4000000 in
theorem c_X3_addPair (E : EN) (hM : EM E) (g : Nat → Int32) (h : Nat → Int64) (T : Nat → Nat → Int32) (L : Nat → Nat → Int64) (s : RS) (hW : RwX g T s) (hO : RsOK s) (a b : Nat) (ha : a < s.1) (hb : b < s.1) (hab : a ≠ b) : GtV E yX3_addPair wsX3_addPair rmX3_addPair [.ref (eA E 13), .int (nI a), .int (nI b)] g h T L (fun g2 h2 T2 L2 => RwX g2 T2 (addP s a b) ∧ (∀ k, (k < 1300 ∨ 1400 ≤ k) → g2 k = g k) ∧ (∀ k, (k < 14 ∨ 17 < k) → T2 k = T k) ∧ h2 = h ∧ L2 = L) := by
  refine CtV_of (cc := cX3_addPair) (nL := 3) RX3 [some (.ref (eA E 13)), some (.int (nI a)), some (.int (nI b))] ⟨rfl, rfl⟩ (by decide) rfl rfl (Nat.le_of_ble_eq_true rfl) ⟨0, rfl⟩ hM.2 (fun Y hnm C hQ => ?_)
  have hM0 := hM
  obtain ⟨hS, hNN⟩ := hM
  obtain ⟨w0, w1, w2, w3, w4, w5, w6, w7, w8, w9⟩ := hW
  have hm := hO.1
  have hp7 := p7 hm
  have hh : ∀ x, x < s.1 → (0 ≤ nI x ∧ nI x < g (100 * 13 + 0)) := fun x hx => ⟨nI_pos' (by omega), by show nI x < g 1300; rw [w0]; exact nI_lt hx (by omega)⟩
  refine J_aload_0 C dX3_addPair_0 ?_
  refine J_iload_1 C dX3_addPair_1 ?_
  refine G_vpi C dX3_addPair_2 (c_X3_has E hNN 13 rfl (hS _ (by decide)) (nI a) g h T L) gX3_addPair_X3_has rfl dm_X3_has rfl rfl (hS _ (by decide)) rfl rfl (Nat.le_of_ble_eq_true rfl) (rmOK_b rfl) (fun r2 hr2 => ?_)
  subst hr2
  rw [if_pos (hh a ha)]
  refine J_if_eq C 16 dX3_addPair_5 (by decide) (fun hc => absurd hc (show ¬ (1 : Int32) = 0 by decide)) (fun hc5 => ?_)
  refine J_aload_0 C dX3_addPair_8 ?_
  refine J_iload_2 C dX3_addPair_9 ?_
  refine G_vpi C dX3_addPair_10 (c_X3_has E hNN 13 rfl (hS _ (by decide)) (nI b) g h T L) gX3_addPair_X3_has rfl dm_X3_has rfl rfl (hS _ (by decide)) rfl rfl (Nat.le_of_ble_eq_true rfl) (rmOK_b rfl) (fun r10 hr10 => ?_)
  subst hr10
  rw [if_pos (hh b hb)]
  refine J_if_ne C 17 dX3_addPair_13 (by decide) (fun hc13 => ?_) (fun hc => absurd hc (show ¬ (1 : Int32) = 0 by decide))
  refine J_aload_0 C dX3_addPair_17 ?_
  refine G3_getr C (n := 17) 10 dX3_addPair_18 fX3_addPair_19 iX3_addPair_3 rfl (hS _ (by decide)) rfl rfl ?_
  refine J_iload_1 C dX3_addPair_21 ?_
  refine J_dup2 C dX3_addPair_22 ?_
  refine G_iald C a dX3_addPair_23 rfl (hS _ (by decide)) rfl (by omega) ?_
  refine J_iconst C (1) dX3_addPair_24 ic_1 ?_
  refine J_iload_2 C dX3_addPair_25 ?_
  refine J_ishl C dX3_addPair_26 ?_
  rw [nI_sh1 b (by omega)]
  refine J_ior C dX3_addPair_27 ?_
  refine G_iast C a dX3_addPair_28 rfl (hS _ (by decide)) rfl (by omega) ?_
  refine J_aload_0 C dX3_addPair_29 ?_
  refine G3_getr C (n := 17) 10 dX3_addPair_30 fX3_addPair_19 iX3_addPair_3 rfl (hS _ (by decide)) rfl rfl ?_
  refine J_iload_2 C dX3_addPair_33 ?_
  refine J_dup2 C dX3_addPair_34 ?_
  refine G_iald C b dX3_addPair_35 rfl (hS _ (by decide)) rfl (by omega) ?_
  refine J_iconst C (1) dX3_addPair_36 ic_1 ?_
  refine J_iload_1 C dX3_addPair_37 ?_
  refine J_ishl C dX3_addPair_38 ?_
  rw [nI_sh1 a (by omega)]
  refine J_ior C dX3_addPair_39 ?_
  refine G_iast C b dX3_addPair_40 rfl (hS _ (by decide)) rfl (by omega) ?_
  refine J_aload_0 C dX3_addPair_41 ?_
  refine J_dup C dX3_addPair_42 ?_
  refine G3_geti C (n := 1302) 2 dX3_addPair_43 fX3_addPair_42 iX3_addPair_3 rfl (hS _ (by decide)) rfl rfl ?_
  refine J_iconst C (1) dX3_addPair_46 ic_1 ?_
  refine J_iadd C dX3_addPair_47 ?_
  refine G3_puti C (n := 1302) 2 dX3_addPair_48 fX3_addPair_42 iX3_addPair_3 rfl (hS _ (by decide)) rfl (tyX3_ok 2 (by decide)) rfl rfl ?_
  refine hQ _ _ _ dX3_addPair_51 ⟨_, _, _, _, rfl, ?_⟩
  obtain ⟨qa1, qa2, qa3, qa4⟩ := w9 a ha
  obtain ⟨qb1, qb2, qb3, qb4⟩ := w9 b hb
  refine ⟨⟨by simp [upd, addP]; exact w0, by simp [upd, addP]; exact w1, ?_, by simp [upd, addP]; exact w3, by simp [upd, addP]; exact w4, by simp [upd, addP]; exact w5, by simp [upd, addP]; exact w6, by simp [upd, addP]; exact w7, by simp [upd, addP]; exact w8, fun t ht => ?_⟩, fun k hk => ?_, fun k hk => ?_, rfl, rfl⟩
  · show upd g 1302 (g 1302 + 1) 1302 = _
    simp only [upd, if_true, addP]
    rw [w2, nI_1]
  · obtain ⟨q1, q2, q3, q4⟩ := w9 t ht
    refine ⟨?_, ?_, ?_, ?_⟩
    · simp [va_up, addP]; exact q1
    · simp [va_up, addP]; exact q2
    · simp [va_up, addP]; exact q3
    · simp only [va_up, if_true, addP]
      by_cases e1 : t = b
      · subst e1
        simp [upd, Ne.symm hab, qb4, nI_or]
      · by_cases e2 : t = a
        · subst e2
          simp [upd, hab, qa4, nI_or]
        · simp [upd, e1, e2, q4]
  · simp only [upd]
    repeat rw [if_neg (by omega)]
  · simp only [va_up]
    repeat rw [if_neg (by omega)]
theorem nI_127 : ∀ x, x < 128 → nI x &&& (-129) = nI x := by decide +kernel
abbrev rmX3_putFerry : Room := { frames := 0, cells := 0, slots := 0, locals := 0 }
theorem fX3_putFerry_45 : Cond.fieldLink RX3 45 RX3 (TX3 3).2.1 (TX3 3).2.2.1 ∈ wsX3_putFerry := by decide +kernel
theorem iX3_putFerry_3 : ∀ x ∈ wsX30, x ∈ wsX3_putFerry := by decide +kernel
theorem sc_m129 : (Int16.ofInt (-129)).toInt32 = (-129) := by decide
set_option maxRecDepth 100000 in
set_option maxHeartbeats 4000000 in
theorem c_X3_putFerry (E : EN) (hM : EM E) (g : Nat → Int32) (h : Nat → Int64) (T : Nat → Nat → Int32) (L : Nat → Nat → Int64) (s : RS) (hW : RwX g T s) (hO : RsOK s) (v : Nat) (hv : v ≤ 1) (h0 : s.2.2.2 0 = none) : GtV E yX3_putFerry wsX3_putFerry rmX3_putFerry [.ref (eA E 13), .int (nI v)] g h T L (fun g2 h2 T2 L2 => RwX g2 T2 (setO s 0 v) ∧ (∀ k, (k < 1300 ∨ 1400 ≤ k) → g2 k = g k) ∧ (∀ k, (k < 14 ∨ 17 < k) → T2 k = T k) ∧ h2 = h ∧ L2 = L) := by
  refine CtV_of (cc := cX3_putFerry) (nL := 2) RX3 [some (.ref (eA E 13)), some (.int (nI v))] ⟨rfl, rfl⟩ (by decide) rfl rfl (Nat.le_of_ble_eq_true rfl) ⟨0, rfl⟩ hM.2 (fun Y hnm C hQ => ?_)
  have hM0 := hM
  obtain ⟨hS, hNN⟩ := hM
  obtain ⟨w0, w1, w2, w3, w4, w5, w6, w7, w8, w9⟩ := hW
  have hm := hO.1
  have hp7 := p7 hm
  have hb := bsN_lt (f := s.2.1 4) (v := 1) (m := s.1)
  have w3b : g 1303 = nI (bsN (s.2.1 4) 1 s.1) := by
    rw [w3]; unfold stN; rw [h0]; simp
  refine J_aload_0 C dX3_putFerry_0 ?_
  refine J_iload_1 C dX3_putFerry_1 ?_
  refine J_iconst C (1) dX3_putFerry_2 ic_1 ?_
  refine J_icmp_ne C 17 dX3_putFerry_3 (by decide) (fun hc3 => ?_) (fun hc3 => ?_)
  · skip
    refine J_aload_0 C dX3_putFerry_17 ?_
    refine G3_geti C (n := 1303) 3 dX3_putFerry_18 fX3_putFerry_45 iX3_putFerry_3 rfl (hS _ (by decide)) rfl rfl ?_
    refine J_sipush C (-129) dX3_putFerry_21 sc_m129 ?_
    refine J_iand C dX3_putFerry_24 ?_
    first
    | refine J_top (y := nI (stN (setO s 0 v))) (by
        have e : v = 1 := nI_inj (by omega) (by decide) hc3
        rw [w3b, show (128 : Int32) = nI 128 by decide, nI_or]
        unfold stN setO
        simp [e]) ?_
    | refine J_top (y := nI (stN (setO s 0 v))) (by
        have e : ¬ v = 1 := fun q => hc3 (by rw [q]; rfl)
        rw [w3b, nI_127 _ (by omega)]
        unfold stN setO
        simp [e]) ?_
    refine G3_puti C (n := 1303) 3 dX3_putFerry_25 fX3_putFerry_45 iX3_putFerry_3 rfl (hS _ (by decide)) rfl (tyX3_ok 3 (by decide)) rfl rfl ?_
    refine hQ _ _ _ dX3_putFerry_28 ⟨_, _, _, _, rfl, ?_⟩
    refine ⟨⟨by simp [upd, setO]; exact w0, by simp [upd, setO]; exact w1, by simp [upd, setO]; exact w2, by simp [upd], by simp [upd, setO]; exact w4, by simp [upd, setO]; exact w5, by simp [upd, setO]; exact w6, by simp [upd, setO]; exact w7, by simp [upd, setO]; exact w8, fun t ht => w9 t ht⟩, fun k hk => ?_, fun k hk => rfl, rfl, rfl⟩
    simp only [upd]
    rw [if_neg (by omega)]
  · skip
    refine J_aload_0 C dX3_putFerry_6 ?_
    refine G3_geti C (n := 1303) 3 dX3_putFerry_7 fX3_putFerry_45 iX3_putFerry_3 rfl (hS _ (by decide)) rfl rfl ?_
    refine J_sipush C (128) dX3_putFerry_10 sc_128 ?_
    refine J_ior C dX3_putFerry_13 ?_
    refine J_goto C 25 dX3_putFerry_14 (by decide) ?_
    first
    | refine J_top (y := nI (stN (setO s 0 v))) (by
        have e : v = 1 := nI_inj (by omega) (by decide) hc3
        rw [w3b, show (128 : Int32) = nI 128 by decide, nI_or]
        unfold stN setO
        simp [e]) ?_
    | refine J_top (y := nI (stN (setO s 0 v))) (by
        have e : ¬ v = 1 := fun q => hc3 (by rw [q]; rfl)
        rw [w3b, nI_127 _ (by omega)]
        unfold stN setO
        simp [e]) ?_
    refine G3_puti C (n := 1303) 3 dX3_putFerry_25 fX3_putFerry_45 iX3_putFerry_3 rfl (hS _ (by decide)) rfl (tyX3_ok 3 (by decide)) rfl rfl ?_
    refine hQ _ _ _ dX3_putFerry_28 ⟨_, _, _, _, rfl, ?_⟩
    refine ⟨⟨by simp [upd, setO]; exact w0, by simp [upd, setO]; exact w1, by simp [upd, setO]; exact w2, by simp [upd], by simp [upd, setO]; exact w4, by simp [upd, setO]; exact w5, by simp [upd, setO]; exact w6, by simp [upd, setO]; exact w7, by simp [upd, setO]; exact w8, fun t ht => w9 t ht⟩, fun k hk => ?_, fun k hk => rfl, rfl, rfl⟩
    simp only [upd]
    rw [if_neg (by omega)]
abbrev rmX3_beginAnew : Room := { frames := 0, cells := 0, slots := 0, locals := 0 }
theorem fX3_beginAnew_35 : Cond.fieldLink RX3 35 RX3 (TX3 0).2.1 (TX3 0).2.2.1 ∈ wsX3_beginAnew := by decide +kernel
theorem fX3_beginAnew_39 : Cond.fieldLink RX3 39 RX3 (TX3 1).2.1 (TX3 1).2.2.1 ∈ wsX3_beginAnew := by decide +kernel
theorem fX3_beginAnew_42 : Cond.fieldLink RX3 42 RX3 (TX3 2).2.1 (TX3 2).2.2.1 ∈ wsX3_beginAnew := by decide +kernel
theorem fX3_beginAnew_45 : Cond.fieldLink RX3 45 RX3 (TX3 3).2.1 (TX3 3).2.2.1 ∈ wsX3_beginAnew := by decide +kernel
theorem fX3_beginAnew_48 : Cond.fieldLink RX3 48 RX3 (TX3 4).2.1 (TX3 4).2.2.1 ∈ wsX3_beginAnew := by decide +kernel
theorem fX3_beginAnew_51 : Cond.fieldLink RX3 51 RX3 (TX3 5).2.1 (TX3 5).2.2.1 ∈ wsX3_beginAnew := by decide +kernel
theorem fX3_beginAnew_54 : Cond.fieldLink RX3 54 RX3 (TX3 6).2.1 (TX3 6).2.2.1 ∈ wsX3_beginAnew := by decide +kernel
theorem fX3_beginAnew_57 : Cond.fieldLink RX3 57 RX3 (TX3 11).2.1 (TX3 11).2.2.1 ∈ wsX3_beginAnew := by decide +kernel
theorem fX3_beginAnew_60 : Cond.fieldLink RX3 60 RX3 (TX3 12).2.1 (TX3 12).2.2.1 ∈ wsX3_beginAnew := by decide +kernel
theorem iX3_beginAnew_3 : ∀ x ∈ wsX30, x ∈ wsX3_beginAnew := by decide +kernel
set_option maxRecDepth 100000 in
set_option maxHeartbeats 4000000 in
theorem c_X3_beginAnew_13 (E : EN) (hS : eS E 13 = true) (hNN : ∀ k, eS E k = true → k < eN E) (g : Nat → Int32) (h : Nat → Int64) (T : Nat → Nat → Int32) (L : Nat → Nat → Int64) : GtV E yX3_beginAnew wsX3_beginAnew rmX3_beginAnew [.ref (eA E 13)] g h T L (fun g2 h2 T2 L2 => (g2 1300 = 0 ∧ g2 1301 = 0 ∧ g2 1302 = 0 ∧ g2 1303 = 0 ∧ g2 1304 = 2 ∧ g2 1305 = 9 ∧ g2 1306 = 5 ∧ g2 1311 = 0 ∧ g2 1312 = 0) ∧ (∀ k, (k < 1300 ∨ 1400 ≤ k) → g2 k = g k) ∧ T2 = T ∧ h2 = h ∧ L2 = L) := by
  refine CtV_of (cc := cX3_beginAnew) (nL := 1) RX3 [some (.ref (eA E 13))] ⟨rfl, rfl⟩ (by decide) rfl rfl (Nat.le_of_ble_eq_true rfl) ⟨0, rfl⟩ hNN (fun Y hnm C hQ => ?_)
  refine J_aload_0 C dX3_beginAnew_0 ?_
  refine J_iconst C (0) dX3_beginAnew_1 ic_0 ?_
  refine G3_puti C (n := 1300) 0 dX3_beginAnew_2 fX3_beginAnew_35 iX3_beginAnew_3 rfl hS rfl (tyX3_ok 0 (by decide)) rfl rfl ?_
  refine J_aload_0 C dX3_beginAnew_5 ?_
  refine J_iconst C (0) dX3_beginAnew_6 ic_0 ?_
  refine G3_puti C (n := 1301) 1 dX3_beginAnew_7 fX3_beginAnew_39 iX3_beginAnew_3 rfl hS rfl (tyX3_ok 1 (by decide)) rfl rfl ?_
  refine J_aload_0 C dX3_beginAnew_10 ?_
  refine J_iconst C (0) dX3_beginAnew_11 ic_0 ?_
  refine G3_puti C (n := 1302) 2 dX3_beginAnew_12 fX3_beginAnew_42 iX3_beginAnew_3 rfl hS rfl (tyX3_ok 2 (by decide)) rfl rfl ?_
  refine J_aload_0 C dX3_beginAnew_15 ?_
  refine J_iconst C (0) dX3_beginAnew_16 ic_0 ?_
  refine G3_puti C (n := 1303) 3 dX3_beginAnew_17 fX3_beginAnew_45 iX3_beginAnew_3 rfl hS rfl (tyX3_ok 3 (by decide)) rfl rfl ?_
  refine J_aload_0 C dX3_beginAnew_20 ?_
  refine J_iconst C (2) dX3_beginAnew_21 ic_2 ?_
  refine G3_puti C (n := 1304) 4 dX3_beginAnew_22 fX3_beginAnew_48 iX3_beginAnew_3 rfl hS rfl (tyX3_ok 4 (by decide)) rfl rfl ?_
  refine J_aload_0 C dX3_beginAnew_25 ?_
  refine J_bipush C (9) dX3_beginAnew_26 bc_9 ?_
  refine G3_puti C (n := 1305) 5 dX3_beginAnew_28 fX3_beginAnew_51 iX3_beginAnew_3 rfl hS rfl (tyX3_ok 5 (by decide)) rfl rfl ?_
  refine J_aload_0 C dX3_beginAnew_31 ?_
  refine J_iconst C (5) dX3_beginAnew_32 ic_5 ?_
  refine G3_puti C (n := 1306) 6 dX3_beginAnew_33 fX3_beginAnew_54 iX3_beginAnew_3 rfl hS rfl (tyX3_ok 6 (by decide)) rfl rfl ?_
  refine J_aload_0 C dX3_beginAnew_36 ?_
  refine J_iconst C (0) dX3_beginAnew_37 ic_0 ?_
  refine G3_puti C (n := 1311) 11 dX3_beginAnew_38 fX3_beginAnew_57 iX3_beginAnew_3 rfl hS rfl (tyX3_ok 11 (by decide)) rfl rfl ?_
  refine J_aload_0 C dX3_beginAnew_41 ?_
  refine J_iconst C (0) dX3_beginAnew_42 ic_0 ?_
  refine G3_puti C (n := 1312) 12 dX3_beginAnew_43 fX3_beginAnew_60 iX3_beginAnew_3 rfl hS rfl (tyX3_ok 12 (by decide)) rfl rfl ?_
  refine hQ _ _ _ dX3_beginAnew_46 ⟨_, _, _, _, rfl, ?_⟩
  refine ⟨⟨rfl, rfl, rfl, rfl, rfl, rfl, rfl, rfl, rfl⟩, fun k hk => ?_, rfl, rfl, rfl⟩
  simp only [upd]
  repeat rw [if_neg (by omega)]
set_option maxRecDepth 100000 in
set_option maxHeartbeats 4000000 in
theorem c_X3_beginAnew_6 (E : EN) (hS : eS E 6 = true) (hNN : ∀ k, eS E k = true → k < eN E) (g : Nat → Int32) (h : Nat → Int64) (T : Nat → Nat → Int32) (L : Nat → Nat → Int64) : GtV E yX3_beginAnew wsX3_beginAnew rmX3_beginAnew [.ref (eA E 6)] g h T L (fun g2 h2 T2 L2 => (g2 600 = 0 ∧ g2 601 = 0 ∧ g2 602 = 0 ∧ g2 603 = 0 ∧ g2 604 = 2 ∧ g2 605 = 9 ∧ g2 606 = 5 ∧ g2 611 = 0 ∧ g2 612 = 0) ∧ (∀ k, (k < 600 ∨ 700 ≤ k) → g2 k = g k) ∧ T2 = T ∧ h2 = h ∧ L2 = L) := by
  refine CtV_of (cc := cX3_beginAnew) (nL := 1) RX3 [some (.ref (eA E 6))] ⟨rfl, rfl⟩ (by decide) rfl rfl (Nat.le_of_ble_eq_true rfl) ⟨0, rfl⟩ hNN (fun Y hnm C hQ => ?_)
  refine J_aload_0 C dX3_beginAnew_0 ?_
  refine J_iconst C (0) dX3_beginAnew_1 ic_0 ?_
  refine G3_puti C (n := 600) 0 dX3_beginAnew_2 fX3_beginAnew_35 iX3_beginAnew_3 rfl hS rfl (tyX3_ok 0 (by decide)) rfl rfl ?_
  refine J_aload_0 C dX3_beginAnew_5 ?_
  refine J_iconst C (0) dX3_beginAnew_6 ic_0 ?_
  refine G3_puti C (n := 601) 1 dX3_beginAnew_7 fX3_beginAnew_39 iX3_beginAnew_3 rfl hS rfl (tyX3_ok 1 (by decide)) rfl rfl ?_
  refine J_aload_0 C dX3_beginAnew_10 ?_
  refine J_iconst C (0) dX3_beginAnew_11 ic_0 ?_
  refine G3_puti C (n := 602) 2 dX3_beginAnew_12 fX3_beginAnew_42 iX3_beginAnew_3 rfl hS rfl (tyX3_ok 2 (by decide)) rfl rfl ?_
  refine J_aload_0 C dX3_beginAnew_15 ?_
  refine J_iconst C (0) dX3_beginAnew_16 ic_0 ?_
  refine G3_puti C (n := 603) 3 dX3_beginAnew_17 fX3_beginAnew_45 iX3_beginAnew_3 rfl hS rfl (tyX3_ok 3 (by decide)) rfl rfl ?_
  refine J_aload_0 C dX3_beginAnew_20 ?_
  refine J_iconst C (2) dX3_beginAnew_21 ic_2 ?_
  refine G3_puti C (n := 604) 4 dX3_beginAnew_22 fX3_beginAnew_48 iX3_beginAnew_3 rfl hS rfl (tyX3_ok 4 (by decide)) rfl rfl ?_
  refine J_aload_0 C dX3_beginAnew_25 ?_
  refine J_bipush C (9) dX3_beginAnew_26 bc_9 ?_
  refine G3_puti C (n := 605) 5 dX3_beginAnew_28 fX3_beginAnew_51 iX3_beginAnew_3 rfl hS rfl (tyX3_ok 5 (by decide)) rfl rfl ?_
  refine J_aload_0 C dX3_beginAnew_31 ?_
  refine J_iconst C (5) dX3_beginAnew_32 ic_5 ?_
  refine G3_puti C (n := 606) 6 dX3_beginAnew_33 fX3_beginAnew_54 iX3_beginAnew_3 rfl hS rfl (tyX3_ok 6 (by decide)) rfl rfl ?_
  refine J_aload_0 C dX3_beginAnew_36 ?_
  refine J_iconst C (0) dX3_beginAnew_37 ic_0 ?_
  refine G3_puti C (n := 611) 11 dX3_beginAnew_38 fX3_beginAnew_57 iX3_beginAnew_3 rfl hS rfl (tyX3_ok 11 (by decide)) rfl rfl ?_
  refine J_aload_0 C dX3_beginAnew_41 ?_
  refine J_iconst C (0) dX3_beginAnew_42 ic_0 ?_
  refine G3_puti C (n := 612) 12 dX3_beginAnew_43 fX3_beginAnew_60 iX3_beginAnew_3 rfl hS rfl (tyX3_ok 12 (by decide)) rfl rfl ?_
  refine hQ _ _ _ dX3_beginAnew_46 ⟨_, _, _, _, rfl, ?_⟩
  refine ⟨⟨rfl, rfl, rfl, rfl, rfl, rfl, rfl, rfl, rfl⟩, fun k hk => ?_, rfl, rfl, rfl⟩
  simp only [upd]
  repeat rw [if_neg (by omega)]
