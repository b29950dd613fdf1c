/-! the reader's numbers and stops -/
def nuO (n : Nat) (b : Nat → Nat) (lo hx p : Nat) : Option Nat := if tKn n b p = 1 then (match tVo n b p with | some v => if lo ≤ v ∧ v < hx then some v else none | none => none) else none
def orF (f : Option Nat) (q : Nat) : Option Nat := match f with | some x => some x | none => some q
def RdX (g : Nat → Int32) (T : Nat → Nat → Int32) (n : Nat) (b : Nat → Nat) (m a : Nat) (f : Option Nat) : Prop := LxX g T n b ∧ TkX T n b m ∧ a ≤ m ∧ g 205 = nI a ∧ g 206 = oI f ∧ ∀ q, f = some q → q < 256
def FrR (g g2 : Nat → Int32) (a : Nat) (f : Option Nat) : Prop := (∀ k, k ≠ 205 → k ≠ 206 → g2 k = g k) ∧ g2 205 = nI a ∧ g2 206 = oI f
def NumR (n : Nat) (b : Nat → Nat) (lo hx a : Nat) (f : Option Nat) (v a2 : Nat) (f2 : Option Nat) : Prop := (nuO n b lo hx (psT n b a) = some v ∧ a2 = a + 1 ∧ f2 = f) ∨ (nuO n b lo hx (psT n b a) = none ∧ v = lo ∧ a2 = a ∧ f2 = orF f (psT n b a))
def StpR (n : Nat) (b : Nat → Nat) (a : Nat) (f : Option Nat) (a2 : Nat) (f2 : Option Nat) : Prop := (tKn n b (psT n b a) = 2 ∧ a2 = a + 1 ∧ f2 = f) ∨ (tKn n b (psT n b a) ≠ 2 ∧ a2 = a ∧ f2 = orF f (psT n b a))
theorem nuO_some {n lo hx p v : Nat} {b : Nat → Nat} : nuO n b lo hx p = some v ↔ tKn n b p = 1 ∧ tVo n b p = some v ∧ lo ≤ v ∧ v < hx := by
  unfold nuO
  constructor
  · intro h
    split at h
    · rename_i q
      split at h
      · rename_i v' q2
        split at h
        · rename_i q3
          cases h
          exact ⟨q, q2, q3⟩
        · cases h
      · cases h
    · cases h
  · intro ⟨h1, h2, h3⟩
    rw [if_pos h1, h2]
    simp [h3]
theorem nuO_none {n lo hx p : Nat} {b : Nat → Nat} (h : ∀ v, ¬ (tKn n b p = 1 ∧ tVo n b p = some v ∧ lo ≤ v ∧ v < hx)) : nuO n b lo hx p = none := by
  cases q : nuO n b lo hx p with
  | none => rfl
  | some v => exact absurd (nuO_some.mp q) (h v)
theorem orF_lt {f : Option Nat} {p : Nat} (hf : ∀ q, f = some q → q < 256) (hp : p < 256) : ∀ q, orF f p = some q → q < 256 := by
  intro q h
  cases f with
  | none => cases h; exact hp
  | some x => cases h; exact hf _ rfl
theorem RdX.ps {g : Nat → Int32} {T : Nat → Nat → Int32} {n m a : Nat} {b : Nat → Nat} {f : Option Nat} (h : RdX g T n b m a f) : psT n b a ≤ n ∧ n ≤ 200 ∧ a ≤ 200 := by
  obtain ⟨⟨x1, _⟩, ⟨m1, m2, m3, m4⟩, h3, _⟩ := h
  exact ⟨psT_le (fun i hi => m3 i (by omega)), x1, by omega⟩
theorem RdX.lt {g : Nat → Int32} {T : Nat → Nat → Int32} {n m a : Nat} {b : Nat → Nat} {f : Option Nat} (h : RdX g T n b m a f) (hk : tKn n b (psT n b a) ≠ 0) : a < m := by
  obtain ⟨⟨x1, _⟩, ⟨m1, m2, m3, m4⟩, h3, _⟩ := h
  rcases Nat.lt_or_ge a m with q | q
  · exact q
  · have : a = m := by omega
    exact absurd (tKn_0.mpr (by rw [this, m2]; exact Nat.le_refl _)) hk
theorem RdX.to {g g2 : Nat → Int32} {T T2 : Nat → Nat → Int32} {n m a a2 : Nat} {b : Nat → Nat} {f f2 : Option Nat} (h : RdX g T n b m a f) (hF : FrR g g2 a2 f2) (ha : a2 ≤ m) (hf : ∀ q, f2 = some q → q < 256) (hT : ∀ k, k < 6 → T2 k = T k) : RdX g2 T2 n b m a2 f2 := by
  obtain ⟨h1, ⟨m1, m2, m3, m4⟩, h3, _⟩ := h
  exact ⟨h1.keep (hF.1 _ (by decide) (by decide)) (hF.1 _ (by decide) (by decide)) (hT 1 (by decide)), ⟨m1, m2, m3, fun j hj => by rw [hT 4 (by decide), hT 3 (by decide), hT 5 (by decide)]; exact m4 j hj⟩, ha, hF.2.1, hF.2.2, hf⟩
theorem NumR.step {g g2 : Nat → Int32} {T : Nat → Nat → Int32} {n m a a2 lo hx v : Nat} {b : Nat → Nat} {f f2 : Option Nat} (h : RdX g T n b m a f) (hN : NumR n b lo hx a f v a2 f2) (hF : FrR g g2 a2 f2) : RdX g2 T n b m a2 f2 := by
  have hp := h.ps
  rcases hN with ⟨h1, h2, h3⟩ | ⟨h1, h2, h3, h4⟩
  · refine h.to hF ?_ (by rw [h3]; exact h.2.2.2.2.2) (fun _ _ => rfl)
    have := h.lt (by rw [(nuO_some.mp h1).1]; decide)
    omega
  · refine h.to hF (by rw [h3]; exact h.2.2.1) (by rw [h4]; exact orF_lt h.2.2.2.2.2 (by omega)) (fun _ _ => rfl)
theorem StpR.step {g g2 : Nat → Int32} {T : Nat → Nat → Int32} {n m a a2 : Nat} {b : Nat → Nat} {f f2 : Option Nat} (h : RdX g T n b m a f) (hN : StpR n b a f a2 f2) (hF : FrR g g2 a2 f2) : RdX g2 T n b m a2 f2 := by
  have hp := h.ps
  rcases hN with ⟨h1, h2, h3⟩ | ⟨h1, h2, h3⟩
  · refine h.to hF ?_ (by rw [h3]; exact h.2.2.2.2.2) (fun _ _ => rfl)
    have := h.lt (by rw [h1]; decide)
    omega
  · refine h.to hF (by rw [h2]; exact h.2.2.1) (by rw [h3]; exact orF_lt h.2.2.2.2.2 (by omega)) (fun _ _ => rfl)
theorem FrR.nx {g : Nat → Int32} {a : Nat} {f : Option Nat} (h : g 206 = oI f) : FrR g (upd g 205 (nI a)) a f := ⟨fun k h1 _ => by simp [upd, h1], by simp [upd], by simp [upd]; exact h⟩
theorem FrR.trans {g g2 g3 : Nat → Int32} {a a2 : Nat} {f f2 : Option Nat} (h : FrR g g2 a f) (h2 : FrR g2 g3 a2 f2) : FrR g g3 a2 f2 := ⟨fun k k1 k2 => by rw [h2.1 k k1 k2, h.1 k k1 k2], h2.2⟩
theorem oI_n {f : Option Nat} (hf : ∀ q, f = some q → q < 256) : oI f < 0 ↔ f = none := oI_neg hf
theorem le_pred {v hx : Nat} (hv : v < 2 ^ 31) (hh : hx < 2 ^ 31) : nI v ≤ nI hx - 1 ↔ v < hx := by
  cases hx with
  | zero =>
    constructor
    · intro h
      exact absurd h (by rw [show nI 0 - 1 = (-1 : Int32) by decide]; exact fun q => nI_pos hv (Int32.lt_of_le_of_lt q (by decide)))
    · intro h; omega
  | succ k =>
    rw [nI_pred, nI_leI hv (by omega)]
    omega
theorem tVo_lt {n m a v : Nat} {b : Nat → Nat} {g : Nat → Int32} {T : Nat → Nat → Int32} {f : Option Nat} (h : RdX g T n b m a f) (hv : tVo n b (psT n b a) = some v) : v < 3000 := by
  by_cases q : tKn n b (psT n b a) = 1
  · have ha := h.lt (by rw [q]; decide)
    have hlt := h.2.1.2.2.1 a ha
    unfold tVo at hv
    rw [if_pos q] at hv
    exact nvO_lt (fun i hi => (h.1.2.2.2 i (by have := eoT_le (b := b) hlt; omega)).2) eoT_lt hv
  · unfold tVo at hv
    rw [if_neg q] at hv
    cases hv
    decide
abbrev rmX2_advance : Room := { frames := 0, cells := 0, slots := 0, locals := 0 }
theorem fX2_advance_37 : Cond.fieldLink RX2 37 RX2 (TX2 5).2.1 (TX2 5).2.2.1 ∈ wsX2_advance := by decide +kernel
theorem iX2_advance_2 : ∀ x ∈ wsX20, x ∈ wsX2_advance := by decide +kernel
set_option maxRecDepth 100000 in
set_option maxHeartbeats 4000000 in
theorem c_X2_advance (E : EN) (hM : EM E) (g : Nat → Int32) (h : Nat → Int64) (T : Nat → Nat → Int32) (L : Nat → Nat → Int64) (a : Nat) (ha : a < 200) (hg5 : g 205 = nI a) : GtV E yX2_advance wsX2_advance rmX2_advance [.ref (eA E 2)] g h T L (fun g2 h2 T2 L2 => g2 = upd g 205 (nI (a + 1)) ∧ h2 = h ∧ T2 = T ∧ L2 = L) := by
  refine CtV_of (cc := cX2_advance) (nL := 1) RX2 [some (.ref (eA E 2))] ⟨rfl, rfl⟩ (by decide) rfl rfl (Nat.le_of_ble_eq_true rfl) ⟨0, rfl⟩ hM.2 (fun Y hnm C hQ => ?_)
  have hM0 := hM
  obtain ⟨hS, hNN⟩ := hM
  refine J_aload_0 C dX2_advance_0 ?_
  refine G2_geti C (n := 205) 5 dX2_advance_1 fX2_advance_37 iX2_advance_2 rfl (hS _ (by decide)) rfl rfl ?_
  refine J_sipush C (200) dX2_advance_4 sc_200 ?_
  refine J_icmp_ge C 20 dX2_advance_7 (by decide) (fun hc => absurd hc (show ¬ 200 ≤ g 205 by rw [hg5]; exact nI_ge (b := 200) ha (by decide))) (fun hc7 => ?_)
  refine J_aload_0 C dX2_advance_10 ?_
  refine J_dup C dX2_advance_11 ?_
  refine G2_geti C (n := 205) 5 dX2_advance_12 fX2_advance_37 iX2_advance_2 rfl (hS _ (by decide)) rfl rfl ?_
  refine J_iconst C (1) dX2_advance_15 ic_1 ?_
  refine J_iadd C dX2_advance_16 ?_
  refine G2_puti C (n := 205) 5 dX2_advance_17 fX2_advance_37 iX2_advance_2 rfl (hS _ (by decide)) rfl (tyX2_ok 5 (by decide)) rfl rfl ?_
  refine hQ _ _ _ dX2_advance_20 ⟨_, _, _, _, rfl, ?_⟩
  rw [hg5, nI_1]
  exact ⟨rfl, rfl, rfl, rfl⟩
abbrev rmX2_fail : Room := { frames := 0, cells := 0, slots := 0, locals := 0 }
theorem fX2_fail_15 : Cond.fieldLink RX2 15 RX2 (TX2 3).2.1 (TX2 3).2.2.1 ∈ wsX2_fail := by decide +kernel
theorem fX2_fail_37 : Cond.fieldLink RX2 37 RX2 (TX2 5).2.1 (TX2 5).2.2.1 ∈ wsX2_fail := by decide +kernel
theorem fX2_fail_40 : Cond.fieldLink RX2 40 RX2 (TX2 6).2.1 (TX2 6).2.2.1 ∈ wsX2_fail := by decide +kernel
theorem iX2_fail_2 : ∀ x ∈ wsX20, x ∈ wsX2_fail := by decide +kernel
set_option maxRecDepth 100000 in
set_option maxHeartbeats 4000000 in
theorem c_X2_fail (E : EN) (hM : EM E) (g : Nat → Int32) (h : Nat → Int64) (T : Nat → Nat → Int32) (L : Nat → Nat → Int64) (n : Nat) (b : Nat → Nat) (m a : Nat) (f : Option Nat) (hR : RdX g T n b m a f) : GtV E yX2_fail wsX2_fail rmX2_fail [.ref (eA E 2)] g h T L (fun g2 h2 T2 L2 => FrR g g2 a (orF f (psT n b a)) ∧ h2 = h ∧ T2 = T ∧ L2 = L) := by
  refine CtV_of (cc := cX2_fail) (nL := 1) RX2 [some (.ref (eA E 2))] ⟨rfl, rfl⟩ (by decide) rfl rfl (Nat.le_of_ble_eq_true rfl) ⟨0, rfl⟩ hM.2 (fun Y hnm C hQ => ?_)
  have hM0 := hM
  obtain ⟨hS, hNN⟩ := hM
  have hR0 := hR
  have hps := hR.ps
  obtain ⟨hX, ⟨m1, m2, m3, m4⟩, ham, hg5, hg6, hf⟩ := hR
  have hrow := m4 a ham
  obtain ⟨w4, w3, w5⟩ := hrow
  refine J_aload_0 C dX2_fail_0 ?_
  refine G2_geti C (n := 206) 6 dX2_fail_1 fX2_fail_40 iX2_fail_2 rfl (hS _ (by decide)) rfl rfl ?_
  refine J_if_ge C 20 dX2_fail_4 (by decide) (fun hc4 => ?_) (fun hc4 => ?_)
  · skip
    refine hQ _ _ _ dX2_fail_20 ⟨_, _, _, _, rfl, ?_⟩
    first
    | (have e : ¬ f = none := fun q => by
         rw [hg6, q] at hc4
         exact absurd hc4 (by decide)
       obtain ⟨x, rfl⟩ := Option.ne_none_iff_exists'.mp e
       exact ⟨⟨fun _ _ _ => rfl, hg5, hg6⟩, rfl, rfl, rfl⟩)
    | (have e : f = none := by
         rw [hg6] at hc4
         refine (oI_n hf).mp ?_
         exact Decidable.byContradiction fun q => hc4 (Int32.not_lt.mp q)
       subst e
       refine ⟨⟨fun k h1 h2 => by simp [upd, h2], by simp [upd]; exact hg5, by simp [upd]; rw [w4]; rfl⟩, rfl, rfl, rfl⟩)
  · skip
    refine J_aload_0 C dX2_fail_7 ?_
    refine J_aload_0 C dX2_fail_8 ?_
    refine G2_getr C (n := 4) 3 dX2_fail_9 fX2_fail_15 iX2_fail_2 rfl (hS _ (by decide)) rfl rfl ?_
    refine J_aload_0 C dX2_fail_12 ?_
    refine G2_geti C (n := 205) 5 dX2_fail_13 fX2_fail_37 iX2_fail_2 rfl (hS _ (by decide)) rfl rfl ?_
    refine G_iald C a dX2_fail_16 rfl (hS _ (by decide)) hg5 (by omega) ?_
    refine G2_puti C (n := 206) 6 dX2_fail_17 fX2_fail_40 iX2_fail_2 rfl (hS _ (by decide)) rfl (tyX2_ok 6 (by decide)) rfl rfl ?_
    refine hQ _ _ _ dX2_fail_20 ⟨_, _, _, _, rfl, ?_⟩
    first
    | (have e : ¬ f = none := fun q => by
         rw [hg6, q] at hc4
         exact absurd hc4 (by decide)
       obtain ⟨x, rfl⟩ := Option.ne_none_iff_exists'.mp e
       exact ⟨⟨fun _ _ _ => rfl, hg5, hg6⟩, rfl, rfl, rfl⟩)
    | (have e : f = none := by
         rw [hg6] at hc4
         refine (oI_n hf).mp ?_
         exact Decidable.byContradiction fun q => hc4 (Int32.not_lt.mp q)
       subst e
       refine ⟨⟨fun k h1 h2 => by simp [upd, h2], by simp [upd]; exact hg5, by simp [upd]; rw [w4]; rfl⟩, rfl, rfl, rfl⟩)
abbrev rmX2_readStop : Room := { frames := 1, cells := 0, slots := 0, locals := 20 }
theorem fX2_readStop_37 : Cond.fieldLink RX2 37 RX2 (TX2 5).2.1 (TX2 5).2.2.1 ∈ wsX2_readStop := by decide +kernel
theorem fX2_readStop_9 : Cond.fieldLink RX2 9 RX2 (TX2 2).2.1 (TX2 2).2.2.1 ∈ wsX2_readStop := by decide +kernel
theorem iX2_readStop_2 : ∀ x ∈ wsX20, x ∈ wsX2_readStop := by decide +kernel
theorem dm_X2_advance : yX2_advance.cls = RX2 ∧ yX2_advance.cls ≠ "java/lang/invoke/MethodHandle" ∧ yX2_advance.cls ≠ "java/lang/invoke/VarHandle" ∧ (parseMethodDescriptor yX2_advance.desc).map (fun d => d.parameters.length) = some 0 := by decide +kernel
theorem dm_X2_fail : yX2_fail.cls = RX2 ∧ yX2_fail.cls ≠ "java/lang/invoke/MethodHandle" ∧ yX2_fail.cls ≠ "java/lang/invoke/VarHandle" ∧ (parseMethodDescriptor yX2_fail.desc).map (fun d => d.parameters.length) = some 0 := by decide +kernel
set_option maxRecDepth 100000 in
set_option maxHeartbeats 4000000 in
theorem c_X2_readStop (E : EN) (hM : EM E) (g : Nat → Int32) (h : Nat → Int64) (T : Nat → Nat → Int32) (L : Nat → Nat → Int64) (n : Nat) (b : Nat → Nat) (m a : Nat) (f : Option Nat) (hR : RdX g T n b m a f) : GtV E yX2_readStop wsX2_readStop rmX2_readStop [.ref (eA E 2)] g h T L (fun g2 h2 T2 L2 => (∃ a2 f2, StpR n b a f a2 f2 ∧ FrR g g2 a2 f2) ∧ h2 = h ∧ T2 = T ∧ L2 = L) := by
  refine CtV_of (cc := cX2_readStop) (nL := 1) RX2 [some (.ref (eA E 2))] ⟨rfl, rfl⟩ (by decide) rfl rfl (Nat.le_of_ble_eq_true rfl) ⟨0, rfl⟩ hM.2 (fun Y hnm C hQ => ?_)
  have hM0 := hM
  obtain ⟨hS, hNN⟩ := hM
  have hR0 := hR
  have hps := hR.ps
  obtain ⟨hX, ⟨m1, m2, m3, m4⟩, ham, hg5, hg6, hf⟩ := hR
  have hrow := m4 a ham
  obtain ⟨w4, w3, w5⟩ := hrow
  refine J_aload_0 C dX2_readStop_0 ?_
  refine G2_getr C (n := 3) 2 dX2_readStop_1 fX2_readStop_9 iX2_readStop_2 rfl (hS _ (by decide)) rfl rfl ?_
  refine J_aload_0 C dX2_readStop_4 ?_
  refine G2_geti C (n := 205) 5 dX2_readStop_5 fX2_readStop_37 iX2_readStop_2 rfl (hS _ (by decide)) rfl rfl ?_
  refine G_iald C a dX2_readStop_8 rfl (hS _ (by decide)) hg5 (by omega) ?_
  rw [w3]
  refine J_iconst C (2) dX2_readStop_9 ic_2 ?_
  refine J_icmp_eq C 18 dX2_readStop_10 (by decide) (fun hc10 => ?_) (fun hc10 => ?_)
  · skip
    have hk : tKn n b (psT n b a) = 2 := nI_inj (by have := tKn_le (n := n) (b := b) (p := psT n b a); omega) (by decide) hc10
    have hal := hR0.lt (by rw [hk]; decide)
    refine J_aload_0 C dX2_readStop_18 ?_
    refine G_vtv C dX2_readStop_19 (c_X2_advance E hM0 g h T L a (by omega) hg5) gX2_readStop_X2_advance rfl dm_X2_advance rfl rfl (hS _ (by decide)) rfl rfl (Nat.le_of_ble_eq_true rfl) (rmOK_b rfl) (fun g19 h19 T19 L19 hp19 => ?_)
    refine hQ _ _ _ dX2_readStop_22 ⟨_, _, _, _, rfl, ?_⟩
    obtain ⟨rfl, rfl, rfl, rfl⟩ := hp19
    exact ⟨⟨_, _, Or.inl ⟨hk, rfl, rfl⟩, FrR.nx hg6⟩, rfl, rfl, rfl⟩
  · skip
    refine J_aload_0 C dX2_readStop_13 ?_
    refine G_vtv C dX2_readStop_14 (c_X2_fail E hM0 g h T L n b m a f hR0) gX2_readStop_X2_fail rfl dm_X2_fail rfl rfl (hS _ (by decide)) rfl rfl (Nat.le_of_ble_eq_true rfl) (rmOK_b rfl) (fun g14 h14 T14 L14 hp14 => ?_)
    refine hQ _ _ _ dX2_readStop_17 ⟨_, _, _, _, rfl, ?_⟩
    obtain ⟨hF, rfl, rfl, rfl⟩ := hp14
    exact ⟨⟨_, _, Or.inr ⟨fun q => hc10 (by rw [q]; rfl), rfl, rfl⟩, hF⟩, rfl, rfl, rfl⟩
abbrev rmX2_readNumber : Room := { frames := 1, cells := 0, slots := 0, locals := 20 }
theorem fX2_readNumber_18 : Cond.fieldLink RX2 18 RX2 (TX2 4).2.1 (TX2 4).2.2.1 ∈ wsX2_readNumber := by decide +kernel
theorem fX2_readNumber_37 : Cond.fieldLink RX2 37 RX2 (TX2 5).2.1 (TX2 5).2.2.1 ∈ wsX2_readNumber := by decide +kernel
theorem fX2_readNumber_9 : Cond.fieldLink RX2 9 RX2 (TX2 2).2.1 (TX2 2).2.2.1 ∈ wsX2_readNumber := by decide +kernel
theorem iX2_readNumber_2 : ∀ x ∈ wsX20, x ∈ wsX2_readNumber := by decide +kernel
set_option maxRecDepth 100000 in
set_option maxHeartbeats 4000000 in
theorem c_X2_readNumber (E : EN) (hM : EM E) (g : Nat → Int32) (h : Nat → Int64) (T : Nat → Nat → Int32) (L : Nat → Nat → Int64) (n : Nat) (b : Nat → Nat) (m a : Nat) (f : Option Nat) (hR : RdX g T n b m a f) (lo hx : Nat) (hlo : lo < 100) (hhx : hx < 1000) (hi : Int32) (hhi : hi = nI hx - 1) : GtI E yX2_readNumber wsX2_readNumber rmX2_readNumber [.ref (eA E 2), .int (nI lo), .int hi] g h T L (fun r g2 h2 T2 L2 => (∃ v a2 f2, NumR n b lo hx a f v a2 f2 ∧ FrR g g2 a2 f2 ∧ r = nI v) ∧ h2 = h ∧ T2 = T ∧ L2 = L) := by
  refine CtI_of (cc := cX2_readNumber) (nL := 4) RX2 [some (.ref (eA E 2)), some (.int (nI lo)), some (.int hi), none] ⟨rfl, rfl⟩ (by decide) rfl rfl (Nat.le_of_ble_eq_true rfl) ⟨1, rfl⟩ hM.2 (fun Y C hQ => ?_)
  have hM0 := hM
  obtain ⟨hS, hNN⟩ := hM
  have hR0 := hR
  have hps := hR.ps
  obtain ⟨hX, ⟨m1, m2, m3, m4⟩, ham, hg5, hg6, hf⟩ := hR
  have hrow := m4 a ham
  obtain ⟨w4, w3, w5⟩ := hrow
  subst hhi
  refine J_aload_0 C dX2_readNumber_0 ?_
  refine G2_getr C (n := 5) 4 dX2_readNumber_1 fX2_readNumber_18 iX2_readNumber_2 rfl (hS _ (by decide)) rfl rfl ?_
  refine J_aload_0 C dX2_readNumber_4 ?_
  refine G2_geti C (n := 205) 5 dX2_readNumber_5 fX2_readNumber_37 iX2_readNumber_2 rfl (hS _ (by decide)) rfl rfl ?_
  refine G_iald C a dX2_readNumber_8 rfl (hS _ (by decide)) hg5 (by omega) ?_
  rw [w5]
  refine J_istore_3 C dX2_readNumber_9 (by decide) trivial ?_
  refine J_aload_0 C dX2_readNumber_10 ?_
  refine G2_getr C (n := 3) 2 dX2_readNumber_11 fX2_readNumber_9 iX2_readNumber_2 rfl (hS _ (by decide)) rfl rfl ?_
  refine J_aload_0 C dX2_readNumber_14 ?_
  refine G2_geti C (n := 205) 5 dX2_readNumber_15 fX2_readNumber_37 iX2_readNumber_2 rfl (hS _ (by decide)) rfl rfl ?_
  refine G_iald C a dX2_readNumber_18 rfl (hS _ (by decide)) hg5 (by omega) ?_
  rw [w3]
  refine J_iconst C (1) dX2_readNumber_19 ic_1 ?_
  refine J_icmp_ne C 33 dX2_readNumber_20 (by decide) (fun hc20 => ?_) (fun hc20 => ?_)
  · skip
    refine J_aload_0 C dX2_readNumber_33 ?_
    refine G_vtv C dX2_readNumber_34 (c_X2_fail E hM0 g h T L n b m a f hR0) gX2_readNumber_X2_fail rfl dm_X2_fail rfl rfl (hS _ (by decide)) rfl rfl (Nat.le_of_ble_eq_true rfl) (rmOK_b rfl) (fun g34 h34 T34 L34 hp34 => ?_)
    refine J_iload_1 C dX2_readNumber_37 ?_
    refine hQ _ _ _ _ dX2_readNumber_38 ⟨_, _, _, _, rfl, ?_⟩
    obtain ⟨hF, rfl, rfl, rfl⟩ := hp34
    refine ⟨⟨_, _, _, Or.inr ⟨nuO_none (fun v ⟨q1, q2, q3, q4⟩ => ?_), rfl, rfl, rfl⟩, hF, rfl⟩, rfl, rfl, rfl⟩
    first
    | exact hc20 (by rw [q1]; rfl)
    | (have hv := tVo_lt hR0 q2
       rw [q2] at hc25
       exact absurd hc25 (fun q => absurd ((nI_ltI (by omega) (by omega)).mp q) (by omega)))
    | (have hv := tVo_lt hR0 q2
       rw [q2] at hc30
       exact hc30 ((le_pred (by omega) (by omega)).mpr q4))
  · skip
    have hk : tKn n b (psT n b a) = 1 := nI_inj (by have := tKn_le (n := n) (b := b) (p := psT n b a); omega) (by decide) hc20
    have hal := hR0.lt (by rw [hk]; decide)
    refine J_iload_3 C dX2_readNumber_23 ?_
    refine J_iload_1 C dX2_readNumber_24 ?_
    refine J_icmp_lt C 33 dX2_readNumber_25 (by decide) (fun hc25 => ?_) (fun hc25 => ?_)
    · skip
      refine J_aload_0 C dX2_readNumber_33 ?_
      refine G_vtv C dX2_readNumber_34 (c_X2_fail E hM0 g h T L n b m a f hR0) gX2_readNumber_X2_fail rfl dm_X2_fail rfl rfl (hS _ (by decide)) rfl rfl (Nat.le_of_ble_eq_true rfl) (rmOK_b rfl) (fun g34 h34 T34 L34 hp34 => ?_)
      refine J_iload_1 C dX2_readNumber_37 ?_
      refine hQ _ _ _ _ dX2_readNumber_38 ⟨_, _, _, _, rfl, ?_⟩
      obtain ⟨hF, rfl, rfl, rfl⟩ := hp34
      refine ⟨⟨_, _, _, Or.inr ⟨nuO_none (fun v ⟨q1, q2, q3, q4⟩ => ?_), rfl, rfl, rfl⟩, hF, rfl⟩, rfl, rfl, rfl⟩
      first
      | exact hc20 (by rw [q1]; rfl)
      | (have hv := tVo_lt hR0 q2
         rw [q2] at hc25
         exact absurd hc25 (fun q => absurd ((nI_ltI (by omega) (by omega)).mp q) (by omega)))
      | (have hv := tVo_lt hR0 q2
         rw [q2] at hc30
         exact hc30 ((le_pred (by omega) (by omega)).mpr q4))
    · skip
      refine J_iload_3 C dX2_readNumber_28 ?_
      refine J_iload_2 C dX2_readNumber_29 ?_
      refine J_icmp_le C 39 dX2_readNumber_30 (by decide) (fun hc30 => ?_) (fun hc30 => ?_)
      · skip
        refine J_aload_0 C dX2_readNumber_39 ?_
        refine G_vtv C dX2_readNumber_40 (c_X2_advance E hM0 g h T L a (by omega) hg5) gX2_readNumber_X2_advance rfl dm_X2_advance rfl rfl (hS _ (by decide)) rfl rfl (Nat.le_of_ble_eq_true rfl) (rmOK_b rfl) (fun g40 h40 T40 L40 hp40 => ?_)
        refine J_iload_3 C dX2_readNumber_43 ?_
        refine hQ _ _ _ _ dX2_readNumber_44 ⟨_, _, _, _, rfl, ?_⟩
        obtain ⟨rfl, rfl, rfl, rfl⟩ := hp40
        cases q2 : tVo n b (psT n b a) with
        | none =>
          rw [q2] at hc25
          exact absurd (show oI none < nI lo from Int32.lt_of_lt_of_le (by decide) (nI_pos' (by omega))) hc25
        | some v =>
          have hv := tVo_lt hR0 q2
          rw [q2] at hc25 hc30
          have h1 : lo ≤ v := by
            rcases Nat.lt_or_ge v lo with q | q
            · exact absurd (nI_lt q (by omega)) hc25
            · exact q
          exact ⟨⟨v, a + 1, f, Or.inl ⟨nuO_some.mpr ⟨hk, q2, h1, (le_pred (by omega) (by omega)).mp hc30⟩, rfl, rfl⟩, FrR.nx hg6, rfl⟩, rfl, rfl, rfl⟩
      · skip
        refine J_aload_0 C dX2_readNumber_33 ?_
        refine G_vtv C dX2_readNumber_34 (c_X2_fail E hM0 g h T L n b m a f hR0) gX2_readNumber_X2_fail rfl dm_X2_fail rfl rfl (hS _ (by decide)) rfl rfl (Nat.le_of_ble_eq_true rfl) (rmOK_b rfl) (fun g34 h34 T34 L34 hp34 => ?_)
        refine J_iload_1 C dX2_readNumber_37 ?_
        refine hQ _ _ _ _ dX2_readNumber_38 ⟨_, _, _, _, rfl, ?_⟩
        obtain ⟨hF, rfl, rfl, rfl⟩ := hp34
        refine ⟨⟨_, _, _, Or.inr ⟨nuO_none (fun v ⟨q1, q2, q3, q4⟩ => ?_), rfl, rfl, rfl⟩, hF, rfl⟩, rfl, rfl, rfl⟩
        first
        | exact hc20 (by rw [q1]; rfl)
        | (have hv := tVo_lt hR0 q2
           rw [q2] at hc25
           exact absurd hc25 (fun q => absurd ((nI_ltI (by omega) (by omega)).mp q) (by omega)))
        | (have hv := tVo_lt hR0 q2
           rw [q2] at hc30
           exact hc30 ((le_pred (by omega) (by omega)).mpr q4))
