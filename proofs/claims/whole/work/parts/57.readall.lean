theorem sh1K : ∀ k, k < 31 → (1 : Int32) <<< (nI k &&& 31) = nI (2 ^ k) := nI_sh1
theorem lo_hx : ∀ i, i < 4 → loO i < hxO i ∧ hxO i ≤ 21 := by decide
theorem once_rel {n a i v a2 a3 : Nat} {b : Nat → Nat} {s : RS} {f0 f2 f3 : Option Nat} (h0 : (s.2.2.2 i = none ∧ f0 = none) ∨ (s.2.2.2 i ≠ none ∧ f0 = some (psT n b a))) (N1 : NumR n b (loO i) (hxO i) (a + 1) f0 v a2 f2) (N2 : StpR n b a2 f2 a3 f3) : (f3 = none ∧ s.2.2.2 i = none ∧ loO i ≤ v ∧ v < hxO i ∧ onceS n b s i (psT n b a) = .ok (setO s i v, psT n b a3)) ∨ (∃ q, f3 = some q ∧ onceS n b s i (psT n b a) = .error q) := by
  unfold onceS
  rw [show tNx n b (psT n b a) = psT n b (a + 1) from rfl]
  rcases h0 with ⟨e, e1⟩ | ⟨e, e1⟩
  · subst e1
    rw [if_pos e]
    rcases N1.cs with ⟨e1, e2, r0, r1⟩ | ⟨q, e1, e2⟩
    · subst e1
      simp only [e2]
      rcases N2.cs with ⟨e7, e8⟩ | ⟨q, e7, e8⟩
      · simp only [e8]
        exact Or.inl ⟨e7, e, r0, r1, trivial⟩
      · simp only [e8]
        exact Or.inr ⟨q, e7, rfl⟩
    · subst e1
      simp only [e2]
      exact Or.inr ⟨q, N2.st, rfl⟩
  · subst e1
    rw [if_neg e]
    have e3 := N1.st
    subst e3
    exact Or.inr ⟨_, N2.st, rfl⟩
def OnR (g g2 : Nat → Int32) (T : Nat → Nat → Int32) (n : Nat) (b : Nat → Nat) (m a i v : Nat) (s : RS) : Prop := (∀ k, (k < 205 ∨ 208 ≤ k) → g2 k = g k) ∧ v < 1000 ∧ ((onceS n b s i (psT n b a) = .ok (setO s i v, psT n b (a + 3)) ∧ RdX g2 T n b m (a + 3) none ∧ g2 207 = nI (tdN (setO s i v).2.2.2) ∧ s.2.2.2 i = none ∧ loO i ≤ v ∧ v < hxO i) ∨ (∃ q, onceS n b s i (psT n b a) = .error q ∧ q < 256 ∧ g2 206 = nI q))
abbrev rmX2_readOnce : Room := { frames := 2, cells := 0, slots := 0, locals := 43 }
theorem fX2_readOnce_37 : Cond.fieldLink RX2 37 RX2 (TX2 5).2.1 (TX2 5).2.2.1 ∈ wsX2_readOnce := by decide +kernel
theorem fX2_readOnce_43 : Cond.fieldLink RX2 43 RX2 (TX2 7).2.1 (TX2 7).2.2.1 ∈ wsX2_readOnce := by decide +kernel
theorem fX2_readOnce_9 : Cond.fieldLink RX2 9 RX2 (TX2 2).2.1 (TX2 2).2.2.1 ∈ wsX2_readOnce := by decide +kernel
theorem iX2_readOnce_2 : ∀ x ∈ wsX20, x ∈ wsX2_readOnce := by decide +kernel
set_option maxRecDepth 100000 in
set_option maxHeartbeats 4000000 in
theorem c_X2_readOnce (E : EN) (hM : EM E) (g : Nat → Int32) (h : Nat → Int64) (T : Nat → Nat → Int32) (L : Nat → Nat → Int64) (n : Nat) (b : Nat → Nat) (m a : Nat) (hR : RdX g T n b m a none) (s : RS) (hW : RwX g T s) (hO : RsOK s) (h7 : g 207 = nI (tdN s.2.2.2)) (i : Nat) (hi4 : i < 4) (hk : tKn n b (psT n b a) = 6 + i) (hi : Int32) (hhi : hi = nI (hxO i) - 1) : GtI E yX2_readOnce wsX2_readOnce rmX2_readOnce [.ref (eA E 2), .int (nI (loO i)), .int hi] g h T L (fun r g2 h2 T2 L2 => (∃ v, r = nI v ∧ OnR g g2 T n b m a i v s) ∧ h2 = h ∧ T2 = T ∧ L2 = L) := by
  refine CtI_of (cc := cX2_readOnce) (nL := 5) RX2 [some (.ref (eA E 2)), some (.int (nI (loO i))), some (.int hi), none, none] ⟨rfl, rfl⟩ (by decide) rfl rfl (Nat.le_of_ble_eq_true rfl) ⟨2, rfl⟩ hM.2 (fun Y C hQ => ?_)
  have hM0 := hM
  obtain ⟨hS, hNN⟩ := hM
  have hR0 := hR
  have hps := hR.ps
  obtain ⟨hX, ⟨m1, m2, m3, m4⟩, ham, hg5, hg6, hf⟩ := hR
  have hrow := m4 a ham
  obtain ⟨w4, w3, w5⟩ := hrow
  have hal := hR0.lt (by rw [hk]; omega)
  obtain ⟨lh1, lh2⟩ := lo_hx i hi4
  refine J_iconst C (1) dX2_readOnce_0 ic_1 ?_
  refine J_aload_0 C dX2_readOnce_1 ?_
  refine G2_getr C (n := 3) 2 dX2_readOnce_2 fX2_readOnce_9 iX2_readOnce_2 rfl (hS _ (by decide)) rfl rfl ?_
  refine J_aload_0 C dX2_readOnce_5 ?_
  refine G2_geti C (n := 205) 5 dX2_readOnce_6 fX2_readOnce_37 iX2_readOnce_2 rfl (hS _ (by decide)) rfl rfl ?_
  refine G_iald C a dX2_readOnce_9 rfl (hS _ (by decide)) hg5 (by omega) ?_
  rw [w3, hk]
  refine J_ishl C dX2_readOnce_10 ?_
  rw [sh1K _ (by omega)]
  refine J_istore_3 C dX2_readOnce_11 (by decide) trivial ?_
  refine J_aload_0 C dX2_readOnce_12 ?_
  refine G2_geti C (n := 207) 7 dX2_readOnce_13 fX2_readOnce_43 iX2_readOnce_2 rfl (hS _ (by decide)) rfl rfl ?_
  rw [h7]
  refine J_iload_3 C dX2_readOnce_16 ?_
  refine J_iand C dX2_readOnce_17 ?_
  rw [nI_and]
  have hcut : ∀ (f0 : Option Nat) (g3 : Nat → Int32), ((s.2.2.2 i = none ∧ f0 = none) ∨ (s.2.2.2 i ≠ none ∧ f0 = some (psT n b a))) → FrR g g3 a f0 → RdX g3 T n b m a f0 → J E Y (eN E) 0 0 (wS E g3 h T L) 25 [some (.ref (eA E 2)), some (.int (nI (loO i))), some (.int hi), some (.int (nI (2 ^ (6 + i)))), none] [] := by
    intro f0 g3 h0 F3 hR3
    refine J_aload_0 C dX2_readOnce_25 ?_
    refine J_dup C dX2_readOnce_26 ?_
    refine G2_geti C (n := 207) 7 dX2_readOnce_27 fX2_readOnce_43 iX2_readOnce_2 rfl (hS _ (by decide)) rfl rfl ?_
    refine J_iload_3 C dX2_readOnce_30 ?_
    refine J_ior C dX2_readOnce_31 ?_
    refine G2_puti C (n := 207) 7 dX2_readOnce_32 fX2_readOnce_43 iX2_readOnce_2 rfl (hS _ (by decide)) rfl (tyX2_ok 7 (by decide)) rfl rfl ?_
    refine J_aload_0 C dX2_readOnce_35 ?_
    refine G_vtv C dX2_readOnce_36 (c_X2_advance E hM0 _ _ _ _ a (by omega) (show g3 205 = nI a from F3.2.1)) gX2_readOnce_X2_advance rfl dm_X2_advance rfl rfl (hS _ (by decide)) rfl rfl (Nat.le_of_ble_eq_true rfl) (rmOK_b rfl) (fun g36 h36 T36 L36 hp36 => ?_)
    obtain ⟨rfl, rfl, rfl, rfl⟩ := hp36
    have hR1 : RdX (upd (upd g3 207 (g3 207 ||| nI (2 ^ (6 + i)))) 205 (nI (a + 1))) T36 n b m (a + 1) f0 := by
      obtain ⟨z1, z2, z3, z4, z5, z6⟩ := hR3
      exact ⟨z1, z2, by omega, rfl, z5, z6⟩
    refine J_aload_0 C dX2_readOnce_39 ?_
    refine J_iload_1 C dX2_readOnce_40 ?_
    refine J_iload_2 C dX2_readOnce_41 ?_
    refine G_vti C dX2_readOnce_42 (c_X2_readNumber E hM0 _ _ _ _ n b m _ _ hR1 (loO i) (hxO i) (by omega) (by omega) _ hhi) gX2_readOnce_X2_readNumber rfl dm_X2_readNumber rfl rfl (hS _ (by decide)) rfl rfl (Nat.le_of_ble_eq_true rfl) (rmOK_b rfl) (fun r42 g42 h42 T42 L42 hp42 => ?_)
    obtain ⟨⟨v, a2, f2, N1, F4, rfl⟩, rfl, rfl, rfl⟩ := hp42
    have hR4 := N1.step hR1 F4
    refine J_istore_4 C dX2_readOnce_45 (by decide) trivial ?_
    refine J_aload_0 C dX2_readOnce_47 ?_
    refine G_vtv C dX2_readOnce_48 (c_X2_readStop E hM0 _ _ _ _ n b m _ _ hR4) gX2_readOnce_X2_readStop rfl dm_X2_readStop rfl rfl (hS _ (by decide)) rfl rfl (Nat.le_of_ble_eq_true rfl) (rmOK_b rfl) (fun g48 h48 T48 L48 hp48 => ?_)
    obtain ⟨⟨a3, f3, N2, F5⟩, rfl, rfl, rfl⟩ := hp48
    have hR5 := N2.step hR4 F5
    refine J_iload_4 C dX2_readOnce_51 ?_
    refine hQ _ _ _ _ dX2_readOnce_53 ⟨_, _, _, _, rfl, ?_⟩
    have hv := (N1.le (Or.inl lh1)).2
    refine ⟨⟨v, rfl, fun k hk => ?_, by omega, ?_⟩, rfl, rfl, rfl⟩
    · rw [F5.1 k (by omega) (by omega), F4.1 k (by omega) (by omega)]
      simp only [upd]
      rw [if_neg (by omega), if_neg (by omega)]
      exact F3.1 k (by omega) (by omega)
    · rcases once_rel h0 N1 N2 with ⟨e1, e2, e3, e4, e5⟩ | ⟨q, e1, e2⟩
      · subst e1
        have e6 : f2 = none := by
          cases f2 with
          | none => rfl
          | some q => exact absurd N2.st (by simp)
        subst e6
        have e7 : f0 = none := by
          cases f0 with
          | none => rfl
          | some q => exact absurd N1.st (by simp)
        subst e7
        have e8 : a2 = a + 1 + 1 := by
          rcases N1 with ⟨h1, h2, h3⟩ | ⟨h1, h2, h3, h4⟩
          · exact h2
          · cases h4
        have e9 : a3 = a2 + 1 := by
          rcases N2 with ⟨h1, h2, h3⟩ | ⟨h1, h2, h3⟩
          · exact h2
          · cases h3
        subst e8; subst e9
        refine Or.inl ⟨e5, hR5, ?_, e2, e3, e4⟩
        rw [F5.1 207 (by decide) (by decide), F4.1 207 (by decide) (by decide), ← td_or hi4, ← nI_or, ← h7, ← F3.1 207 (by decide) (by decide)]
        rfl
      · subst e1
        exact Or.inr ⟨q, e2, hR5.2.2.2.2.2 q rfl, F5.2.2⟩
  refine J_if_eq C 25 dX2_readOnce_18 (by decide) (fun hc18 => ?_) (fun hc18 => ?_)
  · skip
    first
    | exact hcut none g (Or.inl ⟨(td_bit hi4).mp ((nI_z (Nat.lt_of_le_of_lt Nat.and_le_left (by have := td_lt (o := s.2.2.2); omega))).mp hc18), rfl⟩) ⟨fun _ _ _ => rfl, hg5, hg6⟩ hR0
    | (obtain ⟨F2, rfl, rfl, rfl⟩ := hp22
       exact hcut _ _ (Or.inr ⟨fun z => hc18 (by rw [(td_bit hi4).mpr z]; rfl), rfl⟩) F2 (hR0.to F2 ham (orF_lt hf (by omega)) (fun _ _ => rfl)))
  · skip
    refine J_aload_0 C dX2_readOnce_21 ?_
    refine G_vtv C dX2_readOnce_22 (c_X2_fail E hM0 g h T L n b m a none hR0) gX2_readOnce_X2_fail rfl dm_X2_fail rfl rfl (hS _ (by decide)) rfl rfl (Nat.le_of_ble_eq_true rfl) (rmOK_b rfl) (fun g22 h22 T22 L22 hp22 => ?_)
    first
    | exact hcut none g (Or.inl ⟨(td_bit hi4).mp ((nI_z (Nat.lt_of_le_of_lt Nat.and_le_left (by have := td_lt (o := s.2.2.2); omega))).mp hc18), rfl⟩) ⟨fun _ _ _ => rfl, hg5, hg6⟩ hR0
    | (obtain ⟨F2, rfl, rfl, rfl⟩ := hp22
       exact hcut _ _ (Or.inr ⟨fun z => hc18 (by rw [(td_bit hi4).mpr z]; rfl), rfl⟩) F2 (hR0.to F2 ham (orF_lt hf (by omega)) (fun _ _ => rfl)))
