theorem sh1K : ∀ k, k < 31 → (1 : Int32) <<< (nI k &&& 31) = nI (2 ^ k) := nI_sh1
theorem lo_hx : ∀ i, i < 4 → loO i < hxO i ∧ hxO i ≤ 21 := by decide
theorem once_rel {n a i v a2 a3 : Nat} {b : Nat → Nat} {s : RS} {f0 f2 f3 : Option Nat} (h0 : (s.2.2.2 i = none ∧ f0 = none) ∨ (s.2.2.2 i ≠ none ∧ f0 = some (psT n b a))) (N1 : NumR n b (loO i) (hxO i) (a + 1) f0 v a2 f2) (N2 : StpR n b a2 f2 a3 f3) : (f3 = none ∧ s.2.2.2 i = none ∧ loO i ≤ v ∧ v < hxO i ∧ onceS n b s i (psT n b a) = .ok (setO s i v, psT n b a3)) ∨ (∃ q, f3 = some q ∧ onceS n b s i (psT n b a) = .error q) := by
  unfold onceS
  rw [show tNx n b (psT n b a) = psT n b (a + 1) from rfl]
  rcases h0 with ⟨e, e1⟩ | ⟨e, e1⟩
  · subst e1
    rw [if_pos e]
    rcases N1.cs with ⟨e1, e2, r0, r1⟩ | ⟨q, e1, e2⟩
    · subst e1
      simp only [e2]
      rcases N2.cs with ⟨e7, e8⟩ | ⟨q, e7, e8⟩
      · simp only [e8]
        exact Or.inl ⟨e7, e, r0, r1, trivial⟩
      · simp only [e8]
        exact Or.inr ⟨q, e7, rfl⟩
    · subst e1
      simp only [e2]
      exact Or.inr ⟨q, N2.st, rfl⟩
  · subst e1
    rw [if_neg e]
    have e3 := N1.st
    subst e3
    exact Or.inr ⟨_, N2.st, rfl⟩
def OnR (g g2 : Nat → Int32) (T : Nat → Nat → Int32) (n : Nat) (b : Nat → Nat) (m a i v : Nat) (s : RS) : Prop := (∀ k, (k < 205 ∨ 208 ≤ k) → g2 k = g k) ∧ v < 1000 ∧ ((onceS n b s i (psT n b a) = .ok (setO s i v, psT n b (a + 3)) ∧ RdX g2 T n b m (a + 3) none ∧ g2 207 = nI (tdN (setO s i v).2.2.2) ∧ s.2.2.2 i = none ∧ loO i ≤ v ∧ v < hxO i) ∨ (∃ q, onceS n b s i (psT n b a) = .error q ∧ q < 256 ∧ g2 206 = nI q))
abbrev rmX2_readOnce : Room := { frames := 2, cells := 0, slots := 0, locals := 43 }
theorem fX2_readOnce_37 : Cond.fieldLink RX2 37 RX2 (TX2 5).2.1 (TX2 5).2.2.1 ∈ wsX2_readOnce := by decide +kernel
theorem fX2_readOnce_43 : Cond.fieldLink RX2 43 RX2 (TX2 7).2.1 (TX2 7).2.2.1 ∈ wsX2_readOnce := by decide +kernel
theorem fX2_readOnce_9 : Cond.fieldLink RX2 9 RX2 (TX2 2).2.1 (TX2 2).2.2.1 ∈ wsX2_readOnce := by decide +kernel
theorem iX2_readOnce_2 : ∀ x ∈ wsX20, x ∈ wsX2_readOnce := by decide +kernel
set_option maxRecDepth 100000 in
set_option maxHeartbeats 4000000 in
theorem c_X2_readOnce (E : EN) (hM : EM E) (g : Nat → Int32) (h : Nat → Int64) (T : Nat → Nat → Int32) (L : Nat → Nat → Int64) (n : Nat) (b : Nat → Nat) (m a : Nat) (hR : RdX g T n b m a none) (s : RS) (hW : RwX g T s) (hO : RsOK s) (h7 : g 207 = nI (tdN s.2.2.2)) (i : Nat) (hi4 : i < 4) (hk : tKn n b (psT n b a) = 6 + i) (hi : Int32) (hhi : hi = nI (hxO i) - 1) : GtI E yX2_readOnce wsX2_readOnce rmX2_readOnce [.ref (eA E 2), .int (nI (loO i)), .int hi] g h T L (fun r g2 h2 T2 L2 => (∃ v, r = nI v ∧ OnR g g2 T n b m a i v s) ∧ h2 = h ∧ T2 = T ∧ L2 = L) := by
  refine CtI_of (cc := cX2_readOnce) (nL := 5) RX2 [some (.ref (eA E 2)), some (.int (nI (loO i))), some (.int hi), none, none] ⟨rfl, rfl⟩ (by decide) rfl rfl (Nat.le_of_ble_eq_true rfl) ⟨2, rfl⟩ hM.2 (fun Y C hQ => ?_)
  have hM0 := hM
  obtain ⟨hS, hNN⟩ := hM
  have hR0 := hR
  have hps := hR.ps
  obtain ⟨hX, ⟨m1, m2, m3, m4⟩, ham, hg5, hg6, hf⟩ := hR
  have hrow := m4 a ham
  obtain ⟨w4, w3, w5⟩ := hrow
  have hal := hR0.lt (by rw [hk]; omega)
  obtain ⟨lh1, lh2⟩ := lo_hx i hi4
  refine J_iconst C (1) dX2_readOnce_0 ic_1 ?_
  refine J_aload_0 C dX2_readOnce_1 ?_
  refine G2_getr C (n := 3) 2 dX2_readOnce_2 fX2_readOnce_9 iX2_readOnce_2 rfl (hS _ (by decide)) rfl rfl ?_
  refine J_aload_0 C dX2_readOnce_5 ?_
  refine G2_geti C (n := 205) 5 dX2_readOnce_6 fX2_readOnce_37 iX2_readOnce_2 rfl (hS _ (by decide)) rfl rfl ?_
  refine G_iald C a dX2_readOnce_9 rfl (hS _ (by decide)) hg5 (by omega) ?_
  rw [w3, hk]
  refine J_ishl C dX2_readOnce_10 ?_
  rw [sh1K _ (by omega)]
  refine J_istore_3 C dX2_readOnce_11 (by decide) trivial ?_
  refine J_aload_0 C dX2_readOnce_12 ?_
  refine G2_geti C (n := 207) 7 dX2_readOnce_13 fX2_readOnce_43 iX2_readOnce_2 rfl (hS _ (by decide)) rfl rfl ?_
  rw [h7]
  refine J_iload_3 C dX2_readOnce_16 ?_
  refine J_iand C dX2_readOnce_17 ?_
  rw [nI_and]
  have hcut : ∀ (f0 : Option Nat) (g3 : Nat → Int32), ((s.2.2.2 i = none ∧ f0 = none) ∨ (s.2.2.2 i ≠ none ∧ f0 = some (psT n b a))) → FrR g g3 a f0 → RdX g3 T n b m a f0 → J E Y (eN E) 0 0 (wS E g3 h T L) 25 [some (.ref (eA E 2)), some (.int (nI (loO i))), some (.int hi), some (.int (nI (2 ^ (6 + i)))), none] [] := by
    intro f0 g3 h0 F3 hR3
    refine J_aload_0 C dX2_readOnce_25 ?_
    refine J_dup C dX2_readOnce_26 ?_
    refine G2_geti C (n := 207) 7 dX2_readOnce_27 fX2_readOnce_43 iX2_readOnce_2 rfl (hS _ (by decide)) rfl rfl ?_
    refine J_iload_3 C dX2_readOnce_30 ?_
    refine J_ior C dX2_readOnce_31 ?_
    refine G2_puti C (n := 207) 7 dX2_readOnce_32 fX2_readOnce_43 iX2_readOnce_2 rfl (hS _ (by decide)) rfl (tyX2_ok 7 (by decide)) rfl rfl ?_
    refine J_aload_0 C dX2_readOnce_35 ?_
    refine G_vtv C dX2_readOnce_36 (c_X2_advance E hM0 _ _ _ _ a (by omega) (show g3 205 = nI a from F3.2.1)) gX2_readOnce_X2_advance rfl dm_X2_advance rfl rfl (hS _ (by decide)) rfl rfl (Nat.le_of_ble_eq_true rfl) (rmOK_b rfl) (fun g36 h36 T36 L36 hp36 => ?_)
    obtain ⟨rfl, rfl, rfl, rfl⟩ := hp36
    have hR1 : RdX (upd (upd g3 207 (g3 207 ||| nI (2 ^ (6 + i)))) 205 (nI (a + 1))) T36 n b m (a + 1) f0 := by
      obtain ⟨z1, z2, z3, z4, z5, z6⟩ := hR3
      exact ⟨z1, z2, by omega, rfl, z5, z6⟩
    refine J_aload_0 C dX2_readOnce_39 ?_
    refine J_iload_1 C dX2_readOnce_40 ?_
    refine J_iload_2 C dX2_readOnce_41 ?_
    refine G_vti C dX2_readOnce_42 (c_X2_readNumber E hM0 _ _ _ _ n b m _ _ hR1 (loO i) (hxO i) (by omega) (by omega) _ hhi) gX2_readOnce_X2_readNumber rfl dm_X2_readNumber rfl rfl (hS _ (by decide)) rfl rfl (Nat.le_of_ble_eq_true rfl) (rmOK_b rfl) (fun r42 g42 h42 T42 L42 hp42 => ?_)
    obtain ⟨⟨v, a2, f2, N1, F4, rfl⟩, rfl, rfl, rfl⟩ := hp42
    have hR4 := N1.step hR1 F4
    refine J_istore_4 C dX2_readOnce_45 (by decide) trivial ?_
    refine J_aload_0 C dX2_readOnce_47 ?_
    refine G_vtv C dX2_readOnce_48 (c_X2_readStop E hM0 _ _ _ _ n b m _ _ hR4) gX2_readOnce_X2_readStop rfl dm_X2_readStop rfl rfl (hS _ (by decide)) rfl rfl (Nat.le_of_ble_eq_true rfl) (rmOK_b rfl) (fun g48 h48 T48 L48 hp48 => ?_)
    obtain ⟨⟨a3, f3, N2, F5⟩, rfl, rfl, rfl⟩ := hp48
    have hR5 := N2.step hR4 F5
    refine J_iload_4 C dX2_readOnce_51 ?_
    refine hQ _ _ _ _ dX2_readOnce_53 ⟨_, _, _, _, rfl, ?_⟩
    have hv := (N1.le (Or.inl lh1)).2
    refine ⟨⟨v, rfl, fun k hk => ?_, by omega, ?_⟩, rfl, rfl, rfl⟩
    · rw [F5.1 k (by omega) (by omega), F4.1 k (by omega) (by omega)]
      simp only [upd]
      rw [if_neg (by omega), if_neg (by omega)]
      exact F3.1 k (by omega) (by omega)
    · rcases once_rel h0 N1 N2 with ⟨e1, e2, e3, e4, e5⟩ | ⟨q, e1, e2⟩
      · subst e1
        have e6 : f2 = none := by
          cases f2 with
          | none => rfl
          | some q => exact absurd N2.st (by simp)
        subst e6
        have e7 : f0 = none := by
          cases f0 with
          | none => rfl
          | some q => exact absurd N1.st (by simp)
        subst e7
        have e8 : a2 = a + 1 + 1 := by
          rcases N1 with ⟨h1, h2, h3⟩ | ⟨h1, h2, h3, h4⟩
          · exact h2
          · cases h4
        have e9 : a3 = a2 + 1 := by
          rcases N2 with ⟨h1, h2, h3⟩ | ⟨h1, h2, h3⟩
          · exact h2
          · cases h3
        subst e8; subst e9
        refine Or.inl ⟨e5, hR5, ?_, e2, e3, e4⟩
        rw [F5.1 207 (by decide) (by decide), F4.1 207 (by decide) (by decide), ← td_or hi4, ← nI_or, ← h7, ← F3.1 207 (by decide) (by decide)]
        rfl
      · subst e1
        exact Or.inr ⟨q, e2, hR5.2.2.2.2.2 q rfl, F5.2.2⟩
  refine J_if_eq C 25 dX2_readOnce_18 (by decide) (fun hc18 => ?_) (fun hc18 => ?_)
  · skip
    first
    | exact hcut none g (Or.inl ⟨(td_bit hi4).mp ((nI_z (Nat.lt_of_le_of_lt Nat.and_le_left (by have := td_lt (o := s.2.2.2); omega))).mp hc18), rfl⟩) ⟨fun _ _ _ => rfl, hg5, hg6⟩ hR0
    | (obtain ⟨F2, rfl, rfl, rfl⟩ := hp22
       exact hcut _ _ (Or.inr ⟨fun z => hc18 (by rw [(td_bit hi4).mpr z]; rfl), rfl⟩) F2 (hR0.to F2 ham (orF_lt hf (by omega)) (fun _ _ => rfl)))
  · skip
    refine J_aload_0 C dX2_readOnce_21 ?_
    refine G_vtv C dX2_readOnce_22 (c_X2_fail E hM0 g h T L n b m a none hR0) gX2_readOnce_X2_fail rfl dm_X2_fail rfl rfl (hS _ (by decide)) rfl rfl (Nat.le_of_ble_eq_true rfl) (rmOK_b rfl) (fun g22 h22 T22 L22 hp22 => ?_)
    first
    | exact hcut none g (Or.inl ⟨(td_bit hi4).mp ((nI_z (Nat.lt_of_le_of_lt Nat.and_le_left (by have := td_lt (o := s.2.2.2); omega))).mp hc18), rfl⟩) ⟨fun _ _ _ => rfl, hg5, hg6⟩ hR0
    | (obtain ⟨F2, rfl, rfl, rfl⟩ := hp22
       exact hcut _ _ (Or.inr ⟨fun z => hc18 (by rw [(td_bit hi4).mpr z]; rfl), rfl⟩) F2 (hR0.to F2 ham (orF_lt hf (by omega)) (fun _ _ => rfl)))
def corO (s : RS) (i v : Nat) : Int32 := if i = 0 then nI (stN (setO s 0 v)) else nI v
theorem setO_rw {g g2 : Nat → Int32} {T : Nat → Nat → Int32} {s : RS} {i v : Nat} (h : RwX g T s) (hi : i < 4) (hg : ∀ k, 1300 ≤ k → k < 1400 → k ≠ 1303 + i → g2 k = g k) (hc : g2 (1303 + i) = corO s i v) : RwX g2 T (setO s i v) := by
  obtain ⟨w0, w1, w2, w3, w4, w5, w6, w7, w8, w9⟩ := h
  rcases (show i = 0 ∨ i = 1 ∨ i = 2 ∨ i = 3 by omega) with e | e | e | e <;> subst e
  · exact ⟨by rw [hg _ (by decide) (by decide) (by decide)]; exact w0, by rw [hg _ (by decide) (by decide) (by decide)]; exact w1, by rw [hg _ (by decide) (by decide) (by decide)]; exact w2, hc, by rw [hg _ (by decide) (by decide) (by decide)]; exact w4, by rw [hg _ (by decide) (by decide) (by decide)]; exact w5, by rw [hg _ (by decide) (by decide) (by decide)]; exact w6, by rw [hg _ (by decide) (by decide) (by decide)]; exact w7, by rw [hg _ (by decide) (by decide) (by decide)]; exact w8, w9⟩
  · exact ⟨by rw [hg _ (by decide) (by decide) (by decide)]; exact w0, by rw [hg _ (by decide) (by decide) (by decide)]; exact w1, by rw [hg _ (by decide) (by decide) (by decide)]; exact w2, by rw [hg _ (by decide) (by decide) (by decide)]; exact w3, hc, by rw [hg _ (by decide) (by decide) (by decide)]; exact w5, by rw [hg _ (by decide) (by decide) (by decide)]; exact w6, by rw [hg _ (by decide) (by decide) (by decide)]; exact w7, by rw [hg _ (by decide) (by decide) (by decide)]; exact w8, w9⟩
  · exact ⟨by rw [hg _ (by decide) (by decide) (by decide)]; exact w0, by rw [hg _ (by decide) (by decide) (by decide)]; exact w1, by rw [hg _ (by decide) (by decide) (by decide)]; exact w2, by rw [hg _ (by decide) (by decide) (by decide)]; exact w3, by rw [hg _ (by decide) (by decide) (by decide)]; exact w4, hc, by rw [hg _ (by decide) (by decide) (by decide)]; exact w6, by rw [hg _ (by decide) (by decide) (by decide)]; exact w7, by rw [hg _ (by decide) (by decide) (by decide)]; exact w8, w9⟩
  · exact ⟨by rw [hg _ (by decide) (by decide) (by decide)]; exact w0, by rw [hg _ (by decide) (by decide) (by decide)]; exact w1, by rw [hg _ (by decide) (by decide) (by decide)]; exact w2, by rw [hg _ (by decide) (by decide) (by decide)]; exact w3, by rw [hg _ (by decide) (by decide) (by decide)]; exact w4, by rw [hg _ (by decide) (by decide) (by decide)]; exact w5, hc, by rw [hg _ (by decide) (by decide) (by decide)]; exact w7, by rw [hg _ (by decide) (by decide) (by decide)]; exact w8, w9⟩
theorem once_fin {g g2 g3 : Nat → Int32} {T : Nat → Nat → Int32} {n m a i v : Nat} {b : Nat → Nat} {s : RS} (hOn : OnR g g2 T n b m a i v s) (hW : RwX g T s) (hO : RsOK s) (hi : i < 4) (hK : tKn n b (psT n b a) = 6 + i) (hg : ∀ k, k ≠ 1303 + i → g3 k = g2 k) (hc : s.2.2.2 i = none → v < hxO i → g3 (1303 + i) = corO s i v) : ItR g g3 T T n b m (psT n b a) (itemS n b s (psT n b a)) := by
  obtain ⟨o1, o2, o3⟩ := hOn
  have hit : itemS n b s (psT n b a) = onceS n b s i (psT n b a) := by
    unfold itemS
    rw [if_neg (by omega), if_neg (by omega), if_pos (by omega), hK, Nat.add_sub_cancel_left]
  rw [hit]
  refine ⟨⟨fun k k1 k2 => by rw [hg k (by omega), o1 k (by omega)], fun _ _ => rfl⟩, ?_⟩
  rcases o3 with ⟨e1, e2, e3, e4, e5, e6⟩ | ⟨q, e1, e2, e3⟩
  · refine Or.inl ⟨setO s i v, a + 3, e1, e2.keep (fun k z1 z2 => hg k (by omega)) (fun _ _ => rfl), setO_rw hW hi (fun k z1 z2 hk => ?_) (hc e4 e6), ?_, setO_ok hO hi e5 e6, psT_lt (by omega)⟩
    · rw [hg k hk, o1 k (by omega)]
    · rw [hg 207 (by omega)]; exact e3
  · exact Or.inr ⟨q, e1, e2, by rw [hg 206 (by omega)]; exact e3⟩

theorem ferry_cor {s : RS} {g : Nat → Int32} {v : Nat} (hO : RsOK s) (h0 : s.2.2.2 0 = none) (h3 : g 1303 = nI (stN s)) (hv : v < 2) : (if nI v = 1 then g 1303 ||| 128 else g 1303 &&& (-129)) = corO s 0 v := by
  have hb := bsN_lt (f := s.2.1 4) (v := 1) (m := s.1)
  have hp7 := p7 hO.1
  have w3b : g 1303 = nI (bsN (s.2.1 4) 1 s.1) := by rw [h3]; unfold stN; rw [h0]; simp
  unfold corO
  rw [if_pos rfl, w3b]
  rcases (show v = 0 ∨ v = 1 by omega) with e | e <;> subst e
  · rw [if_neg (by decide), nI_127 _ (by omega)]
    unfold stN setO
    simp
  · rw [if_pos (by decide), show (128 : Int32) = nI 128 by decide, nI_or]
    unfold stN setO
    simp
set_option maxRecDepth 100000 in
set_option maxHeartbeats 4000000 in
theorem c_X3_putFerryE (E : EN) (hM : EM E) (g : Nat → Int32) (h : Nat → Int64) (T : Nat → Nat → Int32) (L : Nat → Nat → Int64) (v : Nat) : GtV E yX3_putFerry wsX3_putFerry rmX3_putFerry [.ref (eA E 13), .int (nI v)] g h T L (fun g2 h2 T2 L2 => g2 = upd g 1303 (if nI v = 1 then g 1303 ||| 128 else g 1303 &&& (-129)) ∧ h2 = h ∧ T2 = T ∧ L2 = L) := by
  refine CtV_of (cc := cX3_putFerry) (nL := 2) RX3 [some (.ref (eA E 13)), some (.int (nI v))] ⟨rfl, rfl⟩ (by decide) rfl rfl (Nat.le_of_ble_eq_true rfl) ⟨0, rfl⟩ hM.2 (fun Y hnm C hQ => ?_)
  have hM0 := hM
  obtain ⟨hS, hNN⟩ := hM
  refine J_aload_0 C dX3_putFerry_0 ?_
  refine J_iload_1 C dX3_putFerry_1 ?_
  refine J_iconst C (1) dX3_putFerry_2 ic_1 ?_
  refine J_icmp_ne C 17 dX3_putFerry_3 (by decide) (fun hc3 => ?_) (fun hc3 => ?_)
  · skip
    refine J_aload_0 C dX3_putFerry_17 ?_
    refine G3_geti C (n := 1303) 3 dX3_putFerry_18 fX3_putFerry_45 iX3_putFerry_3 rfl (hS _ (by decide)) rfl rfl ?_
    refine J_sipush C (-129) dX3_putFerry_21 sc_m129 ?_
    refine J_iand C dX3_putFerry_24 ?_
    refine G3_puti C (n := 1303) 3 dX3_putFerry_25 fX3_putFerry_45 iX3_putFerry_3 rfl (hS _ (by decide)) rfl (tyX3_ok 3 (by decide)) rfl rfl ?_
    refine hQ _ _ _ dX3_putFerry_28 ⟨_, _, _, _, rfl, ?_⟩
    first
    | (rw [if_pos hc3]; exact ⟨rfl, rfl, rfl, rfl⟩)
    | (rw [if_neg hc3]; exact ⟨rfl, rfl, rfl, rfl⟩)
  · skip
    refine J_aload_0 C dX3_putFerry_6 ?_
    refine G3_geti C (n := 1303) 3 dX3_putFerry_7 fX3_putFerry_45 iX3_putFerry_3 rfl (hS _ (by decide)) rfl rfl ?_
    refine J_sipush C (128) dX3_putFerry_10 sc_128 ?_
    refine J_ior C dX3_putFerry_13 ?_
    refine J_goto C 25 dX3_putFerry_14 (by decide) ?_
    refine G3_puti C (n := 1303) 3 dX3_putFerry_25 fX3_putFerry_45 iX3_putFerry_3 rfl (hS _ (by decide)) rfl (tyX3_ok 3 (by decide)) rfl rfl ?_
    refine hQ _ _ _ dX3_putFerry_28 ⟨_, _, _, _, rfl, ?_⟩
    first
    | (rw [if_pos hc3]; exact ⟨rfl, rfl, rfl, rfl⟩)
    | (rw [if_neg hc3]; exact ⟨rfl, rfl, rfl, rfl⟩)
abbrev rmX2_readItem : Room := { frames := 3, cells := 0, slots := 0, locals := 68 }
theorem fX2_readItem_37 : Cond.fieldLink RX2 37 RX2 (TX2 5).2.1 (TX2 5).2.2.1 ∈ wsX2_readItem := by decide +kernel
theorem fX2_readItem_71 : Cond.fieldLink RX2 71 RX3 (TX3 4).2.1 (TX3 4).2.2.1 ∈ wsX2_readItem := by decide +kernel
theorem fX2_readItem_74 : Cond.fieldLink RX2 74 RX3 (TX3 5).2.1 (TX3 5).2.2.1 ∈ wsX2_readItem := by decide +kernel
theorem fX2_readItem_77 : Cond.fieldLink RX2 77 RX3 (TX3 6).2.1 (TX3 6).2.2.1 ∈ wsX2_readItem := by decide +kernel
theorem fX2_readItem_9 : Cond.fieldLink RX2 9 RX2 (TX2 2).2.1 (TX2 2).2.2.1 ∈ wsX2_readItem := by decide +kernel
theorem iX2_readItem_2 : ∀ x ∈ wsX20, x ∈ wsX2_readItem := by decide +kernel
theorem iX2_readItem_3 : ∀ x ∈ wsX30, x ∈ wsX2_readItem := by decide +kernel
theorem dm_X2_readFears : yX2_readFears.cls = RX2 ∧ yX2_readFears.cls ≠ "java/lang/invoke/MethodHandle" ∧ yX2_readFears.cls ≠ "java/lang/invoke/VarHandle" ∧ (parseMethodDescriptor yX2_readFears.desc).map (fun d => d.parameters.length) = some 1 := by decide +kernel
theorem dm_X2_readOnce : yX2_readOnce.cls = RX2 ∧ yX2_readOnce.cls ≠ "java/lang/invoke/MethodHandle" ∧ yX2_readOnce.cls ≠ "java/lang/invoke/VarHandle" ∧ (parseMethodDescriptor yX2_readOnce.desc).map (fun d => d.parameters.length) = some 2 := by decide +kernel
theorem dm_X2_readThing : yX2_readThing.cls = RX2 ∧ yX2_readThing.cls ≠ "java/lang/invoke/MethodHandle" ∧ yX2_readThing.cls ≠ "java/lang/invoke/VarHandle" ∧ (parseMethodDescriptor yX2_readThing.desc).map (fun d => d.parameters.length) = some 1 := by decide +kernel
theorem dm_X3_putFerry : yX3_putFerry.cls = RX3 ∧ yX3_putFerry.cls ≠ "java/lang/invoke/MethodHandle" ∧ yX3_putFerry.cls ≠ "java/lang/invoke/VarHandle" ∧ (parseMethodDescriptor yX3_putFerry.desc).map (fun d => d.parameters.length) = some 1 := by decide +kernel
theorem bc_20 : (Int8.ofInt (20)).toInt32 = (20) := by decide
set_option maxRecDepth 100000 in
set_option maxHeartbeats 4000000 in
theorem c_X2_readItem (E : EN) (hM : EM E) (g : Nat → Int32) (h : Nat → Int64) (T : Nat → Nat → Int32) (L : Nat → Nat → Int64) (n : Nat) (b : Nat → Nat) (m a : Nat) (hR : RdX g T n b m a none) (s : RS) (hW : RwX g T s) (hO : RsOK s) (h7 : g 207 = nI (tdN s.2.2.2)) : GtV E yX2_readItem wsX2_readItem rmX2_readItem [.ref (eA E 2), .ref (eA E 13)] g h T L (fun g2 h2 T2 L2 => ItR g g2 T T2 n b m (psT n b a) (itemS n b s (psT n b a)) ∧ h2 = h ∧ L2 = L) := by
  refine CtV_of (cc := cX2_readItem) (nL := 2) RX2 [some (.ref (eA E 2)), some (.ref (eA E 13))] ⟨rfl, rfl⟩ (by decide) rfl rfl (Nat.le_of_ble_eq_true rfl) ⟨0, rfl⟩ hM.2 (fun Y hnm C hQ => ?_)
  have hM0 := hM
  obtain ⟨hS, hNN⟩ := hM
  have hR0 := hR
  have hps := hR.ps
  obtain ⟨hX, ⟨m1, m2, m3, m4⟩, ham, hg5, hg6, hf⟩ := hR
  have hrow := m4 a ham
  obtain ⟨w4, w3, w5⟩ := hrow
  have hW0 := hW
  obtain ⟨w0, w1, w2, w3b, w4b, w5b, w6b, w7b, w8b, w9b⟩ := hW
  have hm7 := hO.1
  have hp7 := p7 hm7
  refine J_aload_0 C dX2_readItem_0 ?_
  refine G2_getr C (n := 3) 2 dX2_readItem_1 fX2_readItem_9 iX2_readItem_2 rfl (hS _ (by decide)) rfl rfl ?_
  refine J_aload_0 C dX2_readItem_4 ?_
  refine G2_geti C (n := 205) 5 dX2_readItem_5 fX2_readItem_37 iX2_readItem_2 rfl (hS _ (by decide)) rfl rfl ?_
  refine G_iald C a dX2_readItem_8 rfl (hS _ (by decide)) hg5 (by omega) ?_
  rw [w3]
  rcases (show tKn n b (psT n b a) = 4 ∨ tKn n b (psT n b a) = 5 ∨ tKn n b (psT n b a) = 6 ∨ tKn n b (psT n b a) = 7 ∨ tKn n b (psT n b a) = 8 ∨ tKn n b (psT n b a) = 9 ∨ (tKn n b (psT n b a) < 4 ∨ 9 < tKn n b (psT n b a)) by omega) with hsw9 | hsw9 | hsw9 | hsw9 | hsw9 | hsw9 | hsw9
  · skip
    rw [hsw9]
    refine J_tin C 48 dX2_readItem_9 (by decide) (by decide) rfl (by decide) ?_
    refine J_aload_0 C dX2_readItem_48 ?_
    refine J_aload_1 C dX2_readItem_49 ?_
    refine G_vtv C dX2_readItem_50 (c_X2_readThing E hM0 g h T L n b m a hR0 s hW0 hO h7 hsw9) gX2_readItem_X2_readThing rfl dm_X2_readThing rfl rfl (hS _ (by decide)) rfl rfl (Nat.le_of_ble_eq_true rfl) (rmOK_b rfl) (fun g50 h50 T50 L50 hp50 => ?_)
    refine J_goto C 123 dX2_readItem_53 (by decide) ?_
    refine hQ _ _ _ dX2_readItem_123 ⟨_, _, _, _, rfl, ?_⟩
    first
    | (obtain ⟨hI, rfl, rfl⟩ := hp50
       refine ⟨?_, rfl, rfl⟩
       unfold itemS
       rw [if_pos hsw9]
       exact hI)
    | (obtain ⟨hI, rfl, rfl⟩ := hp58
       refine ⟨?_, rfl, rfl⟩
       unfold itemS
       rw [if_neg (by omega), if_pos hsw9]
       exact hI)
    | (obtain ⟨rfl, rfl, rfl, rfl⟩ := hp71
       refine ⟨once_fin hOn hW0 hO (by decide) hsw9 (fun k hk => by simp only [upd]; rw [if_neg hk]) (fun z1 z2 => ?_), rfl, rfl⟩
       have z3 : g68 1303 = nI (stN s) := by rw [hOn.1 1303 (by decide)]; exact w3b
       rw [← ferry_cor hO z1 z3 z2]
       simp only [upd]
       rfl)
    | exact ⟨once_fin (i := 1) hOn hW0 hO (by decide) hsw9 (fun k hk => by simp only [upd]; rw [if_neg hk]) (fun z1 z2 => rfl), rfl, rfl⟩
    | exact ⟨once_fin (i := 2) hOn hW0 hO (by decide) hsw9 (fun k hk => by simp only [upd]; rw [if_neg hk]) (fun z1 z2 => rfl), rfl, rfl⟩
    | exact ⟨once_fin (i := 3) hOn hW0 hO (by decide) hsw9 (fun k hk => by simp only [upd]; rw [if_neg hk]) (fun z1 z2 => rfl), rfl, rfl⟩
    | (obtain ⟨hF, rfl, rfl, rfl⟩ := hp120
       refine ⟨⟨hF.toI, Or.inr ⟨psT n b a, ?_, by omega, hF.2.2⟩⟩, rfl, rfl⟩
       have hz := tKn_le (n := n) (b := b) (p := psT n b a)
       unfold itemS
       rw [if_neg (by omega), if_neg (by omega), if_neg (by omega)])
  · skip
    rw [hsw9]
    refine J_tin C 56 dX2_readItem_9 (by decide) (by decide) rfl (by decide) ?_
    refine J_aload_0 C dX2_readItem_56 ?_
    refine J_aload_1 C dX2_readItem_57 ?_
    refine G_vtv C dX2_readItem_58 (c_X2_readFears E hM0 g h T L n b m a hR0 s hW0 hO h7 hsw9) gX2_readItem_X2_readFears rfl dm_X2_readFears rfl rfl (hS _ (by decide)) rfl rfl (Nat.le_of_ble_eq_true rfl) (rmOK_b rfl) (fun g58 h58 T58 L58 hp58 => ?_)
    refine J_goto C 123 dX2_readItem_61 (by decide) ?_
    refine hQ _ _ _ dX2_readItem_123 ⟨_, _, _, _, rfl, ?_⟩
    first
    | (obtain ⟨hI, rfl, rfl⟩ := hp50
       refine ⟨?_, rfl, rfl⟩
       unfold itemS
       rw [if_pos hsw9]
       exact hI)
    | (obtain ⟨hI, rfl, rfl⟩ := hp58
       refine ⟨?_, rfl, rfl⟩
       unfold itemS
       rw [if_neg (by omega), if_pos hsw9]
       exact hI)
    | (obtain ⟨rfl, rfl, rfl, rfl⟩ := hp71
       refine ⟨once_fin hOn hW0 hO (by decide) hsw9 (fun k hk => by simp only [upd]; rw [if_neg hk]) (fun z1 z2 => ?_), rfl, rfl⟩
       have z3 : g68 1303 = nI (stN s) := by rw [hOn.1 1303 (by decide)]; exact w3b
       rw [← ferry_cor hO z1 z3 z2]
       simp only [upd]
       rfl)
    | exact ⟨once_fin (i := 1) hOn hW0 hO (by decide) hsw9 (fun k hk => by simp only [upd]; rw [if_neg hk]) (fun z1 z2 => rfl), rfl, rfl⟩
    | exact ⟨once_fin (i := 2) hOn hW0 hO (by decide) hsw9 (fun k hk => by simp only [upd]; rw [if_neg hk]) (fun z1 z2 => rfl), rfl, rfl⟩
    | exact ⟨once_fin (i := 3) hOn hW0 hO (by decide) hsw9 (fun k hk => by simp only [upd]; rw [if_neg hk]) (fun z1 z2 => rfl), rfl, rfl⟩
    | (obtain ⟨hF, rfl, rfl, rfl⟩ := hp120
       refine ⟨⟨hF.toI, Or.inr ⟨psT n b a, ?_, by omega, hF.2.2⟩⟩, rfl, rfl⟩
       have hz := tKn_le (n := n) (b := b) (p := psT n b a)
       unfold itemS
       rw [if_neg (by omega), if_neg (by omega), if_neg (by omega)])
  · skip
    rw [hsw9]
    refine J_tin C 64 dX2_readItem_9 (by decide) (by decide) rfl (by decide) ?_
    refine J_aload_1 C dX2_readItem_64 ?_
    refine J_aload_0 C dX2_readItem_65 ?_
    refine J_iconst C (0) dX2_readItem_66 ic_0 ?_
    refine J_iconst C (1) dX2_readItem_67 ic_1 ?_
    refine G_vti C dX2_readItem_68 (c_X2_readOnce E hM0 g h T L n b m a hR0 s hW0 hO h7 0 (by decide) hsw9 _ (by decide)) gX2_readItem_X2_readOnce rfl dm_X2_readOnce rfl rfl (hS _ (by decide)) rfl rfl (Nat.le_of_ble_eq_true rfl) (rmOK_b rfl) (fun r68 g68 h68 T68 L68 hp68 => ?_)
    obtain ⟨⟨v, rfl, hOn⟩, rfl, rfl, rfl⟩ := hp68
    refine G_vtv C dX2_readItem_71 (c_X3_putFerryE E hM0 _ _ _ _ v) gX2_readItem_X3_putFerry rfl dm_X3_putFerry rfl rfl (hS _ (by decide)) rfl rfl (Nat.le_of_ble_eq_true rfl) (rmOK_b rfl) (fun g71 h71 T71 L71 hp71 => ?_)
    refine J_goto C 123 dX2_readItem_74 (by decide) ?_
    refine hQ _ _ _ dX2_readItem_123 ⟨_, _, _, _, rfl, ?_⟩
    first
    | (obtain ⟨hI, rfl, rfl⟩ := hp50
       refine ⟨?_, rfl, rfl⟩
       unfold itemS
       rw [if_pos hsw9]
       exact hI)
    | (obtain ⟨hI, rfl, rfl⟩ := hp58
       refine ⟨?_, rfl, rfl⟩
       unfold itemS
       rw [if_neg (by omega), if_pos hsw9]
       exact hI)
    | (obtain ⟨rfl, rfl, rfl, rfl⟩ := hp71
       refine ⟨once_fin hOn hW0 hO (by decide) hsw9 (fun k hk => by simp only [upd]; rw [if_neg hk]) (fun z1 z2 => ?_), rfl, rfl⟩
       have z3 : g68 1303 = nI (stN s) := by rw [hOn.1 1303 (by decide)]; exact w3b
       rw [← ferry_cor hO z1 z3 z2]
       simp only [upd]
       rfl)
    | exact ⟨once_fin (i := 1) hOn hW0 hO (by decide) hsw9 (fun k hk => by simp only [upd]; rw [if_neg hk]) (fun z1 z2 => rfl), rfl, rfl⟩
    | exact ⟨once_fin (i := 2) hOn hW0 hO (by decide) hsw9 (fun k hk => by simp only [upd]; rw [if_neg hk]) (fun z1 z2 => rfl), rfl, rfl⟩
    | exact ⟨once_fin (i := 3) hOn hW0 hO (by decide) hsw9 (fun k hk => by simp only [upd]; rw [if_neg hk]) (fun z1 z2 => rfl), rfl, rfl⟩
    | (obtain ⟨hF, rfl, rfl, rfl⟩ := hp120
       refine ⟨⟨hF.toI, Or.inr ⟨psT n b a, ?_, by omega, hF.2.2⟩⟩, rfl, rfl⟩
       have hz := tKn_le (n := n) (b := b) (p := psT n b a)
       unfold itemS
       rw [if_neg (by omega), if_neg (by omega), if_neg (by omega)])
  · skip
    rw [hsw9]
    refine J_tin C 77 dX2_readItem_9 (by decide) (by decide) rfl (by decide) ?_
    refine J_aload_1 C dX2_readItem_77 ?_
    refine J_aload_0 C dX2_readItem_78 ?_
    refine J_iconst C (1) dX2_readItem_79 ic_1 ?_
    refine J_bipush C (20) dX2_readItem_80 bc_20 ?_
    refine G_vti C dX2_readItem_82 (c_X2_readOnce E hM0 g h T L n b m a hR0 s hW0 hO h7 1 (by decide) hsw9 _ (by decide)) gX2_readItem_X2_readOnce rfl dm_X2_readOnce rfl rfl (hS _ (by decide)) rfl rfl (Nat.le_of_ble_eq_true rfl) (rmOK_b rfl) (fun r82 g82 h82 T82 L82 hp82 => ?_)
    obtain ⟨⟨v, rfl, hOn⟩, rfl, rfl, rfl⟩ := hp82
    refine G3_puti C (n := 1304) 4 dX2_readItem_85 fX2_readItem_71 iX2_readItem_3 rfl (hS _ (by decide)) rfl (tyX3_ok 4 (by decide)) rfl rfl ?_
    refine J_goto C 123 dX2_readItem_88 (by decide) ?_
    refine hQ _ _ _ dX2_readItem_123 ⟨_, _, _, _, rfl, ?_⟩
    first
    | (obtain ⟨hI, rfl, rfl⟩ := hp50
       refine ⟨?_, rfl, rfl⟩
       unfold itemS
       rw [if_pos hsw9]
       exact hI)
    | (obtain ⟨hI, rfl, rfl⟩ := hp58
       refine ⟨?_, rfl, rfl⟩
       unfold itemS
       rw [if_neg (by omega), if_pos hsw9]
       exact hI)
    | (obtain ⟨rfl, rfl, rfl, rfl⟩ := hp71
       refine ⟨once_fin hOn hW0 hO (by decide) hsw9 (fun k hk => by simp only [upd]; rw [if_neg hk]) (fun z1 z2 => ?_), rfl, rfl⟩
       have z3 : g68 1303 = nI (stN s) := by rw [hOn.1 1303 (by decide)]; exact w3b
       rw [← ferry_cor hO z1 z3 z2]
       simp only [upd]
       rfl)
    | exact ⟨once_fin (i := 1) hOn hW0 hO (by decide) hsw9 (fun k hk => by simp only [upd]; rw [if_neg hk]) (fun z1 z2 => rfl), rfl, rfl⟩
    | exact ⟨once_fin (i := 2) hOn hW0 hO (by decide) hsw9 (fun k hk => by simp only [upd]; rw [if_neg hk]) (fun z1 z2 => rfl), rfl, rfl⟩
    | exact ⟨once_fin (i := 3) hOn hW0 hO (by decide) hsw9 (fun k hk => by simp only [upd]; rw [if_neg hk]) (fun z1 z2 => rfl), rfl, rfl⟩
    | (obtain ⟨hF, rfl, rfl, rfl⟩ := hp120
       refine ⟨⟨hF.toI, Or.inr ⟨psT n b a, ?_, by omega, hF.2.2⟩⟩, rfl, rfl⟩
       have hz := tKn_le (n := n) (b := b) (p := psT n b a)
       unfold itemS
       rw [if_neg (by omega), if_neg (by omega), if_neg (by omega)])
  · skip
    rw [hsw9]
    refine J_tin C 91 dX2_readItem_9 (by decide) (by decide) rfl (by decide) ?_
    refine J_aload_1 C dX2_readItem_91 ?_
    refine J_aload_0 C dX2_readItem_92 ?_
    refine J_iconst C (0) dX2_readItem_93 ic_0 ?_
    refine J_bipush C (20) dX2_readItem_94 bc_20 ?_
    refine G_vti C dX2_readItem_96 (c_X2_readOnce E hM0 g h T L n b m a hR0 s hW0 hO h7 2 (by decide) hsw9 _ (by decide)) gX2_readItem_X2_readOnce rfl dm_X2_readOnce rfl rfl (hS _ (by decide)) rfl rfl (Nat.le_of_ble_eq_true rfl) (rmOK_b rfl) (fun r96 g96 h96 T96 L96 hp96 => ?_)
    obtain ⟨⟨v, rfl, hOn⟩, rfl, rfl, rfl⟩ := hp96
    refine G3_puti C (n := 1305) 5 dX2_readItem_99 fX2_readItem_74 iX2_readItem_3 rfl (hS _ (by decide)) rfl (tyX3_ok 5 (by decide)) rfl rfl ?_
    refine J_goto C 123 dX2_readItem_102 (by decide) ?_
    refine hQ _ _ _ dX2_readItem_123 ⟨_, _, _, _, rfl, ?_⟩
    first
    | (obtain ⟨hI, rfl, rfl⟩ := hp50
       refine ⟨?_, rfl, rfl⟩
       unfold itemS
       rw [if_pos hsw9]
       exact hI)
    | (obtain ⟨hI, rfl, rfl⟩ := hp58
       refine ⟨?_, rfl, rfl⟩
       unfold itemS
       rw [if_neg (by omega), if_pos hsw9]
       exact hI)
    | (obtain ⟨rfl, rfl, rfl, rfl⟩ := hp71
       refine ⟨once_fin hOn hW0 hO (by decide) hsw9 (fun k hk => by simp only [upd]; rw [if_neg hk]) (fun z1 z2 => ?_), rfl, rfl⟩
       have z3 : g68 1303 = nI (stN s) := by rw [hOn.1 1303 (by decide)]; exact w3b
       rw [← ferry_cor hO z1 z3 z2]
       simp only [upd]
       rfl)
    | exact ⟨once_fin (i := 1) hOn hW0 hO (by decide) hsw9 (fun k hk => by simp only [upd]; rw [if_neg hk]) (fun z1 z2 => rfl), rfl, rfl⟩
    | exact ⟨once_fin (i := 2) hOn hW0 hO (by decide) hsw9 (fun k hk => by simp only [upd]; rw [if_neg hk]) (fun z1 z2 => rfl), rfl, rfl⟩
    | exact ⟨once_fin (i := 3) hOn hW0 hO (by decide) hsw9 (fun k hk => by simp only [upd]; rw [if_neg hk]) (fun z1 z2 => rfl), rfl, rfl⟩
    | (obtain ⟨hF, rfl, rfl, rfl⟩ := hp120
       refine ⟨⟨hF.toI, Or.inr ⟨psT n b a, ?_, by omega, hF.2.2⟩⟩, rfl, rfl⟩
       have hz := tKn_le (n := n) (b := b) (p := psT n b a)
       unfold itemS
       rw [if_neg (by omega), if_neg (by omega), if_neg (by omega)])
  · skip
    rw [hsw9]
    refine J_tin C 105 dX2_readItem_9 (by decide) (by decide) rfl (by decide) ?_
    refine J_aload_1 C dX2_readItem_105 ?_
    refine J_aload_0 C dX2_readItem_106 ?_
    refine J_iconst C (0) dX2_readItem_107 ic_0 ?_
    refine J_bipush C (9) dX2_readItem_108 bc_9 ?_
    refine G_vti C dX2_readItem_110 (c_X2_readOnce E hM0 g h T L n b m a hR0 s hW0 hO h7 3 (by decide) hsw9 _ (by decide)) gX2_readItem_X2_readOnce rfl dm_X2_readOnce rfl rfl (hS _ (by decide)) rfl rfl (Nat.le_of_ble_eq_true rfl) (rmOK_b rfl) (fun r110 g110 h110 T110 L110 hp110 => ?_)
    obtain ⟨⟨v, rfl, hOn⟩, rfl, rfl, rfl⟩ := hp110
    refine G3_puti C (n := 1306) 6 dX2_readItem_113 fX2_readItem_77 iX2_readItem_3 rfl (hS _ (by decide)) rfl (tyX3_ok 6 (by decide)) rfl rfl ?_
    refine J_goto C 123 dX2_readItem_116 (by decide) ?_
    refine hQ _ _ _ dX2_readItem_123 ⟨_, _, _, _, rfl, ?_⟩
    first
    | (obtain ⟨hI, rfl, rfl⟩ := hp50
       refine ⟨?_, rfl, rfl⟩
       unfold itemS
       rw [if_pos hsw9]
       exact hI)
    | (obtain ⟨hI, rfl, rfl⟩ := hp58
       refine ⟨?_, rfl, rfl⟩
       unfold itemS
       rw [if_neg (by omega), if_pos hsw9]
       exact hI)
    | (obtain ⟨rfl, rfl, rfl, rfl⟩ := hp71
       refine ⟨once_fin hOn hW0 hO (by decide) hsw9 (fun k hk => by simp only [upd]; rw [if_neg hk]) (fun z1 z2 => ?_), rfl, rfl⟩
       have z3 : g68 1303 = nI (stN s) := by rw [hOn.1 1303 (by decide)]; exact w3b
       rw [← ferry_cor hO z1 z3 z2]
       simp only [upd]
       rfl)
    | exact ⟨once_fin (i := 1) hOn hW0 hO (by decide) hsw9 (fun k hk => by simp only [upd]; rw [if_neg hk]) (fun z1 z2 => rfl), rfl, rfl⟩
    | exact ⟨once_fin (i := 2) hOn hW0 hO (by decide) hsw9 (fun k hk => by simp only [upd]; rw [if_neg hk]) (fun z1 z2 => rfl), rfl, rfl⟩
    | exact ⟨once_fin (i := 3) hOn hW0 hO (by decide) hsw9 (fun k hk => by simp only [upd]; rw [if_neg hk]) (fun z1 z2 => rfl), rfl, rfl⟩
    | (obtain ⟨hF, rfl, rfl, rfl⟩ := hp120
       refine ⟨⟨hF.toI, Or.inr ⟨psT n b a, ?_, by omega, hF.2.2⟩⟩, rfl, rfl⟩
       have hz := tKn_le (n := n) (b := b) (p := psT n b a)
       unfold itemS
       rw [if_neg (by omega), if_neg (by omega), if_neg (by omega)])
  · skip
    refine J_tout C 119 dX2_readItem_9 (by rw [nI_toInt (by have := tKn_le (n := n) (b := b) (p := psT n b a); omega)]; omega) (by decide) ?_
    refine J_aload_0 C dX2_readItem_119 ?_
    refine G_vtv C dX2_readItem_120 (c_X2_fail E hM0 g h T L n b m a none hR0) gX2_readItem_X2_fail rfl dm_X2_fail rfl rfl (hS _ (by decide)) rfl rfl (Nat.le_of_ble_eq_true rfl) (rmOK_b rfl) (fun g120 h120 T120 L120 hp120 => ?_)
    refine hQ _ _ _ dX2_readItem_123 ⟨_, _, _, _, rfl, ?_⟩
    first
    | (obtain ⟨hI, rfl, rfl⟩ := hp50
       refine ⟨?_, rfl, rfl⟩
       unfold itemS
       rw [if_pos hsw9]
       exact hI)
    | (obtain ⟨hI, rfl, rfl⟩ := hp58
       refine ⟨?_, rfl, rfl⟩
       unfold itemS
       rw [if_neg (by omega), if_pos hsw9]
       exact hI)
    | (obtain ⟨rfl, rfl, rfl, rfl⟩ := hp71
       refine ⟨once_fin hOn hW0 hO (by decide) hsw9 (fun k hk => by simp only [upd]; rw [if_neg hk]) (fun z1 z2 => ?_), rfl, rfl⟩
       have z3 : g68 1303 = nI (stN s) := by rw [hOn.1 1303 (by decide)]; exact w3b
       rw [← ferry_cor hO z1 z3 z2]
       simp only [upd]
       rfl)
    | exact ⟨once_fin (i := 1) hOn hW0 hO (by decide) hsw9 (fun k hk => by simp only [upd]; rw [if_neg hk]) (fun z1 z2 => rfl), rfl, rfl⟩
    | exact ⟨once_fin (i := 2) hOn hW0 hO (by decide) hsw9 (fun k hk => by simp only [upd]; rw [if_neg hk]) (fun z1 z2 => rfl), rfl, rfl⟩
    | exact ⟨once_fin (i := 3) hOn hW0 hO (by decide) hsw9 (fun k hk => by simp only [upd]; rw [if_neg hk]) (fun z1 z2 => rfl), rfl, rfl⟩
    | (obtain ⟨hF, rfl, rfl, rfl⟩ := hp120
       refine ⟨⟨hF.toI, Or.inr ⟨psT n b a, ?_, by omega, hF.2.2⟩⟩, rfl, rfl⟩
       have hz := tKn_le (n := n) (b := b) (p := psT n b a)
       unfold itemS
       rw [if_neg (by omega), if_neg (by omega), if_neg (by omega)])
