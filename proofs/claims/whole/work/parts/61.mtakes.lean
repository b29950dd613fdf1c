/-! the model takes numbers and stops -/
theorem kdN_tK {n s : Nat} {b : Nat → Nat} : kdN n b s = 2 ↔ tKn n b s = 1 := by
  have h3 := wdN_le (b := b) (s := s) (e := eoT n b s)
  constructor
  · intro h
    obtain ⟨h1, h2, h4⟩ := kdN_2 h
    unfold tKn tkN
    rw [if_pos h1, h2, h4]
    rfl
  · intro h
    unfold tKn at h
    split at h
    · rename_i q
      obtain ⟨h1, h2⟩ := tkN_1 h
      unfold kdN
      rw [if_neg (by omega), h1, h2]
      rfl
    · cases h
theorem kdN_st {n s : Nat} {b : Nat → Nat} : kdN n b s = 3 ↔ tKn n b s = 2 := by
  have h3 := wdN_le (b := b) (s := s) (e := eoT n b s)
  unfold kdN tKn tkN
  by_cases h0 : n ≤ s
  · rw [if_pos h0, if_neg (by omega)]; decide
  · rw [if_neg h0, if_pos (show s < n by omega)]
    by_cases h1 : isL (b s) = true
    · rw [if_pos h1, if_pos h1]; omega
    · rw [if_neg h1, if_neg h1]
      by_cases h2 : isD (b s) = true
      · rw [if_pos h2, if_pos h2]; decide
      · rw [if_neg h2, if_neg h2]
        split <;> decide
theorem kEnd_st {n s : Nat} {b : Nat → Nat} : kEnd n b s = 3 ↔ tKn n b s = 2 := by
  rw [← kdN_st]
  unfold kEnd
  split
  · rename_i q; rw [q.1]; decide
  · exact Iff.rfl
theorem num_rel {n s : Nat} {b : Nat → Nat} (hb : ∀ i, i < n → b i < 256) (h : tKn n b s = 1) : (∃ v, tVo n b s = some v ∧ v < 100 ∧ kEnd n b s = 2 ∧ vEnd n b s = lN v) ∨ (tVo n b s = none ∧ (kEnd n b s = 4 ∨ (kEnd n b s = 2 ∧ vEnd n b s = 1000))) := by
  have hk := kdN_tK.mpr h
  obtain ⟨h1, h2, h4⟩ := kdN_2 hk
  have hel := eoT_le (b := b) h1
  have heg := eoT_lt (b := b) (n := n) (i := s)
  have hD : ∀ j, s ≤ j → j < eoT n b s → 48 ≤ b j ∧ b j ≤ 57 := fun j q1 q2 => by
    have := eo_dig h2 h4 q1 q2
    simpa [isD] using this
  have hs := hD s (Nat.le_refl _) heg
  have hvE : vEnd n b s = nvI b s (eoT n b s - s) := by unfold vEnd; rw [hk, if_neg (by decide), if_pos rfl]
  unfold tVo kEnd
  rw [if_pos h, hk, hvE]
  unfold nvO nvI
  rcases (show eoT n b s - s = 1 ∨ eoT n b s - s = 2 ∨ 3 ≤ eoT n b s - s by omega) with e | e | e
  · refine Or.inl ⟨b s - 48, ?_, by omega, ?_, ?_⟩
    · rw [if_pos e]
    · rw [if_neg (by omega)]
    · rw [e]
      simp [nvN]
  · have he := hD (s + 1) (by omega) (by omega)
    by_cases q : 48 < b s
    · refine Or.inl ⟨10 * (b s - 48) + (b (s + 1) - 48), ?_, by omega, ?_, ?_⟩
      · rw [if_neg (by omega), if_pos ⟨e, q⟩, show eoT n b s - 1 = s + 1 by omega]
      · rw [if_neg (by omega)]
      · rw [e]
        simp [nvN]
    · refine Or.inr ⟨?_, Or.inl ?_⟩
      · rw [if_neg (by omega), if_neg (fun z => q z.2)]
      · rw [if_pos ⟨rfl, by omega, by omega⟩]
  · refine Or.inr ⟨?_, ?_⟩
    · rw [if_neg (by omega), if_neg (fun z => by omega)]
    · by_cases q : b s = 48
      · exact Or.inl (by rw [if_pos ⟨rfl, q, by omega⟩])
      · refine Or.inr ⟨by rw [if_neg (fun z => q z.2.1)], ?_⟩
        rw [if_neg (by omega)]
theorem kEnd_n2 {n s : Nat} {b : Nat → Nat} (h : tKn n b s ≠ 1) : kEnd n b s ≠ 2 := by
  intro q
  unfold kEnd at q
  split at q
  · cases q
  · exact h (kdN_tK.mp q)
theorem xEnd_2 {n s : Nat} {b : Nat → Nat} (h : tKn n b s = 1) : xEnd n b s = eoT n b s := by
  unfold xEnd
  rw [if_pos (Or.inr (kdN_tK.mpr h))]
theorem eoT_59 {n s : Nat} {b : Nat → Nat} (h : b s = 59) : eoT n b s = s + 1 := by
  unfold eoT
  refine runT_no ?_
  rw [h]
  rfl
theorem xEnd_3 {n s : Nat} {b : Nat → Nat} (h : tKn n b s = 2) : xEnd n b s = eoT n b s := by
  have hk := kdN_st.mpr h
  unfold xEnd
  rw [hk, if_neg (by decide), if_pos rfl]
  refine (eoT_59 ?_).symm
  unfold kdN at hk
  split at hk
  · cases hk
  · split at hk
    · cases hk
    · split at hk
      · cases hk
      · split at hk
        · rename_i q; exact q
        · cases hk
theorem tK_lt {n s : Nat} {b : Nat → Nat} (h : tKn n b s ≠ 0) : s < n := Nat.lt_of_not_le fun q => h (tKn_0.mpr q)
def FrN (g g2 : Nat → Int32) (h h2 : Nat → Int64) : Prop := (∀ k, (k < 4823 ∨ 4825 < k) → g2 k = g k) ∧ ∀ k, k ≠ 4826 → h2 k = h k
theorem FrN.tr {g g2 g3 : Nat → Int32} {h h2 h3 : Nat → Int64} (a : FrN g g2 h h2) (c : FrN g2 g3 h2 h3) : FrN g g3 h h3 := ⟨fun k hk => by rw [c.1 k hk, a.1 k hk], fun k hk => by rw [c.2 k hk, a.2 k hk]⟩
theorem FrN.nx {g : Nat → Int32} {h : Nat → Int64} {x s k : Nat} {v : Int64} : FrN g (nxG g x s k) h (vp_updL h 4826 v) := ⟨fun j hj => by unfold nxG; rw [if_neg (by omega), if_neg (by omega), if_neg (by omega)], fun j hj => by unfold vp_updL; rw [if_neg hj]⟩
theorem MtX.keep {g g2 : Nat → Int32} {T T2 : Nat → Nat → Int32} {n : Nat} {b : Nat → Nat} (h : MtX g T n b) (h1 : g2 4801 = g 4801) (h2 : T2 49 = T 49) : MtX g2 T2 n b := by
  obtain ⟨x1, x2, x3⟩ := h
  exact ⟨x1, by rw [h1]; exact x2, by rw [h2]; exact x3⟩
def AtX (g : Nat → Int32) (n : Nat) (b : Nat → Nat) (p : Nat) : Prop := ∃ q, g 4823 = nI q ∧ q ≤ n ∧ nbT n b q = p
def TkM (g g2 : Nat → Int32) (h h2 : Nat → Int64) (n : Nat) (b : Nat → Nat) (p0 : Nat) (r : Int32) (res : Except Nat (Nat × Nat)) : Prop := FrN g g2 h h2 ∧ g2 4824 = nI p0 ∧ ((∃ v p, res = .ok (v, p) ∧ r = 1 ∧ h2 4826 = lN v ∧ v < 100 ∧ AtX g2 n b p) ∨ (∃ e, res = .error e ∧ r = 0 ∧ g2 4824 = nI e))
theorem numE_cs {n lo hx p : Nat} {b : Nat → Nat} : (∃ v, nuO n b lo hx p = some v ∧ numE n b lo hx p = .ok (v, tNx n b p)) ∨ (nuO n b lo hx p = none ∧ numE n b lo hx p = .error p) := by
  unfold numE
  cases q : nuO n b lo hx p with
  | none => exact Or.inr ⟨rfl, rfl⟩
  | some v => exact Or.inl ⟨v, rfl, rfl⟩
theorem AtX.nx {g : Nat → Int32} {n p x : Nat} {b : Nat → Nat} (hx : g 4823 = nI x) (he : x = eoT n b p) (hp : p < n) : AtX g n b (tNx n b p) := ⟨x, hx, by rw [he]; exact eoT_le hp, by rw [he]; rfl⟩
theorem lN_hi {v hx : Nat} (hv : v < 2 ^ 31) (hh : hx < 1000) : lN v ≤ (nI hx - 1).toInt64 ↔ v < hx := by
  cases hx with
  | zero =>
    constructor
    · intro h
      exact absurd h (by rw [show (nI 0 - 1).toInt64 = (-1 : Int64) by decide]; exact fun q => absurd (Int64.le_trans (show (0 : Int64) ≤ lN v from (pk_lLE (a := 0) (by decide) (by omega)).mpr (Nat.zero_le _)) q) (by decide))
    · intro h; omega
  | succ k =>
    rw [nI_pred, nI_l (by omega), lN_le hv (by omega)]
    omega
theorem hi_1000 {hx : Nat} (hh : hx < 1000) : ¬ (1000 : Int64) ≤ (nI hx - 1).toInt64 := by
  rw [show (1000 : Int64) = lN 1000 by decide, lN_hi (by decide) hh]
  omega
abbrev rmX6_takes : Room := { frames := 2, cells := 0, slots := 0, locals := 41 }
theorem fX6_takes_102 : Cond.fieldLink RX6 102 RX6 (TX6 26).2.1 (TX6 26).2.2.1 ∈ wsX6_takes := by decide +kernel
theorem fX6_takes_113 : Cond.fieldLink RX6 113 RX6 (TX6 25).2.1 (TX6 25).2.2.1 ∈ wsX6_takes := by decide +kernel
theorem iX6_takes_6 : ∀ x ∈ wsX60, x ∈ wsX6_takes := by decide +kernel
theorem dm_X6_next : yX6_next.cls = RX6 ∧ yX6_next.cls ≠ "java/lang/invoke/MethodHandle" ∧ yX6_next.cls ≠ "java/lang/invoke/VarHandle" ∧ (parseMethodDescriptor yX6_next.desc).map (fun d => d.parameters.length) = some 0 := by decide +kernel
set_option maxRecDepth 100000 in
set_option maxHeartbeats 4000000 in
theorem c_X6_takes (E : EN) (hM : EM E) (g : Nat → Int32) (h : Nat → Int64) (T : Nat → Nat → Int32) (L : Nat → Nat → Int64) (n : Nat) (b : Nat → Nat) (p : Nat) (hX : MtX g T n b) (hA : AtX g n b p) (lo hx : Nat) (hlo : lo < 100) (hhx : hx < 1000) (hi : Int32) (hhi : hi = nI hx - 1) : GtI E yX6_takes wsX6_takes rmX6_takes [.ref (eA E 48), .int (nI lo), .int hi] g h T L (fun r g2 h2 T2 L2 => TkM g g2 h h2 n b p r (numE n b lo hx p) ∧ T2 = T ∧ L2 = L) := by
  refine CtZ_of (cc := cX6_takes) (nL := 3) RX6 [some (.ref (eA E 48)), some (.int (nI lo)), some (.int hi)] ⟨rfl, rfl⟩ (by decide) rfl rfl (Nat.le_of_ble_eq_true rfl) ⟨0, rfl⟩ hM.2 (fun Y C hQ => ?_)
  have hM0 := hM
  obtain ⟨hS, hNN⟩ := hM
  have hX0 := hX
  have hb256 : ∀ i, i < n → b i < 256 := fun i hi => (hX.2.2 i hi).2
  obtain ⟨q, hq, hqn, hpp⟩ := hA
  subst hhi
  refine J_aload_0 C dX6_takes_0 ?_
  refine G_vtv C dX6_takes_1 (c_X6_next E hM0 g h T L n b q hX hq hqn) gX6_takes_X6_next rfl dm_X6_next rfl rfl (hS _ (by decide)) rfl rfl (Nat.le_of_ble_eq_true rfl) (rmOK_b rfl) (fun g1 h1 T1 L1 hp1 => ?_)
  rw [hpp] at hp1
  obtain ⟨rfl, rfl, rfl, rfl⟩ := hp1
  have hvE : vp_updL h 4826 (vEnd n b p) 4826 = vEnd n b p := by simp [vp_updL]
  refine J_aload_0 C dX6_takes_4 ?_
  refine G6_geti C (n := 4825) 25 dX6_takes_5 fX6_takes_113 iX6_takes_6 rfl (hS _ (by decide)) rfl rfl ?_
  refine J_iconst C (2) dX6_takes_8 ic_2 ?_
  refine J_icmp_ne C 30 dX6_takes_9 (by decide) (fun hc9 => ?_) (fun hc9 => ?_)
  · skip
    refine J_iconst C (0) dX6_takes_30 ic_0 ?_
    refine hQ _ _ _ _ dX6_takes_31 rfl ⟨_, _, _, _, rfl, ?_⟩
    have hkE : nxG g (xEnd n b p) p (kEnd n b p) 4825 = nI (kEnd n b p) := rfl
    have hkl : kEnd n b p < 5 := by
      unfold kEnd; split
      · decide
      · exact kdN_lt
    refine ⟨⟨FrN.nx, rfl, ?_⟩, rfl, rfl⟩
    first
    | (have e : ¬ kEnd n b p = 2 := fun z => hc9 (by rw [hkE, z]; rfl)
       rcases numE_cs (n := n) (b := b) (lo := lo) (hx := hx) (p := p) with ⟨v, e1, e2⟩ | ⟨e1, e2⟩
       · obtain ⟨z1, z2, z3⟩ := nuO_some.mp e1
         rcases num_rel hb256 z1 with ⟨v', y1, y2, y3, y4⟩ | ⟨y1, _⟩
         · exact absurd y3 e
         · rw [y1] at z2; cases z2
       · exact Or.inr ⟨p, e2, rfl, rfl⟩)
    | (have e : kEnd n b p = 2 := nI_inj (by omega) (by decide) hc9
       have e0 : tKn n b p = 1 := Decidable.byContradiction fun z => kEnd_n2 z e
       rcases num_rel hb256 e0 with ⟨v', y1, y2, y3, y4⟩ | ⟨y1, y2⟩
       · rw [y4] at hc23
         have hiff : (lN lo ≤ lN v' ∧ lN v' ≤ (nI hx - 1).toInt64) ↔ (lo ≤ v' ∧ v' < hx) := and_congr (lN_le (by omega) (by omega)) (lN_hi (by omega) hhx)
         rcases numE_cs (n := n) (b := b) (lo := lo) (hx := hx) (p := p) with ⟨v, e1, e2⟩ | ⟨e1, e2⟩
         · obtain ⟨z1, z2, z3⟩ := nuO_some.mp e1
           rw [y1] at z2; cases z2
           first
           | (rw [if_pos (hiff.mpr z3)] at hc23
              exact absurd hc23 (by decide))
           | exact Or.inl ⟨v', tNx n b p, e2, rfl, by rw [hvE]; exact y4, y2, AtX.nx rfl (xEnd_2 e0) (tK_lt (by rw [e0]; decide))⟩
         · have hz : ¬ (lo ≤ v' ∧ v' < hx) := fun z => by
             rw [nuO_some.mpr ⟨e0, y1, z⟩] at e1; cases e1
           first
           | (rw [if_neg (fun z => hz (hiff.mp z))] at hc23
              exact absurd rfl hc23)
           | exact Or.inr ⟨p, e2, rfl, rfl⟩
       · rcases y2 with y2 | ⟨_, y2⟩
         · rw [y2] at e; cases e
         · rw [y2] at hc23
           have hz := hi_1000 hhx
           rcases numE_cs (n := n) (b := b) (lo := lo) (hx := hx) (p := p) with ⟨v, e1, e2⟩ | ⟨e1, e2⟩
           · obtain ⟨z1, z2, z3⟩ := nuO_some.mp e1
             rw [y1] at z2; cases z2
           · first
             | (rw [if_neg (fun z => hz z.2)] at hc23
                exact absurd rfl hc23)
             | exact Or.inr ⟨p, e2, rfl, rfl⟩)
  · skip
    refine J_aload_0 C dX6_takes_12 ?_
    refine G6_getl C (n := 4826) 26 dX6_takes_13 fX6_takes_102 iX6_takes_6 rfl (hS _ (by decide)) rfl rfl ?_
    refine J_iload_1 C dX6_takes_16 ?_
    refine J_i2l C dX6_takes_17 ?_
    rw [nI_l (by omega)]
    refine J_iload_2 C dX6_takes_18 ?_
    refine J_i2l C dX6_takes_19 ?_
    rw [hvE]
    refine G_spi C dX6_takes_20 (c_X6_in E hM0 _ _ _ _ _ _ _) gX6_takes_X6_in rfl dm_X6_in rfl rfl (Nat.le_of_ble_eq_true rfl) (rmOK_b rfl) (fun r20 hr20 => ?_)
    subst hr20
    refine J_if_eq C 30 dX6_takes_23 (by decide) (fun hc23 => ?_) (fun hc23 => ?_)
    · skip
      refine J_iconst C (0) dX6_takes_30 ic_0 ?_
      refine hQ _ _ _ _ dX6_takes_31 rfl ⟨_, _, _, _, rfl, ?_⟩
      have hkE : nxG g (xEnd n b p) p (kEnd n b p) 4825 = nI (kEnd n b p) := rfl
      have hkl : kEnd n b p < 5 := by
        unfold kEnd; split
        · decide
        · exact kdN_lt
      refine ⟨⟨FrN.nx, rfl, ?_⟩, rfl, rfl⟩
      first
      | (have e : ¬ kEnd n b p = 2 := fun z => hc9 (by rw [hkE, z]; rfl)
         rcases numE_cs (n := n) (b := b) (lo := lo) (hx := hx) (p := p) with ⟨v, e1, e2⟩ | ⟨e1, e2⟩
         · obtain ⟨z1, z2, z3⟩ := nuO_some.mp e1
           rcases num_rel hb256 z1 with ⟨v', y1, y2, y3, y4⟩ | ⟨y1, _⟩
           · exact absurd y3 e
           · rw [y1] at z2; cases z2
         · exact Or.inr ⟨p, e2, rfl, rfl⟩)
      | (have e : kEnd n b p = 2 := nI_inj (by omega) (by decide) hc9
         have e0 : tKn n b p = 1 := Decidable.byContradiction fun z => kEnd_n2 z e
         rcases num_rel hb256 e0 with ⟨v', y1, y2, y3, y4⟩ | ⟨y1, y2⟩
         · rw [y4] at hc23
           have hiff : (lN lo ≤ lN v' ∧ lN v' ≤ (nI hx - 1).toInt64) ↔ (lo ≤ v' ∧ v' < hx) := and_congr (lN_le (by omega) (by omega)) (lN_hi (by omega) hhx)
           rcases numE_cs (n := n) (b := b) (lo := lo) (hx := hx) (p := p) with ⟨v, e1, e2⟩ | ⟨e1, e2⟩
           · obtain ⟨z1, z2, z3⟩ := nuO_some.mp e1
             rw [y1] at z2; cases z2
             first
             | (rw [if_pos (hiff.mpr z3)] at hc23
                exact absurd hc23 (by decide))
             | exact Or.inl ⟨v', tNx n b p, e2, rfl, by rw [hvE]; exact y4, y2, AtX.nx rfl (xEnd_2 e0) (tK_lt (by rw [e0]; decide))⟩
           · have hz : ¬ (lo ≤ v' ∧ v' < hx) := fun z => by
               rw [nuO_some.mpr ⟨e0, y1, z⟩] at e1; cases e1
             first
             | (rw [if_neg (fun z => hz (hiff.mp z))] at hc23
                exact absurd rfl hc23)
             | exact Or.inr ⟨p, e2, rfl, rfl⟩
         · rcases y2 with y2 | ⟨_, y2⟩
           · rw [y2] at e; cases e
           · rw [y2] at hc23
             have hz := hi_1000 hhx
             rcases numE_cs (n := n) (b := b) (lo := lo) (hx := hx) (p := p) with ⟨v, e1, e2⟩ | ⟨e1, e2⟩
             · obtain ⟨z1, z2, z3⟩ := nuO_some.mp e1
               rw [y1] at z2; cases z2
             · first
               | (rw [if_neg (fun z => hz z.2)] at hc23
                  exact absurd rfl hc23)
               | exact Or.inr ⟨p, e2, rfl, rfl⟩)
    · skip
      refine J_iconst C (1) dX6_takes_26 ic_1 ?_
      refine J_goto C 31 dX6_takes_27 (by decide) ?_
      refine hQ _ _ _ _ dX6_takes_31 rfl ⟨_, _, _, _, rfl, ?_⟩
      have hkE : nxG g (xEnd n b p) p (kEnd n b p) 4825 = nI (kEnd n b p) := rfl
      have hkl : kEnd n b p < 5 := by
        unfold kEnd; split
        · decide
        · exact kdN_lt
      refine ⟨⟨FrN.nx, rfl, ?_⟩, rfl, rfl⟩
      first
      | (have e : ¬ kEnd n b p = 2 := fun z => hc9 (by rw [hkE, z]; rfl)
         rcases numE_cs (n := n) (b := b) (lo := lo) (hx := hx) (p := p) with ⟨v, e1, e2⟩ | ⟨e1, e2⟩
         · obtain ⟨z1, z2, z3⟩ := nuO_some.mp e1
           rcases num_rel hb256 z1 with ⟨v', y1, y2, y3, y4⟩ | ⟨y1, _⟩
           · exact absurd y3 e
           · rw [y1] at z2; cases z2
         · exact Or.inr ⟨p, e2, rfl, rfl⟩)
      | (have e : kEnd n b p = 2 := nI_inj (by omega) (by decide) hc9
         have e0 : tKn n b p = 1 := Decidable.byContradiction fun z => kEnd_n2 z e
         rcases num_rel hb256 e0 with ⟨v', y1, y2, y3, y4⟩ | ⟨y1, y2⟩
         · rw [y4] at hc23
           have hiff : (lN lo ≤ lN v' ∧ lN v' ≤ (nI hx - 1).toInt64) ↔ (lo ≤ v' ∧ v' < hx) := and_congr (lN_le (by omega) (by omega)) (lN_hi (by omega) hhx)
           rcases numE_cs (n := n) (b := b) (lo := lo) (hx := hx) (p := p) with ⟨v, e1, e2⟩ | ⟨e1, e2⟩
           · obtain ⟨z1, z2, z3⟩ := nuO_some.mp e1
             rw [y1] at z2; cases z2
             first
             | (rw [if_pos (hiff.mpr z3)] at hc23
                exact absurd hc23 (by decide))
             | exact Or.inl ⟨v', tNx n b p, e2, rfl, by rw [hvE]; exact y4, y2, AtX.nx rfl (xEnd_2 e0) (tK_lt (by rw [e0]; decide))⟩
           · have hz : ¬ (lo ≤ v' ∧ v' < hx) := fun z => by
               rw [nuO_some.mpr ⟨e0, y1, z⟩] at e1; cases e1
             first
             | (rw [if_neg (fun z => hz (hiff.mp z))] at hc23
                exact absurd rfl hc23)
             | exact Or.inr ⟨p, e2, rfl, rfl⟩
         · rcases y2 with y2 | ⟨_, y2⟩
           · rw [y2] at e; cases e
           · rw [y2] at hc23
             have hz := hi_1000 hhx
             rcases numE_cs (n := n) (b := b) (lo := lo) (hx := hx) (p := p) with ⟨v, e1, e2⟩ | ⟨e1, e2⟩
             · obtain ⟨z1, z2, z3⟩ := nuO_some.mp e1
               rw [y1] at z2; cases z2
             · first
               | (rw [if_neg (fun z => hz z.2)] at hc23
                  exact absurd rfl hc23)
               | exact Or.inr ⟨p, e2, rfl, rfl⟩)
abbrev rmX6_stops : Room := { frames := 2, cells := 0, slots := 0, locals := 41 }
theorem fX6_stops_113 : Cond.fieldLink RX6 113 RX6 (TX6 25).2.1 (TX6 25).2.2.1 ∈ wsX6_stops := by decide +kernel
theorem iX6_stops_6 : ∀ x ∈ wsX60, x ∈ wsX6_stops := by decide +kernel
set_option maxRecDepth 100000 in
set_option maxHeartbeats 4000000 in
theorem c_X6_stops (E : EN) (hM : EM E) (g : Nat → Int32) (h : Nat → Int64) (T : Nat → Nat → Int32) (L : Nat → Nat → Int64) (n : Nat) (b : Nat → Nat) (p : Nat) (hX : MtX g T n b) (hA : AtX g n b p) : GtI E yX6_stops wsX6_stops rmX6_stops [.ref (eA E 48)] g h T L (fun r g2 h2 T2 L2 => (FrN g g2 h h2 ∧ ((∃ p2, stpE n b p = .ok p2 ∧ r = 1 ∧ AtX g2 n b p2) ∨ (∃ e, stpE n b p = .error e ∧ r = 0 ∧ g2 4824 = nI e))) ∧ T2 = T ∧ L2 = L) := by
  refine CtZ_of (cc := cX6_stops) (nL := 1) RX6 [some (.ref (eA E 48))] ⟨rfl, rfl⟩ (by decide) rfl rfl (Nat.le_of_ble_eq_true rfl) ⟨0, rfl⟩ hM.2 (fun Y C hQ => ?_)
  have hM0 := hM
  obtain ⟨hS, hNN⟩ := hM
  have hX0 := hX
  have hb256 : ∀ i, i < n → b i < 256 := fun i hi => (hX.2.2 i hi).2
  obtain ⟨q, hq, hqn, hpp⟩ := hA
  refine J_aload_0 C dX6_stops_0 ?_
  refine G_vtv C dX6_stops_1 (c_X6_next E hM0 g h T L n b q hX hq hqn) gX6_stops_X6_next rfl dm_X6_next rfl rfl (hS _ (by decide)) rfl rfl (Nat.le_of_ble_eq_true rfl) (rmOK_b rfl) (fun g1 h1 T1 L1 hp1 => ?_)
  rw [hpp] at hp1
  obtain ⟨rfl, rfl, rfl, rfl⟩ := hp1
  refine J_aload_0 C dX6_stops_4 ?_
  refine G6_geti C (n := 4825) 25 dX6_stops_5 fX6_stops_113 iX6_stops_6 rfl (hS _ (by decide)) rfl rfl ?_
  refine J_iconst C (3) dX6_stops_8 ic_3 ?_
  refine J_icmp_ne C 16 dX6_stops_9 (by decide) (fun hc9 => ?_) (fun hc9 => ?_)
  · skip
    refine J_iconst C (0) dX6_stops_16 ic_0 ?_
    refine hQ _ _ _ _ dX6_stops_17 rfl ⟨_, _, _, _, rfl, ?_⟩
    have hkE : nxG g (xEnd n b p) p (kEnd n b p) 4825 = nI (kEnd n b p) := rfl
    have hkl : kEnd n b p < 5 := by
      unfold kEnd; split
      · decide
      · exact kdN_lt
    refine ⟨⟨FrN.nx, ?_⟩, rfl, rfl⟩
    unfold stpE
    first
    | (have e : ¬ tKn n b p = 2 := fun z => hc9 (by rw [hkE, kEnd_st.mpr z]; rfl)
       rw [if_neg e]
       exact Or.inr ⟨p, rfl, rfl, rfl⟩)
    | (have e : tKn n b p = 2 := kEnd_st.mp (nI_inj (by omega) (by decide) hc9)
       rw [if_pos e]
       exact Or.inl ⟨_, rfl, rfl, AtX.nx rfl (xEnd_3 e) (tK_lt (by rw [e]; decide))⟩)
  · skip
    refine J_iconst C (1) dX6_stops_12 ic_1 ?_
    refine J_goto C 17 dX6_stops_13 (by decide) ?_
    refine hQ _ _ _ _ dX6_stops_17 rfl ⟨_, _, _, _, rfl, ?_⟩
    have hkE : nxG g (xEnd n b p) p (kEnd n b p) 4825 = nI (kEnd n b p) := rfl
    have hkl : kEnd n b p < 5 := by
      unfold kEnd; split
      · decide
      · exact kdN_lt
    refine ⟨⟨FrN.nx, ?_⟩, rfl, rfl⟩
    unfold stpE
    first
    | (have e : ¬ tKn n b p = 2 := fun z => hc9 (by rw [hkE, kEnd_st.mpr z]; rfl)
       rw [if_neg e]
       exact Or.inr ⟨p, rfl, rfl, rfl⟩)
    | (have e : tKn n b p = 2 := kEnd_st.mp (nI_inj (by omega) (by decide) hc9)
       rw [if_pos e]
       exact Or.inl ⟨_, rfl, rfl, AtX.nx rfl (xEnd_3 e) (tK_lt (by rw [e]; decide))⟩)
