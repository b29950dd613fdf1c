/-! the model takes all items -/
def NxA (g : Nat → Int32) (h : Nat → Int64) (n : Nat) (b : Nat → Nat) (p : Nat) : Prop := g 4824 = nI p ∧ g 4825 = nI (kEnd n b p) ∧ h 4826 = vEnd n b p ∧ g 4823 = nI (xEnd n b p) ∧ p ≤ n
def McI (g0 : Nat → Int32) (h0 : Nat → Int64) (T0 : Nat → Nat → Int32) (g : Nat → Int32) (h : Nat → Int64) (T : Nat → Nat → Int32) (n : Nat) (b : Nat → Nat) (k : Nat) : Prop := FrQ g0 g h0 h T0 T ∧ ∃ s p, NxA g h n b p ∧ MwX g T s ∧ RsOK s ∧ allS n b (200 - k) s p k = readS n b ∧ k ≤ p
theorem FrQ.rf {g : Nat → Int32} {h : Nat → Int64} {T : Nat → Nat → Int32} : FrQ g g h h T T := ⟨fun _ _ => rfl, fun _ _ => rfl, fun _ _ => rfl⟩
theorem MwX.keep {g g2 : Nat → Int32} {T : Nat → Nat → Int32} {s : RS} (h : MwX g T s) (h1 : g2 4827 = g 4827) (h2 : g2 4828 = g 4828) : MwX g2 T s := ⟨by rw [h1]; exact h.1, by rw [h2]; exact h.2.1, h.2.2⟩
theorem item_k {n p k : Nat} {b : Nat → Nat} {s : RS} (h : tKn n b p = 6 + k) : itemS n b s p = onceS n b s k p := by
  unfold itemS
  rw [if_neg (by omega), if_neg (by omega), if_pos (by omega), h, Nat.add_sub_cancel_left]
abbrev rmX6_takesAll : Room := { frames := 4, cells := 0, slots := 0, locals := 84 }
theorem kcX6_takesAll_145 : Cond.constantLong RX6 145 (21243335) ∈ wsX6_takesAll := by decide +kernel
theorem kcX6_takesAll_150 : Cond.constantLong RX6 150 (6456915) ∈ wsX6_takesAll := by decide +kernel
theorem kcX6_takesAll_155 : Cond.constantLong RX6 155 (6474329) ∈ wsX6_takesAll := by decide +kernel
theorem kcX6_takesAll_160 : Cond.constantLong RX6 160 (408612) ∈ wsX6_takesAll := by decide +kernel
theorem kcX6_takesAll_162 : Cond.constantLong RX6 162 (132915) ∈ wsX6_takesAll := by decide +kernel
theorem kcX6_takesAll_164 : Cond.constantLong RX6 164 (6897268) ∈ wsX6_takesAll := by decide +kernel
theorem fX6_takesAll_102 : Cond.fieldLink RX6 102 RX6 (TX6 26).2.1 (TX6 26).2.2.1 ∈ wsX6_takesAll := by decide +kernel
theorem fX6_takesAll_113 : Cond.fieldLink RX6 113 RX6 (TX6 25).2.1 (TX6 25).2.2.1 ∈ wsX6_takesAll := by decide +kernel
theorem fX6_takesAll_131 : Cond.fieldLink RX6 131 RX6 (TX6 27).2.1 (TX6 27).2.2.1 ∈ wsX6_takesAll := by decide +kernel
theorem fX6_takesAll_142 : Cond.fieldLink RX6 142 RX6 (TX6 28).2.1 (TX6 28).2.2.1 ∈ wsX6_takesAll := by decide +kernel
theorem fX6_takesAll_59 : Cond.fieldLink RX6 59 RX6 (TX6 31).2.1 (TX6 31).2.2.1 ∈ wsX6_takesAll := by decide +kernel
theorem fX6_takesAll_96 : Cond.fieldLink RX6 96 RX6 (TX6 23).2.1 (TX6 23).2.2.1 ∈ wsX6_takesAll := by decide +kernel
theorem iX6_takesAll_6 : ∀ x ∈ wsX60, x ∈ wsX6_takesAll := by decide +kernel
theorem dm_X6_takesFears : yX6_takesFears.cls = RX6 ∧ yX6_takesFears.cls ≠ "java/lang/invoke/MethodHandle" ∧ yX6_takesFears.cls ≠ "java/lang/invoke/VarHandle" ∧ (parseMethodDescriptor yX6_takesFears.desc).map (fun d => d.parameters.length) = some 0 := by decide +kernel
theorem dm_X6_takesThing : yX6_takesThing.cls = RX6 ∧ yX6_takesThing.cls ≠ "java/lang/invoke/MethodHandle" ∧ yX6_takesThing.cls ≠ "java/lang/invoke/VarHandle" ∧ (parseMethodDescriptor yX6_takesThing.desc).map (fun d => d.parameters.length) = some 0 := by decide +kernel
theorem dm_X6_takesTold : yX6_takesTold.cls = RX6 ∧ yX6_takesTold.cls ≠ "java/lang/invoke/MethodHandle" ∧ yX6_takesTold.cls ≠ "java/lang/invoke/VarHandle" ∧ (parseMethodDescriptor yX6_takesTold.desc).map (fun d => d.parameters.length) = some 1 := by decide +kernel
set_option maxRecDepth 100000 in
set_option maxHeartbeats 4000000 in
theorem c_X6_takesAll (E : EN) (hM : EM E) (g : Nat → Int32) (h : Nat → Int64) (T : Nat → Nat → Int32) (L : Nat → Nat → Int64) (n : Nat) (b : Nat → Nat) (hX : MtX g T n b) : GtI E yX6_takesAll wsX6_takesAll rmX6_takesAll [.ref (eA E 48)] g h T L (fun r g2 h2 T2 L2 => (FrQ g g2 h h2 T T2 ∧ ((∃ s k, readS n b = .ok (s, k) ∧ k ≤ 200 ∧ r = nI k ∧ RsOK s ∧ MwX g2 T2 s) ∨ (∃ e, readS n b = .error e ∧ r = -1 ∧ g2 4824 = nI e))) ∧ L2 = L) := by
  refine CtI_of (cc := cX6_takesAll) (nL := 3) RX6 [some (.ref (eA E 48)), none, none] ⟨rfl, rfl⟩ (by decide) rfl rfl (Nat.le_of_ble_eq_true rfl) ⟨2, rfl⟩ hM.2 (fun Y C hQ => ?_)
  have hM0 := hM
  obtain ⟨hS, hNN⟩ := hM
  have hX0 := hX
  refine J_aload_0 C dX6_takesAll_0 ?_
  refine J_iconst C (0) dX6_takesAll_1 ic_0 ?_
  refine G6_puti C (n := 4823) 23 dX6_takesAll_2 fX6_takesAll_96 iX6_takesAll_6 rfl (hS _ (by decide)) rfl (tyX6_ok 23 (by decide)) rfl rfl ?_
  refine J_aload_0 C dX6_takesAll_5 ?_
  refine J_iconst C (0) dX6_takesAll_6 ic_0 ?_
  refine G6_puti C (n := 4827) 27 dX6_takesAll_7 fX6_takesAll_131 iX6_takesAll_6 rfl (hS _ (by decide)) rfl (tyX6_ok 27 (by decide)) rfl rfl ?_
  refine J_aload_0 C dX6_takesAll_10 ?_
  refine J_iconst C (0) dX6_takesAll_11 ic_0 ?_
  refine G6_puti C (n := 4828) 28 dX6_takesAll_12 fX6_takesAll_142 iX6_takesAll_6 rfl (hS _ (by decide)) rfl (tyX6_ok 28 (by decide)) rfl rfl ?_
  refine J_iconst C (0) dX6_takesAll_15 ic_0 ?_
  refine J_istore_1 C dX6_takesAll_16 (by decide) trivial ?_
  have loop1 : ∀ (n1 : Nat) (j : Nat) (T2 : Nat → Nat → Int32), j ≤ 4 → 4 < n1 + j → (∀ i, i < j → T2 61 i = -1) → (∀ c, c ≠ 61 → T2 c = T c) → J E Y (eN E) 0 0 (wS E (upd (upd (upd g 4823 0) 4827 0) 4828 0) h T2 L) 17 [some (.ref (eA E 48)), some (.int (nI j)), none] [] := by
    intro n1
    induction n1 with
    | zero =>
      intro j T2 hj hfu hm hT2
      omega
    | succ n1 ih1 =>
      intro j T2 hj hfu hm hT2
      have hj4 : j < 4 ∨ j = 4 := by omega
      refine J_iload_1 C dX6_takesAll_17 ?_
      refine J_iconst C (4) dX6_takesAll_18 ic_4 ?_
      refine J_icmp_ge C 35 dX6_takesAll_19 (by decide) (fun hc19 => ?_) (fun hc19 => ?_)
      · skip
        refine J_iconst C (0) dX6_takesAll_35 ic_0 ?_
        refine J_istore_1 C dX6_takesAll_36 (by decide) trivial ?_
        refine J_aload_0 C dX6_takesAll_37 ?_
        refine G_vtv C dX6_takesAll_38 (c_X6_next E hM0 _ _ _ _ n b 0 (hX0.keep rfl (hT2 49 (by decide))) (show (0 : Int32) = nI 0 from rfl) (Nat.zero_le _)) gX6_takesAll_X6_next rfl dm_X6_next rfl rfl (hS _ (by decide)) rfl rfl (Nat.le_of_ble_eq_true rfl) (rmOK_b rfl) (fun g38 h38 T38 L38 hp38 => ?_)
        obtain ⟨rfl, rfl, rfl, rfl⟩ := hp38
        have loop2 : ∀ (n2 : Nat) (k : Nat) (g2 : Nat → Int32) (h2 : Nat → Int64) (T2 : Nat → Nat → Int32) (x2 : Option Value), k ≤ 200 → 200 < n2 + k → McI g h T g2 h2 T2 n b k → J E Y (eN E) 0 0 (wS E g2 h2 T2 L38) 41 [some (.ref (eA E 48)), some (.int (nI k)), x2] [] := by
          intro n2
          induction n2 with
          | zero =>
            intro k g2 h2 T2 x2 hk hfu hI
            omega
          | succ n2 ih2 =>
            intro k g2 h2 T2 x2 hk hfu hI
            refine J_aload_0 C dX6_takesAll_41 ?_
            obtain ⟨hFk, s, p, ⟨n1, n2, n3, n4, n6⟩, n5, hOk, hal, hkp⟩ := hI
            have hkl := kEnd_lt (n := n) (b := b) (s := p)
            have hXk : MtX g2 T2 n b := hX0.keep (hFk.1 _ (by decide)) (hFk.2.2 _ (by decide))
            refine G6_geti C (n := 4825) 25 dX6_takesAll_42 fX6_takesAll_113 iX6_takesAll_6 rfl (hS _ (by decide)) rfl rfl ?_
            refine J_if_eq C 205 dX6_takesAll_45 (by decide) (fun hc45 => ?_) (fun hc45 => ?_)
            · skip
              refine J_iload_1 C dX6_takesAll_205 ?_
              refine hQ _ _ _ _ dX6_takesAll_206 ⟨_, _, _, _, rfl, ?_⟩
              have hpn : n ≤ p := by
                rw [n2, nI_z (by omega)] at hc45
                exact kEnd_0.mp hc45
              have hz : allS n b (200 - k) s p k = .ok (s, k) := by
                cases 200 - k with
                | zero => rfl
                | succ f =>
                  show (if tKn n b p = 0 then _ else _) = _
                  rw [if_pos (tKn_0.mpr hpn)]
              exact ⟨⟨hFk, Or.inl ⟨s, k, by rw [← hal, hz], hk, rfl, hOk, n5⟩⟩, rfl⟩
            · skip
              have hpn : p < n := Nat.lt_of_not_le fun z => hc45 (by rw [n2, kEnd_0.mpr z]; rfl)
              refine J_aload_0 C dX6_takesAll_48 ?_
              have cutOK : ∀ (g3 : Nat → Int32) (h3 : Nat → Int64) (T3 : Nat → Nat → Int32) (s' : RS) (p' : Nat), itemS n b s p = .ok (s', p') → AtX g3 n b p' → MwX g3 T3 s' → FrQ g2 g3 h2 h3 T2 T3 → J E Y (eN E) 0 0 (wS E g3 h3 T3 L38) 195 [some (.ref (eA E 48)), some (.int (nI k)), some (.int 1)] [] := by
                intro g3 h3 T3 s' p' q1 q2 q3 q4
                obtain ⟨qa, qa1, qa2, qa3⟩ := q2
                obtain ⟨z1, z2, z3⟩ := itemS_ok hOk q1
                refine J_iinc_1 C (1) dX6_takesAll_195 (by decide) trivial ic_1 ?_
                refine J_aload_0 C dX6_takesAll_198 ?_
                refine G_vtv C dX6_takesAll_199 (c_X6_next E hM0 _ _ _ _ n b qa (hXk.keep (q4.1 _ (by decide)) (q4.2.2 _ (by decide))) qa1 qa2) gX6_takesAll_X6_next rfl dm_X6_next rfl rfl (hS _ (by decide)) rfl rfl (Nat.le_of_ble_eq_true rfl) (rmOK_b rfl) (fun g199 h199 T199 L199 hp199 => ?_)
                rw [qa3] at hp199
                obtain ⟨rfl, rfl, rfl, rfl⟩ := hp199
                refine J_goto C 41 dX6_takesAll_202 (by decide) ?_
                rw [nI_1]
                have hal3 : allS n b (200 - k) s p k = match itemS n b s p with | .error q => .error q | .ok (s', p') => allS n b (200 - (k + 1)) s' p' (k + 1) := by
                  rw [show 200 - k = (200 - (k + 1)) + 1 by have := hX0.1; omega]
                  show (if tKn n b p = 0 then _ else _) = _
                  rw [if_neg (fun z => by have := tKn_0.mp z; omega)]
                  all_goals rfl
                rw [q1] at hal3
                have hn200 := hX0.1
                refine ih2 (k + 1) _ _ _ _ (by omega) (by omega) ⟨hFk.tr (q4.tr (FrN.toQ FrN.nx)), s', p', ⟨rfl, rfl, by simp [vp_updL], rfl, z3⟩, q3.keep rfl rfl, z1, by rw [← hal, hal3], by omega⟩
              refine G6_geti C (n := 4825) 25 dX6_takesAll_49 fX6_takesAll_113 iX6_takesAll_6 rfl (hS _ (by decide)) rfl rfl ?_
              have cutBad : ∀ (g3 : Nat → Int32) (h3 : Nat → Int64) (T3 : Nat → Nat → Int32) (e : Nat), itemS n b s p = .error e → g3 4824 = nI e → FrQ g2 g3 h2 h3 T2 T3 → J E Y (eN E) 0 0 (wS E g3 h3 T3 L38) 193 [some (.ref (eA E 48)), some (.int (nI k)), some (.int 0)] [] := by
                intro g3 h3 T3 e q1 q2 q4
                refine J_iconst C (-1) dX6_takesAll_193 ic_m1 ?_
                refine hQ _ _ _ _ dX6_takesAll_194 ⟨_, _, _, _, rfl, ?_⟩
                have hal3 : allS n b (200 - k) s p k = match itemS n b s p with | .error q => .error q | .ok (s', p') => allS n b (200 - (k + 1)) s' p' (k + 1) := by
                  rw [show 200 - k = (200 - (k + 1)) + 1 by have := hX0.1; omega]
                  show (if tKn n b p = 0 then _ else _) = _
                  rw [if_neg (fun z => by have := tKn_0.mp z; omega)]
                  all_goals rfl
                rw [q1] at hal3
                exact ⟨⟨hFk.tr q4, Or.inr ⟨e, by rw [← hal, hal3], rfl, q2⟩⟩, rfl⟩
              refine J_iconst C (1) dX6_takesAll_52 ic_1 ?_
              refine J_icmp_ne C 187 dX6_takesAll_53 (by decide) (fun hc53 => ?_) (fun hc53 => ?_)
              · skip
                refine J_iconst C (0) dX6_takesAll_187 ic_0 ?_
                refine J_istore_2 C dX6_takesAll_188 (by decide) trivial ?_
                refine J_iload_2 C dX6_takesAll_189 ?_
                refine J_if_ne C 195 dX6_takesAll_190 (by decide) (fun hc => absurd rfl hc) (fun _ => ?_)
                first
                | (have hri2 := hri
                   have hcr2 := hcr
                   obtain ⟨e, e1, e2, e3⟩ := hri2.resolve_left (fun ⟨_, _, _, z, _⟩ => absurd (z.symm.trans hcr2) (by decide))
                   exact cutBad _ _ _ e e1 e3 hFi)
                | (have hz : ¬ g2 4825 = 1 := hc53
                   exact cutBad _ _ _ p (item_bad (tK_nlet fun z => hz (by rw [n2, kEnd_1.mpr z]; rfl))) n1 FrQ.rf)
                | (have hz := hc172
                   have hn5 : ¬ spB b p (eoT n b p) (chS.getD 5 []) = true := fun z => hz (by rw [n3, (vEnd_L hlt hL).1, cmp_e]; exact (hw_5 hlt hL).mpr z)
                   exact cutBad _ _ _ p (item_bad (by rw [tK_let hlt hL]; unfold wdN; rw [if_neg hn0, if_neg hn1, if_neg hn2, if_neg hn3, if_neg hn4, if_neg hn5]; decide)) n1 FrQ.rf)
              · skip
                have hkL := nI_inj (a := kEnd n b p) (b := 1) (by omega) (by decide) (by rw [← n2]; exact hc53)
                obtain ⟨hlt, hL⟩ := kEnd_1.mp hkL
                have hAk : AtX g2 n b (tNx n b p) := AtX.nx n4 (vEnd_L hlt hL).2 hlt
                refine J_aload_0 C dX6_takesAll_56 ?_
                refine G6_getl C (n := 4826) 26 dX6_takesAll_57 fX6_takesAll_102 iX6_takesAll_6 rfl (hS _ (by decide)) rfl rfl ?_
                refine J_ldc2 C kcX6_takesAll_145 dX6_takesAll_60 ?_
                refine J_lcmp C dX6_takesAll_63 ?_
                refine J_if_ne C 77 dX6_takesAll_64 (by decide) (fun hc64 => ?_) (fun hc64 => ?_)
                · skip
                  have hn0 : ¬ spB b p (eoT n b p) (chS.getD 0 []) = true := fun z => hc64 (by rw [n3, (vEnd_L hlt hL).1, cmp_e]; exact (hw_0 hlt hL).mpr z)
                  refine J_aload_0 C dX6_takesAll_77 ?_
                  refine G6_getl C (n := 4826) 26 dX6_takesAll_78 fX6_takesAll_102 iX6_takesAll_6 rfl (hS _ (by decide)) rfl rfl ?_
                  refine J_ldc2 C kcX6_takesAll_150 dX6_takesAll_81 ?_
                  refine J_lcmp C dX6_takesAll_84 ?_
                  refine J_if_ne C 98 dX6_takesAll_85 (by decide) (fun hc85 => ?_) (fun hc85 => ?_)
                  · skip
                    have hn1 : ¬ spB b p (eoT n b p) (chS.getD 1 []) = true := fun z => hc85 (by rw [n3, (vEnd_L hlt hL).1, cmp_e]; exact (hw_1 hlt hL).mpr z)
                    refine J_aload_0 C dX6_takesAll_98 ?_
                    refine G6_getl C (n := 4826) 26 dX6_takesAll_99 fX6_takesAll_102 iX6_takesAll_6 rfl (hS _ (by decide)) rfl rfl ?_
                    refine J_ldc2 C kcX6_takesAll_155 dX6_takesAll_102 ?_
                    refine J_lcmp C dX6_takesAll_105 ?_
                    refine J_if_ne C 120 dX6_takesAll_106 (by decide) (fun hc106 => ?_) (fun hc106 => ?_)
                    · skip
                      have hn2 : ¬ spB b p (eoT n b p) (chS.getD 2 []) = true := fun z => hc106 (by rw [n3, (vEnd_L hlt hL).1, cmp_e]; exact (hw_2 hlt hL).mpr z)
                      refine J_aload_0 C dX6_takesAll_120 ?_
                      refine G6_getl C (n := 4826) 26 dX6_takesAll_121 fX6_takesAll_102 iX6_takesAll_6 rfl (hS _ (by decide)) rfl rfl ?_
                      refine J_ldc2 C kcX6_takesAll_160 dX6_takesAll_124 ?_
                      refine J_lcmp C dX6_takesAll_127 ?_
                      refine J_if_ne C 142 dX6_takesAll_128 (by decide) (fun hc128 => ?_) (fun hc128 => ?_)
                      · skip
                        have hn3 : ¬ spB b p (eoT n b p) (chS.getD 3 []) = true := fun z => hc128 (by rw [n3, (vEnd_L hlt hL).1, cmp_e]; exact (hw_3 hlt hL).mpr z)
                        refine J_aload_0 C dX6_takesAll_142 ?_
                        refine G6_getl C (n := 4826) 26 dX6_takesAll_143 fX6_takesAll_102 iX6_takesAll_6 rfl (hS _ (by decide)) rfl rfl ?_
                        refine J_ldc2 C kcX6_takesAll_162 dX6_takesAll_146 ?_
                        refine J_lcmp C dX6_takesAll_149 ?_
                        refine J_if_ne C 164 dX6_takesAll_150 (by decide) (fun hc150 => ?_) (fun hc150 => ?_)
                        · skip
                          have hn4 : ¬ spB b p (eoT n b p) (chS.getD 4 []) = true := fun z => hc150 (by rw [n3, (vEnd_L hlt hL).1, cmp_e]; exact (hw_4 hlt hL).mpr z)
                          refine J_aload_0 C dX6_takesAll_164 ?_
                          refine G6_getl C (n := 4826) 26 dX6_takesAll_165 fX6_takesAll_102 iX6_takesAll_6 rfl (hS _ (by decide)) rfl rfl ?_
                          refine J_ldc2 C kcX6_takesAll_164 dX6_takesAll_168 ?_
                          refine J_lcmp C dX6_takesAll_171 ?_
                          refine J_if_ne C 187 dX6_takesAll_172 (by decide) (fun hc172 => ?_) (fun hc172 => ?_)
                          · skip
                            refine J_iconst C (0) dX6_takesAll_187 ic_0 ?_
                            refine J_istore_2 C dX6_takesAll_188 (by decide) trivial ?_
                            refine J_iload_2 C dX6_takesAll_189 ?_
                            refine J_if_ne C 195 dX6_takesAll_190 (by decide) (fun hc => absurd rfl hc) (fun _ => ?_)
                            first
                            | (have hri2 := hri
                               have hcr2 := hcr
                               obtain ⟨e, e1, e2, e3⟩ := hri2.resolve_left (fun ⟨_, _, _, z, _⟩ => absurd (z.symm.trans hcr2) (by decide))
                               exact cutBad _ _ _ e e1 e3 hFi)
                            | (have hz : ¬ g2 4825 = 1 := hc53
                               exact cutBad _ _ _ p (item_bad (tK_nlet fun z => hz (by rw [n2, kEnd_1.mpr z]; rfl))) n1 FrQ.rf)
                            | (have hz := hc172
                               have hn5 : ¬ spB b p (eoT n b p) (chS.getD 5 []) = true := fun z => hz (by rw [n3, (vEnd_L hlt hL).1, cmp_e]; exact (hw_5 hlt hL).mpr z)
                               exact cutBad _ _ _ p (item_bad (by rw [tK_let hlt hL]; unfold wdN; rw [if_neg hn0, if_neg hn1, if_neg hn2, if_neg hn3, if_neg hn4, if_neg hn5]; decide)) n1 FrQ.rf)
                          · skip
                            have hy5 : spB b p (eoT n b p) (chS.getD 5 []) = true := by
                              rw [n3, (vEnd_L hlt hL).1, cmp_e] at hc172
                              exact (hw_5 hlt hL).mp hc172
                            have htk : tKn n b p = 9 := (by rw [tK_let hlt hL]; unfold wdN; rw [if_neg hn0]; rw [if_neg hn1]; rw [if_neg hn2]; rw [if_neg hn3]; rw [if_neg hn4]; rw [if_pos hy5])
                            refine J_aload_0 C dX6_takesAll_175 ?_
                            refine J_iconst C (3) dX6_takesAll_176 ic_3 ?_
                            refine G_vti C dX6_takesAll_177 (c_X6_takesTold E hM0 _ _ _ _ n b s p hXk n5 hOk hAk n1 3 (by decide)) gX6_takesAll_X6_takesTold rfl dm_X6_takesTold rfl rfl (hS _ (by decide)) rfl rfl (Nat.le_of_ble_eq_true rfl) (rmOK_b rfl) (fun r177 g177 h177 T177 L177 hp177 => ?_)
                            obtain ⟨⟨hFi, hri⟩, rfl⟩ := hp177
                            have hit : itemS n b s p = onceS n b s 3 p := item_k htk
                            rw [← hit] at hri
                            refine J_if_eq C 187 dX6_takesAll_180 (by decide) (fun hcr => ?_) (fun hcr => ?_)
                            · skip
                              refine J_iconst C (0) dX6_takesAll_187 ic_0 ?_
                              refine J_istore_2 C dX6_takesAll_188 (by decide) trivial ?_
                              refine J_iload_2 C dX6_takesAll_189 ?_
                              refine J_if_ne C 195 dX6_takesAll_190 (by decide) (fun hc => absurd rfl hc) (fun _ => ?_)
                              first
                              | (have hri2 := hri
                                 have hcr2 := hcr
                                 obtain ⟨e, e1, e2, e3⟩ := hri2.resolve_left (fun ⟨_, _, _, z, _⟩ => absurd (z.symm.trans hcr2) (by decide))
                                 exact cutBad _ _ _ e e1 e3 hFi)
                              | (have hz : ¬ g2 4825 = 1 := hc53
                                 exact cutBad _ _ _ p (item_bad (tK_nlet fun z => hz (by rw [n2, kEnd_1.mpr z]; rfl))) n1 FrQ.rf)
                              | (have hz := hc172
                                 have hn5 : ¬ spB b p (eoT n b p) (chS.getD 5 []) = true := fun z => hz (by rw [n3, (vEnd_L hlt hL).1, cmp_e]; exact (hw_5 hlt hL).mpr z)
                                 exact cutBad _ _ _ p (item_bad (by rw [tK_let hlt hL]; unfold wdN; rw [if_neg hn0, if_neg hn1, if_neg hn2, if_neg hn3, if_neg hn4, if_neg hn5]; decide)) n1 FrQ.rf)
                            · skip
                              refine J_iconst C (1) dX6_takesAll_183 ic_1 ?_
                              refine J_goto C 188 dX6_takesAll_184 (by decide) ?_
                              refine J_istore_2 C dX6_takesAll_188 (by decide) trivial ?_
                              refine J_iload_2 C dX6_takesAll_189 ?_
                              refine J_if_ne C 195 dX6_takesAll_190 (by decide) (fun _ => ?_) (fun hc => absurd hc (by decide))
                              obtain ⟨s', p', e1, e2, e3, e4⟩ := hri.resolve_right (fun ⟨_, _, z, _⟩ => hcr z)
                              exact cutOK _ _ _ s' p' e1 e3 e4 hFi
                        · skip
                          have hy4 : spB b p (eoT n b p) (chS.getD 4 []) = true := by
                            rw [n3, (vEnd_L hlt hL).1, cmp_e] at hc150
                            exact (hw_4 hlt hL).mp hc150
                          have htk : tKn n b p = 8 := (by rw [tK_let hlt hL]; unfold wdN; rw [if_neg hn0]; rw [if_neg hn1]; rw [if_neg hn2]; rw [if_neg hn3]; rw [if_pos hy4])
                          refine J_aload_0 C dX6_takesAll_153 ?_
                          refine J_iconst C (2) dX6_takesAll_154 ic_2 ?_
                          refine G_vti C dX6_takesAll_155 (c_X6_takesTold E hM0 _ _ _ _ n b s p hXk n5 hOk hAk n1 2 (by decide)) gX6_takesAll_X6_takesTold rfl dm_X6_takesTold rfl rfl (hS _ (by decide)) rfl rfl (Nat.le_of_ble_eq_true rfl) (rmOK_b rfl) (fun r155 g155 h155 T155 L155 hp155 => ?_)
                          obtain ⟨⟨hFi, hri⟩, rfl⟩ := hp155
                          have hit : itemS n b s p = onceS n b s 2 p := item_k htk
                          rw [← hit] at hri
                          refine J_if_eq C 187 dX6_takesAll_158 (by decide) (fun hcr => ?_) (fun hcr => ?_)
                          · skip
                            refine J_iconst C (0) dX6_takesAll_187 ic_0 ?_
                            refine J_istore_2 C dX6_takesAll_188 (by decide) trivial ?_
                            refine J_iload_2 C dX6_takesAll_189 ?_
                            refine J_if_ne C 195 dX6_takesAll_190 (by decide) (fun hc => absurd rfl hc) (fun _ => ?_)
                            first
                            | (have hri2 := hri
                               have hcr2 := hcr
                               obtain ⟨e, e1, e2, e3⟩ := hri2.resolve_left (fun ⟨_, _, _, z, _⟩ => absurd (z.symm.trans hcr2) (by decide))
                               exact cutBad _ _ _ e e1 e3 hFi)
                            | (have hz : ¬ g2 4825 = 1 := hc53
                               exact cutBad _ _ _ p (item_bad (tK_nlet fun z => hz (by rw [n2, kEnd_1.mpr z]; rfl))) n1 FrQ.rf)
                            | (have hz := hc172
                               have hn5 : ¬ spB b p (eoT n b p) (chS.getD 5 []) = true := fun z => hz (by rw [n3, (vEnd_L hlt hL).1, cmp_e]; exact (hw_5 hlt hL).mpr z)
                               exact cutBad _ _ _ p (item_bad (by rw [tK_let hlt hL]; unfold wdN; rw [if_neg hn0, if_neg hn1, if_neg hn2, if_neg hn3, if_neg hn4, if_neg hn5]; decide)) n1 FrQ.rf)
                          · skip
                            refine J_goto C 183 dX6_takesAll_161 (by decide) ?_
                            refine J_iconst C (1) dX6_takesAll_183 ic_1 ?_
                            refine J_goto C 188 dX6_takesAll_184 (by decide) ?_
                            refine J_istore_2 C dX6_takesAll_188 (by decide) trivial ?_
                            refine J_iload_2 C dX6_takesAll_189 ?_
                            refine J_if_ne C 195 dX6_takesAll_190 (by decide) (fun _ => ?_) (fun hc => absurd hc (by decide))
                            obtain ⟨s', p', e1, e2, e3, e4⟩ := hri.resolve_right (fun ⟨_, _, z, _⟩ => hcr z)
                            exact cutOK _ _ _ s' p' e1 e3 e4 hFi
                      · skip
                        have hy3 : spB b p (eoT n b p) (chS.getD 3 []) = true := by
                          rw [n3, (vEnd_L hlt hL).1, cmp_e] at hc128
                          exact (hw_3 hlt hL).mp hc128
                        have htk : tKn n b p = 7 := (by rw [tK_let hlt hL]; unfold wdN; rw [if_neg hn0]; rw [if_neg hn1]; rw [if_neg hn2]; rw [if_pos hy3])
                        refine J_aload_0 C dX6_takesAll_131 ?_
                        refine J_iconst C (1) dX6_takesAll_132 ic_1 ?_
                        refine G_vti C dX6_takesAll_133 (c_X6_takesTold E hM0 _ _ _ _ n b s p hXk n5 hOk hAk n1 1 (by decide)) gX6_takesAll_X6_takesTold rfl dm_X6_takesTold rfl rfl (hS _ (by decide)) rfl rfl (Nat.le_of_ble_eq_true rfl) (rmOK_b rfl) (fun r133 g133 h133 T133 L133 hp133 => ?_)
                        obtain ⟨⟨hFi, hri⟩, rfl⟩ := hp133
                        have hit : itemS n b s p = onceS n b s 1 p := item_k htk
                        rw [← hit] at hri
                        refine J_if_eq C 187 dX6_takesAll_136 (by decide) (fun hcr => ?_) (fun hcr => ?_)
                        · skip
                          refine J_iconst C (0) dX6_takesAll_187 ic_0 ?_
                          refine J_istore_2 C dX6_takesAll_188 (by decide) trivial ?_
                          refine J_iload_2 C dX6_takesAll_189 ?_
                          refine J_if_ne C 195 dX6_takesAll_190 (by decide) (fun hc => absurd rfl hc) (fun _ => ?_)
                          first
                          | (have hri2 := hri
                             have hcr2 := hcr
                             obtain ⟨e, e1, e2, e3⟩ := hri2.resolve_left (fun ⟨_, _, _, z, _⟩ => absurd (z.symm.trans hcr2) (by decide))
                             exact cutBad _ _ _ e e1 e3 hFi)
                          | (have hz : ¬ g2 4825 = 1 := hc53
                             exact cutBad _ _ _ p (item_bad (tK_nlet fun z => hz (by rw [n2, kEnd_1.mpr z]; rfl))) n1 FrQ.rf)
                          | (have hz := hc172
                             have hn5 : ¬ spB b p (eoT n b p) (chS.getD 5 []) = true := fun z => hz (by rw [n3, (vEnd_L hlt hL).1, cmp_e]; exact (hw_5 hlt hL).mpr z)
                             exact cutBad _ _ _ p (item_bad (by rw [tK_let hlt hL]; unfold wdN; rw [if_neg hn0, if_neg hn1, if_neg hn2, if_neg hn3, if_neg hn4, if_neg hn5]; decide)) n1 FrQ.rf)
                        · skip
                          refine J_goto C 183 dX6_takesAll_139 (by decide) ?_
                          refine J_iconst C (1) dX6_takesAll_183 ic_1 ?_
                          refine J_goto C 188 dX6_takesAll_184 (by decide) ?_
                          refine J_istore_2 C dX6_takesAll_188 (by decide) trivial ?_
                          refine J_iload_2 C dX6_takesAll_189 ?_
                          refine J_if_ne C 195 dX6_takesAll_190 (by decide) (fun _ => ?_) (fun hc => absurd hc (by decide))
                          obtain ⟨s', p', e1, e2, e3, e4⟩ := hri.resolve_right (fun ⟨_, _, z, _⟩ => hcr z)
                          exact cutOK _ _ _ s' p' e1 e3 e4 hFi
                    · skip
                      have hy2 : spB b p (eoT n b p) (chS.getD 2 []) = true := by
                        rw [n3, (vEnd_L hlt hL).1, cmp_e] at hc106
                        exact (hw_2 hlt hL).mp hc106
                      have htk : tKn n b p = 6 := (by rw [tK_let hlt hL]; unfold wdN; rw [if_neg hn0]; rw [if_neg hn1]; rw [if_pos hy2])
                      refine J_aload_0 C dX6_takesAll_109 ?_
                      refine J_iconst C (0) dX6_takesAll_110 ic_0 ?_
                      refine G_vti C dX6_takesAll_111 (c_X6_takesTold E hM0 _ _ _ _ n b s p hXk n5 hOk hAk n1 0 (by decide)) gX6_takesAll_X6_takesTold rfl dm_X6_takesTold rfl rfl (hS _ (by decide)) rfl rfl (Nat.le_of_ble_eq_true rfl) (rmOK_b rfl) (fun r111 g111 h111 T111 L111 hp111 => ?_)
                      obtain ⟨⟨hFi, hri⟩, rfl⟩ := hp111
                      have hit : itemS n b s p = onceS n b s 0 p := item_k htk
                      rw [← hit] at hri
                      refine J_if_eq C 187 dX6_takesAll_114 (by decide) (fun hcr => ?_) (fun hcr => ?_)
                      · skip
                        refine J_iconst C (0) dX6_takesAll_187 ic_0 ?_
                        refine J_istore_2 C dX6_takesAll_188 (by decide) trivial ?_
                        refine J_iload_2 C dX6_takesAll_189 ?_
                        refine J_if_ne C 195 dX6_takesAll_190 (by decide) (fun hc => absurd rfl hc) (fun _ => ?_)
                        first
                        | (have hri2 := hri
                           have hcr2 := hcr
                           obtain ⟨e, e1, e2, e3⟩ := hri2.resolve_left (fun ⟨_, _, _, z, _⟩ => absurd (z.symm.trans hcr2) (by decide))
                           exact cutBad _ _ _ e e1 e3 hFi)
                        | (have hz : ¬ g2 4825 = 1 := hc53
                           exact cutBad _ _ _ p (item_bad (tK_nlet fun z => hz (by rw [n2, kEnd_1.mpr z]; rfl))) n1 FrQ.rf)
                        | (have hz := hc172
                           have hn5 : ¬ spB b p (eoT n b p) (chS.getD 5 []) = true := fun z => hz (by rw [n3, (vEnd_L hlt hL).1, cmp_e]; exact (hw_5 hlt hL).mpr z)
                           exact cutBad _ _ _ p (item_bad (by rw [tK_let hlt hL]; unfold wdN; rw [if_neg hn0, if_neg hn1, if_neg hn2, if_neg hn3, if_neg hn4, if_neg hn5]; decide)) n1 FrQ.rf)
                      · skip
                        refine J_goto C 183 dX6_takesAll_117 (by decide) ?_
                        refine J_iconst C (1) dX6_takesAll_183 ic_1 ?_
                        refine J_goto C 188 dX6_takesAll_184 (by decide) ?_
                        refine J_istore_2 C dX6_takesAll_188 (by decide) trivial ?_
                        refine J_iload_2 C dX6_takesAll_189 ?_
                        refine J_if_ne C 195 dX6_takesAll_190 (by decide) (fun _ => ?_) (fun hc => absurd hc (by decide))
                        obtain ⟨s', p', e1, e2, e3, e4⟩ := hri.resolve_right (fun ⟨_, _, z, _⟩ => hcr z)
                        exact cutOK _ _ _ s' p' e1 e3 e4 hFi
                  · skip
                    have hy1 : spB b p (eoT n b p) (chS.getD 1 []) = true := by
                      rw [n3, (vEnd_L hlt hL).1, cmp_e] at hc85
                      exact (hw_1 hlt hL).mp hc85
                    have htk : tKn n b p = 5 := (by rw [tK_let hlt hL]; unfold wdN; rw [if_neg hn0]; rw [if_pos hy1])
                    refine J_aload_0 C dX6_takesAll_88 ?_
                    refine G_vti C dX6_takesAll_89 (c_X6_takesFears E hM0 _ _ _ _ n b s p hXk n5 hOk hAk n1) gX6_takesAll_X6_takesFears rfl dm_X6_takesFears rfl rfl (hS _ (by decide)) rfl rfl (Nat.le_of_ble_eq_true rfl) (rmOK_b rfl) (fun r89 g89 h89 T89 L89 hp89 => ?_)
                    obtain ⟨⟨hFi, hri⟩, rfl⟩ := hp89
                    have hit : itemS n b s p = fearsS n b s p := by unfold itemS; rw [if_neg (by omega), if_pos htk]
                    rw [← hit] at hri
                    refine J_if_eq C 187 dX6_takesAll_92 (by decide) (fun hcr => ?_) (fun hcr => ?_)
                    · skip
                      refine J_iconst C (0) dX6_takesAll_187 ic_0 ?_
                      refine J_istore_2 C dX6_takesAll_188 (by decide) trivial ?_
                      refine J_iload_2 C dX6_takesAll_189 ?_
                      refine J_if_ne C 195 dX6_takesAll_190 (by decide) (fun hc => absurd rfl hc) (fun _ => ?_)
                      first
                      | (have hri2 := hri
                         have hcr2 := hcr
                         obtain ⟨e, e1, e2, e3⟩ := hri2.resolve_left (fun ⟨_, _, _, z, _⟩ => absurd (z.symm.trans hcr2) (by decide))
                         exact cutBad _ _ _ e e1 e3 hFi)
                      | (have hz : ¬ g2 4825 = 1 := hc53
                         exact cutBad _ _ _ p (item_bad (tK_nlet fun z => hz (by rw [n2, kEnd_1.mpr z]; rfl))) n1 FrQ.rf)
                      | (have hz := hc172
                         have hn5 : ¬ spB b p (eoT n b p) (chS.getD 5 []) = true := fun z => hz (by rw [n3, (vEnd_L hlt hL).1, cmp_e]; exact (hw_5 hlt hL).mpr z)
                         exact cutBad _ _ _ p (item_bad (by rw [tK_let hlt hL]; unfold wdN; rw [if_neg hn0, if_neg hn1, if_neg hn2, if_neg hn3, if_neg hn4, if_neg hn5]; decide)) n1 FrQ.rf)
                    · skip
                      refine J_goto C 183 dX6_takesAll_95 (by decide) ?_
                      refine J_iconst C (1) dX6_takesAll_183 ic_1 ?_
                      refine J_goto C 188 dX6_takesAll_184 (by decide) ?_
                      refine J_istore_2 C dX6_takesAll_188 (by decide) trivial ?_
                      refine J_iload_2 C dX6_takesAll_189 ?_
                      refine J_if_ne C 195 dX6_takesAll_190 (by decide) (fun _ => ?_) (fun hc => absurd hc (by decide))
                      obtain ⟨s', p', e1, e2, e3, e4⟩ := hri.resolve_right (fun ⟨_, _, z, _⟩ => hcr z)
                      exact cutOK _ _ _ s' p' e1 e3 e4 hFi
                · skip
                  have hy0 : spB b p (eoT n b p) (chS.getD 0 []) = true := by
                    rw [n3, (vEnd_L hlt hL).1, cmp_e] at hc64
                    exact (hw_0 hlt hL).mp hc64
                  have htk : tKn n b p = 4 := (by rw [tK_let hlt hL]; unfold wdN; rw [if_pos hy0])
                  refine J_aload_0 C dX6_takesAll_67 ?_
                  refine G_vti C dX6_takesAll_68 (c_X6_takesThing E hM0 _ _ _ _ n b s p hXk n5 hOk hAk n1) gX6_takesAll_X6_takesThing rfl dm_X6_takesThing rfl rfl (hS _ (by decide)) rfl rfl (Nat.le_of_ble_eq_true rfl) (rmOK_b rfl) (fun r68 g68 h68 T68 L68 hp68 => ?_)
                  obtain ⟨⟨hFi, hri⟩, rfl⟩ := hp68
                  have hit : itemS n b s p = thingS n b s p := by unfold itemS; rw [if_pos htk]
                  rw [← hit] at hri
                  refine J_if_eq C 187 dX6_takesAll_71 (by decide) (fun hcr => ?_) (fun hcr => ?_)
                  · skip
                    refine J_iconst C (0) dX6_takesAll_187 ic_0 ?_
                    refine J_istore_2 C dX6_takesAll_188 (by decide) trivial ?_
                    refine J_iload_2 C dX6_takesAll_189 ?_
                    refine J_if_ne C 195 dX6_takesAll_190 (by decide) (fun hc => absurd rfl hc) (fun _ => ?_)
                    first
                    | (have hri2 := hri
                       have hcr2 := hcr
                       obtain ⟨e, e1, e2, e3⟩ := hri2.resolve_left (fun ⟨_, _, _, z, _⟩ => absurd (z.symm.trans hcr2) (by decide))
                       exact cutBad _ _ _ e e1 e3 hFi)
                    | (have hz : ¬ g2 4825 = 1 := hc53
                       exact cutBad _ _ _ p (item_bad (tK_nlet fun z => hz (by rw [n2, kEnd_1.mpr z]; rfl))) n1 FrQ.rf)
                    | (have hz := hc172
                       have hn5 : ¬ spB b p (eoT n b p) (chS.getD 5 []) = true := fun z => hz (by rw [n3, (vEnd_L hlt hL).1, cmp_e]; exact (hw_5 hlt hL).mpr z)
                       exact cutBad _ _ _ p (item_bad (by rw [tK_let hlt hL]; unfold wdN; rw [if_neg hn0, if_neg hn1, if_neg hn2, if_neg hn3, if_neg hn4, if_neg hn5]; decide)) n1 FrQ.rf)
                  · skip
                    refine J_goto C 183 dX6_takesAll_74 (by decide) ?_
                    refine J_iconst C (1) dX6_takesAll_183 ic_1 ?_
                    refine J_goto C 188 dX6_takesAll_184 (by decide) ?_
                    refine J_istore_2 C dX6_takesAll_188 (by decide) trivial ?_
                    refine J_iload_2 C dX6_takesAll_189 ?_
                    refine J_if_ne C 195 dX6_takesAll_190 (by decide) (fun _ => ?_) (fun hc => absurd hc (by decide))
                    obtain ⟨s', p', e1, e2, e3, e4⟩ := hri.resolve_right (fun ⟨_, _, z, _⟩ => hcr z)
                    exact cutOK _ _ _ s' p' e1 e3 e4 hFi
        have hj : j = 4 := by
          have h9 : 4 ≤ j := ge_nI (m := 4) (by decide) hc19
          omega
        subst hj
        refine loop2 201 0 _ _ _ _ (by omega) (by omega) ⟨⟨fun k hk => ?_, fun k hk => ?_, fun c hc => hT2 c (by omega)⟩, rs0, nbT n b 0, ⟨rfl, rfl, ?_, rfl, nbT_le (Nat.zero_le _)⟩, ⟨rfl, rfl, fun t ht => absurd ht (by simp [rs0]), fun i hi => hm i hi⟩, rs0_ok, rfl, Nat.zero_le _⟩
        · unfold nxG
          rw [if_neg (by omega), if_neg (by omega), if_neg (by omega)]
          simp only [upd]
          repeat rw [if_neg (by omega)]
        · unfold vp_updL; rw [if_neg hk]
        · simp [vp_updL]
      · skip
        have hj5 : j < 4 := lt_nI (m := 4) (by omega) hc19
        refine J_aload_0 C dX6_takesAll_22 ?_
        refine G6_getr C (n := 61) 31 dX6_takesAll_23 fX6_takesAll_59 iX6_takesAll_6 rfl (hS _ (by decide)) rfl rfl ?_
        refine J_iload_1 C dX6_takesAll_26 ?_
        refine J_iconst C (-1) dX6_takesAll_27 ic_m1 ?_
        refine G_iast C j dX6_takesAll_28 rfl (hS _ (by decide)) rfl (by omega) ?_
        refine J_iinc_1 C (1) dX6_takesAll_29 (by decide) trivial ic_1 ?_
        refine J_goto C 17 dX6_takesAll_32 (by decide) ?_
        rw [nI_1]
        have hj4 : j < 4 := lt_nI (m := 4) (by omega) hc19
        refine ih1 (j + 1) _ (by omega) (by omega) (fun i hi => ?_) (fun c hc => by rw [tU_ne hc]; exact hT2 c hc)
        rw [tU_eq]
        by_cases e : i = j
        · simp [upd, e]
        · simp only [upd, if_neg e]; exact hm i (by omega)
  exact loop1 5 0 T (by omega) (by omega) (fun i hi => by omega) (fun _ _ => rfl)
