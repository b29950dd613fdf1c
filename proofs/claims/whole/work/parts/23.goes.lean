/-! the reference's search, over registers -/
theorem subm (x : Int32) : x - 1 = x + (-1) := Int32.sub_eq_add_neg x 1
def rpM (g : Nat → Int32) (T : Nat → Nat → Int32) (l : List BE) : Prop := g 4834 = nI l.length ∧ (∀ (i : Nat) (e : BE), l[i]? = some e → T 63 i = nI e.1 ∧ T 62 e.1 = nI e.2.1) ∧ (∀ s, s < 256 → bIn l s = false → T 62 s = -1)
def FrM (g g2 : Nat → Int32) (T T2 : Nat → Nat → Int32) : Prop := (∀ k, k ≠ 4834 → g2 k = g k) ∧ (∀ k, k ≠ 62 → k ≠ 63 → T2 k = T k)
theorem FrM.rf {g : Nat → Int32} {T : Nat → Nat → Int32} : FrM g g T T := ⟨fun _ _ => rfl, fun _ _ _ => rfl⟩
theorem FrM.tr {g g2 g3 : Nat → Int32} {T T2 T3 : Nat → Nat → Int32} (h : FrM g g2 T T2) (h2 : FrM g2 g3 T2 T3) : FrM g g3 T T3 := ⟨fun k hk => (h2.1 k hk).trans (h.1 k hk), fun k hk hk2 => (h2.2 k hk hk2).trans (h.2 k hk hk2)⟩
theorem RvM.fr {g g2 : Nat → Int32} {T T2 : Nat → Nat → Int32} {m : Nat} {ρ : Nat → Nat → Nat} (h : RvM g T m ρ) (hF : FrM g g2 T T2) : RvM g2 T2 m ρ := by
  obtain ⟨h1, h2, h3, h4⟩ := h
  refine ⟨h1, ?_, ?_, h4⟩
  · rw [hF.1 4802 (by decide)]; exact h2
  · rw [hF.2 50 (by decide) (by decide), hF.2 51 (by decide) (by decide), hF.2 52 (by decide) (by decide), hF.2 53 (by decide) (by decide)]; exact h3
theorem rpM.add {g : Nat → Int32} {T : Nat → Nat → Int32} {l : List BE} (h : rpM g T l) {t k b n : Nat} (ht : t < 256) (hin : bIn l t = false) : rpM (upd g 4834 (g 4834 + 1)) (va_up (va_up T 62 (upd (T 62) t (nI n))) 63 (upd (T 63) l.length (nI t))) (l ++ [(t, n, k, b)]) := by
  obtain ⟨h1, h2, h3⟩ := h
  refine ⟨?_, ?_, ?_⟩
  · simp only [upd, if_true, h1, List.length_append, List.length_cons, List.length_nil, Nat.zero_add, nI_1]
  · intro i e he
    rcases get_app he with a | ⟨rfl, rfl⟩
    · have hi := get_lt a
      have hne : i ≠ l.length := by omega
      have hne2 : e.1 ≠ t := by
        intro q
        have : bIn l t = true := bIn_iff.mpr ⟨i, e, a, q⟩
        rw [hin] at this
        cases this
      simp [va_up, upd, hne, hne2]
      exact h2 i e a
    · simp [va_up, upd]
  · intro s hs hb
    rw [bIn_app] at hb
    simp at hb
    simp [va_up, upd, Ne.symm hb.2]
    exact h3 s hs hb.1
theorem oI_neg {o : Option Nat} (h : ∀ t, o = some t → t < 256) : oI o < 0 ↔ o = none := by
  cases o with
  | none => exact ⟨fun _ => rfl, fun _ => by decide⟩
  | some t =>
    constructor
    · intro q
      exact absurd q (nI_pos (by have := h t rfl; omega))
    · intro q
      cases q
theorem bStep_adO {c : Nat → Nat → Option Nat} {l : List BE} {k b : Nat} {e : BE} (he : l[k]? = some e) : bStep c l k b = adO l k b (e.2.1 + 1) (c e.1 b) := by
  unfold bStep
  rw [he]
  rfl

abbrev rmX6_goes : Room := { frames := 4, cells := 0, slots := 0, locals := 90 }
theorem fX6_goes_227 : Cond.fieldLink RX6 227 RX6 (TX6 34).2.1 (TX6 34).2.2.1 ∈ wsX6_goes := by decide +kernel
theorem fX6_goes_62 : Cond.fieldLink RX6 62 RX6 (TX6 32).2.1 (TX6 32).2.2.1 ∈ wsX6_goes := by decide +kernel
theorem fX6_goes_65 : Cond.fieldLink RX6 65 RX6 (TX6 33).2.1 (TX6 33).2.2.1 ∈ wsX6_goes := by decide +kernel
theorem fX6_goes_82 : Cond.fieldLink RX6 82 RX6 (TX6 2).2.1 (TX6 2).2.2.1 ∈ wsX6_goes := by decide +kernel
theorem iX6_goes_6 : ∀ x ∈ wsX60, x ∈ wsX6_goes := by decide +kernel
theorem dm_X6_crosses : yX6_crosses.cls = RX6 ∧ yX6_crosses.cls ≠ "java/lang/invoke/MethodHandle" ∧ yX6_crosses.cls ≠ "java/lang/invoke/VarHandle" ∧ (parseMethodDescriptor yX6_crosses.desc).map (fun d => d.parameters.length) = some 3 := by decide +kernel
set_option maxRecDepth 100000 in
set_option maxHeartbeats 4000000 in
theorem c_X6_goes (E : EN) (hM : EM E) (m : Nat) (ρ : Nat → Nat → Nat) (g : Nat → Int32) (h : Nat → Int64) (T : Nat → Nat → Int32) (L : Nat → Nat → Int64) (hR : RvM g T m ρ) (a ld : Nat) (ha : a < 256) (hld : ld < 1000) : GtV E yX6_goes wsX6_goes rmX6_goes [.ref (eA E 48), .int (nI a), .int (nI ld)] g h T L (fun g2 h2 T2 L2 => h2 = h ∧ L2 = L ∧ FrM g g2 T T2 ∧ rpM g2 T2 (bfs (crN m (ρ 2) (ρ 3) ld (2 ^ m - 1)) (2 ^ m) a)) := by
  refine CtV_of (cc := cX6_goes) (nL := 6) RX6 [some (.ref (eA E 48)), some (.int (nI a)), some (.int (nI ld)), none, none, none] ⟨rfl, rfl⟩ (by decide) rfl rfl (Nat.le_of_ble_eq_true rfl) ⟨3, rfl⟩ hM.2 (fun Y hnm C hQ => ?_)
  have hM0 := hM
  obtain ⟨hS, hNN⟩ := hM
  have hm := hR.1
  have h7 := p7 hm
  have hcl : ∀ s b t, s < 256 → b < 2 ^ m → (crN m (ρ 2) (ρ 3) ld (2 ^ m - 1)) s b = some t → t < 256 := fun s b t hs _ h => (crN_lt hm hs h).1
  have hBI : ∀ k, BI (crN m (ρ 2) (ρ 3) ld (2 ^ m - 1)) (2 ^ m) a (bOut (crN m (ρ 2) (ρ 3) ld (2 ^ m - 1)) (2 ^ m) a k) k 0 := BI.out hcl ha
  refine J_iconst C (0) dX6_goes_0 ic_0 ?_
  refine J_istore_3 C dX6_goes_1 (by decide) trivial ?_
  have loop : ∀ (n : Nat) (k : Nat) (T1 : Nat → Nat → Int32), k ≤ 256 → 256 < n + k → (∀ i, i ≠ 62 → T1 i = T i) → (∀ j, j < k → T1 62 j = -1) → J E Y (eN E) 0 0 (wS E g h T1 L) 2 [some (.ref (eA E 48)), some (.int (nI a)), some (.int (nI ld)), some (.int (nI k)), none, none] [] := by
    intro n
    induction n with
    | zero =>
      intro k T1 h1 h2 hT1 hz
      omega
    | succ n ih =>
      intro k T1 h1 h2 hT1 hz
      refine J_iload_3 C dX6_goes_2 ?_
      refine J_sipush C (256) dX6_goes_3 sc_256 ?_
      refine J_icmp_ge C 22 dX6_goes_6 (by decide) (fun hc6 => ?_) (fun hc6 => ?_)
      · skip
        have hk : k = 256 := by
          have := ge_nI (m := 256) (by omega) hc6
          omega
        subst hk
        refine J_aload_0 C dX6_goes_22 ?_
        refine G6_getr C (n := 62) 32 dX6_goes_23 fX6_goes_62 iX6_goes_6 rfl (hS _ (by decide)) rfl rfl ?_
        refine J_iload_1 C dX6_goes_26 ?_
        refine J_iconst C (0) dX6_goes_27 ic_0 ?_
        refine G_iast C a dX6_goes_28 rfl (hS _ (by decide)) rfl ha ?_
        refine J_aload_0 C dX6_goes_29 ?_
        refine G6_getr C (n := 63) 33 dX6_goes_30 fX6_goes_65 iX6_goes_6 rfl (hS _ (by decide)) rfl rfl ?_
        refine J_iconst C (0) dX6_goes_33 ic_0 ?_
        refine J_iload_1 C dX6_goes_34 ?_
        refine G_iast C 0 dX6_goes_35 rfl (hS _ (by decide)) rfl (by omega) ?_
        refine J_aload_0 C dX6_goes_36 ?_
        refine J_iconst C (1) dX6_goes_37 ic_1 ?_
        refine G6_puti C (n := 4834) 34 dX6_goes_38 fX6_goes_227 iX6_goes_6 rfl (hS _ (by decide)) rfl (tyX6_ok 34 (by decide)) rfl rfl ?_
        refine J_iconst C (0) dX6_goes_41 ic_0 ?_
        refine J_istore_3 C dX6_goes_42 (by decide) trivial ?_
        
        have loop2 : ∀ (n2 : Nat) (k : Nat) (g2 : Nat → Int32) (T2 : Nat → Nat → Int32) (x4 x5 : Option Value), k ≤ 256 → 256 < n2 + k → FrM g g2 T T2 → rpM g2 T2 (bOut (crN m (ρ 2) (ρ 3) ld (2 ^ m - 1)) (2 ^ m) a k) → J E Y (eN E) 0 0 (wS E g2 h T2 L) 43 [some (.ref (eA E 48)), some (.int (nI a)), some (.int (nI ld)), some (.int (nI k)), x4, x5] [] := by
          intro n2
          induction n2 with
          | zero =>
            intro k g2 T2 x4 x5 h1 h2 hF hX2
            omega
          | succ n2 ih2 =>
            intro k g2 T2 x4 x5 h1 h2 hF hX2
            
            refine J_iload_3 C dX6_goes_43 ?_
            refine J_aload_0 C dX6_goes_44 ?_
            refine G6_geti C (n := 4834) 34 dX6_goes_45 fX6_goes_227 iX6_goes_6 rfl (hS _ (by decide)) rfl rfl ?_
            refine J_icmp_ge C 148 dX6_goes_48 (by decide) (fun hc48 => ?_) (fun hc48 => ?_)
            · skip
              refine hQ _ _ _ dX6_goes_148 ⟨_, _, _, _, rfl, ?_⟩
              have hend : (bOut (crN m (ρ 2) (ρ 3) ld (2 ^ m - 1)) (2 ^ m) a k).length ≤ k := by
                rw [hX2.1] at hc48
                exact ge_nI (by have := (hBI k).len; omega) hc48
              rw [bOut_end hend h1] at hX2
              exact ⟨rfl, rfl, hF, hX2⟩
            · skip
              have hkl : k < (bOut (crN m (ρ 2) (ρ 3) ld (2 ^ m - 1)) (2 ^ m) a k).length := by
                rw [hX2.1] at hc48
                exact lt_nI (by have := get_lt (hBI 0).1; omega) hc48
              have hk : k < 256 := Nat.lt_of_lt_of_le hkl (hBI k).len
              obtain ⟨e, he⟩ : ∃ e, (bOut (crN m (ρ 2) (ρ 3) ld (2 ^ m - 1)) (2 ^ m) a k)[k]? = some e := ⟨_, List.getElem?_eq_getElem hkl⟩
              have hea := (hBI k).2.2.1 k e he
              refine J_iconst C (0) dX6_goes_51 ic_0 ?_
              refine J_istore_4 C dX6_goes_52 (by decide) trivial ?_
              have loop3 : ∀ (n3 : Nat) (b : Nat) (g3 : Nat → Int32) (T3 : Nat → Nat → Int32) (x5 : Option Value), b ≤ 2 ^ m → 2 ^ m < n3 + b → FrM g g3 T T3 → rpM g3 T3 (bInn (crN m (ρ 2) (ρ 3) ld (2 ^ m - 1)) k (bOut (crN m (ρ 2) (ρ 3) ld (2 ^ m - 1)) (2 ^ m) a k) b) → J E Y (eN E) 0 0 (wS E g3 h T3 L) 54 [some (.ref (eA E 48)), some (.int (nI a)), some (.int (nI ld)), some (.int (nI k)), some (.int (nI b)), x5] [] := by
                intro n3
                induction n3 with
                | zero =>
                  intro b g3 T3 x5 hb1 hb2 hF3 hX3
                  omega
                | succ n3 ih3 =>
                  intro b g3 T3 x5 hb1 hb2 hF3 hX3
                  have hle := bInn_pre (c := (crN m (ρ 2) (ρ 3) ld (2 ^ m - 1))) (k := k) he b
                  have hBb := BI.inn hcl (hBI k) b hb1
                  refine J_iload_4 C dX6_goes_54 ?_
                  refine J_iconst C (1) dX6_goes_56 ic_1 ?_
                  refine J_aload_0 C dX6_goes_57 ?_
                  refine G6_geti C (n := 4802) 2 dX6_goes_58 fX6_goes_82 iX6_goes_6 rfl (hS _ (by decide)) rfl rfl ?_
                  rw [hF3.1 4802 (by decide), hR.2.1]
                  refine J_ishl C dX6_goes_61 ?_
                  rw [nI_sh1 m (by omega)]
                  refine J_icmp_ge C 142 dX6_goes_62 (by decide) (fun hc62 => ?_) (fun hc62 => ?_)
                  · skip
                    have hbl : b = 2 ^ m := by
                      have := ge_nI (by omega) hc62
                      omega
                    subst hbl
                    refine J_iinc_3 C (1) dX6_goes_142 (by decide) trivial ic_1 ?_
                    refine J_goto C 43 dX6_goes_145 (by decide) ?_
                    
                    rw [nI_1]
                    exact ih2 (k + 1) g3 T3 _ _ (by omega) (by omega) hF3 hX3
                  · skip
                    have hbl : b < 2 ^ m := lt_nI (by omega) hc62
                    refine J_aload_0 C dX6_goes_65 ?_
                    refine J_aload_0 C dX6_goes_66 ?_
                    refine G6_getr C (n := 63) 33 dX6_goes_67 fX6_goes_65 iX6_goes_6 rfl (hS _ (by decide)) rfl rfl ?_
                    refine J_iload_3 C dX6_goes_70 ?_
                    refine G_iald C k dX6_goes_71 rfl (hS _ (by decide)) rfl hk ?_
                    rw [(hX3.2.1 k e hle).1]
                    refine J_iload_4 C dX6_goes_72 ?_
                    refine J_iload_2 C dX6_goes_74 ?_
                    refine G_vpi C dX6_goes_75 (c_X6_crosses E hM0 m ρ g3 h T3 L (hR.fr hF3) e.1 b ld hea (by omega) hld) gX6_goes_X6_crosses rfl dm_X6_crosses rfl rfl (hS _ (by decide)) rfl rfl (Nat.le_of_ble_eq_true rfl) (rmOK_b rfl) (fun r75 hr75 => ?_)
                    subst hr75
                    refine J_top (y := oI ((crN m (ρ 2) (ρ 3) ld (2 ^ m - 1)) e.1 b)) rfl ?_
                    have hlt := fun t (ht : (crN m (ρ 2) (ρ 3) ld (2 ^ m - 1)) e.1 b = some t) => (crN_lt hm hea ht).1
                    have hst := bStep_adO (c := (crN m (ρ 2) (ρ 3) ld (2 ^ m - 1))) (b := b) hle
                    refine J_istore_5 C dX6_goes_78 (by decide) trivial ?_
                    refine J_iload_5 C dX6_goes_80 ?_
                    refine J_if_lt C 136 dX6_goes_82 (by decide) (fun hc82 => ?_) (fun hc82 => ?_)
                    · skip
                      refine J_iinc_4 C (1) dX6_goes_136 (by decide) trivial ic_1 ?_
                      refine J_goto C 54 dX6_goes_139 (by decide) ?_
                      rw [nI_1]
                      first
                      | (refine ih3 (b + 1) g3 T3 _ (by omega) (by omega) hF3 ?_
                         show rpM g3 T3 (bStep _ (bInn (crN m (ρ 2) (ρ 3) ld (2 ^ m - 1)) k (bOut (crN m (ρ 2) (ρ 3) ld (2 ^ m - 1)) (2 ^ m) a k) b) k b)
                         rw [hst, (oI_neg hlt).mp hc82]
                         exact hX3)
                      | (refine ih3 (b + 1) g3 T3 _ (by omega) (by omega) hF3 ?_
                         show rpM g3 T3 (bStep _ (bInn (crN m (ρ 2) (ρ 3) ld (2 ^ m - 1)) k (bOut (crN m (ρ 2) (ρ 3) ld (2 ^ m - 1)) (2 ^ m) a k) b) k b)
                         rw [hst, hto]
                         have hin : bIn (bInn (crN m (ρ 2) (ρ 3) ld (2 ^ m - 1)) k (bOut (crN m (ρ 2) (ρ 3) ld (2 ^ m - 1)) (2 ^ m) a k) b) t = true := by
                           cases q : bIn (bInn (crN m (ρ 2) (ρ 3) ld (2 ^ m - 1)) k (bOut (crN m (ρ 2) (ρ 3) ld (2 ^ m - 1)) (2 ^ m) a k) b) t with
                           | true => rfl
                           | false =>
                             rw [hX3.2.2 t ht q] at hc92
                             exact absurd hc92 (by decide)
                         simp only [adO, bAdd, hin, if_true]
                         exact hX3)
                      | (refine ih3 (b + 1) _ _ _ (by omega) (by omega) (hF3.tr ⟨fun i hi => by simp [upd, hi], fun i hi hi2 => by simp [va_up, hi, hi2]⟩) ?_
                         show rpM _ _ (bStep _ (bInn (crN m (ρ 2) (ρ 3) ld (2 ^ m - 1)) k (bOut (crN m (ρ 2) (ρ 3) ld (2 ^ m - 1)) (2 ^ m) a k) b) k b)
                         rw [hst]
                         exact hX3.add ht hin)
                    · skip
                      obtain ⟨t, hto⟩ : ∃ t, (crN m (ρ 2) (ρ 3) ld (2 ^ m - 1)) e.1 b = some t := by
                        cases q : (crN m (ρ 2) (ρ 3) ld (2 ^ m - 1)) e.1 b with
                        | none => exact absurd ((oI_neg hlt).mpr q) hc82
                        | some t => exact ⟨t, rfl⟩
                      rw [hto]
                      have ht := hlt t hto
                      refine J_aload_0 C dX6_goes_85 ?_
                      refine G6_getr C (n := 62) 32 dX6_goes_86 fX6_goes_62 iX6_goes_6 rfl (hS _ (by decide)) rfl rfl ?_
                      refine J_iload_5 C dX6_goes_89 ?_
                      refine G_iald C t dX6_goes_91 rfl (hS _ (by decide)) rfl ht ?_
                      refine J_if_ge C 136 dX6_goes_92 (by decide) (fun hc92 => ?_) (fun hc92 => ?_)
                      · skip
                        refine J_iinc_4 C (1) dX6_goes_136 (by decide) trivial ic_1 ?_
                        refine J_goto C 54 dX6_goes_139 (by decide) ?_
                        rw [nI_1]
                        first
                        | (refine ih3 (b + 1) g3 T3 _ (by omega) (by omega) hF3 ?_
                           show rpM g3 T3 (bStep _ (bInn (crN m (ρ 2) (ρ 3) ld (2 ^ m - 1)) k (bOut (crN m (ρ 2) (ρ 3) ld (2 ^ m - 1)) (2 ^ m) a k) b) k b)
                           rw [hst, (oI_neg hlt).mp hc82]
                           exact hX3)
                        | (refine ih3 (b + 1) g3 T3 _ (by omega) (by omega) hF3 ?_
                           show rpM g3 T3 (bStep _ (bInn (crN m (ρ 2) (ρ 3) ld (2 ^ m - 1)) k (bOut (crN m (ρ 2) (ρ 3) ld (2 ^ m - 1)) (2 ^ m) a k) b) k b)
                           rw [hst, hto]
                           have hin : bIn (bInn (crN m (ρ 2) (ρ 3) ld (2 ^ m - 1)) k (bOut (crN m (ρ 2) (ρ 3) ld (2 ^ m - 1)) (2 ^ m) a k) b) t = true := by
                             cases q : bIn (bInn (crN m (ρ 2) (ρ 3) ld (2 ^ m - 1)) k (bOut (crN m (ρ 2) (ρ 3) ld (2 ^ m - 1)) (2 ^ m) a k) b) t with
                             | true => rfl
                             | false =>
                               rw [hX3.2.2 t ht q] at hc92
                               exact absurd hc92 (by decide)
                           simp only [adO, bAdd, hin, if_true]
                           exact hX3)
                        | (refine ih3 (b + 1) _ _ _ (by omega) (by omega) (hF3.tr ⟨fun i hi => by simp [upd, hi], fun i hi hi2 => by simp [va_up, hi, hi2]⟩) ?_
                           show rpM _ _ (bStep _ (bInn (crN m (ρ 2) (ρ 3) ld (2 ^ m - 1)) k (bOut (crN m (ρ 2) (ρ 3) ld (2 ^ m - 1)) (2 ^ m) a k) b) k b)
                           rw [hst]
                           exact hX3.add ht hin)
                      · skip
                        have hin : bIn (bInn (crN m (ρ 2) (ρ 3) ld (2 ^ m - 1)) k (bOut (crN m (ρ 2) (ρ 3) ld (2 ^ m - 1)) (2 ^ m) a k) b) t = false := by
                          cases q : bIn (bInn (crN m (ρ 2) (ρ 3) ld (2 ^ m - 1)) k (bOut (crN m (ρ 2) (ρ 3) ld (2 ^ m - 1)) (2 ^ m) a k) b) t with
                          | false => rfl
                          | true =>
                            obtain ⟨i, e1, hi1, he1⟩ := bIn_iff.mp q
                            subst he1
                            rw [(hX3.2.1 i e1 hi1).2] at hc92
                            exact absurd (nI_pos' (by have := steps_le hBb i e1 hi1; have := get_lt hi1; have := hBb.len; omega)) hc92
                        rw [hto] at hst
                        simp only [adO, bAdd, hin] at hst
                        have hlen : (bInn (crN m (ρ 2) (ρ 3) ld (2 ^ m - 1)) k (bOut (crN m (ρ 2) (ρ 3) ld (2 ^ m - 1)) (2 ^ m) a k) b).length < 256 := by
                          have := (hBb.step hcl hbl).len
                          rw [hst] at this
                          simp at this
                          omega
                        refine J_aload_0 C dX6_goes_95 ?_
                        refine G6_getr C (n := 62) 32 dX6_goes_96 fX6_goes_62 iX6_goes_6 rfl (hS _ (by decide)) rfl rfl ?_
                        refine J_iload_5 C dX6_goes_99 ?_
                        refine J_aload_0 C dX6_goes_101 ?_
                        refine G6_getr C (n := 62) 32 dX6_goes_102 fX6_goes_62 iX6_goes_6 rfl (hS _ (by decide)) rfl rfl ?_
                        refine J_aload_0 C dX6_goes_105 ?_
                        refine G6_getr C (n := 63) 33 dX6_goes_106 fX6_goes_65 iX6_goes_6 rfl (hS _ (by decide)) rfl rfl ?_
                        refine J_iload_3 C dX6_goes_109 ?_
                        refine G_iald C k dX6_goes_110 rfl (hS _ (by decide)) rfl hk ?_
                        rw [(hX3.2.1 k e hle).1]
                        refine G_iald C e.1 dX6_goes_111 rfl (hS _ (by decide)) rfl hea ?_
                        rw [(hX3.2.1 k e hle).2]
                        refine J_iconst C (1) dX6_goes_112 ic_1 ?_
                        refine J_iadd C dX6_goes_113 ?_
                        rw [nI_1]
                        refine G_iast C t dX6_goes_114 rfl (hS _ (by decide)) rfl ht ?_
                        refine J_aload_0 C dX6_goes_115 ?_
                        refine G6_getr C (n := 63) 33 dX6_goes_116 fX6_goes_65 iX6_goes_6 rfl (hS _ (by decide)) rfl rfl ?_
                        refine J_aload_0 C dX6_goes_119 ?_
                        refine G6_geti C (n := 4834) 34 dX6_goes_120 fX6_goes_227 iX6_goes_6 rfl (hS _ (by decide)) rfl rfl ?_
                        refine J_iload_5 C dX6_goes_123 ?_
                        refine G_iast C (bInn (crN m (ρ 2) (ρ 3) ld (2 ^ m - 1)) k (bOut (crN m (ρ 2) (ρ 3) ld (2 ^ m - 1)) (2 ^ m) a k) b).length dX6_goes_125 rfl (hS _ (by decide)) hX3.1 hlen ?_
                        refine J_aload_0 C dX6_goes_126 ?_
                        refine J_dup C dX6_goes_127 ?_
                        refine G6_geti C (n := 4834) 34 dX6_goes_128 fX6_goes_227 iX6_goes_6 rfl (hS _ (by decide)) rfl rfl ?_
                        refine J_iconst C (1) dX6_goes_131 ic_1 ?_
                        refine J_iadd C dX6_goes_132 ?_
                        refine G6_puti C (n := 4834) 34 dX6_goes_133 fX6_goes_227 iX6_goes_6 rfl (hS _ (by decide)) rfl (tyX6_ok 34 (by decide)) rfl rfl ?_
                        refine J_iinc_4 C (1) dX6_goes_136 (by decide) trivial ic_1 ?_
                        refine J_goto C 54 dX6_goes_139 (by decide) ?_
                        rw [nI_1]
                        first
                        | (refine ih3 (b + 1) g3 T3 _ (by omega) (by omega) hF3 ?_
                           show rpM g3 T3 (bStep _ (bInn (crN m (ρ 2) (ρ 3) ld (2 ^ m - 1)) k (bOut (crN m (ρ 2) (ρ 3) ld (2 ^ m - 1)) (2 ^ m) a k) b) k b)
                           rw [hst, (oI_neg hlt).mp hc82]
                           exact hX3)
                        | (refine ih3 (b + 1) g3 T3 _ (by omega) (by omega) hF3 ?_
                           show rpM g3 T3 (bStep _ (bInn (crN m (ρ 2) (ρ 3) ld (2 ^ m - 1)) k (bOut (crN m (ρ 2) (ρ 3) ld (2 ^ m - 1)) (2 ^ m) a k) b) k b)
                           rw [hst, hto]
                           have hin : bIn (bInn (crN m (ρ 2) (ρ 3) ld (2 ^ m - 1)) k (bOut (crN m (ρ 2) (ρ 3) ld (2 ^ m - 1)) (2 ^ m) a k) b) t = true := by
                             cases q : bIn (bInn (crN m (ρ 2) (ρ 3) ld (2 ^ m - 1)) k (bOut (crN m (ρ 2) (ρ 3) ld (2 ^ m - 1)) (2 ^ m) a k) b) t with
                             | true => rfl
                             | false =>
                               rw [hX3.2.2 t ht q] at hc92
                               exact absurd hc92 (by decide)
                           simp only [adO, bAdd, hin, if_true]
                           exact hX3)
                        | (refine ih3 (b + 1) _ _ _ (by omega) (by omega) (hF3.tr ⟨fun i hi => by simp [upd, hi], fun i hi hi2 => by simp [va_up, hi, hi2]⟩) ?_
                           show rpM _ _ (bStep _ (bInn (crN m (ρ 2) (ρ 3) ld (2 ^ m - 1)) k (bOut (crN m (ρ 2) (ρ 3) ld (2 ^ m - 1)) (2 ^ m) a k) b) k b)
                           rw [hst]
                           exact hX3.add ht hin)
              exact loop3 (2 ^ m + 1) 0 g2 T2 x5 (Nat.zero_le _) (by omega) hF hX2
        refine loop2 257 0 _ _ _ _ (by omega) (by omega) ⟨fun i hi => by simp [upd, hi], fun i hi hi2 => by simp [va_up, hi, hi2]; exact hT1 i hi⟩ ⟨rfl, fun i e he => ?_, fun s hs hb => ?_⟩
        · have : i < 1 := get_lt he
          have i0 : i = 0 := by omega
          subst i0
          cases he
          simp [va_up, upd]
          exact nI_0.symm
        · have hb2 : ¬ s = a := by
            intro q
            subst q
            have : bIn (bOut (crN m (ρ 2) (ρ 3) ld (2 ^ m - 1)) (2 ^ m) s 0) s = true := by simp [bIn, bOut]
            rw [this] at hb
            cases hb
          simp [va_up, upd, hb2]
          exact hz s hs
      · skip
        have hk : k < 256 := lt_nI (m := 256) (by omega) hc6
        refine J_aload_0 C dX6_goes_9 ?_
        refine G6_getr C (n := 62) 32 dX6_goes_10 fX6_goes_62 iX6_goes_6 rfl (hS _ (by decide)) rfl rfl ?_
        refine J_iload_3 C dX6_goes_13 ?_
        refine J_iconst C (-1) dX6_goes_14 ic_m1 ?_
        refine G_iast C k dX6_goes_15 rfl (hS _ (by decide)) rfl hk ?_
        refine J_iinc_3 C (1) dX6_goes_16 (by decide) trivial ic_1 ?_
        refine J_goto C 2 dX6_goes_19 (by decide) ?_
        rw [nI_1]
        refine ih (k + 1) _ (by omega) (by omega) (fun i hi => by simp [va_up, hi]; exact hT1 i hi) (fun j hj => ?_)
        by_cases e : j = k
        · subst e
          simp [va_up, upd]
        · simp [va_up, upd, e]
          exact hz j (by omega)
  exact loop 257 0 T (by omega) (by omega) (fun _ _ => rfl) (fun j hj => by omega)
def stO (l : List BE) (o : Option Nat) : Int32 := match o with
  | some i => nI (l.getD i (0, 0, 0, 0)).2.1
  | none => (-1)
def isFirstGe (P : BE → Prop) (l : List BE) (k : Nat) (o : Option Nat) : Prop := match o with
  | some i => k ≤ i ∧ (∃ e, l[i]? = some e ∧ P e) ∧ ∀ (j : Nat) (e : BE), k ≤ j → j < i → l[j]? = some e → ¬ P e
  | none => ∀ (j : Nat) (e : BE), k ≤ j → l[j]? = some e → ¬ P e
theorem isFirstGe.zero {P : BE → Prop} {l : List BE} {o : Option Nat} (h : isFirstGe P l 0 o) : isFirst P l o := by
  cases o with
  | none => exact fun j e he => h j e (Nat.zero_le _) he
  | some i => exact ⟨h.2.1, fun j e hj he => h.2.2 j e (Nat.zero_le _) hj he⟩
theorem isFirstGe.no {P : BE → Prop} {l : List BE} {o : Option Nat} {k : Nat} {e : BE} (h : isFirstGe P l (k + 1) o) (he : l[k]? = some e) (hp : ¬ P e) : isFirstGe P l k o := by
  cases o with
  | none =>
    intro j e' hj he'
    by_cases q : j = k
    · subst q
      rw [he] at he'
      cases he'
      exact hp
    · exact h j e' (by omega) he'
  | some i =>
    obtain ⟨h1, h2, h3⟩ := h
    refine ⟨by omega, h2, fun j e' hj hji he' => ?_⟩
    by_cases q : j = k
    · subst q
      rw [he] at he'
      cases he'
      exact hp
    · exact h3 j e' (by omega) hji he'

abbrev rmX6_doneFrom : Room := { frames := 5, cells := 0, slots := 0, locals := 115 }
theorem fX6_doneFrom_227 : Cond.fieldLink RX6 227 RX6 (TX6 34).2.1 (TX6 34).2.2.1 ∈ wsX6_doneFrom := by decide +kernel
theorem fX6_doneFrom_62 : Cond.fieldLink RX6 62 RX6 (TX6 32).2.1 (TX6 32).2.2.1 ∈ wsX6_doneFrom := by decide +kernel
theorem fX6_doneFrom_65 : Cond.fieldLink RX6 65 RX6 (TX6 33).2.1 (TX6 33).2.2.1 ∈ wsX6_doneFrom := by decide +kernel
theorem iX6_doneFrom_6 : ∀ x ∈ wsX60, x ∈ wsX6_doneFrom := by decide +kernel
theorem dm_X6_goes : yX6_goes.cls = RX6 ∧ yX6_goes.cls ≠ "java/lang/invoke/MethodHandle" ∧ yX6_goes.cls ≠ "java/lang/invoke/VarHandle" ∧ (parseMethodDescriptor yX6_goes.desc).map (fun d => d.parameters.length) = some 2 := by decide +kernel
set_option maxRecDepth 100000 in
set_option maxHeartbeats 4000000 in
theorem c_X6_doneFrom (E : EN) (hM : EM E) (m : Nat) (ρ : Nat → Nat → Nat) (g : Nat → Int32) (h : Nat → Int64) (T : Nat → Nat → Int32) (L : Nat → Nat → Int64) (hR : RvM g T m ρ) (a ld : Nat) (ha : a < 256) (hld : ld < 1000) : GtI E yX6_doneFrom wsX6_doneFrom rmX6_doneFrom [.ref (eA E 48), .int (nI a), .int (nI ld)] g h T L (fun r g2 h2 T2 L2 => h2 = h ∧ L2 = L ∧ FrM g g2 T T2 ∧ rpM g2 T2 (bfs (crN m (ρ 2) (ρ 3) ld (2 ^ m - 1)) (2 ^ m) a) ∧ ∃ o, isFirst (fun e => wrN (ρ 0) e.1 m = 0) (bfs (crN m (ρ 2) (ρ 3) ld (2 ^ m - 1)) (2 ^ m) a) o ∧ r = stO (bfs (crN m (ρ 2) (ρ 3) ld (2 ^ m - 1)) (2 ^ m) a) o) := by
  refine CtI_of (cc := cX6_doneFrom) (nL := 5) RX6 [some (.ref (eA E 48)), some (.int (nI a)), some (.int (nI ld)), none, none] ⟨rfl, rfl⟩ (by decide) rfl rfl (Nat.le_of_ble_eq_true rfl) ⟨2, rfl⟩ hM.2 (fun Y C hQ => ?_)
  have hM0 := hM
  obtain ⟨hS, hNN⟩ := hM
  have hm := hR.1
  have h7 := p7 hm
  have hBI := bfs_BI (wt := ρ 2) (fr := ρ 3) (ld := ld) (th := 2 ^ m - 1) hm ha
  obtain ⟨l, hl⟩ : ∃ l, l = bfs (crN m (ρ 2) (ρ 3) ld (2 ^ m - 1)) (2 ^ m) a := ⟨_, rfl⟩
  rw [← hl] at hBI
  refine J_aload_0 C dX6_doneFrom_0 ?_
  refine J_iload_1 C dX6_doneFrom_1 ?_
  refine J_iload_2 C dX6_doneFrom_2 ?_
  refine G_vtv C dX6_doneFrom_3 (c_X6_goes E hM0 m ρ g h T L hR a ld ha hld) gX6_doneFrom_X6_goes rfl dm_X6_goes rfl rfl (hS _ (by decide)) rfl rfl (Nat.le_of_ble_eq_true rfl) (rmOK_b rfl) (fun g3 h3 T3 L3 hp3 => ?_)
  obtain ⟨rfl, rfl, hF, hX⟩ := hp3
  rw [← hl] at hX
  have hR2 := hR.fr hF
  refine J_iconst C (-1) dX6_doneFrom_6 ic_m1 ?_
  refine J_istore_3 C dX6_doneFrom_7 (by decide) trivial ?_
  refine J_aload_0 C dX6_doneFrom_8 ?_
  refine G6_geti C (n := 4834) 34 dX6_doneFrom_9 fX6_doneFrom_227 iX6_doneFrom_6 rfl (hS _ (by decide)) rfl rfl ?_
  refine J_iconst C (1) dX6_doneFrom_12 ic_1 ?_
  refine J_isub C dX6_doneFrom_13 ?_
  rw [hX.1, subm]
  refine J_istore_4 C dX6_doneFrom_14 (by decide) trivial ?_
  have loop : ∀ (n : Nat) (k : Nat) (o : Option Nat), k ≤ l.length → k < n → isFirstGe (fun e => wrN (ρ 0) e.1 m = 0) l k o → J E Y (eN E) 0 0 (wS E g3 h3 T3 L3) 16 [some (.ref (eA E 48)), some (.int (nI a)), some (.int (nI ld)), some (.int (stO l o)), some (.int (nI k + (-1)))] [] := by
    intro n
    induction n with
    | zero =>
      intro k o h1 h2 ho
      omega
    | succ n ih =>
      intro k o h1 h2 ho
      refine J_iload_4 C dX6_doneFrom_16 ?_
      refine J_if_lt C 58 dX6_doneFrom_18 (by decide) (fun hc18 => ?_) (fun hc18 => ?_)
      · skip
        refine J_iload_3 C dX6_doneFrom_58 ?_
        refine hQ _ _ _ _ dX6_doneFrom_59 ⟨_, _, _, _, rfl, ?_⟩
        have hk : k = 0 := by
          cases k with
          | zero => rfl
          | succ k' =>
            rw [pk_m1] at hc18
            exact absurd hc18 (nI_pos (by have := hBI.len; omega))
        subst hk
        rw [← hl]
        exact ⟨rfl, rfl, hF, hX, o, ho.zero, rfl⟩
      · skip
        obtain ⟨k, rfl⟩ : ∃ k', k = k' + 1 := by
          cases k with
          | zero => exact absurd (by decide) hc18
          | succ k' => exact ⟨k', rfl⟩
        rw [pk_m1]
        obtain ⟨e, he⟩ : ∃ e, l[k]? = some e := ⟨_, List.getElem?_eq_getElem (by omega)⟩
        have hea := hBI.2.2.1 k e he
        have hlen := hBI.len
        refine J_aload_0 C dX6_doneFrom_21 ?_
        refine J_aload_0 C dX6_doneFrom_22 ?_
        refine G6_getr C (n := 63) 33 dX6_doneFrom_23 fX6_doneFrom_65 iX6_doneFrom_6 rfl (hS _ (by decide)) rfl rfl ?_
        refine J_iload_4 C dX6_doneFrom_26 ?_
        refine G_iald C k dX6_doneFrom_28 rfl (hS _ (by decide)) rfl (by omega) ?_
        rw [(hX.2.1 k e he).1]
        refine G_vpi C dX6_doneFrom_29 (c_X6_wrongOf E hM0 m ρ g3 h3 T3 L3 hR2 e.1 hea) gX6_doneFrom_X6_wrongOf rfl dm_X6_wrongOf rfl rfl (hS _ (by decide)) rfl rfl (Nat.le_of_ble_eq_true rfl) (rmOK_b rfl) (fun r29 hr29 => ?_)
        subst hr29
        refine J_if_ne C 50 dX6_doneFrom_32 (by decide) (fun hc32 => ?_) (fun hc32 => ?_)
        · skip
          refine J_iload_3 C dX6_doneFrom_50 ?_
          refine J_istore_3 C dX6_doneFrom_51 (by decide) trivial ?_
          refine J_iinc_4 C (-1) dX6_doneFrom_52 (by decide) trivial ic_m1 ?_
          refine J_goto C 16 dX6_doneFrom_55 (by decide) ?_
          rw [nI_z (by have := wrN_lt (wa := ρ 0) (a := e.1) (m := m); omega)] at hc32
          first
          | exact ih k o (by omega) (by omega) (ho.no he hc32)
          | (have e9 : nI e.2.1 = stO l (some k) := by
               show _ = nI (l.getD k (0, 0, 0, 0)).2.1
               rw [getD_of he]
             rw [e9]
             exact ih k (some k) (by omega) (by omega) ⟨Nat.le_refl _, ⟨e, he, hc32⟩, fun j e' h1 h2 _ => by omega⟩)
        · skip
          refine J_aload_0 C dX6_doneFrom_35 ?_
          refine G6_getr C (n := 62) 32 dX6_doneFrom_36 fX6_doneFrom_62 iX6_doneFrom_6 rfl (hS _ (by decide)) rfl rfl ?_
          refine J_aload_0 C dX6_doneFrom_39 ?_
          refine G6_getr C (n := 63) 33 dX6_doneFrom_40 fX6_doneFrom_65 iX6_doneFrom_6 rfl (hS _ (by decide)) rfl rfl ?_
          refine J_iload_4 C dX6_doneFrom_43 ?_
          
          refine G_iald C k dX6_doneFrom_45 rfl (hS _ (by decide)) rfl (by omega) ?_
          rw [(hX.2.1 k e he).1]
          refine G_iald C e.1 dX6_doneFrom_46 rfl (hS _ (by decide)) rfl hea ?_
          rw [(hX.2.1 k e he).2]
          refine J_goto C 51 dX6_doneFrom_47 (by decide) ?_
          refine J_istore_3 C dX6_doneFrom_51 (by decide) trivial ?_
          refine J_iinc_4 C (-1) dX6_doneFrom_52 (by decide) trivial ic_m1 ?_
          refine J_goto C 16 dX6_doneFrom_55 (by decide) ?_
          rw [nI_z (by have := wrN_lt (wa := ρ 0) (a := e.1) (m := m); omega)] at hc32
          first
          | exact ih k o (by omega) (by omega) (ho.no he hc32)
          | (have e9 : nI e.2.1 = stO l (some k) := by
               show _ = nI (l.getD k (0, 0, 0, 0)).2.1
               rw [getD_of he]
             rw [e9]
             exact ih k (some k) (by omega) (by omega) ⟨Nat.le_refl _, ⟨e, he, hc32⟩, fun j e' h1 h2 _ => by omega⟩)
  exact loop (l.length + 1) l.length none (by omega) (by omega) (fun j e hj he => absurd (get_lt he) (by omega))
