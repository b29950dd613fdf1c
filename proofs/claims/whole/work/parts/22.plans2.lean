/-! Plans: explore, firstDone, leastRent, setOf -/
theorem steps_mono {c : Nat → Nat → Option Nat} {B s0 k j : Nat} {l : List BE} (h : BI c B s0 l k j) : ∀ (i' i : Nat) (e e' : BE), i ≤ i' → l[i]? = some e → l[i']? = some e' → e.2.1 ≤ e'.2.1 := by
  obtain ⟨h1, h2, h3, h4, h5, h6⟩ := h
  intro i'
  induction i' using Nat.strongRecOn with
  | _ i' ih =>
    intro i e e' hi he he'
    by_cases e0 : i = i'
    · subst e0
      rw [he] at he'
      cases he'
      exact Nat.le_refl _
    · by_cases i0 : i = 0
      · subst i0
        rw [h1] at he
        cases he
        exact Nat.zero_le _
      · obtain ⟨a1, a2, a3, p, a4, a5, a6⟩ := h4 i e he (by omega)
        obtain ⟨b1, b2, b3, p', b4, b5, b6⟩ := h4 i' e' he' (by omega)
        have hl := h5 i i' e e' (by omega) (by omega) he he'
        have hle : e.2.2.1 ≤ e'.2.2.1 := by
          unfold llt at hl
          omega
        have := ih e'.2.2.1 b1 e.2.2.1 p p' hle a4 b4
        omega
def isFirst (P : BE → Prop) (l : List BE) (o : Option Nat) : Prop := match o with
  | some i => (∃ e, l[i]? = some e ∧ P e) ∧ ∀ (j : Nat) (e : BE), j < i → l[j]? = some e → ¬ P e
  | none => ∀ (j : Nat) (e : BE), l[j]? = some e → ¬ P e
theorem isFirst.uni {P : BE → Prop} {l : List BE} {o o' : Option Nat} (h : isFirst P l o) (h' : isFirst P l o') : o = o' := by
  cases o with
  | none => cases o' with
    | none => rfl
    | some i =>
      obtain ⟨⟨e, he, hp⟩, -⟩ := h'
      exact absurd hp (h i e he)
  | some i => cases o' with
    | none =>
      obtain ⟨⟨e, he, hp⟩, -⟩ := h
      exact absurd hp (h' i e he)
    | some i' =>
      obtain ⟨⟨e, he, hp⟩, h2⟩ := h
      obtain ⟨⟨e', he', hp'⟩, h2'⟩ := h'
      rcases Nat.lt_trichotomy i i' with q | q | q
      · exact absurd hp (h2' i e q he)
      · rw [q]
      · exact absurd hp' (h2 i' e' q he')
def frm (l : List BE) (i : Nat) : Nat := (l.getD i (0, 0, 0, 0)).2.2.1
def sts (l : List BE) (i : Nat) : Nat := (l.getD i (0, 0, 0, 0)).2.2.2
theorem getD_of {l : List BE} {i : Nat} {e : BE} (h : l[i]? = some e) : l.getD i (0, 0, 0, 0) = e := by
  rw [List.getD_eq_getElem?_getD, h]; rfl
def anc (l : List BE) (p : Nat) : Nat → Nat
  | 0 => p
  | j + 1 => frm l (anc l p j)
theorem anc_ok {c : Nat → Nat → Option Nat} {B s0 k j : Nat} {l : List BE} (h : BI c B s0 l k j) {p : Nat} {e : BE} (he : l[p]? = some e) : ∀ j, j ≤ e.2.1 → ∃ e', l[anc l p j]? = some e' ∧ e'.2.1 + j = e.2.1
  | 0, _ => ⟨e, he, rfl⟩
  | j + 1, hj => by
    obtain ⟨e', h1, h2⟩ := anc_ok h he j (by omega)
    have h0 : 0 < anc l p j := by
      rcases Nat.eq_zero_or_pos (anc l p j) with q | q
      · rw [q, h.1] at h1
        cases h1
        simp at h2
        omega
      · exact q
    obtain ⟨-, -, -, p', a4, -, a6⟩ := h.2.2.2.1 _ e' h1 h0
    refine ⟨p', ?_, by omega⟩
    show l[frm l (anc l p j)]? = some p'
    unfold frm
    rw [getD_of h1]
    exact a4
theorem steps_le {c : Nat → Nat → Option Nat} {B s0 k j : Nat} {l : List BE} (h : BI c B s0 l k j) : ∀ (i : Nat) (e : BE), l[i]? = some e → e.2.1 ≤ i := by
  intro i
  induction i using Nat.strongRecOn with
  | _ i ih =>
    intro e he
    rcases Nat.eq_zero_or_pos i with q | q
    · subst q
      rw [h.1] at he
      cases he
      exact Nat.le_refl _
    · obtain ⟨a1, -, -, p, a4, -, a6⟩ := h.2.2.2.1 i e he q
      have := ih _ a1 p a4
      omega
theorem bfs_BI {m : Nat} {wt fr : Nat → Nat} {ld th a : Nat} (hm : m ≤ 7) (ha : a < 256) : BI (crN m wt fr ld th) (2 ^ m) a (bfs (crN m wt fr ld th) (2 ^ m) a) 256 0 := BI.out (fun s b t hs _ h => (crN_lt hm hs h).1) ha 256

abbrev rmX1_explore : Room := { frames := 4, cells := 0, slots := 0, locals := 94 }
theorem fX1_explore_30 : Cond.fieldLink RX1 30 RX1 (TX1 5).2.1 (TX1 5).2.2.1 ∈ wsX1_explore := by decide +kernel
theorem fX1_explore_9 : Cond.fieldLink RX1 9 RX1 (TX1 0).2.1 (TX1 0).2.2.1 ∈ wsX1_explore := by decide +kernel
theorem iX1_explore_1 : ∀ x ∈ wsX10, x ∈ wsX1_explore := by decide +kernel
theorem dm_X1_goOn : yX1_goOn.cls = RX1 ∧ yX1_goOn.cls ≠ "java/lang/invoke/MethodHandle" ∧ yX1_goOn.cls ≠ "java/lang/invoke/VarHandle" ∧ (parseMethodDescriptor yX1_goOn.desc).map (fun d => d.parameters.length) = some 4 := by decide +kernel
set_option maxRecDepth 100000 in
set_option maxHeartbeats 4000000 in
theorem c_X1_explore (E : EN) (hM : EM E) (m : Nat) (ρ : Nat → Nat → Nat) (g : Nat → Int32) (h : Nat → Int64) (T : Nat → Nat → Int32) (L : Nat → Nat → Int64) (hR : RvX g T m ρ) (a ld th : Nat) (ha : a < 256) (hld : ld < 1000) : GtV E yX1_explore wsX1_explore rmX1_explore [.ref (eA E 25), .ref (eA E 6), .int (nI a), .int (nI ld), .int (nI th)] g h T L (fun g2 h2 T2 L2 => h2 = h ∧ L2 = L ∧ FrX g g2 T T2 ∧ rpX g2 T2 (bfs (crN m (ρ 2) (ρ 3) ld th) (2 ^ m) a)) := by
  refine CtV_of (cc := cX1_explore) (nL := 6) RX1 [some (.ref (eA E 25)), some (.ref (eA E 6)), some (.int (nI a)), some (.int (nI ld)), some (.int (nI th)), none] ⟨rfl, rfl⟩ (by decide) rfl rfl (Nat.le_of_ble_eq_true rfl) ⟨1, rfl⟩ hM.2 (fun Y hnm C hQ => ?_)
  have hM0 := hM
  obtain ⟨hS, hNN⟩ := hM
  have hm := hR.1
  have hBI : ∀ k, BI (crN m (ρ 2) (ρ 3) ld th) (2 ^ m) a (bOut (crN m (ρ 2) (ρ 3) ld th) (2 ^ m) a k) k 0 := BI.out (fun s b t hs _ h => (crN_lt hm hs h).1) ha
  refine J_aload_0 C dX1_explore_0 ?_
  refine J_iconst C (0) dX1_explore_1 ic_0 ?_
  refine G1_puti C (n := 2500) 0 dX1_explore_2 fX1_explore_9 iX1_explore_1 rfl (hS _ (by decide)) rfl (tyX1_ok 0 (by decide)) rfl rfl ?_
  refine J_iconst C (0) dX1_explore_5 ic_0 ?_
  refine J_istore_5 C dX1_explore_6 (by decide) trivial ?_
  have loop : ∀ (n : Nat) (k : Nat) (T1 : Nat → Nat → Int32), k ≤ 256 → 256 < n + k → (∀ i, i ≠ 30 → T1 i = T i) → (∀ j, j < k → T1 30 j = 0) → J E Y (eN E) 0 0 (wS E (upd g 2500 0) h T1 L) 8 [some (.ref (eA E 25)), some (.ref (eA E 6)), some (.int (nI a)), some (.int (nI ld)), some (.int (nI th)), some (.int (nI k))] [] := by
    intro n
    induction n with
    | zero =>
      intro k T1 h1 h2 hT1 hz
      omega
    | succ n ih =>
      intro k T1 h1 h2 hT1 hz
      refine J_iload_5 C dX1_explore_8 ?_
      refine J_sipush C (256) dX1_explore_10 sc_256 ?_
      refine J_icmp_ge C 30 dX1_explore_13 (by decide) (fun hc13 => ?_) (fun hc13 => ?_)
      · skip
        have hk : k = 256 := by
          have := ge_nI (m := 256) (by omega) hc13
          omega
        subst hk
        have hX0 : rpX (upd g 2500 0) T1 [] := by
          refine ⟨rfl, fun i e he => by simp at he, fun s hs => ?_⟩
          rw [hz s hs]
          rfl
        have hF0 : FrX g (upd g 2500 0) T T1 := ⟨fun i hi => by simp [upd, hi], fun i hi => hT1 i (by omega)⟩
        refine J_aload_0 C dX1_explore_30 ?_
        refine J_iload_2 C dX1_explore_31 ?_
        refine J_iconst C (0) dX1_explore_32 ic_0 ?_
        refine J_iconst C (0) dX1_explore_33 ic_0 ?_
        refine J_iconst C (0) dX1_explore_34 ic_0 ?_
        refine G_vtv C dX1_explore_35 (c_X1_add E hM0 (upd g 2500 0) h T1 L [] hX0 (some a) 0 0 0 (fun t ht => by cases ht; exact ha) (fun t ht hin => by simp)) gX1_explore_X1_add rfl dm_X1_add rfl rfl (hS _ (by decide)) rfl rfl (Nat.le_of_ble_eq_true rfl) (rmOK_b rfl) (fun g35 h35 T35 L35 hp35 => ?_)
        obtain ⟨rfl, rfl, -, -⟩ := id hp35
        refine J_iconst C (0) dX1_explore_38 ic_0 ?_
        refine J_istore_5 C dX1_explore_39 (by decide) trivial ?_
        have loop2 : ∀ (n2 : Nat) (k : Nat) (g2 : Nat → Int32) (T2 : Nat → Nat → Int32), k ≤ 256 → 256 < n2 + k → FrX g g2 T T2 → rpX g2 T2 (bOut (crN m (ρ 2) (ρ 3) ld th) (2 ^ m) a k) → J E Y (eN E) 0 0 (wS E g2 h35 T2 L35) 41 [some (.ref (eA E 25)), some (.ref (eA E 6)), some (.int (nI a)), some (.int (nI ld)), some (.int (nI th)), some (.int (nI k))] [] := by
          intro n2
          induction n2 with
          | zero =>
            intro k g2 T2 h1 h2 hF hX2
            omega
          | succ n2 ih2 =>
            intro k g2 T2 h1 h2 hF hX2
            refine J_iload_5 C dX1_explore_41 ?_
            refine J_sipush C (256) dX1_explore_43 sc_256 ?_
            refine J_icmp_ge C 74 dX1_explore_46 (by decide) (fun hc46 => ?_) (fun hc46 => ?_)
            · skip
              refine hQ _ _ _ dX1_explore_74 ⟨_, _, _, _, rfl, ?_⟩
              have hend : (bOut (crN m (ρ 2) (ρ 3) ld th) (2 ^ m) a k).length ≤ k := by
                first
                | (rw [hX2.1] at hc55
                   exact ge_nI (by have := (hBI k).len; omega) hc55)
                | (have := ge_nI (m := 256) (by omega) hc46
                   have := (hBI k).len
                   omega)
              rw [bOut_end hend h1] at hX2
              exact ⟨rfl, rfl, hF, hX2⟩
            · skip
              have hk : k < 256 := lt_nI (m := 256) (by omega) hc46
              refine J_iload_5 C dX1_explore_49 ?_
              refine J_aload_0 C dX1_explore_51 ?_
              refine G1_geti C (n := 2500) 0 dX1_explore_52 fX1_explore_9 iX1_explore_1 rfl (hS _ (by decide)) rfl rfl ?_
              refine J_icmp_ge C 74 dX1_explore_55 (by decide) (fun hc55 => ?_) (fun hc55 => ?_)
              · skip
                refine hQ _ _ _ dX1_explore_74 ⟨_, _, _, _, rfl, ?_⟩
                have hend : (bOut (crN m (ρ 2) (ρ 3) ld th) (2 ^ m) a k).length ≤ k := by
                  first
                  | (rw [hX2.1] at hc55
                     exact ge_nI (by have := (hBI k).len; omega) hc55)
                  | (have := ge_nI (m := 256) (by omega) hc46
                     have := (hBI k).len
                     omega)
                rw [bOut_end hend h1] at hX2
                exact ⟨rfl, rfl, hF, hX2⟩
              · skip
                have hkl : k < (bOut (crN m (ρ 2) (ρ 3) ld th) (2 ^ m) a k).length := by
                  rw [hX2.1] at hc55
                  exact lt_nI (by omega) hc55
                obtain ⟨e, he⟩ : ∃ e, (bOut (crN m (ρ 2) (ρ 3) ld th) (2 ^ m) a k)[k]? = some e := ⟨_, List.getElem?_eq_getElem hkl⟩
                refine J_aload_0 C dX1_explore_58 ?_
                refine J_aload_1 C dX1_explore_59 ?_
                refine J_iload_5 C dX1_explore_60 ?_
                refine J_iload_3 C dX1_explore_62 ?_
                refine J_iload_4 C dX1_explore_63 ?_
                refine G_vtv C dX1_explore_65 (c_X1_goOn E hM0 m ρ g2 h35 T2 L35 (hR.fr hF) _ hX2 k ld th a hld e he (hBI k)) gX1_explore_X1_goOn rfl dm_X1_goOn rfl rfl (hS _ (by decide)) rfl rfl (Nat.le_of_ble_eq_true rfl) (rmOK_b rfl) (fun g65 h65 T65 L65 hp65 => ?_)
                refine J_iinc_5 C (1) dX1_explore_68 (by decide) trivial ic_1 ?_
                refine J_goto C 41 dX1_explore_71 (by decide) ?_
                obtain ⟨rfl, rfl, hF3, hX3⟩ := hp65
                rw [nI_1]
                exact ih2 (k + 1) g65 T65 (by omega) (by omega) (hF.tr hF3) hX3
        exact loop2 257 0 g35 T35 (by omega) (by omega) (hF0.tr hp35.2.2.1) hp35.2.2.2
      · skip
        have hk : k < 256 := lt_nI (m := 256) (by omega) hc13
        refine J_aload_0 C dX1_explore_16 ?_
        refine G1_getr C (n := 30) 5 dX1_explore_17 fX1_explore_30 iX1_explore_1 rfl (hS _ (by decide)) rfl rfl ?_
        refine J_iload_5 C dX1_explore_20 ?_
        refine J_iconst C (0) dX1_explore_22 ic_0 ?_
        refine G_zast C k dX1_explore_23 rfl (hS _ (by decide)) rfl hk rfl ?_
        refine J_iinc_5 C (1) dX1_explore_24 (by decide) trivial ic_1 ?_
        refine J_goto C 8 dX1_explore_27 (by decide) ?_
        rw [nI_1]
        refine ih (k + 1) _ (by omega) (by omega) (fun i hi => by simp [va_up, hi]; exact hT1 i hi) (fun j hj => ?_)
        by_cases e : j = k
        · subst e
          simp [va_up, upd]
        · simp [va_up, upd, e]
          exact hz j (by omega)
  exact loop 257 0 T (by omega) (by omega) (fun _ _ => rfl) (fun j hj => by omega)
abbrev rmX1_firstDone : Room := { frames := 1, cells := 0, slots := 0, locals := 21 }
theorem fX1_firstDone_17 : Cond.fieldLink RX1 17 RX1 (TX1 1).2.1 (TX1 1).2.2.1 ∈ wsX1_firstDone := by decide +kernel
theorem fX1_firstDone_9 : Cond.fieldLink RX1 9 RX1 (TX1 0).2.1 (TX1 0).2.2.1 ∈ wsX1_firstDone := by decide +kernel
theorem iX1_firstDone_1 : ∀ x ∈ wsX10, x ∈ wsX1_firstDone := by decide +kernel
set_option maxRecDepth 100000 in
set_option maxHeartbeats 4000000 in
theorem c_X1_firstDone (E : EN) (hM : EM E) (m : Nat) (ρ : Nat → Nat → Nat) (g : Nat → Int32) (h : Nat → Int64) (T : Nat → Nat → Int32) (L : Nat → Nat → Int64) (hR : RvX g T m ρ) (l : List BE) (hX : rpX g T l) (hlen : l.length ≤ 256) (hs : ∀ (i : Nat) (e : BE), l[i]? = some e → e.1 < 256) (th : Nat) : GpI E yX1_firstDone wsX1_firstDone rmX1_firstDone [.ref (eA E 25), .ref (eA E 6), .int (nI th)] g h T L (fun r => ∃ o, r = oI o ∧ isFirst (fun e => wrN (ρ 0) e.1 m &&& th = 0) l o) := by
  refine CtI_of (cc := cX1_firstDone) (nL := 4) RX1 [some (.ref (eA E 25)), some (.ref (eA E 6)), some (.int (nI th)), none] ⟨rfl, rfl⟩ (by decide) rfl rfl (Nat.le_of_ble_eq_true rfl) ⟨1, rfl⟩ hM.2 (fun Y C hQ => ?_)
  have hM0 := hM
  obtain ⟨hS, hNN⟩ := hM
  have hm := hR.1
  have h7 := p7 hm
  refine J_iconst C (0) dX1_firstDone_0 ic_0 ?_
  refine J_istore_3 C dX1_firstDone_1 (by decide) trivial ?_
  have loop : ∀ (n : Nat) (k : Nat), k ≤ l.length → l.length < n + k → (∀ (j : Nat) (e : BE), j < k → l[j]? = some e → ¬ wrN (ρ 0) e.1 m &&& th = 0) → J E Y (eN E) 0 0 (wS E g h T L) 2 [some (.ref (eA E 25)), some (.ref (eA E 6)), some (.int (nI th)), some (.int (nI k))] [] := by
    intro n
    induction n with
    | zero =>
      intro k h1 h2 hno
      omega
    | succ n ih =>
      intro k h1 h2 hno
      refine J_iload_3 C dX1_firstDone_2 ?_
      refine J_aload_0 C dX1_firstDone_3 ?_
      refine G1_geti C (n := 2500) 0 dX1_firstDone_4 fX1_firstDone_9 iX1_firstDone_1 rfl (hS _ (by decide)) rfl rfl ?_
      refine J_icmp_ge C 33 dX1_firstDone_7 (by decide) (fun hc7 => ?_) (fun hc7 => ?_)
      · skip
        refine J_iconst C (-1) dX1_firstDone_33 ic_m1 ?_
        refine hQ _ _ _ _ dX1_firstDone_34 ⟨rfl, ?_⟩
        have hk : l.length ≤ k := by
          rw [hX.1] at hc7
          exact ge_nI (by omega) hc7
        exact ⟨none, rfl, fun j e he => hno j e (by have := get_lt he; omega) he⟩
      · skip
        have hkl : k < l.length := by
          rw [hX.1] at hc7
          exact lt_nI (by omega) hc7
        obtain ⟨e, he⟩ : ∃ e, l[k]? = some e := ⟨_, List.getElem?_eq_getElem hkl⟩
        refine J_aload_1 C dX1_firstDone_10 ?_
        refine J_aload_0 C dX1_firstDone_11 ?_
        refine G1_getr C (n := 26) 1 dX1_firstDone_12 fX1_firstDone_17 iX1_firstDone_1 rfl (hS _ (by decide)) rfl rfl ?_
        refine J_iload_3 C dX1_firstDone_15 ?_
        refine G_iald C k dX1_firstDone_16 rfl (hS _ (by decide)) rfl (by have := get_lt he; omega) ?_
        rw [(hX.2.1 k e he).1]
        refine G_vpi C dX1_firstDone_17 (c_X3_wrongOf E hM0 m ρ g h T L hR e.1 (hs k e he)) gX1_firstDone_X3_wrongOf rfl dm_X3_wrongOf rfl rfl (hS _ (by decide)) rfl rfl (Nat.le_of_ble_eq_true rfl) (rmOK_b rfl) (fun r17 hr17 => ?_)
        subst hr17
        refine J_iload_2 C dX1_firstDone_20 ?_
        
        refine J_iand C dX1_firstDone_21 ?_
        rw [nI_and]
        refine J_if_ne C 27 dX1_firstDone_22 (by decide) (fun hc22 => ?_) (fun hc22 => ?_)
        · skip
          refine J_iinc_3 C (1) dX1_firstDone_27 (by decide) trivial ic_1 ?_
          refine J_goto C 2 dX1_firstDone_30 (by decide) ?_
          rw [nI_z (Nat.lt_of_le_of_lt Nat.and_le_left (by have := wrN_lt (wa := ρ 0) (a := e.1) (m := m); omega))] at hc22
          rw [nI_1]
          refine ih (k + 1) (by omega) (by omega) (fun j e' hj he' => ?_)
          by_cases q : j = k
          · subst q
            rw [he] at he'
            cases he'
            exact hc22
          · exact hno j e' (by omega) he'
        · skip
          refine J_iload_3 C dX1_firstDone_25 ?_
          refine hQ _ _ _ _ dX1_firstDone_26 ⟨rfl, ?_⟩
          rw [nI_z (Nat.lt_of_le_of_lt Nat.and_le_left (by have := wrN_lt (wa := ρ 0) (a := e.1) (m := m); omega))] at hc22
          exact ⟨some k, rfl, ⟨e, he, hc22⟩, hno⟩
  exact loop (l.length + 1) 0 (by omega) (by omega) (fun j e hj => by omega)
abbrev rmX1_standingAt : Room := { frames := 0, cells := 0, slots := 0, locals := 0 }
theorem fX1_standingAt_17 : Cond.fieldLink RX1 17 RX1 (TX1 1).2.1 (TX1 1).2.2.1 ∈ wsX1_standingAt := by decide +kernel
theorem fX1_standingAt_9 : Cond.fieldLink RX1 9 RX1 (TX1 0).2.1 (TX1 0).2.2.1 ∈ wsX1_standingAt := by decide +kernel
theorem iX1_standingAt_1 : ∀ x ∈ wsX10, x ∈ wsX1_standingAt := by decide +kernel
set_option maxRecDepth 100000 in
set_option maxHeartbeats 4000000 in
theorem c_X1_standingAt (E : EN) (hM : EM E) (g : Nat → Int32) (h : Nat → Int64) (T : Nat → Nat → Int32) (L : Nat → Nat → Int64) (l : List BE) (hX : rpX g T l) (hlen : l.length ≤ 256) (i : Nat) (e : BE) (he : l[i]? = some e) : GpI E yX1_standingAt wsX1_standingAt rmX1_standingAt [.ref (eA E 25), .int (nI i)] g h T L (fun r => r = nI e.1) := by
  refine CtI_of (cc := cX1_standingAt) (nL := 2) RX1 [some (.ref (eA E 25)), some (.int (nI i))] ⟨rfl, rfl⟩ (by decide) rfl rfl (Nat.le_of_ble_eq_true rfl) ⟨0, rfl⟩ hM.2 (fun Y C hQ => ?_)
  obtain ⟨hS, hNN⟩ := hM
  have hi := get_lt he
  refine J_iload_1 C dX1_standingAt_0 ?_
  refine J_if_lt C 21 dX1_standingAt_1 (by decide) (fun hc => absurd hc (nI_pos (show i < 2 ^ 31 by omega))) (fun hc1 => ?_)
  refine J_iload_1 C dX1_standingAt_4 ?_
  refine J_aload_0 C dX1_standingAt_5 ?_
  refine G1_geti C (n := 2500) 0 dX1_standingAt_6 fX1_standingAt_9 iX1_standingAt_1 rfl (hS _ (by decide)) rfl rfl ?_
  refine J_icmp_ge C 21 dX1_standingAt_9 (by decide) (fun hc => absurd hc (show ¬ g 2500 ≤ nI i by rw [hX.1]; exact nI_ge hi (by omega))) (fun hc9 => ?_)
  refine J_aload_0 C dX1_standingAt_12 ?_
  refine G1_getr C (n := 26) 1 dX1_standingAt_13 fX1_standingAt_17 iX1_standingAt_1 rfl (hS _ (by decide)) rfl rfl ?_
  refine J_iload_1 C dX1_standingAt_16 ?_
  refine G_iald C i dX1_standingAt_17 rfl (hS _ (by decide)) rfl (by omega) ?_
  refine J_goto C 22 dX1_standingAt_18 (by decide) ?_
  refine hQ _ _ _ _ dX1_standingAt_22 ⟨rfl, ?_⟩
  exact (hX.2.1 i e he).1
abbrev rmX1_stepsTo : Room := { frames := 0, cells := 0, slots := 0, locals := 0 }
theorem fX1_stepsTo_21 : Cond.fieldLink RX1 21 RX1 (TX1 2).2.1 (TX1 2).2.2.1 ∈ wsX1_stepsTo := by decide +kernel
theorem fX1_stepsTo_9 : Cond.fieldLink RX1 9 RX1 (TX1 0).2.1 (TX1 0).2.2.1 ∈ wsX1_stepsTo := by decide +kernel
theorem iX1_stepsTo_1 : ∀ x ∈ wsX10, x ∈ wsX1_stepsTo := by decide +kernel
set_option maxRecDepth 100000 in
set_option maxHeartbeats 4000000 in
theorem c_X1_stepsTo (E : EN) (hM : EM E) (g : Nat → Int32) (h : Nat → Int64) (T : Nat → Nat → Int32) (L : Nat → Nat → Int64) (l : List BE) (hX : rpX g T l) (hlen : l.length ≤ 256) (i : Nat) (e : BE) (he : l[i]? = some e) : GpI E yX1_stepsTo wsX1_stepsTo rmX1_stepsTo [.ref (eA E 25), .int (nI i)] g h T L (fun r => r = nI e.2.1) := by
  refine CtI_of (cc := cX1_stepsTo) (nL := 2) RX1 [some (.ref (eA E 25)), some (.int (nI i))] ⟨rfl, rfl⟩ (by decide) rfl rfl (Nat.le_of_ble_eq_true rfl) ⟨0, rfl⟩ hM.2 (fun Y C hQ => ?_)
  obtain ⟨hS, hNN⟩ := hM
  have hi := get_lt he
  refine J_iload_1 C dX1_stepsTo_0 ?_
  refine J_if_lt C 21 dX1_stepsTo_1 (by decide) (fun hc => absurd hc (nI_pos (show i < 2 ^ 31 by omega))) (fun hc1 => ?_)
  refine J_iload_1 C dX1_stepsTo_4 ?_
  refine J_aload_0 C dX1_stepsTo_5 ?_
  refine G1_geti C (n := 2500) 0 dX1_stepsTo_6 fX1_stepsTo_9 iX1_stepsTo_1 rfl (hS _ (by decide)) rfl rfl ?_
  refine J_icmp_ge C 21 dX1_stepsTo_9 (by decide) (fun hc => absurd hc (show ¬ g 2500 ≤ nI i by rw [hX.1]; exact nI_ge hi (by omega))) (fun hc9 => ?_)
  refine J_aload_0 C dX1_stepsTo_12 ?_
  refine G1_getr C (n := 27) 2 dX1_stepsTo_13 fX1_stepsTo_21 iX1_stepsTo_1 rfl (hS _ (by decide)) rfl rfl ?_
  refine J_iload_1 C dX1_stepsTo_16 ?_
  refine G_iald C i dX1_stepsTo_17 rfl (hS _ (by decide)) rfl (by omega) ?_
  refine J_goto C 22 dX1_stepsTo_18 (by decide) ?_
  refine hQ _ _ _ _ dX1_stepsTo_22 ⟨rfl, ?_⟩
  exact (hX.2.1 i e he).2.1
abbrev rmX1_setOf : Room := { frames := 1, cells := 0, slots := 0, locals := 21 }
theorem fX1_setOf_24 : Cond.fieldLink RX1 24 RX1 (TX1 3).2.1 (TX1 3).2.2.1 ∈ wsX1_setOf := by decide +kernel
theorem fX1_setOf_27 : Cond.fieldLink RX1 27 RX1 (TX1 4).2.1 (TX1 4).2.2.1 ∈ wsX1_setOf := by decide +kernel
theorem iX1_setOf_1 : ∀ x ∈ wsX10, x ∈ wsX1_setOf := by decide +kernel
theorem dm_X1_stepsTo : yX1_stepsTo.cls = RX1 ∧ yX1_stepsTo.cls ≠ "java/lang/invoke/MethodHandle" ∧ yX1_stepsTo.cls ≠ "java/lang/invoke/VarHandle" ∧ (parseMethodDescriptor yX1_stepsTo.desc).map (fun d => d.parameters.length) = some 1 := by decide +kernel
theorem bc_m5 : (Int8.ofInt (-5)).toInt32 = (-5) := by decide
set_option maxRecDepth 100000 in
set_option maxHeartbeats 4000000 in
theorem c_X1_setOf (E : EN) (hM : EM E) (g : Nat → Int32) (h : Nat → Int64) (T : Nat → Nat → Int32) (L : Nat → Nat → Int64) (l : List BE) (hX : rpX g T l) (hlen : l.length ≤ 256) {c : Nat → Nat → Option Nat} {B s0 kk jj : Nat} (hB : BI c B s0 l kk jj) (p : Nat) (e : BE) (he : l[p]? = some e) (v : Int32) : GpI E yX1_setOf wsX1_setOf rmX1_setOf [.ref (eA E 25), .int (nI p), .int v] g h T L (fun r => (∃ i, v = nI i ∧ i < e.2.1 ∧ r = nI (sts l (anc l p (e.2.1 - 1 - i)))) ∨ ((v < 0 ∨ nI e.2.1 ≤ v) ∧ r = (-5))) := by
  refine CtI_of (cc := cX1_setOf) (nL := 5) RX1 [some (.ref (eA E 25)), some (.int (nI p)), some (.int v), none, none] ⟨rfl, rfl⟩ (by decide) rfl rfl (Nat.le_of_ble_eq_true rfl) ⟨2, rfl⟩ hM.2 (fun Y C hQ => ?_)
  have hM0 := hM
  obtain ⟨hS, hNN⟩ := hM
  have hp := get_lt he
  have hse := steps_le hB p e he
  refine J_iload_2 C dX1_setOf_0 ?_
  refine J_if_lt C 13 dX1_setOf_1 (by decide) (fun hc1 => ?_) (fun hc1 => ?_)
  · skip
    refine J_bipush C (-5) dX1_setOf_13 bc_m5 ?_
    refine hQ _ _ _ _ dX1_setOf_15 ⟨rfl, ?_⟩
    first
    | exact Or.inr ⟨Or.inl hc1, rfl⟩
    | exact Or.inr ⟨Or.inr (Int32.not_lt.mp hc10), rfl⟩
  · skip
    refine J_iload_2 C dX1_setOf_4 ?_
    refine J_aload_0 C dX1_setOf_5 ?_
    refine J_iload_1 C dX1_setOf_6 ?_
    refine G_vpi C dX1_setOf_7 (c_X1_stepsTo E hM0 g h T L l hX hlen p e he) gX1_setOf_X1_stepsTo rfl dm_X1_stepsTo rfl rfl (hS _ (by decide)) rfl rfl (Nat.le_of_ble_eq_true rfl) (rmOK_b rfl) (fun r7 hr7 => ?_)
    subst hr7
    refine J_icmp_lt C 16 dX1_setOf_10 (by decide) (fun hc10 => ?_) (fun hc10 => ?_)
    · skip
      obtain ⟨i, hi31, rfl⟩ := nI_of hc1
      have hi : i < e.2.1 := (nI_ltI hi31 (by omega)).mp hc10
      refine J_iload_1 C dX1_setOf_16 ?_
      refine J_istore_3 C dX1_setOf_17 (by decide) trivial ?_
      refine J_aload_0 C dX1_setOf_18 ?_
      refine J_iload_1 C dX1_setOf_19 ?_
      refine G_vpi C dX1_setOf_20 (c_X1_stepsTo E hM0 g h T L l hX hlen p e he) gX1_setOf_X1_stepsTo rfl dm_X1_stepsTo rfl rfl (hS _ (by decide)) rfl rfl (Nat.le_of_ble_eq_true rfl) (rmOK_b rfl) (fun r20 hr20 => ?_)
      subst hr20
      refine J_iconst C (1) dX1_setOf_23 ic_1 ?_
      refine J_isub C dX1_setOf_24 ?_
      rw [show (1 : Int32) = nI 1 by decide, pk_sub (by omega)]
      refine J_istore_4 C dX1_setOf_25 (by decide) trivial ?_
      have loop : ∀ (n : Nat) (j : Nat), j + i + 1 ≤ e.2.1 → e.2.1 < n + j + i + 1 → J E Y (eN E) 0 0 (wS E g h T L) 27 [some (.ref (eA E 25)), some (.int (nI p)), some (.int (nI i)), some (.int (nI (anc l p j))), some (.int (nI (e.2.1 - 1 - j)))] [] := by
        intro n
        induction n with
        | zero =>
          intro j h1 h2
          omega
        | succ n ih =>
          intro j h1 h2
          refine J_iload_4 C dX1_setOf_27 ?_
          refine J_iload_2 C dX1_setOf_29 ?_
          refine J_icmp_le C 46 dX1_setOf_30 (by decide) (fun hc30 => ?_) (fun hc30 => ?_)
          · skip
            have hij : e.2.1 - 1 - j ≤ i := (nI_leI (by omega) (by omega)).mp hc30
            obtain ⟨e1, he1, hs1⟩ := anc_ok hB he j (by omega)
            have hl1 := get_lt he1
            refine J_aload_0 C dX1_setOf_46 ?_
            refine G1_getr C (n := 29) 4 dX1_setOf_47 fX1_setOf_27 iX1_setOf_1 rfl (hS _ (by decide)) rfl rfl ?_
            refine J_iload_3 C dX1_setOf_50 ?_
            refine G_iald C (anc l p j) dX1_setOf_51 rfl (hS _ (by decide)) rfl (by omega) ?_
            refine hQ _ _ _ _ dX1_setOf_52 ⟨rfl, ?_⟩
            refine Or.inl ⟨i, rfl, hi, ?_⟩
            rw [(hX.2.1 _ e1 he1).2.2.2, show e.2.1 - 1 - i = j by omega]
            unfold sts
            rw [getD_of he1]
          · skip
            obtain ⟨e1, he1, hs1⟩ := anc_ok hB he j (by omega)
            have hl1 := get_lt he1
            have hij : i < e.2.1 - 1 - j := by
              rcases Nat.lt_or_ge i (e.2.1 - 1 - j) with q | q
              · exact q
              · exact absurd (nI_le q (by omega)) hc30
            refine J_aload_0 C dX1_setOf_33 ?_
            refine G1_getr C (n := 28) 3 dX1_setOf_34 fX1_setOf_24 iX1_setOf_1 rfl (hS _ (by decide)) rfl rfl ?_
            refine J_iload_3 C dX1_setOf_37 ?_
            refine G_iald C (anc l p j) dX1_setOf_38 rfl (hS _ (by decide)) rfl (by omega) ?_
            refine J_istore_3 C dX1_setOf_39 (by decide) trivial ?_
            refine J_iinc_4 C (-1) dX1_setOf_40 (by decide) trivial ic_m1 ?_
            refine J_goto C 27 dX1_setOf_43 (by decide) ?_
            rw [(hX.2.1 _ e1 he1).2.2.1, show (-1 : Int32) = 0 - nI 1 by decide]
            have e9 : nI (e.2.1 - 1 - j) + (0 - nI 1) = nI (e.2.1 - 1 - (j + 1)) := by
              rw [show e.2.1 - 1 - j = (e.2.1 - 1 - (j + 1)) + 1 by omega]
              exact pk_m1 _
            rw [e9]
            have e8 : e1.2.2.1 = anc l p (j + 1) := by
              show _ = frm l (anc l p j)
              unfold frm
              rw [getD_of he1]
            rw [e8]
            exact ih (j + 1) (by omega) (by omega)
      exact loop e.2.1 0 (by omega) (by omega)
    · skip
      refine J_bipush C (-5) dX1_setOf_13 bc_m5 ?_
      refine hQ _ _ _ _ dX1_setOf_15 ⟨rfl, ?_⟩
      first
      | exact Or.inr ⟨Or.inl hc1, rfl⟩
      | exact Or.inr ⟨Or.inr (Int32.not_lt.mp hc10), rfl⟩
def rtE (ρ : Nat → Nat → Nat) (m : Nat) (e : BE) : Nat := wN (ρ 1) (wrN (ρ 0) e.1 m) m
/-- the first of those within so many crossings with the least rent -/
def isLeast (R : BE → Nat) (l : List BE) (most i : Nat) (e : BE) : Prop := l[i]? = some e ∧ e.2.1 ≤ most ∧ ∀ (j : Nat) (e' : BE), l[j]? = some e' → e'.2.1 ≤ most → R e ≤ R e' ∧ (j < i → R e < R e')
abbrev rmX1_leastRent : Room := { frames := 2, cells := 0, slots := 0, locals := 45 }
theorem fX1_leastRent_17 : Cond.fieldLink RX1 17 RX1 (TX1 1).2.1 (TX1 1).2.2.1 ∈ wsX1_leastRent := by decide +kernel
theorem fX1_leastRent_21 : Cond.fieldLink RX1 21 RX1 (TX1 2).2.1 (TX1 2).2.2.1 ∈ wsX1_leastRent := by decide +kernel
theorem fX1_leastRent_9 : Cond.fieldLink RX1 9 RX1 (TX1 0).2.1 (TX1 0).2.2.1 ∈ wsX1_leastRent := by decide +kernel
theorem iX1_leastRent_1 : ∀ x ∈ wsX10, x ∈ wsX1_leastRent := by decide +kernel
theorem dm_X3_rentOf : yX3_rentOf.cls = RX3 ∧ yX3_rentOf.cls ≠ "java/lang/invoke/MethodHandle" ∧ yX3_rentOf.cls ≠ "java/lang/invoke/VarHandle" ∧ (parseMethodDescriptor yX3_rentOf.desc).map (fun d => d.parameters.length) = some 1 := by decide +kernel
set_option maxRecDepth 100000 in
set_option maxHeartbeats 4000000 in
theorem c_X1_leastRent (E : EN) (hM : EM E) (m : Nat) (ρ : Nat → Nat → Nat) (g : Nat → Int32) (h : Nat → Int64) (T : Nat → Nat → Int32) (L : Nat → Nat → Int64) (hR : RvX g T m ρ) (l : List BE) (hX : rpX g T l) (hlen : l.length ≤ 256) {c : Nat → Nat → Option Nat} {B s0 kk jj : Nat} (hB : BI c B s0 l kk jj) (most : Nat) (hmo : most < 1000) : GpI E yX1_leastRent wsX1_leastRent rmX1_leastRent [.ref (eA E 25), .ref (eA E 6), .int (nI most)] g h T L (fun r => ∃ i e, r = nI i ∧ isLeast (rtE ρ m) l most i e) := by
  refine CtI_of (cc := cX1_leastRent) (nL := 5) RX1 [some (.ref (eA E 25)), some (.ref (eA E 6)), some (.int (nI most)), none, none] ⟨rfl, rfl⟩ (by decide) rfl rfl (Nat.le_of_ble_eq_true rfl) ⟨2, rfl⟩ hM.2 (fun Y C hQ => ?_)
  have hM0 := hM
  obtain ⟨hS, hNN⟩ := hM
  have hm := hR.1
  have hs := hB.2.2.1
  have hrb : ∀ e : BE, rtE ρ m e ≤ 7 * 9 := fun e => Nat.le_trans (wN_le (fun t ht => (hR.2.2.2.2.2.2.2.2 t ht).1)) (Nat.mul_le_mul_right 9 hm)
  refine J_iconst C (0) dX1_leastRent_0 ic_0 ?_
  refine J_istore_3 C dX1_leastRent_1 (by decide) trivial ?_
  refine J_iconst C (1) dX1_leastRent_2 ic_1 ?_
  refine J_istore_4 C dX1_leastRent_3 (by decide) trivial ?_
  have loop : ∀ (n : Nat) (k i : Nat) (ei : BE), k ≤ l.length → l.length < n + k → 1 ≤ k → isLeast (rtE ρ m) (l.take k) most i ei → J E Y (eN E) 0 0 (wS E g h T L) 5 [some (.ref (eA E 25)), some (.ref (eA E 6)), some (.int (nI most)), some (.int (nI i)), some (.int (nI k))] [] := by
    intro n
    induction n with
    | zero =>
      intro k i ei h1 h2 h3 hi0
      omega
    | succ n ih =>
      intro k i ei h1 h2 h3 hi0
      have hi1 : l[i]? = some ei ∧ i < k := by
        have h9 := hi0.1
        rw [List.getElem?_take] at h9
        split at h9
        · exact ⟨h9, by assumption⟩
        · cases h9
      refine J_iload_4 C dX1_leastRent_5 ?_
      refine J_aload_0 C dX1_leastRent_7 ?_
      refine G1_geti C (n := 2500) 0 dX1_leastRent_8 fX1_leastRent_9 iX1_leastRent_1 rfl (hS _ (by decide)) rfl rfl ?_
      refine J_icmp_ge C 58 dX1_leastRent_11 (by decide) (fun hc11 => ?_) (fun hc11 => ?_)
      · skip
        refine J_iload_3 C dX1_leastRent_58 ?_
        refine hQ _ _ _ _ dX1_leastRent_59 ⟨rfl, ?_⟩
        refine ⟨i, ei, rfl, hi1.1, hi0.2.1, fun j e' hj hm' => ?_⟩
        by_cases q : j < k
        · exact hi0.2.2 j e' (by rw [List.getElem?_take, if_pos q]; exact hj) hm'
        · exfalso
          have hjl := get_lt hj
          first
          | (have hse' := hsm
             omega)
          | (have hq : most < e.2.1 := by
               rcases Nat.lt_or_ge most e.2.1 with q | q
               · exact q
               · exact absurd hc22 (nI_nlt q (by omega))
             have := steps_mono hB j k e e' (by omega) he hj
             omega)
          | (have : l.length ≤ k := by
               rw [hX.1] at hc11
               exact ge_nI (by omega) hc11
             omega)
      · skip
        have hkl : k < l.length := by
          rw [hX.1] at hc11
          exact lt_nI (by omega) hc11
        obtain ⟨e, he⟩ : ∃ e, l[k]? = some e := ⟨_, List.getElem?_eq_getElem hkl⟩
        have hse := steps_le hB k e he
        refine J_aload_0 C dX1_leastRent_14 ?_
        refine G1_getr C (n := 27) 2 dX1_leastRent_15 fX1_leastRent_21 iX1_leastRent_1 rfl (hS _ (by decide)) rfl rfl ?_
        refine J_iload_4 C dX1_leastRent_18 ?_
        refine G_iald C k dX1_leastRent_20 rfl (hS _ (by decide)) rfl (by omega) ?_
        rw [(hX.2.1 k e he).2.1]
        refine J_iload_2 C dX1_leastRent_21 ?_
        refine J_icmp_gt C 58 dX1_leastRent_22 (by decide) (fun hc22 => ?_) (fun hc22 => ?_)
        · skip
          refine J_iload_3 C dX1_leastRent_58 ?_
          refine hQ _ _ _ _ dX1_leastRent_59 ⟨rfl, ?_⟩
          refine ⟨i, ei, rfl, hi1.1, hi0.2.1, fun j e' hj hm' => ?_⟩
          by_cases q : j < k
          · exact hi0.2.2 j e' (by rw [List.getElem?_take, if_pos q]; exact hj) hm'
          · exfalso
            have hjl := get_lt hj
            first
            | (have hse' := hsm
               omega)
            | (have hq : most < e.2.1 := by
                 rcases Nat.lt_or_ge most e.2.1 with q | q
                 · exact q
                 · exact absurd hc22 (nI_nlt q (by omega))
               have := steps_mono hB j k e e' (by omega) he hj
               omega)
            | (have : l.length ≤ k := by
                 rw [hX.1] at hc11
                 exact ge_nI (by omega) hc11
               omega)
        · skip
          have hsm : e.2.1 ≤ most := by
            rcases Nat.lt_or_ge most e.2.1 with q | q
            · exact absurd (nI_lt q (by omega)) hc22
            · exact q
          refine J_aload_1 C dX1_leastRent_25 ?_
          refine J_aload_0 C dX1_leastRent_26 ?_
          refine G1_getr C (n := 26) 1 dX1_leastRent_27 fX1_leastRent_17 iX1_leastRent_1 rfl (hS _ (by decide)) rfl rfl ?_
          refine J_iload_4 C dX1_leastRent_30 ?_
          refine G_iald C k dX1_leastRent_32 rfl (hS _ (by decide)) rfl (by omega) ?_
          rw [(hX.2.1 k e he).1]
          refine G_vpi C dX1_leastRent_33 (c_X3_rentOf E hM0 m ρ g h T L hR e.1 (hs k e he)) gX1_leastRent_X3_rentOf rfl dm_X3_rentOf rfl rfl (hS _ (by decide)) rfl rfl (Nat.le_of_ble_eq_true rfl) (rmOK_b rfl) (fun r33 hr33 => ?_)
          subst hr33
          refine J_aload_1 C dX1_leastRent_36 ?_
          refine J_aload_0 C dX1_leastRent_37 ?_
          refine G1_getr C (n := 26) 1 dX1_leastRent_38 fX1_leastRent_17 iX1_leastRent_1 rfl (hS _ (by decide)) rfl rfl ?_
          refine J_iload_3 C dX1_leastRent_41 ?_
          refine G_iald C i dX1_leastRent_42 rfl (hS _ (by decide)) rfl (by have := get_lt hi1.1; omega) ?_
          rw [(hX.2.1 i ei hi1.1).1]
          refine G_vpi C dX1_leastRent_43 (c_X3_rentOf E hM0 m ρ g h T L hR ei.1 (hs i ei hi1.1)) gX1_leastRent_X3_rentOf rfl dm_X3_rentOf rfl rfl (hS _ (by decide)) rfl rfl (Nat.le_of_ble_eq_true rfl) (rmOK_b rfl) (fun r43 hr43 => ?_)
          subst hr43
          refine J_icmp_ge C 52 dX1_leastRent_46 (by decide) (fun hc46 => ?_) (fun hc46 => ?_)
          · skip
            refine J_iinc_4 C (1) dX1_leastRent_52 (by decide) trivial ic_1 ?_
            refine J_goto C 5 dX1_leastRent_55 (by decide) ?_
            rw [nI_1]
            first
            | (have hlt : rtE ρ m e < rtE ρ m ei := (nI_ltI (by have := hrb e; omega) (by have := hrb ei; omega)).mp (Int32.not_le.mp hc46)
               refine ih (k + 1) k e (by omega) (by omega) (by omega) ⟨by rw [List.getElem?_take, if_pos (by omega)]; exact he, hsm, fun j e' hj hm' => ?_⟩
               rw [List.getElem?_take] at hj
               split at hj
               · by_cases q : j = k
                 · subst q
                   rw [he] at hj
                   cases hj
                   exact ⟨Nat.le_refl _, fun h => absurd h (by omega)⟩
                 · have := (hi0.2.2 j e' (by rw [List.getElem?_take, if_pos (by omega)]; exact hj) hm').1
                   exact ⟨by omega, fun _ => by omega⟩
               · cases hj)
            | (have hlt : rtE ρ m ei ≤ rtE ρ m e := (nI_leI (by have := hrb ei; omega) (by have := hrb e; omega)).mp hc46
               refine ih (k + 1) i ei (by omega) (by omega) (by omega) ⟨by rw [List.getElem?_take, if_pos (by omega)]; exact hi1.1, hi0.2.1, fun j e' hj hm' => ?_⟩
               rw [List.getElem?_take] at hj
               split at hj
               · by_cases q : j = k
                 · subst q
                   rw [he] at hj
                   cases hj
                   exact ⟨hlt, fun h => absurd h (by omega)⟩
                 · exact hi0.2.2 j e' (by rw [List.getElem?_take, if_pos (by omega)]; exact hj) hm'
               · cases hj)
          · skip
            refine J_iload_4 C dX1_leastRent_49 ?_
            refine J_istore_3 C dX1_leastRent_51 (by decide) trivial ?_
            refine J_iinc_4 C (1) dX1_leastRent_52 (by decide) trivial ic_1 ?_
            refine J_goto C 5 dX1_leastRent_55 (by decide) ?_
            rw [nI_1]
            first
            | (have hlt : rtE ρ m e < rtE ρ m ei := (nI_ltI (by have := hrb e; omega) (by have := hrb ei; omega)).mp (Int32.not_le.mp hc46)
               refine ih (k + 1) k e (by omega) (by omega) (by omega) ⟨by rw [List.getElem?_take, if_pos (by omega)]; exact he, hsm, fun j e' hj hm' => ?_⟩
               rw [List.getElem?_take] at hj
               split at hj
               · by_cases q : j = k
                 · subst q
                   rw [he] at hj
                   cases hj
                   exact ⟨Nat.le_refl _, fun h => absurd h (by omega)⟩
                 · have := (hi0.2.2 j e' (by rw [List.getElem?_take, if_pos (by omega)]; exact hj) hm').1
                   exact ⟨by omega, fun _ => by omega⟩
               · cases hj)
            | (have hlt : rtE ρ m ei ≤ rtE ρ m e := (nI_leI (by have := hrb ei; omega) (by have := hrb e; omega)).mp hc46
               refine ih (k + 1) i ei (by omega) (by omega) (by omega) ⟨by rw [List.getElem?_take, if_pos (by omega)]; exact hi1.1, hi0.2.1, fun j e' hj hm' => ?_⟩
               rw [List.getElem?_take] at hj
               split at hj
               · by_cases q : j = k
                 · subst q
                   rw [he] at hj
                   cases hj
                   exact ⟨hlt, fun h => absurd h (by omega)⟩
                 · exact hi0.2.2 j e' (by rw [List.getElem?_take, if_pos (by omega)]; exact hj) hm'
               · cases hj)
  have hz : 0 < l.length := get_lt hB.1
  refine loop (l.length + 1) 1 0 (s0, 0, 0, 0) (by omega) (by omega) (by omega) ⟨by rw [List.getElem?_take, if_pos (by omega)]; exact hB.1, Nat.zero_le _, fun j e' hj _ => ?_⟩
  rw [List.getElem?_take] at hj
  split at hj
  · have : j = 0 := by omega
    subst this
    rw [hB.1] at hj
    cases hj
    exact ⟨Nat.le_refl _, fun h => absurd h (by omega)⟩
  · cases hj
