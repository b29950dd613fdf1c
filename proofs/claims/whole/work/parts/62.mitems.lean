/-! the model takes items -/
theorem J_stk {E : EN} {Y : YN} {N cs ss pc : Nat} {w : Nat → va_E} {lv : List (Option Value)} {st st' : List Value} (e : st = st') (kk : J E Y N cs ss w pc lv st') : J E Y N cs ss w pc lv st := e ▸ kk
def MwX (g : Nat → Int32) (T : Nat → Nat → Int32) (s : RS) : Prop := g 4827 = nI s.1 ∧ g 4828 = nI s.2.2.1 ∧ (∀ t, t < s.1 → T 59 (4 * t) = nI (s.2.1 4 t) ∧ T 59 (4 * t + 1) = nI (s.2.1 0 t) ∧ T 59 (4 * t + 2) = nI (s.2.1 1 t) ∧ T 59 (4 * t + 3) = nI (s.2.1 2 t) ∧ T 60 t = nI (s.2.1 3 t)) ∧ ∀ i, i < 4 → T 61 i = oI (s.2.2.2 i)
def FrQ (g g2 : Nat → Int32) (h h2 : Nat → Int64) (T T2 : Nat → Nat → Int32) : Prop := (∀ k, (k < 4823 ∨ 4828 < k) → g2 k = g k) ∧ (∀ k, k ≠ 4826 → h2 k = h k) ∧ ∀ c, (c < 59 ∨ 61 < c) → T2 c = T c
theorem FrN.toQ {g g2 : Nat → Int32} {h h2 : Nat → Int64} {T : Nat → Nat → Int32} (a : FrN g g2 h h2) : FrQ g g2 h h2 T T := ⟨fun k hk => a.1 k (by omega), a.2, fun _ _ => rfl⟩
theorem FrQ.tr {g g2 g3 : Nat → Int32} {h h2 h3 : Nat → Int64} {T T2 T3 : Nat → Nat → Int32} (a : FrQ g g2 h h2 T T2) (c : FrQ g2 g3 h2 h3 T2 T3) : FrQ g g3 h h3 T T3 := ⟨fun k hk => by rw [c.1 k hk, a.1 k hk], fun k hk => by rw [c.2.1 k hk, a.2.1 k hk], fun k hk => by rw [c.2.2 k hk, a.2.2 k hk]⟩
def ItM (g g2 : Nat → Int32) (h h2 : Nat → Int64) (T T2 : Nat → Nat → Int32) (n : Nat) (b : Nat → Nat) (r : Int32) (res : Except Nat (RS × Nat)) : Prop := FrQ g g2 h h2 T T2 ∧ ((∃ s' p', res = .ok (s', p') ∧ r = 1 ∧ AtX g2 n b p' ∧ MwX g2 T2 s') ∨ (∃ e, res = .error e ∧ r = 0 ∧ g2 4824 = nI e))
def loK (k : Nat) : Nat := if k = 3 then 1 else 0
def hxK (k : Nat) : Nat := if k = 0 then 2 else if k = 1 then 3 else 10
def ThC (n : Nat) (b : Nat → Nat) (p0 : Nat) (v pf : Nat → Nat) (k : Nat) : Prop := pf 0 = p0 ∧ ∀ j, j < k → numE n b (loK j) (hxK j) (pf j) = .ok (v j, pf (j + 1))
theorem thing_err {n p e k : Nat} {b : Nat → Nat} {s : RS} {v pf : Nat → Nat} (hs : s.1 < 7) (hk : k < 4) (hC : ThC n b (tNx n b p) v pf k) (he : numE n b (loK k) (hxK k) (pf k) = .error e) : thingS n b s p = .error e := by
  obtain ⟨c0, c⟩ := hC
  unfold thingS
  rw [if_neg (by omega), ← c0]
  rcases (show k = 0 ∨ k = 1 ∨ k = 2 ∨ k = 3 by omega) with q | q | q | q <;> subst q
  · have he : numE n b 0 2 (pf 0) = .error e := he
    simp only [he]
  · have h0 : numE n b 0 2 (pf 0) = .ok (v 0, pf 1) := c 0 (by decide)
    have he : numE n b 0 3 (pf 1) = .error e := he
    simp only [h0, he]
  · have h0 : numE n b 0 2 (pf 0) = .ok (v 0, pf 1) := c 0 (by decide)
    have h1 : numE n b 0 3 (pf 1) = .ok (v 1, pf 2) := c 1 (by decide)
    have he : numE n b 0 10 (pf 2) = .error e := he
    simp only [h0, h1, he]
  · have h0 : numE n b 0 2 (pf 0) = .ok (v 0, pf 1) := c 0 (by decide)
    have h1 : numE n b 0 3 (pf 1) = .ok (v 1, pf 2) := c 1 (by decide)
    have h2 : numE n b 0 10 (pf 2) = .ok (v 2, pf 3) := c 2 (by decide)
    have he : numE n b 1 10 (pf 3) = .error e := he
    simp only [h0, h1, h2, he]
theorem thing_ok {n p : Nat} {b : Nat → Nat} {s : RS} {v pf : Nat → Nat} (hs : s.1 < 7) (hC : ThC n b (tNx n b p) v pf 4) : thingS n b s p = match stpE n b (pf 4) with | .error q => .error q | .ok p5 => .ok (addT s (v 0) (v 1) (v 2) (v 3), p5) := by
  obtain ⟨c0, c⟩ := hC
  unfold thingS
  rw [if_neg (by omega), ← c0]
  have h0 : numE n b 0 2 (pf 0) = .ok (v 0, pf 1) := c 0 (by decide)
  have h1 : numE n b 0 3 (pf 1) = .ok (v 1, pf 2) := c 1 (by decide)
  have h2 : numE n b 0 10 (pf 2) = .ok (v 2, pf 3) := c 2 (by decide)
  have h3 : numE n b 1 10 (pf 3) = .ok (v 3, pf 4) := c 3 (by decide)
  simp only [h0, h1, h2, h3]
  all_goals (cases stpE n b (pf 4) <;> rfl)
theorem cmp_e {x y : Int64} : lg_cmp x y = 0 ↔ x = y := by
  constructor
  · intro h
    have h1 : ¬ x < y := fun q => by have := cmp_lt.mpr q; rw [h] at this; exact absurd this (by decide)
    have h2 : ¬ y < x := fun q => by have := cmp_gt.mpr q; rw [h] at this; exact absurd this (by decide)
    exact Int64.le_antisymm (Int64.not_lt.mp h2) (Int64.not_lt.mp h1)
  · intro h
    subst h
    have h1 : ¬ lg_cmp x x < 0 := fun q => absurd (cmp_lt.mp q) (Int64.lt_irrefl)
    have h2 : ¬ 0 < lg_cmp x x := fun q => absurd (cmp_gt.mp q) (Int64.lt_irrefl)
    exact Int32.le_antisymm (Int32.not_lt.mp h2) (Int32.not_lt.mp h1)
theorem numE_lt {n lo hx p v p' : Nat} {b : Nat → Nat} (h : numE n b lo hx p = .ok (v, p')) : lo ≤ v ∧ v < hx ∧ p' = tNx n b p ∧ p < n := by
  rcases numE_cs (n := n) (b := b) (lo := lo) (hx := hx) (p := p) with ⟨w, e1, e2⟩ | ⟨e1, e2⟩
  · rw [e2] at h
    cases h
    have := nuO_some.mp e1
    exact ⟨this.2.2.1, this.2.2.2, rfl, tK_lt (by rw [this.1]; decide)⟩
  · rw [e2] at h; cases h
theorem stpE_lt {n p p' : Nat} {b : Nat → Nat} (h : stpE n b p = .ok p') : p' = tNx n b p ∧ p < n := by
  unfold stpE at h
  split at h
  · rename_i q; cases h; exact ⟨rfl, tK_lt (by rw [q]; decide)⟩
  · cases h
theorem lh_K : ∀ k, k < 4 → loK k < 100 ∧ hxK k < 1000 := by decide
abbrev rmX6_takesThing : Room := { frames := 3, cells := 0, slots := 0, locals := 63 }
theorem fX6_takesThing_102 : Cond.fieldLink RX6 102 RX6 (TX6 26).2.1 (TX6 26).2.2.1 ∈ wsX6_takesThing := by decide +kernel
theorem fX6_takesThing_131 : Cond.fieldLink RX6 131 RX6 (TX6 27).2.1 (TX6 27).2.2.1 ∈ wsX6_takesThing := by decide +kernel
theorem fX6_takesThing_53 : Cond.fieldLink RX6 53 RX6 (TX6 29).2.1 (TX6 29).2.2.1 ∈ wsX6_takesThing := by decide +kernel
theorem fX6_takesThing_56 : Cond.fieldLink RX6 56 RX6 (TX6 30).2.1 (TX6 30).2.2.1 ∈ wsX6_takesThing := by decide +kernel
theorem iX6_takesThing_6 : ∀ x ∈ wsX60, x ∈ wsX6_takesThing := by decide +kernel
theorem dm_X6_stops : yX6_stops.cls = RX6 ∧ yX6_stops.cls ≠ "java/lang/invoke/MethodHandle" ∧ yX6_stops.cls ≠ "java/lang/invoke/VarHandle" ∧ (parseMethodDescriptor yX6_stops.desc).map (fun d => d.parameters.length) = some 0 := by decide +kernel
theorem dm_X6_takes : yX6_takes.cls = RX6 ∧ yX6_takes.cls ≠ "java/lang/invoke/MethodHandle" ∧ yX6_takes.cls ≠ "java/lang/invoke/VarHandle" ∧ (parseMethodDescriptor yX6_takes.desc).map (fun d => d.parameters.length) = some 2 := by decide +kernel
set_option maxRecDepth 100000 in
set_option maxHeartbeats 4000000 in
theorem c_X6_takesThing (E : EN) (hM : EM E) (g : Nat → Int32) (h : Nat → Int64) (T : Nat → Nat → Int32) (L : Nat → Nat → Int64) (n : Nat) (b : Nat → Nat) (s : RS) (p : Nat) (hX : MtX g T n b) (hW : MwX g T s) (hO : RsOK s) (hA : AtX g n b (tNx n b p)) (h24 : g 4824 = nI p) : GtI E yX6_takesThing wsX6_takesThing rmX6_takesThing [.ref (eA E 48)] g h T L (fun r g2 h2 T2 L2 => ItM g g2 h h2 T T2 n b r (thingS n b s p) ∧ L2 = L) := by
  refine CtZ_of (cc := cX6_takesThing) (nL := 2) RX6 [some (.ref (eA E 48)), none] ⟨rfl, rfl⟩ (by decide) rfl rfl (Nat.le_of_ble_eq_true rfl) ⟨1, rfl⟩ hM.2 (fun Y C hQ => ?_)
  have hM0 := hM
  obtain ⟨hS, hNN⟩ := hM
  have hX0 := hX
  have hW0 := hW
  obtain ⟨w1, w2, w3, w4⟩ := hW
  have hm7 := hO.1
  have h8 := hO.2.1
  refine J_aload_0 C dX6_takesThing_0 ?_
  refine G6_geti C (n := 4827) 27 dX6_takesThing_1 fX6_takesThing_131 iX6_takesThing_6 rfl (hS _ (by decide)) rfl rfl ?_
  refine J_bipush C (7) dX6_takesThing_4 bc_7 ?_
  refine J_icmp_ne C 11 dX6_takesThing_6 (by decide) (fun hc6 => ?_) (fun hc6 => ?_)
  · skip
    have hs7 : s.1 < 7 := by
      rcases Nat.lt_or_ge s.1 7 with q | q
      · exact q
      · exact absurd (show g 4827 = 7 by rw [w1, show s.1 = 7 by omega]; rfl) hc6
    refine J_iconst C (0) dX6_takesThing_11 ic_0 ?_
    refine J_istore_1 C dX6_takesThing_12 (by decide) trivial ?_
    have loop : ∀ (n2 : Nat) (k : Nat) (v pf : Nat → Nat) (g2 : Nat → Int32) (h2 : Nat → Int64) (T2 : Nat → Nat → Int32), k ≤ 4 → 4 < n2 + k → ThC n b (tNx n b p) v pf k → AtX g2 n b (pf k) → FrN g g2 h h2 → (∀ j, j < k → T2 59 (4 * s.1 + j) = nI (v j)) → (∀ i, i < 4 * s.1 → T2 59 i = T 59 i) → (∀ c, c ≠ 59 → T2 c = T c) → J E Y (eN E) 0 0 (wS E g2 h2 T2 L) 13 [some (.ref (eA E 48)), some (.int (nI k))] [] := by
      intro n2
      induction n2 with
      | zero =>
        intro k v pf g2 h2 T2 hk4 hfu hC hAt hFr hv hold hT2
        omega
      | succ n2 ih =>
        intro k v pf g2 h2 T2 hk4 hfu hC hAt hFr hv hold hT2
        refine J_iload_1 C dX6_takesThing_13 ?_
        refine J_iconst C (4) dX6_takesThing_14 ic_4 ?_
        refine J_icmp_ge C 80 dX6_takesThing_15 (by decide) (fun hc15 => ?_) (fun hc15 => ?_)
        · skip
          have hk : k = 4 := by
            have := ge_nI (m := 4) (by omega) hc15
            omega
          subst hk
          have hgm : g2 4827 = nI s.1 := by rw [hFr.1 4827 (by omega), w1]
          refine J_aload_0 C dX6_takesThing_80 ?_
          refine G6_getr C (n := 60) 30 dX6_takesThing_81 fX6_takesThing_56 iX6_takesThing_6 rfl (hS _ (by decide)) rfl rfl ?_
          refine J_aload_0 C dX6_takesThing_84 ?_
          refine G6_geti C (n := 4827) 27 dX6_takesThing_85 fX6_takesThing_131 iX6_takesThing_6 rfl (hS _ (by decide)) rfl rfl ?_
          refine J_iconst C (0) dX6_takesThing_88 ic_0 ?_
          refine G_iast C s.1 dX6_takesThing_89 rfl (hS _ (by decide)) hgm (by omega) ?_
          refine J_aload_0 C dX6_takesThing_90 ?_
          refine J_dup C dX6_takesThing_91 ?_
          refine G6_geti C (n := 4827) 27 dX6_takesThing_92 fX6_takesThing_131 iX6_takesThing_6 rfl (hS _ (by decide)) rfl rfl ?_
          refine J_iconst C (1) dX6_takesThing_95 ic_1 ?_
          refine J_iadd C dX6_takesThing_96 ?_
          refine G6_puti C (n := 4827) 27 dX6_takesThing_97 fX6_takesThing_131 iX6_takesThing_6 rfl (hS _ (by decide)) rfl (tyX6_ok 27 (by decide)) rfl rfl ?_
          refine J_aload_0 C dX6_takesThing_100 ?_
          refine G_vti C dX6_takesThing_101 (c_X6_stops E hM0 _ _ _ _ n b (pf 4) (hX0.keep (by simp only [upd]; rw [if_neg (by decide)]; exact hFr.1 _ (by decide)) (by rw [tU_ne (by decide)]; exact hT2 _ (by decide))) (by obtain ⟨q, q1, q2, q3⟩ := hAt; exact ⟨q, q1, q2, q3⟩)) gX6_takesThing_X6_stops rfl dm_X6_stops rfl rfl (hS _ (by decide)) rfl rfl (Nat.le_of_ble_eq_true rfl) (rmOK_b rfl) (fun r101 g101 h101 T101 L101 hp101 => ?_)
          obtain ⟨⟨hF, hr⟩, rfl, rfl⟩ := hp101
          refine hQ _ _ _ _ dX6_takesThing_104 (by rcases hr with ⟨_, _, e, _⟩ | ⟨_, _, e, _⟩ <;> rw [e] <;> rfl) ⟨_, _, _, _, rfl, ?_⟩
          refine ⟨⟨⟨fun k' hk' => by
            rw [hF.1 k' (by omega)]
            simp only [upd]
            rw [if_neg (by omega)]
            exact hFr.1 k' (by omega), fun k' hk' => by rw [hF.2 k' hk', hFr.2 k' hk'], fun c hc => by rw [tU_ne (by omega)]; exact hT2 c (by omega)⟩, ?_⟩, rfl⟩
          have hok := thing_ok hs7 hC
          rcases hr with ⟨p2, e1, e2, e3⟩ | ⟨e, e1, e2, e3⟩
          · rw [e1] at hok
            refine Or.inl ⟨_, p2, hok, e2, e3, ?_, ?_, fun t ht => ?_, fun i hi => ?_⟩
            · rw [hF.1 4827 (by omega)]
              simp only [upd, if_true]
              rw [hgm, nI_1]; rfl
            · rw [hF.1 4828 (by omega)]
              simp only [upd]
              rw [if_neg (by decide), hFr.1 4828 (by omega), w2]; rfl
            · rw [tU_ne (show (59 : Nat) ≠ 60 by decide), tU_eq]
              by_cases e : t = s.1
              · subst e
                have a0 := hv 0 (by decide)
                have a1 := hv 1 (by decide)
                have a2 := hv 2 (by decide)
                have a3 := hv 3 (by decide)
                simp [addT, upd]
                exact ⟨a0, a1, a2, a3, rfl⟩
              · have ht' : t < s.1 := by simp only [addT] at ht; omega
                obtain ⟨z1, z2, z3, z4, z5⟩ := w3 t ht'
                simp only [addT, if_neg e, upd]
                rw [hold _ (by omega), hold _ (by omega), hold _ (by omega), hold _ (by omega), hT2 60 (by decide)]
                exact ⟨z1, z2, z3, z4, z5⟩
            · rw [tU_ne (by decide), hT2 61 (by decide)]
              exact w4 i hi
          · rw [e1] at hok
            exact Or.inr ⟨e, hok, e2, e3⟩
        · skip
          have hk : k < 4 := lt_nI (m := 4) (by omega) hc15
          refine J_aload_0 C dX6_takesThing_18 ?_
          have hcut : ∀ (_z : Nat), True → J E Y (eN E) 0 0 (wS E g2 h2 T2 L) 48 [some (.ref (eA E 48)), some (.int (nI k))] [.int (nI (hxK k) - 1), .int (nI (loK k)), .ref (eA E 48)] := by
            intro _ _
            refine G_vti C dX6_takesThing_48 (c_X6_takes E hM0 _ _ _ _ n b (pf k) (hX0.keep (hFr.1 _ (by decide)) (hT2 _ (by decide))) hAt (loK k) (hxK k) (lh_K k hk).1 (lh_K k hk).2 _ rfl) gX6_takesThing_X6_takes rfl dm_X6_takes rfl rfl (hS _ (by decide)) rfl rfl (Nat.le_of_ble_eq_true rfl) (rmOK_b rfl) (fun r48 g48 h48 T48 L48 hp48 => ?_)
            obtain ⟨⟨hF, _, hr⟩, rfl, rfl⟩ := hp48
            refine J_if_ne C 56 dX6_takesThing_51 (by decide) (fun hc51 => ?_) (fun hc51 => ?_)
            · skip
              obtain ⟨w, p9, e1, e2, e3, e4, e5⟩ := hr.resolve_right (fun ⟨e, _, z, _⟩ => hc51 z)
              have hgm : g48 4827 = nI s.1 := by rw [hF.1 4827 (by omega), hFr.1 4827 (by omega), w1]
              refine J_aload_0 C dX6_takesThing_56 ?_
              refine G6_getr C (n := 59) 29 dX6_takesThing_57 fX6_takesThing_53 iX6_takesThing_6 rfl (hS _ (by decide)) rfl rfl ?_
              refine J_iconst C (4) dX6_takesThing_60 ic_4 ?_
              refine J_aload_0 C dX6_takesThing_61 ?_
              refine G6_geti C (n := 4827) 27 dX6_takesThing_62 fX6_takesThing_131 iX6_takesThing_6 rfl (hS _ (by decide)) rfl rfl ?_
              refine J_imul C dX6_takesThing_65 ?_
              refine J_iload_1 C dX6_takesThing_66 ?_
              refine J_iadd C dX6_takesThing_67 ?_
              refine J_aload_0 C dX6_takesThing_68 ?_
              refine G6_getl C (n := 4826) 26 dX6_takesThing_69 fX6_takesThing_102 iX6_takesThing_6 rfl (hS _ (by decide)) rfl rfl ?_
              refine J_l2i C dX6_takesThing_72 ?_
              rw [e3, lN_i]
              refine G_iast C (4 * s.1 + k) dX6_takesThing_73 rfl (hS _ (by decide)) (by rw [hgm, show (4 : Int32) = nI 4 by decide, pk_mul, nI_add]) (by omega) ?_
              refine J_iinc_1 C (1) dX6_takesThing_74 (by decide) trivial ic_1 ?_
              refine J_goto C 13 dX6_takesThing_77 (by decide) ?_
              rw [nI_1]
              refine ih (k + 1) (fun j => if j = k then w else v j) (fun j => if j = k + 1 then p9 else pf j) _ _ _ (by omega) (by omega) ⟨by simp [hC.1], fun j hj => ?_⟩ (by simpa using e5) (hFr.tr hF) (fun j hj => ?_) (fun i hi => ?_) (fun c hc => by rw [tU_ne hc]; exact hT2 c hc)
              · by_cases e : j = k
                · subst e
                  simpa using e1
                · have := hC.2 j (by omega)
                  simp only [if_neg e, if_neg (show ¬ j = k + 1 by omega), if_neg (show ¬ j + 1 = k + 1 by omega)]
                  exact this
              · rw [tU_eq]
                by_cases e : j = k
                · subst e; simp [upd]
                · simp only [upd, if_neg e, if_neg (show ¬ 4 * s.1 + j = 4 * s.1 + k by omega)]
                  exact hv j (by omega)
              · rw [tU_eq]
                simp only [upd, if_neg (show ¬ i = 4 * s.1 + k by omega)]
                exact hold i hi
            · skip
              refine J_iconst C (0) dX6_takesThing_54 ic_0 ?_
              refine hQ _ _ _ _ dX6_takesThing_55 rfl ⟨_, _, _, _, rfl, ?_⟩
              rcases hr with ⟨w, p9, e1, e2, _⟩ | ⟨e, e1, e2, e3⟩
              · rw [e2] at hc51; exact absurd hc51 (by decide)
              · exact ⟨⟨⟨fun k' hk' => by rw [hF.1 k' (by omega), hFr.1 k' (by omega)], fun k' hk' => by rw [hF.2 k' hk', hFr.2 k' hk'], fun c hc => hT2 c (by omega)⟩, Or.inr ⟨e, thing_err hs7 hk hC e1, rfl, e3⟩⟩, rfl⟩
          refine J_iload_1 C dX6_takesThing_19 ?_
          refine J_iconst C (3) dX6_takesThing_20 ic_3 ?_
          refine J_icmp_ne C 28 dX6_takesThing_21 (by decide) (fun hc21 => ?_) (fun hc21 => ?_)
          · skip
            refine J_iconst C (0) dX6_takesThing_28 ic_0 ?_
            refine J_iload_1 C dX6_takesThing_29 ?_
            refine J_if_ne C 37 dX6_takesThing_30 (by decide) (fun hc30 => ?_) (fun hc30 => ?_)
            · skip
              refine J_iload_1 C dX6_takesThing_37 ?_
              refine J_iconst C (1) dX6_takesThing_38 ic_1 ?_
              refine J_icmp_ne C 46 dX6_takesThing_39 (by decide) (fun hc39 => ?_) (fun hc39 => ?_)
              · skip
                refine J_bipush C (9) dX6_takesThing_46 bc_9 ?_
                clear ih
                rcases (show k = 0 ∨ k = 1 ∨ k = 2 ∨ k = 3 by omega) with e | e | e | e <;> subst e
                all_goals first
                | exact J_stk rfl (hcut 0 trivial)
                | exact absurd rfl hc21
                | exact absurd hc21 (by decide)
                | exact absurd rfl hc30
                | exact absurd hc30 (by decide)
                | exact absurd rfl hc39
                | exact absurd hc39 (by decide)
              · skip
                refine J_iconst C (2) dX6_takesThing_42 ic_2 ?_
                refine J_goto C 48 dX6_takesThing_43 (by decide) ?_
                clear ih
                rcases (show k = 0 ∨ k = 1 ∨ k = 2 ∨ k = 3 by omega) with e | e | e | e <;> subst e
                all_goals first
                | exact J_stk rfl (hcut 0 trivial)
                | exact absurd rfl hc21
                | exact absurd hc21 (by decide)
                | exact absurd rfl hc30
                | exact absurd hc30 (by decide)
                | exact absurd rfl hc39
                | exact absurd hc39 (by decide)
            · skip
              refine J_iconst C (1) dX6_takesThing_33 ic_1 ?_
              refine J_goto C 48 dX6_takesThing_34 (by decide) ?_
              clear ih
              rcases (show k = 0 ∨ k = 1 ∨ k = 2 ∨ k = 3 by omega) with e | e | e | e <;> subst e
              all_goals first
              | exact J_stk rfl (hcut 0 trivial)
              | exact absurd rfl hc21
              | exact absurd hc21 (by decide)
              | exact absurd rfl hc30
              | exact absurd hc30 (by decide)
              | exact absurd rfl hc39
              | exact absurd hc39 (by decide)
          · skip
            refine J_iconst C (1) dX6_takesThing_24 ic_1 ?_
            refine J_goto C 29 dX6_takesThing_25 (by decide) ?_
            refine J_iload_1 C dX6_takesThing_29 ?_
            refine J_if_ne C 37 dX6_takesThing_30 (by decide) (fun hc30 => ?_) (fun hc30 => ?_)
            · skip
              refine J_iload_1 C dX6_takesThing_37 ?_
              refine J_iconst C (1) dX6_takesThing_38 ic_1 ?_
              refine J_icmp_ne C 46 dX6_takesThing_39 (by decide) (fun hc39 => ?_) (fun hc39 => ?_)
              · skip
                refine J_bipush C (9) dX6_takesThing_46 bc_9 ?_
                clear ih
                rcases (show k = 0 ∨ k = 1 ∨ k = 2 ∨ k = 3 by omega) with e | e | e | e <;> subst e
                all_goals first
                | exact J_stk rfl (hcut 0 trivial)
                | exact absurd rfl hc21
                | exact absurd hc21 (by decide)
                | exact absurd rfl hc30
                | exact absurd hc30 (by decide)
                | exact absurd rfl hc39
                | exact absurd hc39 (by decide)
              · skip
                refine J_iconst C (2) dX6_takesThing_42 ic_2 ?_
                refine J_goto C 48 dX6_takesThing_43 (by decide) ?_
                clear ih
                rcases (show k = 0 ∨ k = 1 ∨ k = 2 ∨ k = 3 by omega) with e | e | e | e <;> subst e
                all_goals first
                | exact J_stk rfl (hcut 0 trivial)
                | exact absurd rfl hc21
                | exact absurd hc21 (by decide)
                | exact absurd rfl hc30
                | exact absurd hc30 (by decide)
                | exact absurd rfl hc39
                | exact absurd hc39 (by decide)
            · skip
              refine J_iconst C (1) dX6_takesThing_33 ic_1 ?_
              refine J_goto C 48 dX6_takesThing_34 (by decide) ?_
              clear ih
              rcases (show k = 0 ∨ k = 1 ∨ k = 2 ∨ k = 3 by omega) with e | e | e | e <;> subst e
              all_goals first
              | exact J_stk rfl (hcut 0 trivial)
              | exact absurd rfl hc21
              | exact absurd hc21 (by decide)
              | exact absurd rfl hc30
              | exact absurd hc30 (by decide)
              | exact absurd rfl hc39
              | exact absurd hc39 (by decide)
    exact loop 5 0 (fun _ => 0) (fun _ => tNx n b p) g h T (by omega) (by omega) ⟨rfl, fun j hj => by omega⟩ hA ⟨fun _ _ => rfl, fun _ _ => rfl⟩ (fun j hj => by omega) (fun _ _ => rfl) (fun _ _ => rfl)
  · skip
    refine J_iconst C (0) dX6_takesThing_9 ic_0 ?_
    refine hQ _ _ _ _ dX6_takesThing_10 rfl ⟨_, _, _, _, rfl, ?_⟩
    have hs7 : 7 ≤ s.1 := by
      rw [w1] at hc6
      have := nI_inj (a := s.1) (b := 7) (by omega) (by decide) hc6
      omega
    refine ⟨⟨⟨fun _ _ => rfl, fun _ _ => rfl, fun _ _ => rfl⟩, Or.inr ⟨p, ?_, rfl, h24⟩⟩, rfl⟩
    unfold thingS
    rw [if_pos hs7]
abbrev rmX6_takesFears : Room := { frames := 3, cells := 0, slots := 0, locals := 63 }
theorem fX6_takesFears_102 : Cond.fieldLink RX6 102 RX6 (TX6 26).2.1 (TX6 26).2.2.1 ∈ wsX6_takesFears := by decide +kernel
theorem fX6_takesFears_131 : Cond.fieldLink RX6 131 RX6 (TX6 27).2.1 (TX6 27).2.2.1 ∈ wsX6_takesFears := by decide +kernel
theorem fX6_takesFears_142 : Cond.fieldLink RX6 142 RX6 (TX6 28).2.1 (TX6 28).2.2.1 ∈ wsX6_takesFears := by decide +kernel
theorem fX6_takesFears_56 : Cond.fieldLink RX6 56 RX6 (TX6 30).2.1 (TX6 30).2.2.1 ∈ wsX6_takesFears := by decide +kernel
theorem iX6_takesFears_6 : ∀ x ∈ wsX60, x ∈ wsX6_takesFears := by decide +kernel
set_option maxRecDepth 100000 in
set_option maxHeartbeats 4000000 in
theorem c_X6_takesFears (E : EN) (hM : EM E) (g : Nat → Int32) (h : Nat → Int64) (T : Nat → Nat → Int32) (L : Nat → Nat → Int64) (n : Nat) (b : Nat → Nat) (s : RS) (p : Nat) (hX : MtX g T n b) (hW : MwX g T s) (hO : RsOK s) (hA : AtX g n b (tNx n b p)) (h24 : g 4824 = nI p) : GtI E yX6_takesFears wsX6_takesFears rmX6_takesFears [.ref (eA E 48)] g h T L (fun r g2 h2 T2 L2 => ItM g g2 h h2 T T2 n b r (fearsS n b s p) ∧ L2 = L) := by
  refine CtZ_of (cc := cX6_takesFears) (nL := 2) RX6 [some (.ref (eA E 48)), none] ⟨rfl, rfl⟩ (by decide) rfl rfl (Nat.le_of_ble_eq_true rfl) ⟨1, rfl⟩ hM.2 (fun Y C hQ => ?_)
  have hM0 := hM
  obtain ⟨hS, hNN⟩ := hM
  have hX0 := hX
  have hW0 := hW
  obtain ⟨w1, w2, w3, w4⟩ := hW
  have hm7 := hO.1
  have h8 := hO.2.1
  refine J_aload_0 C dX6_takesFears_0 ?_
  refine G6_geti C (n := 4828) 28 dX6_takesFears_1 fX6_takesFears_142 iX6_takesFears_6 rfl (hS _ (by decide)) rfl rfl ?_
  refine J_bipush C (8) dX6_takesFears_4 bc_8 ?_
  refine J_icmp_eq C 23 dX6_takesFears_6 (by decide) (fun hc6 => ?_) (fun hc6 => ?_)
  · skip
    refine J_iconst C (0) dX6_takesFears_23 ic_0 ?_
    refine hQ _ _ _ _ dX6_takesFears_24 rfl ⟨_, _, _, _, rfl, ?_⟩
    first
    | (have hs7 : 8 ≤ s.2.2.1 := by
         rw [w2] at hc6
         have := nI_inj (a := s.2.2.1) (b := 8) (by omega) (by decide) hc6
         omega
       refine ⟨⟨⟨fun _ _ => rfl, fun _ _ => rfl, fun _ _ => rfl⟩, Or.inr ⟨p, ?_, rfl, h24⟩⟩, rfl⟩
       unfold fearsS
       rw [if_pos hs7])
    | (rcases hr with ⟨w, p9, e1, e2, _⟩ | ⟨e, e1, e2, e3⟩
       · rw [e2] at hc20; exact absurd hc20 (by decide)
       · refine ⟨⟨⟨fun k' hk' => hF.1 k' (by omega), hF.2, fun c hc => rfl⟩, Or.inr ⟨e, ?_, rfl, e3⟩⟩, rfl⟩
         unfold fearsS
         rw [if_neg (by omega)]
         simp only [e1])
  · skip
    have hs7 : s.2.2.1 < 8 := by
      rcases Nat.lt_or_ge s.2.2.1 8 with q | q
      · exact q
      · exact absurd (show g 4828 = 8 by rw [w2, show s.2.2.1 = 8 by omega]; rfl) hc6
    refine J_aload_0 C dX6_takesFears_9 ?_
    refine J_iconst C (0) dX6_takesFears_10 ic_0 ?_
    refine J_aload_0 C dX6_takesFears_11 ?_
    refine G6_geti C (n := 4827) 27 dX6_takesFears_12 fX6_takesFears_131 iX6_takesFears_6 rfl (hS _ (by decide)) rfl rfl ?_
    refine J_iconst C (1) dX6_takesFears_15 ic_1 ?_
    refine J_isub C dX6_takesFears_16 ?_
    refine G_vti C dX6_takesFears_17 (c_X6_takes E hM0 _ _ _ _ n b _ hX0 hA 0 s.1 (by decide) (by omega) _ (show g 4827 - 1 = nI s.1 - 1 by rw [w1])) gX6_takesFears_X6_takes rfl dm_X6_takes rfl rfl (hS _ (by decide)) rfl rfl (Nat.le_of_ble_eq_true rfl) (rmOK_b rfl) (fun r17 g17 h17 T17 L17 hp17 => ?_)
    obtain ⟨⟨hF, _, hr⟩, rfl, rfl⟩ := hp17
    refine J_if_ne C 25 dX6_takesFears_20 (by decide) (fun hc20 => ?_) (fun hc20 => ?_)
    · skip
      obtain ⟨va, p9, e1, e2, e3, e4, e5⟩ := hr.resolve_right (fun ⟨e, _, z, _⟩ => hc20 z)
      obtain ⟨hl0, hl1, _⟩ := numE_lt e1
      refine J_aload_0 C dX6_takesFears_25 ?_
      refine G6_getl C (n := 4826) 26 dX6_takesFears_26 fX6_takesFears_102 iX6_takesFears_6 rfl (hS _ (by decide)) rfl rfl ?_
      refine J_l2i C dX6_takesFears_29 ?_
      rw [e3, lN_i]
      refine J_istore_1 C dX6_takesFears_30 (by decide) trivial ?_
      refine J_aload_0 C dX6_takesFears_31 ?_
      refine J_iconst C (0) dX6_takesFears_32 ic_0 ?_
      refine J_aload_0 C dX6_takesFears_33 ?_
      refine G6_geti C (n := 4827) 27 dX6_takesFears_34 fX6_takesFears_131 iX6_takesFears_6 rfl (hS _ (by decide)) rfl rfl ?_
      refine J_iconst C (1) dX6_takesFears_37 ic_1 ?_
      refine J_isub C dX6_takesFears_38 ?_
      refine G_vti C dX6_takesFears_39 (c_X6_takes E hM0 _ _ _ _ n b p9 (hX0.keep (hF.1 _ (by decide)) rfl) e5 0 s.1 (by decide) (by omega) _ (show g17 4827 - 1 = nI s.1 - 1 by rw [hF.1 _ (by decide), w1])) gX6_takesFears_X6_takes rfl dm_X6_takes rfl rfl (hS _ (by decide)) rfl rfl (Nat.le_of_ble_eq_true rfl) (rmOK_b rfl) (fun r39 g39 h39 T39 L39 hp39 => ?_)
      obtain ⟨⟨hF2, hbeg, hr2⟩, rfl, rfl⟩ := hp39
      have hFF := hF.tr hF2
      refine J_if_eq C 55 dX6_takesFears_42 (by decide) (fun hc42 => ?_) (fun hc42 => ?_)
      · skip
        refine J_iconst C (0) dX6_takesFears_55 ic_0 ?_
        refine hQ _ _ _ _ dX6_takesFears_56 rfl ⟨_, _, _, _, rfl, ?_⟩
        first
        | (have hfE : hc42 = hc42 := rfl
           rcases hr2 with ⟨w, p8, f1, f2, _⟩ | ⟨e, f1, f2, f3⟩
           · rw [f2] at hc42; exact absurd hc42 (by decide)
           · refine ⟨⟨⟨fun k' hk' => hFF.1 k' (by omega), hFF.2, fun c hc => rfl⟩, Or.inr ⟨e, ?_, rfl, f3⟩⟩, rfl⟩
             unfold fearsS
             rw [if_neg (by omega)]
             simp only [e1, f1])
        | (have hva : vb = va := by
             rw [f3, nI_l (by omega), cmp_e, lN_eq (by omega) (by omega)] at hc52
             exact hc52
           refine ⟨⟨⟨fun k' hk' => hFF.1 k' (by omega), hFF.2, fun c hc => rfl⟩, Or.inr ⟨p9, ?_, rfl, ?_⟩⟩, rfl⟩
           · unfold fearsS
             rw [if_neg (by omega)]
             simp only [e1, f1, if_pos hva]
           · exact hbeg)
      · skip
        obtain ⟨vb, p8, f1, f2, f3, f4, f5⟩ := hr2.resolve_right (fun ⟨e, _, z, _⟩ => absurd (show r39 = 0 from z) hc42)
        obtain ⟨hl2, hl3, _⟩ := numE_lt f1
        refine J_aload_0 C dX6_takesFears_45 ?_
        refine G6_getl C (n := 4826) 26 dX6_takesFears_46 fX6_takesFears_102 iX6_takesFears_6 rfl (hS _ (by decide)) rfl rfl ?_
        refine J_iload_1 C dX6_takesFears_49 ?_
        refine J_i2l C dX6_takesFears_50 ?_
        refine J_lcmp C dX6_takesFears_51 ?_
        refine J_if_ne C 57 dX6_takesFears_52 (by decide) (fun hc52 => ?_) (fun hc52 => ?_)
        · skip
          have hab : va ≠ vb := by
            intro z
            apply hc52
            rw [f3, nI_l (by omega), z]
            exact cmp_e.mpr rfl
          refine J_aload_0 C dX6_takesFears_57 ?_
          refine G6_getr C (n := 60) 30 dX6_takesFears_58 fX6_takesFears_56 iX6_takesFears_6 rfl (hS _ (by decide)) rfl rfl ?_
          refine J_iload_1 C dX6_takesFears_61 ?_
          refine J_dup2 C dX6_takesFears_62 ?_
          refine G_iald C va dX6_takesFears_63 rfl (hS _ (by decide)) rfl (by omega) ?_
          skip
          refine J_iconst C (1) dX6_takesFears_64 ic_1 ?_
          refine J_aload_0 C dX6_takesFears_65 ?_
          refine G6_getl C (n := 4826) 26 dX6_takesFears_66 fX6_takesFears_102 iX6_takesFears_6 rfl (hS _ (by decide)) rfl rfl ?_
          refine J_l2i C dX6_takesFears_69 ?_
          rw [f3, lN_i]
          refine J_ishl C dX6_takesFears_70 ?_
          rw [nI_sh1 vb (by omega)]
          refine J_ior C dX6_takesFears_71 ?_
          refine G_iast C va dX6_takesFears_72 rfl (hS _ (by decide)) rfl (by omega) ?_
          refine J_aload_0 C dX6_takesFears_73 ?_
          refine G6_getr C (n := 60) 30 dX6_takesFears_74 fX6_takesFears_56 iX6_takesFears_6 rfl (hS _ (by decide)) rfl rfl ?_
          refine J_aload_0 C dX6_takesFears_77 ?_
          refine G6_getl C (n := 4826) 26 dX6_takesFears_78 fX6_takesFears_102 iX6_takesFears_6 rfl (hS _ (by decide)) rfl rfl ?_
          refine J_l2i C dX6_takesFears_81 ?_
          rw [f3, lN_i]
          refine J_dup2 C dX6_takesFears_82 ?_
          refine G_iald C vb dX6_takesFears_83 rfl (hS _ (by decide)) rfl (by omega) ?_
          refine J_iconst C (1) dX6_takesFears_84 ic_1 ?_
          refine J_iload_1 C dX6_takesFears_85 ?_
          skip
          refine J_ishl C dX6_takesFears_86 ?_
          rw [nI_sh1 va (by omega)]
          refine J_ior C dX6_takesFears_87 ?_
          refine G_iast C vb dX6_takesFears_88 rfl (hS _ (by decide)) rfl (by omega) ?_
          refine J_aload_0 C dX6_takesFears_89 ?_
          refine J_dup C dX6_takesFears_90 ?_
          refine G6_geti C (n := 4828) 28 dX6_takesFears_91 fX6_takesFears_142 iX6_takesFears_6 rfl (hS _ (by decide)) rfl rfl ?_
          refine J_iconst C (1) dX6_takesFears_94 ic_1 ?_
          refine J_iadd C dX6_takesFears_95 ?_
          refine G6_puti C (n := 4828) 28 dX6_takesFears_96 fX6_takesFears_142 iX6_takesFears_6 rfl (hS _ (by decide)) rfl (tyX6_ok 28 (by decide)) rfl rfl ?_
          refine J_aload_0 C dX6_takesFears_99 ?_
          refine G_vti C dX6_takesFears_100 (c_X6_stops E hM0 _ _ _ _ n b p8 (hX0.keep (by simp only [upd]; rw [if_neg (by decide)]; exact hFF.1 _ (by decide)) (by rw [tU_ne (by decide), tU_ne (by decide)])) (by obtain ⟨q, q1, q2, q3⟩ := f5; exact ⟨q, q1, q2, q3⟩)) gX6_takesFears_X6_stops rfl dm_X6_stops rfl rfl (hS _ (by decide)) rfl rfl (Nat.le_of_ble_eq_true rfl) (rmOK_b rfl) (fun r100 g100 h100 T100 L100 hp100 => ?_)
          obtain ⟨⟨hF3, hr3⟩, rfl, rfl⟩ := hp100
          refine hQ _ _ _ _ dX6_takesFears_103 (by rcases hr3 with ⟨_, _, e, _⟩ | ⟨_, _, e, _⟩ <;> rw [e] <;> rfl) ⟨_, _, _, _, rfl, ?_⟩
          refine ⟨⟨⟨fun k' hk' => ?_, fun k' hk' => by rw [hF3.2 k' hk', hFF.2 k' hk'], fun c hc => by rw [tU_ne (by omega), tU_ne (by omega)]⟩, ?_⟩, rfl⟩
          · rw [hF3.1 k' (by omega)]
            simp only [upd]
            rw [if_neg (by omega)]
            exact hFF.1 k' (by omega)
          have hfs : fearsS n b s p = match stpE n b p8 with | .error q => .error q | .ok p3 => .ok (addP s va vb, p3) := by
            unfold fearsS
            rw [if_neg (by omega)]
            simp only [e1, f1, if_neg (Ne.symm hab)]
            all_goals (cases stpE n b p8 <;> rfl)
          rcases hr3 with ⟨p2, g1, g2, g3⟩ | ⟨e, g1, g2, g3⟩
          · rw [g1] at hfs
            refine Or.inl ⟨_, p2, hfs, g2, g3, ?_, ?_, fun t ht => ?_, fun i hi => ?_⟩
            · rw [hF3.1 4827 (by omega)]
              simp only [upd]
              rw [if_neg (by decide), hFF.1 4827 (by omega), w1]; rfl
            · rw [hF3.1 4828 (by omega)]
              simp only [upd, if_true]
              rw [hFF.1 4828 (by omega), w2, nI_1]; rfl
            · obtain ⟨z1, z2, z3, z4, z5⟩ := w3 t ht
              obtain ⟨_, _, _, _, za⟩ := w3 va hl1
              obtain ⟨_, _, _, _, zb⟩ := w3 vb hl3
              rw [tU_ne (show (59 : Nat) ≠ 60 by decide), tU_ne (show (59 : Nat) ≠ 60 by decide)]
              refine ⟨z1, z2, z3, z4, ?_⟩
              simp only [tU_eq, addP, if_true]
              by_cases e1 : t = vb
              · subst e1
                simp [upd, Ne.symm hab, zb, nI_or]
              · by_cases e2 : t = va
                · subst e2
                  simp [upd, hab, za, nI_or]
                · simp [upd, e1, e2, z5]
            · rw [tU_ne (by decide), tU_ne (by decide)]
              exact w4 i hi
          · rw [g1] at hfs
            exact Or.inr ⟨e, hfs, g2, g3⟩
        · skip
          refine J_iconst C (0) dX6_takesFears_55 ic_0 ?_
          refine hQ _ _ _ _ dX6_takesFears_56 rfl ⟨_, _, _, _, rfl, ?_⟩
          first
          | (have hfE : hc42 = hc42 := rfl
             rcases hr2 with ⟨w, p8, f1, f2, _⟩ | ⟨e, f1, f2, f3⟩
             · rw [f2] at hc42; exact absurd hc42 (by decide)
             · refine ⟨⟨⟨fun k' hk' => hFF.1 k' (by omega), hFF.2, fun c hc => rfl⟩, Or.inr ⟨e, ?_, rfl, f3⟩⟩, rfl⟩
               unfold fearsS
               rw [if_neg (by omega)]
               simp only [e1, f1])
          | (have hva : vb = va := by
               rw [f3, nI_l (by omega), cmp_e, lN_eq (by omega) (by omega)] at hc52
               exact hc52
             refine ⟨⟨⟨fun k' hk' => hFF.1 k' (by omega), hFF.2, fun c hc => rfl⟩, Or.inr ⟨p9, ?_, rfl, ?_⟩⟩, rfl⟩
             · unfold fearsS
               rw [if_neg (by omega)]
               simp only [e1, f1, if_pos hva]
             · exact hbeg)
    · skip
      refine J_iconst C (0) dX6_takesFears_23 ic_0 ?_
      refine hQ _ _ _ _ dX6_takesFears_24 rfl ⟨_, _, _, _, rfl, ?_⟩
      first
      | (have hs7 : 8 ≤ s.2.2.1 := by
           rw [w2] at hc6
           have := nI_inj (a := s.2.2.1) (b := 8) (by omega) (by decide) hc6
           omega
         refine ⟨⟨⟨fun _ _ => rfl, fun _ _ => rfl, fun _ _ => rfl⟩, Or.inr ⟨p, ?_, rfl, h24⟩⟩, rfl⟩
         unfold fearsS
         rw [if_pos hs7])
      | (rcases hr with ⟨w, p9, e1, e2, _⟩ | ⟨e, e1, e2, e3⟩
         · rw [e2] at hc20; exact absurd hc20 (by decide)
         · refine ⟨⟨⟨fun k' hk' => hF.1 k' (by omega), hF.2, fun c hc => rfl⟩, Or.inr ⟨e, ?_, rfl, e3⟩⟩, rfl⟩
           unfold fearsS
           rw [if_neg (by omega)]
           simp only [e1])
abbrev rmX6_takesTold : Room := { frames := 3, cells := 0, slots := 0, locals := 63 }
theorem fX6_takesTold_102 : Cond.fieldLink RX6 102 RX6 (TX6 26).2.1 (TX6 26).2.2.1 ∈ wsX6_takesTold := by decide +kernel
theorem fX6_takesTold_59 : Cond.fieldLink RX6 59 RX6 (TX6 31).2.1 (TX6 31).2.2.1 ∈ wsX6_takesTold := by decide +kernel
theorem iX6_takesTold_6 : ∀ x ∈ wsX60, x ∈ wsX6_takesTold := by decide +kernel
set_option maxRecDepth 100000 in
set_option maxHeartbeats 4000000 in
theorem c_X6_takesTold (E : EN) (hM : EM E) (g : Nat → Int32) (h : Nat → Int64) (T : Nat → Nat → Int32) (L : Nat → Nat → Int64) (n : Nat) (b : Nat → Nat) (s : RS) (p : Nat) (hX : MtX g T n b) (hW : MwX g T s) (hO : RsOK s) (hA : AtX g n b (tNx n b p)) (h24 : g 4824 = nI p) (i : Nat) (hi4 : i < 4) : GtI E yX6_takesTold wsX6_takesTold rmX6_takesTold [.ref (eA E 48), .int (nI i)] g h T L (fun r g2 h2 T2 L2 => ItM g g2 h h2 T T2 n b r (onceS n b s i p) ∧ L2 = L) := by
  refine CtZ_of (cc := cX6_takesTold) (nL := 2) RX6 [some (.ref (eA E 48)), some (.int (nI i))] ⟨rfl, rfl⟩ (by decide) rfl rfl (Nat.le_of_ble_eq_true rfl) ⟨0, rfl⟩ hM.2 (fun Y C hQ => ?_)
  have hM0 := hM
  obtain ⟨hS, hNN⟩ := hM
  have hX0 := hX
  have hW0 := hW
  obtain ⟨w1, w2, w3, w4⟩ := hW
  have hm7 := hO.1
  have h8 := hO.2.1
  have hob : ∀ x, s.2.2.2 i = some x → x < 256 := by
    obtain ⟨_, _, _, _, _, a6, a7, a8, a9⟩ := hO
    intro x hx
    rcases (show i = 0 ∨ i = 1 ∨ i = 2 ∨ i = 3 by omega) with e | e | e | e <;> subst e
    · have := a6 x hx; omega
    · have := a7 x hx; omega
    · have := a8 x hx; omega
    · have := a9 x hx; omega
  refine J_aload_0 C dX6_takesTold_0 ?_
  refine G6_getr C (n := 61) 31 dX6_takesTold_1 fX6_takesTold_59 iX6_takesTold_6 rfl (hS _ (by decide)) rfl rfl ?_
  refine J_iload_1 C dX6_takesTold_4 ?_
  refine G_iald C i dX6_takesTold_5 rfl (hS _ (by decide)) rfl (by omega) ?_
  rw [w4 i hi4]
  refine J_if_ge C 46 dX6_takesTold_6 (by decide) (fun hc6 => ?_) (fun hc6 => ?_)
  · skip
    refine J_iconst C (0) dX6_takesTold_46 ic_0 ?_
    refine hQ _ _ _ _ dX6_takesTold_47 rfl ⟨_, _, _, _, rfl, ?_⟩
    first
    | (rcases hr with ⟨w, p9, e1, e2, _⟩ | ⟨e, e1, e2, e3⟩
       · rw [e2] at hc43; exact absurd hc43 (by decide)
       · refine ⟨⟨⟨fun k' hk' => hF.1 k' (by omega), hF.2, fun c hc => rfl⟩, Or.inr ⟨e, ?_, rfl, e3⟩⟩, rfl⟩
         unfold onceS
         rw [if_pos hnone]
         simp only [e1])
    | (refine ⟨⟨⟨fun _ _ => rfl, fun _ _ => rfl, fun _ _ => rfl⟩, Or.inr ⟨p, ?_, rfl, h24⟩⟩, rfl⟩
       unfold onceS
       rw [if_neg (fun z => absurd ((oI_neg hob).mpr z) (Int32.not_lt.mpr hc6))])
  · skip
    have hnone : s.2.2.2 i = none := (oI_neg hob).mp (Int32.not_le.mp hc6)
    refine J_aload_0 C dX6_takesTold_9 ?_
    have hcut : ∀ (_z : Nat), True → J E Y (eN E) 0 0 (wS E g h T L) 40 [some (.ref (eA E 48)), some (.int (nI i))] [.int (nI (hxO i) - 1), .int (nI (loO i)), .ref (eA E 48)] := by
      intro _ _
      refine G_vti C dX6_takesTold_40 (c_X6_takes E hM0 _ _ _ _ n b _ hX0 hA (loO i) (hxO i) (by have := lo_hx i hi4; omega) (by have := lo_hx i hi4; omega) _ rfl) gX6_takesTold_X6_takes rfl dm_X6_takes rfl rfl (hS _ (by decide)) rfl rfl (Nat.le_of_ble_eq_true rfl) (rmOK_b rfl) (fun r40 g40 h40 T40 L40 hp40 => ?_)
      obtain ⟨⟨hF, _, hr⟩, rfl, rfl⟩ := hp40
      refine J_if_ne C 48 dX6_takesTold_43 (by decide) (fun hc43 => ?_) (fun hc43 => ?_)
      · skip
        obtain ⟨w, p9, e1, e2, e3, e4, e5⟩ := hr.resolve_right (fun ⟨e, _, z, _⟩ => hc43 z)
        refine J_aload_0 C dX6_takesTold_48 ?_
        refine G6_getr C (n := 61) 31 dX6_takesTold_49 fX6_takesTold_59 iX6_takesTold_6 rfl (hS _ (by decide)) rfl rfl ?_
        refine J_iload_1 C dX6_takesTold_52 ?_
        refine J_aload_0 C dX6_takesTold_53 ?_
        refine G6_getl C (n := 4826) 26 dX6_takesTold_54 fX6_takesTold_102 iX6_takesTold_6 rfl (hS _ (by decide)) rfl rfl ?_
        refine J_l2i C dX6_takesTold_57 ?_
        rw [e3, lN_i]
        refine G_iast C i dX6_takesTold_58 rfl (hS _ (by decide)) rfl (by omega) ?_
        refine J_aload_0 C dX6_takesTold_59 ?_
        refine G_vti C dX6_takesTold_60 (c_X6_stops E hM0 _ _ _ _ n b p9 (hX0.keep (hF.1 _ (by decide)) (by rw [tU_ne (by decide)])) e5) gX6_takesTold_X6_stops rfl dm_X6_stops rfl rfl (hS _ (by decide)) rfl rfl (Nat.le_of_ble_eq_true rfl) (rmOK_b rfl) (fun r60 g60 h60 T60 L60 hp60 => ?_)
        obtain ⟨⟨hF3, hr3⟩, rfl, rfl⟩ := hp60
        refine hQ _ _ _ _ dX6_takesTold_63 (by rcases hr3 with ⟨_, _, e, _⟩ | ⟨_, _, e, _⟩ <;> rw [e] <;> rfl) ⟨_, _, _, _, rfl, ?_⟩
        refine ⟨⟨⟨fun k' hk' => by rw [hF3.1 k' (by omega), hF.1 k' (by omega)], fun k' hk' => by rw [hF3.2 k' hk', hF.2 k' hk'], fun c hc => by rw [tU_ne (by omega)]⟩, ?_⟩, rfl⟩
        have hfs : onceS n b s i p = match stpE n b p9 with | .error q => .error q | .ok p3 => .ok (setO s i w, p3) := by
          unfold onceS
          rw [if_pos hnone]
          simp only [e1]
          all_goals (cases stpE n b p9 <;> rfl)
        rcases hr3 with ⟨p2, g1, g2, g3⟩ | ⟨e, g1, g2, g3⟩
        · rw [g1] at hfs
          refine Or.inl ⟨_, p2, hfs, g2, g3, ?_, ?_, fun t ht => ?_, fun j hj => ?_⟩
          · rw [hF3.1 4827 (by omega), hF.1 4827 (by omega), w1]; rfl
          · rw [hF3.1 4828 (by omega), hF.1 4828 (by omega), w2]; rfl
          · rw [tU_ne (by decide), tU_ne (by decide)]
            exact w3 t ht
          · rw [tU_eq]
            by_cases e : j = i
            · subst e
              simp [setO, upd]
              rfl
            · simp only [setO, upd, if_neg e]
              exact w4 j hj
        · rw [g1] at hfs
          exact Or.inr ⟨e, hfs, g2, g3⟩
      · skip
        refine J_iconst C (0) dX6_takesTold_46 ic_0 ?_
        refine hQ _ _ _ _ dX6_takesTold_47 rfl ⟨_, _, _, _, rfl, ?_⟩
        first
        | (rcases hr with ⟨w, p9, e1, e2, _⟩ | ⟨e, e1, e2, e3⟩
           · rw [e2] at hc43; exact absurd hc43 (by decide)
           · refine ⟨⟨⟨fun k' hk' => hF.1 k' (by omega), hF.2, fun c hc => rfl⟩, Or.inr ⟨e, ?_, rfl, e3⟩⟩, rfl⟩
             unfold onceS
             rw [if_pos hnone]
             simp only [e1])
        | (refine ⟨⟨⟨fun _ _ => rfl, fun _ _ => rfl, fun _ _ => rfl⟩, Or.inr ⟨p, ?_, rfl, h24⟩⟩, rfl⟩
           unfold onceS
           rw [if_neg (fun z => absurd ((oI_neg hob).mpr z) (Int32.not_lt.mpr hc6))])
    refine J_iload_1 C dX6_takesTold_10 ?_
    refine J_iconst C (1) dX6_takesTold_11 ic_1 ?_
    refine J_icmp_ne C 19 dX6_takesTold_12 (by decide) (fun hc12 => ?_) (fun hc12 => ?_)
    · skip
      refine J_iconst C (0) dX6_takesTold_19 ic_0 ?_
      refine J_iload_1 C dX6_takesTold_20 ?_
      refine J_if_ne C 28 dX6_takesTold_21 (by decide) (fun hc21 => ?_) (fun hc21 => ?_)
      · skip
        refine J_iload_1 C dX6_takesTold_28 ?_
        refine J_iconst C (3) dX6_takesTold_29 ic_3 ?_
        refine J_icmp_ne C 38 dX6_takesTold_30 (by decide) (fun hc30 => ?_) (fun hc30 => ?_)
        · skip
          refine J_bipush C (20) dX6_takesTold_38 bc_20 ?_
          clear hob
          rcases (show i = 0 ∨ i = 1 ∨ i = 2 ∨ i = 3 by omega) with e | e | e | e <;> subst e
          all_goals first
          | exact J_stk rfl (hcut 0 trivial)
          | exact absurd rfl hc12
          | exact absurd hc12 (by decide)
          | exact absurd rfl hc21
          | exact absurd hc21 (by decide)
          | exact absurd rfl hc30
          | exact absurd hc30 (by decide)
        · skip
          refine J_bipush C (9) dX6_takesTold_33 bc_9 ?_
          refine J_goto C 40 dX6_takesTold_35 (by decide) ?_
          clear hob
          rcases (show i = 0 ∨ i = 1 ∨ i = 2 ∨ i = 3 by omega) with e | e | e | e <;> subst e
          all_goals first
          | exact J_stk rfl (hcut 0 trivial)
          | exact absurd rfl hc12
          | exact absurd hc12 (by decide)
          | exact absurd rfl hc21
          | exact absurd hc21 (by decide)
          | exact absurd rfl hc30
          | exact absurd hc30 (by decide)
      · skip
        refine J_iconst C (1) dX6_takesTold_24 ic_1 ?_
        refine J_goto C 40 dX6_takesTold_25 (by decide) ?_
        clear hob
        rcases (show i = 0 ∨ i = 1 ∨ i = 2 ∨ i = 3 by omega) with e | e | e | e <;> subst e
        all_goals first
        | exact J_stk rfl (hcut 0 trivial)
        | exact absurd rfl hc12
        | exact absurd hc12 (by decide)
        | exact absurd rfl hc21
        | exact absurd hc21 (by decide)
        | exact absurd rfl hc30
        | exact absurd hc30 (by decide)
    · skip
      refine J_iconst C (1) dX6_takesTold_15 ic_1 ?_
      refine J_goto C 20 dX6_takesTold_16 (by decide) ?_
      refine J_iload_1 C dX6_takesTold_20 ?_
      refine J_if_ne C 28 dX6_takesTold_21 (by decide) (fun hc21 => ?_) (fun hc21 => ?_)
      · skip
        refine J_iload_1 C dX6_takesTold_28 ?_
        refine J_iconst C (3) dX6_takesTold_29 ic_3 ?_
        refine J_icmp_ne C 38 dX6_takesTold_30 (by decide) (fun hc30 => ?_) (fun hc30 => ?_)
        · skip
          refine J_bipush C (20) dX6_takesTold_38 bc_20 ?_
          clear hob
          rcases (show i = 0 ∨ i = 1 ∨ i = 2 ∨ i = 3 by omega) with e | e | e | e <;> subst e
          all_goals first
          | exact J_stk rfl (hcut 0 trivial)
          | exact absurd rfl hc12
          | exact absurd hc12 (by decide)
          | exact absurd rfl hc21
          | exact absurd hc21 (by decide)
          | exact absurd rfl hc30
          | exact absurd hc30 (by decide)
        · skip
          refine J_bipush C (9) dX6_takesTold_33 bc_9 ?_
          refine J_goto C 40 dX6_takesTold_35 (by decide) ?_
          clear hob
          rcases (show i = 0 ∨ i = 1 ∨ i = 2 ∨ i = 3 by omega) with e | e | e | e <;> subst e
          all_goals first
          | exact J_stk rfl (hcut 0 trivial)
          | exact absurd rfl hc12
          | exact absurd hc12 (by decide)
          | exact absurd rfl hc21
          | exact absurd hc21 (by decide)
          | exact absurd rfl hc30
          | exact absurd hc30 (by decide)
      · skip
        refine J_iconst C (1) dX6_takesTold_24 ic_1 ?_
        refine J_goto C 40 dX6_takesTold_25 (by decide) ?_
        clear hob
        rcases (show i = 0 ∨ i = 1 ∨ i = 2 ∨ i = 3 by omega) with e | e | e | e <;> subst e
        all_goals first
        | exact J_stk rfl (hcut 0 trivial)
        | exact absurd rfl hc12
        | exact absurd hc12 (by decide)
        | exact absurd rfl hc21
        | exact absurd hc21 (by decide)
        | exact absurd rfl hc30
        | exact absurd hc30 (by decide)
